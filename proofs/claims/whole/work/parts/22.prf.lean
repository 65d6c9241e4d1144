set_option maxHeartbeats 4000000 in
set_option maxRecDepth 100000 in
theorem s_X8_isWithin {E : EV} (a1 : Int32) (a2 : Int32) (a3 : Int32) (h : HS) : Sim E mi_X8_isWithin oI 0 0 0 (largs 0 [lvI a1, lvI a2, lvI a3]) [] h (m_X8_isWithin a1 a2 a3 h) := by
  unfold m_X8_isWithin
  refine si_iload_n 0 dX8_isWithin_0 rfl rfl ?_
  refine si_iload_n 1 dX8_isWithin_1 rfl rfl ?_
  refine si_icmp_lt 14 dX8_isWithin_2 (by decide) ?_ ?_
  · refine si_iconst (v := 0) dX8_isWithin_14 (by decide) ?_
    exact si_zret dX8_isWithin_15 rfl rfl (Nat.le_of_ble_eq_true rfl) (Nat.le_of_ble_eq_true rfl)
  · refine si_iload_n 0 dX8_isWithin_5 rfl rfl ?_
    refine si_iload_n 2 dX8_isWithin_6 rfl rfl ?_
    refine si_icmp_gt 14 dX8_isWithin_7 (by decide) ?_ ?_
    · refine si_iconst (v := 0) dX8_isWithin_14 (by decide) ?_
      exact si_zret dX8_isWithin_15 rfl rfl (Nat.le_of_ble_eq_true rfl) (Nat.le_of_ble_eq_true rfl)
    · refine si_iconst (v := 1) dX8_isWithin_10 (by decide) ?_
      refine si_goto 15 dX8_isWithin_11 (by decide) ?_
      exact si_zret dX8_isWithin_15 rfl rfl (Nat.le_of_ble_eq_true rfl) (Nat.le_of_ble_eq_true rfl)
theorem ct_X8_isWithin (l : Launch) (G : GG) {a1 : Int32} {a2 : Int32} {a3 : Int32} {h : HS} {q : Int32 × HS} (hq : m_X8_isWithin a1 a2 a3 h = some q) : Ct l yX8_isWithin mi_X8_isWithin G [lvI a1, lvI a2, lvI a3] h (oI q) := Ct.of (out := oI) (by decide +kernel) rfl rfl (Nat.le_of_ble_eq_true rfl) hq (fun _ _ _ _ _ _ _ _ => s_X8_isWithin a1 a2 a3 h)
set_option maxHeartbeats 4000000 in
set_option maxRecDepth 100000 in
theorem s_X0_runsIn {E : EV} (th : Nat) (a1 : Int32) (h : HS) : Sim E mi_X0_runsIn oI 0 0 0 (largs 0 [lvR (some th), lvI a1]) [] h (m_X0_runsIn th a1 h) := by
  unfold m_X0_runsIn
  refine si_iload_n 1 dX0_runsIn_0 rfl rfl ?_
  refine si_aload_n 0 dX0_runsIn_1 rfl rfl ?_
  refine si_gI 1 2 fl_X0_46 dX0_runsIn_2 (by decide) rfl (fun x1 => ?_)
  refine si_icmp_lt 28 dX0_runsIn_5 (by decide) ?_ ?_
  · refine si_iconst (v := 0) dX0_runsIn_28 (by decide) ?_
    exact si_zret dX0_runsIn_29 rfl rfl (Nat.le_of_ble_eq_true rfl) (Nat.le_of_ble_eq_true rfl)
  · refine si_aload_n 0 dX0_runsIn_8 rfl rfl ?_
    refine si_gI 1 3 fl_X0_9 dX0_runsIn_9 (by decide) rfl (fun x2 => ?_)
    refine si_iconst (v := -1) dX0_runsIn_12 (by decide) ?_
    refine si_icmp_eq 24 dX0_runsIn_13 (by decide) ?_ ?_
    · refine si_iconst (v := 1) dX0_runsIn_24 (by decide) ?_
      refine si_goto 29 dX0_runsIn_25 (by decide) ?_
      exact si_zret dX0_runsIn_29 rfl rfl (Nat.le_of_ble_eq_true rfl) (Nat.le_of_ble_eq_true rfl)
    · refine si_iload_n 1 dX0_runsIn_16 rfl rfl ?_
      refine si_aload_n 0 dX0_runsIn_17 rfl rfl ?_
      refine si_gI 1 3 fl_X0_9 dX0_runsIn_18 (by decide) rfl (fun x3 => ?_)
      refine si_icmp_gt 28 dX0_runsIn_21 (by decide) ?_ ?_
      · refine si_iconst (v := 0) dX0_runsIn_28 (by decide) ?_
        exact si_zret dX0_runsIn_29 rfl rfl (Nat.le_of_ble_eq_true rfl) (Nat.le_of_ble_eq_true rfl)
      · refine si_iconst (v := 1) dX0_runsIn_24 (by decide) ?_
        refine si_goto 29 dX0_runsIn_25 (by decide) ?_
        exact si_zret dX0_runsIn_29 rfl rfl (Nat.le_of_ble_eq_true rfl) (Nat.le_of_ble_eq_true rfl)
theorem ct_X0_runsIn (l : Launch) (G : GG) {th : Nat} {a1 : Int32} {h : HS} {q : Int32 × HS} (hq : m_X0_runsIn th a1 h = some q) : Ct l yX0_runsIn mi_X0_runsIn G [lvR (some th), lvI a1] h (oI q) := Ct.of (out := oI) (by decide +kernel) rfl rfl (Nat.le_of_ble_eq_true rfl) hq (fun _ _ _ _ _ _ _ _ => s_X0_runsIn th a1 h)
set_option maxHeartbeats 4000000 in
set_option maxRecDepth 100000 in
theorem X0_weeksRunIn_b24_s {E : EV} (th : Nat) (go4 : Int32 → Int32 → Int32 → HS → Option (Int32 × HS)) (hg4 : ∀ (l1 : Int32) (l2 : Int32) (l3 : Int32) (h : HS), Sim E mi_X0_weeksRunIn oI 0 0 4 [(0, lvR (some th)), (1, lvI (l1)), (2, lvI (l2)), (3, lvI (l3))] [] h (go4 l1 l2 l3 h)) (l1 : Int32) (l2 : Int32) (l3 : Int32) (h : HS) : Sim E mi_X0_weeksRunIn oI 0 0 24 [(0, lvR (some th)), (1, lvI (l1)), (2, lvI (l2)), (3, lvI (l3))] [] h (X0_weeksRunIn_b24 th go4 l1 l2 l3 h) := by
  unfold X0_weeksRunIn_b24
  refine si_iinc 3 (1) dX0_weeksRunIn_24 rfl (by decide) (by decide) ?_
  refine si_goto 4 dX0_weeksRunIn_27 (by decide) ?_
  refine si_widen 0 0 (Nat.le_of_ble_eq_true rfl) (Nat.le_of_ble_eq_true rfl) ?_
  refine si_lo [(0, lvR (some th)), (1, lvI (l1)), (2, lvI (l2)), (3, lvI (l3 + (1)))] ⟨rfl, rfl, rfl, rfl, trivial⟩ ?_
  exact hg4 l1 l2 (l3 + (1)) _
set_option maxHeartbeats 4000000 in
set_option maxRecDepth 100000 in
theorem X0_weeksRunIn_L4_s {E : EV} (th : Nat) (n : Nat) : ∀ (l1 : Int32) (l2 : Int32) (l3 : Int32) (h : HS), Sim E mi_X0_weeksRunIn oI 0 0 4 [(0, lvR (some th)), (1, lvI (l1)), (2, lvI (l2)), (3, lvI (l3))] [] h (X0_weeksRunIn_L4 th n l1 l2 l3 h) := by
  induction n with
  | zero => intro l1 l2 l3 h; exact si_none
  | succ n ih =>
    intro l1 l2 l3 h
    unfold X0_weeksRunIn_L4
    refine si_iload_n 3 dX0_weeksRunIn_4 rfl rfl ?_
    refine si_iconst (v := 4) dX0_weeksRunIn_5 (by decide) ?_
    refine si_icmp_gt 30 dX0_weeksRunIn_6 (by decide) ?_ ?_
    · refine si_iload_n 2 dX0_weeksRunIn_30 rfl rfl ?_
      exact si_iret dX0_weeksRunIn_31 rfl (Nat.le_of_ble_eq_true rfl) (Nat.le_of_ble_eq_true rfl)
    · refine si_aload_n 0 dX0_weeksRunIn_9 rfl rfl ?_
      refine si_iload_n 1 dX0_weeksRunIn_10 rfl rfl ?_
      refine si_iconst (v := 4) dX0_weeksRunIn_11 (by decide) ?_
      refine si_imul dX0_weeksRunIn_12 ?_
      refine si_iload_n 3 dX0_weeksRunIn_13 rfl rfl ?_
      refine si_iadd dX0_weeksRunIn_14 ?_
      refine si_cvI 1 [lvI ((l1 * (4 : Int32)) + l3)] dX0_weeksRunIn_15 rfl mc_X0_runsIn ml_X0_49 im_X0_runsIn rfl se_X0_runsIn (by decide) rfl ⟨Nat.le_of_ble_eq_true rfl, Nat.le_of_ble_eq_true rfl, Nat.le_of_ble_eq_true rfl, Nat.le_of_ble_eq_true rfl⟩ (Nat.le_of_ble_eq_true rfl) (fun _ _ hq => ct_X0_runsIn _ _ hq) (fun q1 => ?_)
      refine si_if_eq 24 dX0_weeksRunIn_18 (by decide) ?_ ?_
      · refine si_widen 0 0 (Nat.le_of_ble_eq_true rfl) (Nat.le_of_ble_eq_true rfl) ?_
        refine si_lo [(0, lvR (some th)), (1, lvI (l1)), (2, lvI (l2)), (3, lvI (l3))] ⟨rfl, rfl, rfl, rfl, trivial⟩ ?_
        exact X0_weeksRunIn_b24_s th (X0_weeksRunIn_L4 th n) ih l1 l2 l3 _
      · refine si_iinc 2 (1) dX0_weeksRunIn_21 rfl (by decide) (by decide) ?_
        refine si_widen 0 0 (Nat.le_of_ble_eq_true rfl) (Nat.le_of_ble_eq_true rfl) ?_
        refine si_lo [(0, lvR (some th)), (1, lvI (l1)), (2, lvI (l2 + (1))), (3, lvI (l3))] ⟨rfl, rfl, rfl, rfl, trivial⟩ ?_
        exact X0_weeksRunIn_b24_s th (X0_weeksRunIn_L4 th n) ih l1 (l2 + (1)) l3 _
set_option maxHeartbeats 4000000 in
set_option maxRecDepth 100000 in
theorem s_X0_weeksRunIn {E : EV} (th : Nat) (a1 : Int32) (h : HS) : Sim E mi_X0_weeksRunIn oI 0 0 0 (largs 0 [lvR (some th), lvI a1]) [] h (m_X0_weeksRunIn th a1 h) := by
  unfold m_X0_weeksRunIn
  refine si_iconst (v := 0) dX0_weeksRunIn_0 (by decide) ?_
  refine si_istore_n 2 dX0_weeksRunIn_1 rfl (by decide) ?_
  refine si_iconst (v := 1) dX0_weeksRunIn_2 (by decide) ?_
  refine si_istore_n 3 dX0_weeksRunIn_3 rfl (by decide) ?_
  refine si_widen 0 0 (Nat.le_of_ble_eq_true rfl) (Nat.le_of_ble_eq_true rfl) ?_
  refine si_lo [(0, lvR (some th)), (1, lvI (a1)), (2, lvI ((0 : Int32))), (3, lvI ((1 : Int32)))] ⟨rfl, rfl, rfl, rfl, trivial⟩ ?_
  exact X0_weeksRunIn_L4_s th FU a1 ((0 : Int32)) ((1 : Int32)) _
theorem ct_X0_weeksRunIn (l : Launch) (G : GG) {th : Nat} {a1 : Int32} {h : HS} {q : Int32 × HS} (hq : m_X0_weeksRunIn th a1 h = some q) : Ct l yX0_weeksRunIn mi_X0_weeksRunIn G [lvR (some th), lvI a1] h (oI q) := Ct.of (out := oI) (by decide +kernel) rfl rfl (Nat.le_of_ble_eq_true rfl) hq (fun _ _ _ _ _ _ _ _ => s_X0_weeksRunIn th a1 h)
set_option maxHeartbeats 4000000 in
set_option maxRecDepth 100000 in
theorem X0_receive_b62_s {E : EV} (th : Nat) (s2 : Int32) (s1 : Int32) (s0 : Option Nat) (h : HS) : Sim E mi_X0_receive oV 0 0 62 [(0, lvR (some th))] [.int (s2), .int (s1), va_rf (s0)] h (X0_receive_b62 th s2 s1 s0 h) := by
  unfold X0_receive_b62
  refine si_zs dX0_receive_62 (fun h1 => ?_)
  refine si_aload_n 0 dX0_receive_63 rfl rfl ?_
  refine si_dup dX0_receive_64 (cat_rf _) ?_
  refine si_gI 1 6 fl_X0_21 dX0_receive_65 (by decide) rfl (fun x2 => ?_)
  refine si_iconst (v := 1) dX0_receive_68 (by decide) ?_
  refine si_iadd dX0_receive_69 ?_
  refine si_pI 1 6 fl_X0_21 dX0_receive_70 (by decide) rfl rfl rfl (fw_X0_21 _) (fun h3 => ?_)
  exact si_vret dX0_receive_73 rfl (Nat.le_of_ble_eq_true rfl) (Nat.le_of_ble_eq_true rfl)
set_option maxHeartbeats 4000000 in
set_option maxRecDepth 100000 in
theorem X0_receive_b41_s {E : EV} (th : Nat) (l1 : Int32) (h : HS) : Sim E mi_X0_receive oV 0 0 41 [(0, lvR (some th)), (1, lvI (l1))] [] h (X0_receive_b41 th l1 h) := by
  unfold X0_receive_b41
  refine si_aload_n 0 dX0_receive_41 rfl rfl ?_
  refine si_gR 1 9 fl_X0_30 dX0_receive_42 (by decide) rfl (fun x1 => ?_)
  refine si_aload_n 0 dX0_receive_45 rfl rfl ?_
  refine si_gI 1 6 fl_X0_21 dX0_receive_46 (by decide) rfl (fun x2 => ?_)
  refine si_aload_n 0 dX0_receive_49 rfl rfl ?_
  refine si_gI 1 4 fl_X0_15 dX0_receive_50 (by decide) rfl (fun x3 => ?_)
  refine si_iload_n 1 dX0_receive_53 rfl rfl ?_
  refine si_icmp_eq 61 dX0_receive_54 (by decide) ?_ ?_
  · refine si_iconst (v := 0) dX0_receive_61 (by decide) ?_
    refine si_widen 0 0 (Nat.le_of_ble_eq_true rfl) (Nat.le_of_ble_eq_true rfl) ?_
    refine si_lo [(0, lvR (some th))] ⟨rfl, trivial⟩ ?_
    exact X0_receive_b62_s th ((0 : Int32)) x2 x1 _
  · refine si_iconst (v := 1) dX0_receive_57 (by decide) ?_
    refine si_goto 62 dX0_receive_58 (by decide) ?_
    refine si_widen 0 0 (Nat.le_of_ble_eq_true rfl) (Nat.le_of_ble_eq_true rfl) ?_
    refine si_lo [(0, lvR (some th))] ⟨rfl, trivial⟩ ?_
    exact X0_receive_b62_s th ((1 : Int32)) x2 x1 _
set_option maxHeartbeats 4000000 in
set_option maxRecDepth 100000 in
theorem s_X0_receive {E : EV} (th : Nat) (a1 : Int32) (h : HS) : Sim E mi_X0_receive oV 0 0 0 (largs 0 [lvR (some th), lvI a1]) [] h (m_X0_receive th a1 h) := by
  unfold m_X0_receive
  refine si_aload_n 0 dX0_receive_0 rfl rfl ?_
  refine si_gR 1 1 fl_X0_42 dX0_receive_1 (by decide) rfl (fun x1 => ?_)
  refine si_gI 2 7 fl_X0_53 dX0_receive_4 (by decide) rfl (fun x2 => ?_)
  refine si_if_eq 22 dX0_receive_7 (by decide) ?_ ?_
  · exact si_vret dX0_receive_22 rfl (Nat.le_of_ble_eq_true rfl) (Nat.le_of_ble_eq_true rfl)
  · refine si_aload_n 0 dX0_receive_10 rfl rfl ?_
    refine si_gI 1 6 fl_X0_21 dX0_receive_11 (by decide) rfl (fun x3 => ?_)
    refine si_aload_n 0 dX0_receive_14 rfl rfl ?_
    refine si_gR 1 9 fl_X0_30 dX0_receive_15 (by decide) rfl (fun x4 => ?_)
    refine si_aN dX0_receive_18 (fun x5 => ?_)
    refine si_icmp_lt 23 dX0_receive_19 (by decide) ?_ ?_
    · refine si_aload_n 0 dX0_receive_23 rfl rfl ?_
      refine si_gI 1 6 fl_X0_21 dX0_receive_24 (by decide) rfl (fun x6 => ?_)
      refine si_if_ne 41 dX0_receive_27 (by decide) ?_ ?_
      · refine si_aload_n 0 dX0_receive_30 rfl rfl ?_
        refine si_aload_n 0 dX0_receive_31 rfl rfl ?_
        refine si_gR 1 1 fl_X0_42 dX0_receive_32 (by decide) rfl (fun x7 => ?_)
        refine si_gI 2 6 fl_X0_59 dX0_receive_35 (by decide) rfl (fun x8 => ?_)
        refine si_pI 1 5 fl_X0_18 dX0_receive_38 (by decide) rfl rfl rfl (fw_X0_18 _) (fun h9 => ?_)
        refine si_widen 0 0 (Nat.le_of_ble_eq_true rfl) (Nat.le_of_ble_eq_true rfl) ?_
        refine si_lo [(0, lvR (some th)), (1, lvI (a1))] ⟨rfl, rfl, trivial⟩ ?_
        exact X0_receive_b41_s th a1 _
      · refine si_widen 0 0 (Nat.le_of_ble_eq_true rfl) (Nat.le_of_ble_eq_true rfl) ?_
        refine si_lo [(0, lvR (some th)), (1, lvI (a1))] ⟨rfl, rfl, trivial⟩ ?_
        exact X0_receive_b41_s th a1 _
    · exact si_vret dX0_receive_22 rfl (Nat.le_of_ble_eq_true rfl) (Nat.le_of_ble_eq_true rfl)
theorem ct_X0_receive (l : Launch) (G : GG) {th : Nat} {a1 : Int32} {h : HS} {q : HS} (hq : m_X0_receive th a1 h = some q) : Ct l yX0_receive mi_X0_receive G [lvR (some th), lvI a1] h (oV q) := Ct.of (out := oV) (by decide +kernel) rfl rfl (Nat.le_of_ble_eq_true rfl) hq (fun _ _ _ _ _ _ _ _ => s_X0_receive th a1 h)
set_option maxHeartbeats 4000000 in
set_option maxRecDepth 100000 in
theorem s_X0_isThere {E : EV} (th : Nat) (a1 : Int32) (h : HS) : Sim E mi_X0_isThere oI 0 0 0 (largs 0 [lvR (some th), lvI a1]) [] h (m_X0_isThere th a1 h) := by
  unfold m_X0_isThere
  refine si_iload_n 1 dX0_isThere_0 rfl rfl ?_
  refine si_if_lt 34 dX0_isThere_1 (by decide) ?_ ?_
  · refine si_iconst (v := 0) dX0_isThere_34 (by decide) ?_
    exact si_zret dX0_isThere_35 rfl rfl (Nat.le_of_ble_eq_true rfl) (Nat.le_of_ble_eq_true rfl)
  · refine si_iload_n 1 dX0_isThere_4 rfl rfl ?_
    refine si_aload_n 0 dX0_isThere_5 rfl rfl ?_
    refine si_gI 1 6 fl_X0_21 dX0_isThere_6 (by decide) rfl (fun x1 => ?_)
    refine si_icmp_ge 34 dX0_isThere_9 (by decide) ?_ ?_
    · refine si_iconst (v := 0) dX0_isThere_34 (by decide) ?_
      exact si_zret dX0_isThere_35 rfl rfl (Nat.le_of_ble_eq_true rfl) (Nat.le_of_ble_eq_true rfl)
    · refine si_iload_n 1 dX0_isThere_12 rfl rfl ?_
      refine si_aload_n 0 dX0_isThere_13 rfl rfl ?_
      refine si_gR 1 9 fl_X0_30 dX0_isThere_14 (by decide) rfl (fun x2 => ?_)
      refine si_aN dX0_isThere_17 (fun x3 => ?_)
      refine si_icmp_ge 34 dX0_isThere_18 (by decide) ?_ ?_
      · refine si_iconst (v := 0) dX0_isThere_34 (by decide) ?_
        exact si_zret dX0_isThere_35 rfl rfl (Nat.le_of_ble_eq_true rfl) (Nat.le_of_ble_eq_true rfl)
      · refine si_aload_n 0 dX0_isThere_21 rfl rfl ?_
        refine si_gR 1 9 fl_X0_30 dX0_isThere_22 (by decide) rfl (fun x4 => ?_)
        refine si_iload_n 1 dX0_isThere_25 rfl rfl ?_
        refine si_za dX0_isThere_26 (fun x5 => ?_)
        refine si_if_eq 34 dX0_isThere_27 (by decide) ?_ ?_
        · refine si_iconst (v := 0) dX0_isThere_34 (by decide) ?_
          exact si_zret dX0_isThere_35 rfl rfl (Nat.le_of_ble_eq_true rfl) (Nat.le_of_ble_eq_true rfl)
        · refine si_iconst (v := 1) dX0_isThere_30 (by decide) ?_
          refine si_goto 35 dX0_isThere_31 (by decide) ?_
          exact si_zret dX0_isThere_35 rfl rfl (Nat.le_of_ble_eq_true rfl) (Nat.le_of_ble_eq_true rfl)
theorem ct_X0_isThere (l : Launch) (G : GG) {th : Nat} {a1 : Int32} {h : HS} {q : Int32 × HS} (hq : m_X0_isThere th a1 h = some q) : Ct l yX0_isThere mi_X0_isThere G [lvR (some th), lvI a1] h (oI q) := Ct.of (out := oI) (by decide +kernel) rfl rfl (Nat.le_of_ble_eq_true rfl) hq (fun _ _ _ _ _ _ _ _ => s_X0_isThere th a1 h)
set_option maxHeartbeats 4000000 in
set_option maxRecDepth 100000 in
theorem X0_print_b64_s {E : EV} (th : Nat) (l1 : Int32) (l2 : Int32) (h : HS) : Sim E mi_X0_print oV 0 0 64 [(0, lvR (some th)), (1, lvI (l1)), (2, lvI (l2))] [] h (X0_print_b64 th l1 l2 h) := by
  unfold X0_print_b64
  refine si_aload_n 0 dX0_print_64 rfl rfl ?_
  refine si_dup dX0_print_65 (cat_rf _) ?_
  refine si_gI 1 7 fl_X0_24 dX0_print_66 (by decide) rfl (fun x1 => ?_)
  refine si_iload_n 2 dX0_print_69 rfl rfl ?_
  refine si_iadd dX0_print_70 ?_
  refine si_pI 1 7 fl_X0_24 dX0_print_71 (by decide) rfl rfl rfl (fw_X0_24 _) (fun h2 => ?_)
  refine si_iload_n 1 dX0_print_74 rfl rfl ?_
  refine si_iconst (v := 0) dX0_print_75 (by decide) ?_
  refine si_aload_n 0 dX0_print_76 rfl rfl ?_
  refine si_gR 1 10 fl_X0_34 dX0_print_77 (by decide) rfl (fun x3 => ?_)
  refine si_aN dX0_print_80 (fun x4 => ?_)
  refine si_iconst (v := 1) dX0_print_81 (by decide) ?_
  refine si_isub dX0_print_82 ?_
  refine si_csI [lvI (l1), lvI ((0 : Int32)), lvI (x4 - (1 : Int32))] dX0_print_83 rfl mc_X8_isWithin ml_X0_65 st_X8_isWithin rfl ⟨Nat.le_of_ble_eq_true rfl, Nat.le_of_ble_eq_true rfl, Nat.le_of_ble_eq_true rfl, Nat.le_of_ble_eq_true rfl⟩ (Nat.le_of_ble_eq_true rfl) (fun _ hq => ct_X8_isWithin _ _ hq) (fun q5 => ?_)
  refine si_if_eq 99 dX0_print_86 (by decide) ?_ ?_
  · exact si_vret dX0_print_99 rfl (Nat.le_of_ble_eq_true rfl) (Nat.le_of_ble_eq_true rfl)
  · refine si_aload_n 0 dX0_print_89 rfl rfl ?_
    refine si_gR 1 10 fl_X0_34 dX0_print_90 (by decide) rfl (fun x6 => ?_)
    refine si_iload_n 1 dX0_print_93 rfl rfl ?_
    refine si_dup2 dX0_print_94 rfl (cat_rf _) ?_
    refine si_ia dX0_print_95 (fun x7 => ?_)
    refine si_iload_n 2 dX0_print_96 rfl rfl ?_
    refine si_iadd dX0_print_97 ?_
    refine si_is dX0_print_98 (fun h8 => ?_)
    exact si_vret dX0_print_99 rfl (Nat.le_of_ble_eq_true rfl) (Nat.le_of_ble_eq_true rfl)
set_option maxHeartbeats 4000000 in
set_option maxRecDepth 100000 in
theorem X0_print_b44_s {E : EV} (th : Nat) (l1 : Int32) (l2 : Int32) (s0 : Int32) (h : HS) : Sim E mi_X0_print oV 0 0 44 [(0, lvR (some th)), (1, lvI (l1)), (2, lvI (l2))] [.int (s0)] h (X0_print_b44 th l1 l2 s0 h) := by
  unfold X0_print_b44
  refine si_istore_n 3 dX0_print_44 rfl (by decide) ?_
  refine si_iload_n 3 dX0_print_45 rfl rfl ?_
  refine si_if_eq 64 dX0_print_46 (by decide) ?_ ?_
  · refine si_widen 0 0 (Nat.le_of_ble_eq_true rfl) (Nat.le_of_ble_eq_true rfl) ?_
    refine si_lo [(0, lvR (some th)), (1, lvI (l1)), (2, lvI (l2))] ⟨rfl, rfl, rfl, trivial⟩ ?_
    exact X0_print_b64_s th l1 l2 _
  · refine si_aload_n 0 dX0_print_49 rfl rfl ?_
    refine si_aload_n 0 dX0_print_50 rfl rfl ?_
    refine si_gI 1 7 fl_X0_24 dX0_print_51 (by decide) rfl (fun x1 => ?_)
    refine si_iconst (v := 1) dX0_print_54 (by decide) ?_
    refine si_iadd dX0_print_55 ?_
    refine si_cvI 1 [lvI (x1 + (1 : Int32))] dX0_print_56 rfl mc_X0_isThere ml_X0_62 im_X0_isThere rfl se_X0_isThere (by decide) rfl ⟨Nat.le_of_ble_eq_true rfl, Nat.le_of_ble_eq_true rfl, Nat.le_of_ble_eq_true rfl, Nat.le_of_ble_eq_true rfl⟩ (Nat.le_of_ble_eq_true rfl) (fun _ _ hq => ct_X0_isThere _ _ hq) (fun q2 => ?_)
    refine si_if_eq 64 dX0_print_59 (by decide) ?_ ?_
    · refine si_widen 0 0 (Nat.le_of_ble_eq_true rfl) (Nat.le_of_ble_eq_true rfl) ?_
      refine si_lo [(0, lvR (some th)), (1, lvI (l1)), (2, lvI (l2))] ⟨rfl, rfl, rfl, trivial⟩ ?_
      exact X0_print_b64_s th l1 l2 _
    · refine si_iconst (v := 2) dX0_print_62 (by decide) ?_
      refine si_istore_n 2 dX0_print_63 rfl (by decide) ?_
      refine si_widen 0 0 (Nat.le_of_ble_eq_true rfl) (Nat.le_of_ble_eq_true rfl) ?_
      refine si_lo [(0, lvR (some th)), (1, lvI (l1)), (2, lvI ((2 : Int32)))] ⟨rfl, rfl, rfl, trivial⟩ ?_
      exact X0_print_b64_s th l1 ((2 : Int32)) _
set_option maxHeartbeats 4000000 in
set_option maxRecDepth 100000 in
theorem X0_print_b39_s {E : EV} (th : Nat) (l1 : Int32) (l2 : Int32) (h : HS) : Sim E mi_X0_print oV 0 0 39 [(0, lvR (some th)), (1, lvI (l1)), (2, lvI (l2))] [] h (X0_print_b39 th l1 l2 h) := by
  unfold X0_print_b39
  refine si_iconst (v := 1) dX0_print_39 (by decide) ?_
  refine si_goto 44 dX0_print_40 (by decide) ?_
  refine si_widen 0 0 (Nat.le_of_ble_eq_true rfl) (Nat.le_of_ble_eq_true rfl) ?_
  refine si_lo [(0, lvR (some th)), (1, lvI (l1)), (2, lvI (l2))] ⟨rfl, rfl, rfl, trivial⟩ ?_
  exact X0_print_b44_s th l1 l2 ((1 : Int32)) _
set_option maxHeartbeats 4000000 in
set_option maxRecDepth 100000 in
theorem s_X0_print {E : EV} (th : Nat) (a1 : Int32) (h : HS) : Sim E mi_X0_print oV 0 0 0 (largs 0 [lvR (some th), lvI a1]) [] h (m_X0_print th a1 h) := by
  unfold m_X0_print
  refine si_aload_n 0 dX0_print_0 rfl rfl ?_
  refine si_aload_n 0 dX0_print_1 rfl rfl ?_
  refine si_gI 1 7 fl_X0_24 dX0_print_2 (by decide) rfl (fun x1 => ?_)
  refine si_cvI 1 [lvI (x1)] dX0_print_5 rfl mc_X0_isThere ml_X0_62 im_X0_isThere rfl se_X0_isThere (by decide) rfl ⟨Nat.le_of_ble_eq_true rfl, Nat.le_of_ble_eq_true rfl, Nat.le_of_ble_eq_true rfl, Nat.le_of_ble_eq_true rfl⟩ (Nat.le_of_ble_eq_true rfl) (fun _ _ hq => ct_X0_isThere _ _ hq) (fun q2 => ?_)
  refine si_if_ne 12 dX0_print_8 (by decide) ?_ ?_
  · exact si_vret dX0_print_11 rfl (Nat.le_of_ble_eq_true rfl) (Nat.le_of_ble_eq_true rfl)
  · refine si_iconst (v := 1) dX0_print_12 (by decide) ?_
    refine si_istore_n 2 dX0_print_13 rfl (by decide) ?_
    refine si_aload_n 0 dX0_print_14 rfl rfl ?_
    refine si_gR 1 1 fl_X0_42 dX0_print_15 (by decide) rfl (fun x4 => ?_)
    refine si_gI 2 7 fl_X0_53 dX0_print_18 (by decide) rfl (fun x5 => ?_)
    refine si_if_eq 39 dX0_print_21 (by decide) ?_ ?_
    · refine si_widen 0 0 (Nat.le_of_ble_eq_true rfl) (Nat.le_of_ble_eq_true rfl) ?_
      refine si_lo [(0, lvR (some th)), (1, lvI (a1)), (2, lvI ((1 : Int32)))] ⟨rfl, rfl, rfl, trivial⟩ ?_
      exact X0_print_b39_s th a1 ((1 : Int32)) _
    · refine si_aload_n 0 dX0_print_24 rfl rfl ?_
      refine si_gI 1 7 fl_X0_24 dX0_print_25 (by decide) rfl (fun x6 => ?_)
      refine si_iconst (v := 1) dX0_print_28 (by decide) ?_
      refine si_iadd dX0_print_29 ?_
      refine si_aload_n 0 dX0_print_30 rfl rfl ?_
      refine si_gI 1 6 fl_X0_21 dX0_print_31 (by decide) rfl (fun x7 => ?_)
      refine si_iconst (v := 1) dX0_print_34 (by decide) ?_
      refine si_isub dX0_print_35 ?_
      refine si_icmp_ge 43 dX0_print_36 (by decide) ?_ ?_
      · refine si_iconst (v := 0) dX0_print_43 (by decide) ?_
        refine si_widen 0 0 (Nat.le_of_ble_eq_true rfl) (Nat.le_of_ble_eq_true rfl) ?_
        refine si_lo [(0, lvR (some th)), (1, lvI (a1)), (2, lvI ((1 : Int32)))] ⟨rfl, rfl, rfl, trivial⟩ ?_
        exact X0_print_b44_s th a1 ((1 : Int32)) ((0 : Int32)) _
      · refine si_widen 0 0 (Nat.le_of_ble_eq_true rfl) (Nat.le_of_ble_eq_true rfl) ?_
        refine si_lo [(0, lvR (some th)), (1, lvI (a1)), (2, lvI ((1 : Int32)))] ⟨rfl, rfl, rfl, trivial⟩ ?_
        exact X0_print_b39_s th a1 ((1 : Int32)) _
theorem ct_X0_print (l : Launch) (G : GG) {th : Nat} {a1 : Int32} {h : HS} {q : HS} (hq : m_X0_print th a1 h = some q) : Ct l yX0_print mi_X0_print G [lvR (some th), lvI a1] h (oV q) := Ct.of (out := oV) (by decide +kernel) rfl rfl (Nat.le_of_ble_eq_true rfl) hq (fun _ _ _ _ _ _ _ _ => s_X0_print th a1 h)
set_option maxHeartbeats 4000000 in
set_option maxRecDepth 100000 in
theorem s_X0_printedIn {E : EV} (th : Nat) (a1 : Int32) (h : HS) : Sim E mi_X0_printedIn oI 0 0 0 (largs 0 [lvR (some th), lvI a1]) [] h (m_X0_printedIn th a1 h) := by
  unfold m_X0_printedIn
  refine si_iload_n 1 dX0_printedIn_0 rfl rfl ?_
  refine si_iconst (v := 0) dX0_printedIn_1 (by decide) ?_
  refine si_aload_n 0 dX0_printedIn_2 rfl rfl ?_
  refine si_gR 1 10 fl_X0_34 dX0_printedIn_3 (by decide) rfl (fun x1 => ?_)
  refine si_aN dX0_printedIn_6 (fun x2 => ?_)
  refine si_iconst (v := 1) dX0_printedIn_7 (by decide) ?_
  refine si_isub dX0_printedIn_8 ?_
  refine si_csI [lvI (a1), lvI ((0 : Int32)), lvI (x2 - (1 : Int32))] dX0_printedIn_9 rfl mc_X8_isWithin ml_X0_65 st_X8_isWithin rfl ⟨Nat.le_of_ble_eq_true rfl, Nat.le_of_ble_eq_true rfl, Nat.le_of_ble_eq_true rfl, Nat.le_of_ble_eq_true rfl⟩ (Nat.le_of_ble_eq_true rfl) (fun _ hq => ct_X8_isWithin _ _ hq) (fun q3 => ?_)
  refine si_if_eq 24 dX0_printedIn_12 (by decide) ?_ ?_
  · refine si_iconst (v := 0) dX0_printedIn_24 (by decide) ?_
    exact si_iret dX0_printedIn_25 rfl (Nat.le_of_ble_eq_true rfl) (Nat.le_of_ble_eq_true rfl)
  · refine si_aload_n 0 dX0_printedIn_15 rfl rfl ?_
    refine si_gR 1 10 fl_X0_34 dX0_printedIn_16 (by decide) rfl (fun x4 => ?_)
    refine si_iload_n 1 dX0_printedIn_19 rfl rfl ?_
    refine si_ia dX0_printedIn_20 (fun x5 => ?_)
    refine si_goto 25 dX0_printedIn_21 (by decide) ?_
    exact si_iret dX0_printedIn_25 rfl (Nat.le_of_ble_eq_true rfl) (Nat.le_of_ble_eq_true rfl)
theorem ct_X0_printedIn (l : Launch) (G : GG) {th : Nat} {a1 : Int32} {h : HS} {q : Int32 × HS} (hq : m_X0_printedIn th a1 h = some q) : Ct l yX0_printedIn mi_X0_printedIn G [lvR (some th), lvI a1] h (oI q) := Ct.of (out := oI) (by decide +kernel) rfl rfl (Nat.le_of_ble_eq_true rfl) hq (fun _ _ _ _ _ _ _ _ => s_X0_printedIn th a1 h)
set_option maxHeartbeats 4000000 in
set_option maxRecDepth 100000 in
theorem s_X0_nextPanel {E : EV} (th : Nat) (h : HS) : Sim E mi_X0_nextPanel oI 0 0 0 (largs 0 [lvR (some th)]) [] h (m_X0_nextPanel th h) := by
  unfold m_X0_nextPanel
  refine si_aload_n 0 dX0_nextPanel_0 rfl rfl ?_
  refine si_gI 1 6 fl_X0_21 dX0_nextPanel_1 (by decide) rfl (fun x1 => ?_)
  refine si_if_ne 11 dX0_nextPanel_4 (by decide) ?_ ?_
  · refine si_iconst (v := -1) dX0_nextPanel_7 (by decide) ?_
    refine si_goto 20 dX0_nextPanel_8 (by decide) ?_
    exact si_iret dX0_nextPanel_20 rfl (Nat.le_of_ble_eq_true rfl) (Nat.le_of_ble_eq_true rfl)
  · refine si_aload_n 0 dX0_nextPanel_11 rfl rfl ?_
    refine si_gI 1 5 fl_X0_18 dX0_nextPanel_12 (by decide) rfl (fun x2 => ?_)
    refine si_aload_n 0 dX0_nextPanel_15 rfl rfl ?_
    refine si_gI 1 7 fl_X0_24 dX0_nextPanel_16 (by decide) rfl (fun x3 => ?_)
    refine si_iadd dX0_nextPanel_19 ?_
    exact si_iret dX0_nextPanel_20 rfl (Nat.le_of_ble_eq_true rfl) (Nat.le_of_ble_eq_true rfl)
theorem ct_X0_nextPanel (l : Launch) (G : GG) {th : Nat} {h : HS} {q : Int32 × HS} (hq : m_X0_nextPanel th h = some q) : Ct l yX0_nextPanel mi_X0_nextPanel G [lvR (some th)] h (oI q) := Ct.of (out := oI) (by decide +kernel) rfl rfl (Nat.le_of_ble_eq_true rfl) hq (fun _ _ _ _ _ _ _ _ => s_X0_nextPanel th h)
set_option maxHeartbeats 4000000 in
set_option maxRecDepth 100000 in
theorem s_X0_gap {E : EV} (th : Nat) (h : HS) : Sim E mi_X0_gap oI 0 0 0 (largs 0 [lvR (some th)]) [] h (m_X0_gap th h) := by
  unfold m_X0_gap
  refine si_aload_n 0 dX0_gap_0 rfl rfl ?_
  refine si_gI 1 6 fl_X0_21 dX0_gap_1 (by decide) rfl (fun x1 => ?_)
  refine si_aload_n 0 dX0_gap_4 rfl rfl ?_
  refine si_gI 1 7 fl_X0_24 dX0_gap_5 (by decide) rfl (fun x2 => ?_)
  refine si_isub dX0_gap_8 ?_
  exact si_iret dX0_gap_9 rfl (Nat.le_of_ble_eq_true rfl) (Nat.le_of_ble_eq_true rfl)
theorem ct_X0_gap (l : Launch) (G : GG) {th : Nat} {h : HS} {q : Int32 × HS} (hq : m_X0_gap th h = some q) : Ct l yX0_gap mi_X0_gap G [lvR (some th)] h (oI q) := Ct.of (out := oI) (by decide +kernel) rfl rfl (Nat.le_of_ble_eq_true rfl) hq (fun _ _ _ _ _ _ _ _ => s_X0_gap th h)
set_option maxHeartbeats 4000000 in
set_option maxRecDepth 100000 in
theorem X0_missing_b26_s {E : EV} (th : Nat) (go7 : Int32 → Int32 → HS → Option (Int32 × HS)) (hg7 : ∀ (l1 : Int32) (l2 : Int32) (h : HS), Sim E mi_X0_missing oI 0 0 7 [(0, lvR (some th)), (1, lvI (l1)), (2, lvI (l2))] [] h (go7 l1 l2 h)) (l1 : Int32) (l2 : Int32) (h : HS) : Sim E mi_X0_missing oI 0 0 26 [(0, lvR (some th)), (1, lvI (l1)), (2, lvI (l2))] [] h (X0_missing_b26 th go7 l1 l2 h) := by
  unfold X0_missing_b26
  refine si_iinc 2 (1) dX0_missing_26 rfl (by decide) (by decide) ?_
  refine si_goto 7 dX0_missing_29 (by decide) ?_
  refine si_widen 0 0 (Nat.le_of_ble_eq_true rfl) (Nat.le_of_ble_eq_true rfl) ?_
  refine si_lo [(0, lvR (some th)), (1, lvI (l1)), (2, lvI (l2 + (1)))] ⟨rfl, rfl, rfl, trivial⟩ ?_
  exact hg7 l1 (l2 + (1)) _
set_option maxHeartbeats 4000000 in
set_option maxRecDepth 100000 in
theorem X0_missing_L7_s {E : EV} (th : Nat) (n : Nat) : ∀ (l1 : Int32) (l2 : Int32) (h : HS), Sim E mi_X0_missing oI 0 0 7 [(0, lvR (some th)), (1, lvI (l1)), (2, lvI (l2))] [] h (X0_missing_L7 th n l1 l2 h) := by
  induction n with
  | zero => intro l1 l2 h; exact si_none
  | succ n ih =>
    intro l1 l2 h
    unfold X0_missing_L7
    refine si_iload_n 2 dX0_missing_7 rfl rfl ?_
    refine si_aload_n 0 dX0_missing_8 rfl rfl ?_
    refine si_gI 1 6 fl_X0_21 dX0_missing_9 (by decide) rfl (fun x1 => ?_)
    refine si_icmp_ge 32 dX0_missing_12 (by decide) ?_ ?_
    · refine si_iload_n 1 dX0_missing_32 rfl rfl ?_
      exact si_iret dX0_missing_33 rfl (Nat.le_of_ble_eq_true rfl) (Nat.le_of_ble_eq_true rfl)
    · refine si_aload_n 0 dX0_missing_15 rfl rfl ?_
      refine si_iload_n 2 dX0_missing_16 rfl rfl ?_
      refine si_cvI 1 [lvI (l2)] dX0_missing_17 rfl mc_X0_isThere ml_X0_62 im_X0_isThere rfl se_X0_isThere (by decide) rfl ⟨Nat.le_of_ble_eq_true rfl, Nat.le_of_ble_eq_true rfl, Nat.le_of_ble_eq_true rfl, Nat.le_of_ble_eq_true rfl⟩ (Nat.le_of_ble_eq_true rfl) (fun _ _ hq => ct_X0_isThere _ _ hq) (fun q2 => ?_)
      refine si_if_ne 26 dX0_missing_20 (by decide) ?_ ?_
      · refine si_iinc 1 (1) dX0_missing_23 rfl (by decide) (by decide) ?_
        refine si_widen 0 0 (Nat.le_of_ble_eq_true rfl) (Nat.le_of_ble_eq_true rfl) ?_
        refine si_lo [(0, lvR (some th)), (1, lvI (l1 + (1))), (2, lvI (l2))] ⟨rfl, rfl, rfl, trivial⟩ ?_
        exact X0_missing_b26_s th (X0_missing_L7 th n) ih (l1 + (1)) l2 _
      · refine si_widen 0 0 (Nat.le_of_ble_eq_true rfl) (Nat.le_of_ble_eq_true rfl) ?_
        refine si_lo [(0, lvR (some th)), (1, lvI (l1)), (2, lvI (l2))] ⟨rfl, rfl, rfl, trivial⟩ ?_
        exact X0_missing_b26_s th (X0_missing_L7 th n) ih l1 l2 _
set_option maxHeartbeats 4000000 in
set_option maxRecDepth 100000 in
theorem s_X0_missing {E : EV} (th : Nat) (h : HS) : Sim E mi_X0_missing oI 0 0 0 (largs 0 [lvR (some th)]) [] h (m_X0_missing th h) := by
  unfold m_X0_missing
  refine si_iconst (v := 0) dX0_missing_0 (by decide) ?_
  refine si_istore_n 1 dX0_missing_1 rfl (by decide) ?_
  refine si_aload_n 0 dX0_missing_2 rfl rfl ?_
  refine si_gI 1 7 fl_X0_24 dX0_missing_3 (by decide) rfl (fun x1 => ?_)
  refine si_istore_n 2 dX0_missing_6 rfl (by decide) ?_
  refine si_widen 0 0 (Nat.le_of_ble_eq_true rfl) (Nat.le_of_ble_eq_true rfl) ?_
  refine si_lo [(0, lvR (some th)), (1, lvI ((0 : Int32))), (2, lvI (x1))] ⟨rfl, rfl, rfl, trivial⟩ ?_
  exact X0_missing_L7_s th FU ((0 : Int32)) x1 _
theorem ct_X0_missing (l : Launch) (G : GG) {th : Nat} {h : HS} {q : Int32 × HS} (hq : m_X0_missing th h = some q) : Ct l yX0_missing mi_X0_missing G [lvR (some th)] h (oI q) := Ct.of (out := oI) (by decide +kernel) rfl rfl (Nat.le_of_ble_eq_true rfl) hq (fun _ _ _ _ _ _ _ _ => s_X0_missing th h)
