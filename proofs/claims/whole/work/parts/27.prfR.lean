set_option maxHeartbeats 4000000 in
set_option maxRecDepth 100000 in
theorem X6_readPart_b39_s {E : EV} {d : Nat} (rA : Nat → Int32 → HS → Option HS) (hrA : ∀ (l : Launch) (G : GG) {th : Nat} {a1 : Int32} {h : HS} {q : HS}, rA th a1 h = some q → Ct l yX6_readAnds (mi_X6_readAnds d) G [lvR (some th), lvI a1] h (oV q)) (th : Nat) (l1 : Int32) (l2 : Int32) (l3 : Int32) (h : HS) : Sim E (mi_X6_readPart d) (fin oV) 0 0 39 [(0, lvR (some th)), (1, lvI (l1)), (2, lvI (l2)), (3, lvI (l3))] [] h (X6_readPart_b39 rA th l1 l2 l3 h) := by
  unfold X6_readPart_b39
  refine si_iload_n 1 dX6_readPart_39 rfl rfl ?_
  refine si_iconst (v := 5) dX6_readPart_40 (by decide) ?_
  refine si_icmp_lt 50 dX6_readPart_41 (by decide) ?_ ?_
  · refine si_aload_n 0 dX6_readPart_50 rfl rfl ?_
    refine si_cvV 7 [] dX6_readPart_51 rfl mc_X6_goOn ml_X6_42 im_X6_goOn rfl se_X6_goOn (by decide) rfl (by simp only [CF, mi_X6_readPart, mi_X6_goOn]; omega) (Nat.le_of_ble_eq_true rfl) (fun _ _ hq => ct_X6_goOn _ _ hq) (fun h1 => ?_)
    refine si_iload_n 3 dX6_readPart_54 rfl rfl ?_
    refine si_if_eq 64 dX6_readPart_55 (by decide) ?_ ?_
    · refine si_aload_n 0 dX6_readPart_64 rfl rfl ?_
      refine si_iload_n 1 dX6_readPart_65 rfl rfl ?_
      refine si_iconst (v := 1) dX6_readPart_66 (by decide) ?_
      refine si_iadd dX6_readPart_67 ?_
      refine si_cvV 7 [lvI (l1 + (1 : Int32))] dX6_readPart_68 rfl (mc_X6_readAnds _) ml_X6_79 im_X6_readAnds rfl se_X6_readAnds (by decide) rfl (by simp only [CF, mi_X6_readPart, mi_X6_readAnds]; omega) (Nat.le_of_ble_eq_true rfl) (fun _ _ hq => hrA _ _ hq) (fun h3 => ?_)
      refine si_aload_n 0 dX6_readPart_71 rfl rfl ?_
      refine si_gI 7 4 fl_X6_29 dX6_readPart_72 (by decide) rfl (fun x5 => ?_)
      refine si_sipush (v := 10023) dX6_readPart_75 (by decide) ?_
      refine si_icmp_ne 88 dX6_readPart_78 (by decide) ?_ ?_
      · refine si_aload_n 0 dX6_readPart_81 rfl rfl ?_
        refine si_cvV 7 [] dX6_readPart_82 rfl mc_X6_goOn ml_X6_42 im_X6_goOn rfl se_X6_goOn (by decide) rfl (by simp only [CF, mi_X6_readPart, mi_X6_goOn]; omega) (Nat.le_of_ble_eq_true rfl) (fun _ _ hq => ct_X6_goOn _ _ hq) (fun h8 => ?_)
        refine si_goto 93 dX6_readPart_85 (by decide) ?_
        exact si_vret dX6_readPart_93 rfl (Nat.le_of_ble_eq_true rfl) (Nat.le_of_ble_eq_true rfl)
      · refine si_aload_n 0 dX6_readPart_88 rfl rfl ?_
        refine si_iconst (v := 1) dX6_readPart_89 (by decide) ?_
        refine si_cvV 7 [lvI ((1 : Int32))] dX6_readPart_90 rfl mc_X6_mark ml_X6_68 im_X6_mark rfl se_X6_mark (by decide) rfl (by simp only [CF, mi_X6_readPart, mi_X6_mark]; omega) (Nat.le_of_ble_eq_true rfl) (fun _ _ hq => ct_X6_mark _ _ hq) (fun h6 => ?_)
        exact si_vret dX6_readPart_93 rfl (Nat.le_of_ble_eq_true rfl) (Nat.le_of_ble_eq_true rfl)
    · refine si_aload_n 0 dX6_readPart_58 rfl rfl ?_
      refine si_iload_n 2 dX6_readPart_59 rfl rfl ?_
      refine si_cvV 7 [lvI (l2)] dX6_readPart_60 rfl mc_X6_write ml_X6_82 im_X6_write rfl se_X6_write (by decide) rfl (by simp only [CF, mi_X6_readPart, mi_X6_write]; omega) (Nat.le_of_ble_eq_true rfl) (fun _ _ hq => ct_X6_write _ _ hq) (fun h10 => ?_)
      exact si_vret dX6_readPart_63 rfl (Nat.le_of_ble_eq_true rfl) (Nat.le_of_ble_eq_true rfl)
  · refine si_aload_n 0 dX6_readPart_44 rfl rfl ?_
    refine si_iconst (v := 5) dX6_readPart_45 (by decide) ?_
    refine si_cvV 7 [lvI ((5 : Int32))] dX6_readPart_46 rfl mc_X6_mark ml_X6_68 im_X6_mark rfl se_X6_mark (by decide) rfl (by simp only [CF, mi_X6_readPart, mi_X6_mark]; omega) (Nat.le_of_ble_eq_true rfl) (fun _ _ hq => ct_X6_mark _ _ hq) (fun h12 => ?_)
    exact si_vret dX6_readPart_49 rfl (Nat.le_of_ble_eq_true rfl) (Nat.le_of_ble_eq_true rfl)
set_option maxHeartbeats 4000000 in
set_option maxRecDepth 100000 in
theorem X6_readPart_b21_s {E : EV} {d : Nat} (rA : Nat → Int32 → HS → Option HS) (hrA : ∀ (l : Launch) (G : GG) {th : Nat} {a1 : Int32} {h : HS} {q : HS}, rA th a1 h = some q → Ct l yX6_readAnds (mi_X6_readAnds d) G [lvR (some th), lvI a1] h (oV q)) (th : Nat) (l1 : Int32) (l2 : Int32) (s0 : Int32) (h : HS) : Sim E (mi_X6_readPart d) (fin oV) 0 0 21 [(0, lvR (some th)), (1, lvI (l1)), (2, lvI (l2))] [.int (s0)] h (X6_readPart_b21 rA th l1 l2 s0 h) := by
  unfold X6_readPart_b21
  refine si_istore_n 3 dX6_readPart_21 rfl (Nat.le_of_ble_eq_true rfl) ?_
  refine si_iload_n 3 dX6_readPart_22 rfl rfl ?_
  refine si_if_ne 39 dX6_readPart_23 (by decide) ?_ ?_
  · refine si_iload_n 2 dX6_readPart_26 rfl rfl ?_
    refine si_sipush (v := 10022) dX6_readPart_27 (by decide) ?_
    refine si_icmp_eq 39 dX6_readPart_30 (by decide) ?_ ?_
    · refine si_widen 0 0 (Nat.le_of_ble_eq_true rfl) (Nat.le_of_ble_eq_true rfl) ?_
      refine si_lo [(0, lvR (some th)), (1, lvI (l1)), (2, lvI (l2)), (3, lvI (s0))] ⟨rfl, rfl, rfl, rfl, trivial⟩ ?_
      exact X6_readPart_b39_s rA hrA th l1 l2 s0 _
    · refine si_aload_n 0 dX6_readPart_33 rfl rfl ?_
      refine si_iconst (v := 1) dX6_readPart_34 (by decide) ?_
      refine si_cvV 7 [lvI ((1 : Int32))] dX6_readPart_35 rfl mc_X6_mark ml_X6_68 im_X6_mark rfl se_X6_mark (by decide) rfl (by simp only [CF, mi_X6_readPart, mi_X6_mark]; omega) (Nat.le_of_ble_eq_true rfl) (fun _ _ hq => ct_X6_mark _ _ hq) (fun h1 => ?_)
      exact si_vret dX6_readPart_38 rfl (Nat.le_of_ble_eq_true rfl) (Nat.le_of_ble_eq_true rfl)
  · refine si_widen 0 0 (Nat.le_of_ble_eq_true rfl) (Nat.le_of_ble_eq_true rfl) ?_
    refine si_lo [(0, lvR (some th)), (1, lvI (l1)), (2, lvI (l2)), (3, lvI (s0))] ⟨rfl, rfl, rfl, rfl, trivial⟩ ?_
    exact X6_readPart_b39_s rA hrA th l1 l2 s0 _
set_option maxHeartbeats 4000000 in
set_option maxRecDepth 100000 in
theorem X6_readPart_b20_s {E : EV} {d : Nat} (rA : Nat → Int32 → HS → Option HS) (hrA : ∀ (l : Launch) (G : GG) {th : Nat} {a1 : Int32} {h : HS} {q : HS}, rA th a1 h = some q → Ct l yX6_readAnds (mi_X6_readAnds d) G [lvR (some th), lvI a1] h (oV q)) (th : Nat) (l1 : Int32) (l2 : Int32) (h : HS) : Sim E (mi_X6_readPart d) (fin oV) 0 0 20 [(0, lvR (some th)), (1, lvI (l1)), (2, lvI (l2))] [] h (X6_readPart_b20 rA th l1 l2 h) := by
  unfold X6_readPart_b20
  refine si_iconst (v := 0) dX6_readPart_20 (by decide) ?_
  refine si_widen 0 0 (Nat.le_of_ble_eq_true rfl) (Nat.le_of_ble_eq_true rfl) ?_
  refine si_lo [(0, lvR (some th)), (1, lvI (l1)), (2, lvI (l2))] ⟨rfl, rfl, rfl, trivial⟩ ?_
  exact X6_readPart_b21_s rA hrA th l1 l2 ((0 : Int32)) _
set_option maxHeartbeats 4000000 in
set_option maxRecDepth 100000 in
theorem s_X6_readPart {E : EV} {d : Nat} (rA : Nat → Int32 → HS → Option HS) (hrA : ∀ (l : Launch) (G : GG) {th : Nat} {a1 : Int32} {h : HS} {q : HS}, rA th a1 h = some q → Ct l yX6_readAnds (mi_X6_readAnds d) G [lvR (some th), lvI a1] h (oV q)) (th : Nat) (a1 : Int32) (h : HS) : Sim E (mi_X6_readPart d) (fin oV) 0 0 0 (largs 0 [lvR (some th), lvI a1]) [] h (m_X6_readPart rA th a1 h) := by
  unfold m_X6_readPart
  refine si_aload_n 0 dX6_readPart_0 rfl rfl ?_
  refine si_gI 7 4 fl_X6_29 dX6_readPart_1 (by decide) rfl (fun x1 => ?_)
  refine si_istore_n 2 dX6_readPart_4 rfl (Nat.le_of_ble_eq_true rfl) ?_
  refine si_iload_n 2 dX6_readPart_5 rfl rfl ?_
  refine si_if_lt 20 dX6_readPart_6 (by decide) ?_ ?_
  · refine si_widen 0 0 (Nat.le_of_ble_eq_true rfl) (Nat.le_of_ble_eq_true rfl) ?_
    refine si_lo [(0, lvR (some th)), (1, lvI (a1)), (2, lvI (x1))] ⟨rfl, rfl, rfl, trivial⟩ ?_
    exact X6_readPart_b20_s rA hrA th a1 x1 _
  · refine si_iload_n 2 dX6_readPart_9 rfl rfl ?_
    refine si_sipush (v := 10005) dX6_readPart_10 (by decide) ?_
    refine si_icmp_ge 20 dX6_readPart_13 (by decide) ?_ ?_
    · refine si_widen 0 0 (Nat.le_of_ble_eq_true rfl) (Nat.le_of_ble_eq_true rfl) ?_
      refine si_lo [(0, lvR (some th)), (1, lvI (a1)), (2, lvI (x1))] ⟨rfl, rfl, rfl, trivial⟩ ?_
      exact X6_readPart_b20_s rA hrA th a1 x1 _
    · refine si_iconst (v := 1) dX6_readPart_16 (by decide) ?_
      refine si_goto 21 dX6_readPart_17 (by decide) ?_
      refine si_widen 0 0 (Nat.le_of_ble_eq_true rfl) (Nat.le_of_ble_eq_true rfl) ?_
      refine si_lo [(0, lvR (some th)), (1, lvI (a1)), (2, lvI (x1))] ⟨rfl, rfl, rfl, trivial⟩ ?_
      exact X6_readPart_b21_s rA hrA th a1 x1 ((1 : Int32)) _
theorem ct_X6_readPart (l : Launch) (G : GG) {d : Nat} {rA : Nat → Int32 → HS → Option HS} (hrA : ∀ (l : Launch) (G : GG) {th : Nat} {a1 : Int32} {h : HS} {q : HS}, rA th a1 h = some q → Ct l yX6_readAnds (mi_X6_readAnds d) G [lvR (some th), lvI a1] h (oV q)) {th : Nat} {a1 : Int32} {h : HS} {q : HS} (hq : m_X6_readPart rA th a1 h = some q) : Ct l yX6_readPart (mi_X6_readPart d) G [lvR (some th), lvI a1] h (oV q) := Ct.of (out := oV) (by decide +kernel) rfl rfl (Nat.le_of_ble_eq_true rfl) hq (fun _ _ _ _ _ _ _ _ => s_X6_readPart rA hrA th a1 h)
set_option maxHeartbeats 4000000 in
set_option maxRecDepth 100000 in
theorem X6_readSum_b34_s {E : EV} {d : Nat} (rA : Nat → Int32 → HS → Option HS) (hrA : ∀ (l : Launch) (G : GG) {th : Nat} {a1 : Int32} {h : HS} {q : HS}, rA th a1 h = some q → Ct l yX6_readAnds (mi_X6_readAnds d) G [lvR (some th), lvI a1] h (oV q)) (th : Nat) (go7 : Int32 → Int32 → HS → Option (HS)) (hg7 : ∀ (l1 : Int32) (l2 : Int32) (h : HS), Sim E (mi_X6_readSum d) (fin oV) 0 0 7 [(0, lvR (some th)), (1, lvI (l1)), (2, lvI (l2))] [] h (go7 l1 l2 h)) (l1 : Int32) (l2 : Int32) (h : HS) : Sim E (mi_X6_readSum d) (fin oV) 0 0 34 [(0, lvR (some th)), (1, lvI (l1)), (2, lvI (l2))] [] h (X6_readSum_b34 rA th go7 l1 l2 h) := by
  unfold X6_readSum_b34
  refine si_aload_n 0 dX6_readSum_34 rfl rfl ?_
  refine si_gI 7 4 fl_X6_29 dX6_readSum_35 (by decide) rfl (fun x1 => ?_)
  refine si_istore_n 3 dX6_readSum_38 rfl (Nat.le_of_ble_eq_true rfl) ?_
  refine si_aload_n 0 dX6_readSum_39 rfl rfl ?_
  refine si_cvV 7 [] dX6_readSum_40 rfl mc_X6_goOn ml_X6_42 im_X6_goOn rfl se_X6_goOn (by decide) rfl (by simp only [CF, mi_X6_readSum, mi_X6_goOn]; omega) (Nat.le_of_ble_eq_true rfl) (fun _ _ hq => ct_X6_goOn _ _ hq) (fun h2 => ?_)
  refine si_aload_n 0 dX6_readSum_43 rfl rfl ?_
  refine si_iload_n 1 dX6_readSum_44 rfl rfl ?_
  refine si_cvV 7 [lvI (l1)] dX6_readSum_45 rfl (mc_X6_readPart _) ml_X6_95 im_X6_readPart rfl se_X6_readPart (by decide) rfl (by simp only [CF, mi_X6_readSum, mi_X6_readPart]; omega) (Nat.le_of_ble_eq_true rfl) (fun _ _ hq => ct_X6_readPart _ _ hrA hq) (fun h4 => ?_)
  refine si_aload_n 0 dX6_readSum_48 rfl rfl ?_
  refine si_iload_n 3 dX6_readSum_49 rfl rfl ?_
  refine si_cvV 7 [lvI (x1)] dX6_readSum_50 rfl mc_X6_write ml_X6_82 im_X6_write rfl se_X6_write (by decide) rfl (by simp only [CF, mi_X6_readSum, mi_X6_write]; omega) (Nat.le_of_ble_eq_true rfl) (fun _ _ hq => ct_X6_write _ _ hq) (fun h6 => ?_)
  refine si_iinc 2 (1) dX6_readSum_53 rfl (by decide) (Nat.le_of_ble_eq_true rfl) ?_
  refine si_goto 7 dX6_readSum_56 (by decide) ?_
  refine si_widen 0 0 (Nat.le_of_ble_eq_true rfl) (Nat.le_of_ble_eq_true rfl) ?_
  refine si_lo [(0, lvR (some th)), (1, lvI (l1)), (2, lvI (l2 + (1)))] ⟨rfl, rfl, rfl, trivial⟩ ?_
  exact hg7 l1 (l2 + (1)) _
set_option maxHeartbeats 4000000 in
set_option maxRecDepth 100000 in
theorem X6_readSum_L7_s {E : EV} {d : Nat} (rA : Nat → Int32 → HS → Option HS) (hrA : ∀ (l : Launch) (G : GG) {th : Nat} {a1 : Int32} {h : HS} {q : HS}, rA th a1 h = some q → Ct l yX6_readAnds (mi_X6_readAnds d) G [lvR (some th), lvI a1] h (oV q)) (th : Nat) (n : Nat) : ∀ (l1 : Int32) (l2 : Int32) (h : HS), Sim E (mi_X6_readSum d) (fin oV) 0 0 7 [(0, lvR (some th)), (1, lvI (l1)), (2, lvI (l2))] [] h (X6_readSum_L7 rA th n l1 l2 h) := by
  induction n with
  | zero => intro l1 l2 h; exact si_none
  | succ n ih =>
    intro l1 l2 h
    unfold X6_readSum_L7
    refine si_iload_n 2 dX6_readSum_7 rfl rfl ?_
    refine si_sipush (v := 600) dX6_readSum_8 (by decide) ?_
    refine si_icmp_ge 59 dX6_readSum_11 (by decide) ?_ ?_
    · exact si_vret dX6_readSum_59 rfl (Nat.le_of_ble_eq_true rfl) (Nat.le_of_ble_eq_true rfl)
    · refine si_aload_n 0 dX6_readSum_14 rfl rfl ?_
      refine si_gI 7 4 fl_X6_29 dX6_readSum_15 (by decide) rfl (fun x1 => ?_)
      refine si_sipush (v := 10010) dX6_readSum_18 (by decide) ?_
      refine si_icmp_eq 34 dX6_readSum_21 (by decide) ?_ ?_
      · refine si_widen 0 0 (Nat.le_of_ble_eq_true rfl) (Nat.le_of_ble_eq_true rfl) ?_
        refine si_lo [(0, lvR (some th)), (1, lvI (l1)), (2, lvI (l2))] ⟨rfl, rfl, rfl, trivial⟩ ?_
        exact X6_readSum_b34_s rA hrA th (X6_readSum_L7 rA th n) ih l1 l2 _
      · refine si_aload_n 0 dX6_readSum_24 rfl rfl ?_
        refine si_gI 7 4 fl_X6_29 dX6_readSum_25 (by decide) rfl (fun x2 => ?_)
        refine si_sipush (v := 10011) dX6_readSum_28 (by decide) ?_
        refine si_icmp_ne 59 dX6_readSum_31 (by decide) ?_ ?_
        · refine si_widen 0 0 (Nat.le_of_ble_eq_true rfl) (Nat.le_of_ble_eq_true rfl) ?_
          refine si_lo [(0, lvR (some th)), (1, lvI (l1)), (2, lvI (l2))] ⟨rfl, rfl, rfl, trivial⟩ ?_
          exact X6_readSum_b34_s rA hrA th (X6_readSum_L7 rA th n) ih l1 l2 _
        · exact si_vret dX6_readSum_59 rfl (Nat.le_of_ble_eq_true rfl) (Nat.le_of_ble_eq_true rfl)
set_option maxHeartbeats 4000000 in
set_option maxRecDepth 100000 in
theorem s_X6_readSum {E : EV} {d : Nat} (rA : Nat → Int32 → HS → Option HS) (hrA : ∀ (l : Launch) (G : GG) {th : Nat} {a1 : Int32} {h : HS} {q : HS}, rA th a1 h = some q → Ct l yX6_readAnds (mi_X6_readAnds d) G [lvR (some th), lvI a1] h (oV q)) (th : Nat) (a1 : Int32) (h : HS) : Sim E (mi_X6_readSum d) (fin oV) 0 0 0 (largs 0 [lvR (some th), lvI a1]) [] h (m_X6_readSum rA th a1 h) := by
  unfold m_X6_readSum
  refine si_aload_n 0 dX6_readSum_0 rfl rfl ?_
  refine si_iload_n 1 dX6_readSum_1 rfl rfl ?_
  refine si_cvV 7 [lvI (a1)] dX6_readSum_2 rfl (mc_X6_readPart _) ml_X6_95 im_X6_readPart rfl se_X6_readPart (by decide) rfl (by simp only [CF, mi_X6_readSum, mi_X6_readPart]; omega) (Nat.le_of_ble_eq_true rfl) (fun _ _ hq => ct_X6_readPart _ _ hrA hq) (fun h1 => ?_)
  refine si_iconst (v := 0) dX6_readSum_5 (by decide) ?_
  refine si_istore_n 2 dX6_readSum_6 rfl (Nat.le_of_ble_eq_true rfl) ?_
  refine si_widen 0 0 (Nat.le_of_ble_eq_true rfl) (Nat.le_of_ble_eq_true rfl) ?_
  refine si_lo [(0, lvR (some th)), (1, lvI (a1)), (2, lvI ((0 : Int32)))] ⟨rfl, rfl, rfl, trivial⟩ ?_
  exact X6_readSum_L7_s rA hrA th FU a1 ((0 : Int32)) _
theorem ct_X6_readSum (l : Launch) (G : GG) {d : Nat} {rA : Nat → Int32 → HS → Option HS} (hrA : ∀ (l : Launch) (G : GG) {th : Nat} {a1 : Int32} {h : HS} {q : HS}, rA th a1 h = some q → Ct l yX6_readAnds (mi_X6_readAnds d) G [lvR (some th), lvI a1] h (oV q)) {th : Nat} {a1 : Int32} {h : HS} {q : HS} (hq : m_X6_readSum rA th a1 h = some q) : Ct l yX6_readSum (mi_X6_readSum d) G [lvR (some th), lvI a1] h (oV q) := Ct.of (out := oV) (by decide +kernel) rfl rfl (Nat.le_of_ble_eq_true rfl) hq (fun _ _ _ _ _ _ _ _ => s_X6_readSum rA hrA th a1 h)
set_option maxHeartbeats 4000000 in
set_option maxRecDepth 100000 in
theorem X6_readTest_b24_s {E : EV} {d : Nat} (rA : Nat → Int32 → HS → Option HS) (hrA : ∀ (l : Launch) (G : GG) {th : Nat} {a1 : Int32} {h : HS} {q : HS}, rA th a1 h = some q → Ct l yX6_readAnds (mi_X6_readAnds d) G [lvR (some th), lvI a1] h (oV q)) (th : Nat) (l1 : Int32) (l2 : Int32) (h : HS) : Sim E (mi_X6_readTest d) (fin oV) 0 0 24 [(0, lvR (some th)), (1, lvI (l1)), (2, lvI (l2))] [] h (X6_readTest_b24 rA th l1 l2 h) := by
  unfold X6_readTest_b24
  refine si_aload_n 0 dX6_readTest_24 rfl rfl ?_
  refine si_cvV 7 [] dX6_readTest_25 rfl mc_X6_goOn ml_X6_42 im_X6_goOn rfl se_X6_goOn (by decide) rfl (by simp only [CF, mi_X6_readTest, mi_X6_goOn]; omega) (Nat.le_of_ble_eq_true rfl) (fun _ _ hq => ct_X6_goOn _ _ hq) (fun h1 => ?_)
  refine si_aload_n 0 dX6_readTest_28 rfl rfl ?_
  refine si_iload_n 1 dX6_readTest_29 rfl rfl ?_
  refine si_cvV 7 [lvI (l1)] dX6_readTest_30 rfl (mc_X6_readSum _) ml_X6_92 im_X6_readSum rfl se_X6_readSum (by decide) rfl (by simp only [CF, mi_X6_readTest, mi_X6_readSum]; omega) (Nat.le_of_ble_eq_true rfl) (fun _ _ hq => ct_X6_readSum _ _ hrA hq) (fun h3 => ?_)
  refine si_aload_n 0 dX6_readTest_33 rfl rfl ?_
  refine si_iload_n 2 dX6_readTest_34 rfl rfl ?_
  refine si_cvV 7 [lvI (l2)] dX6_readTest_35 rfl mc_X6_write ml_X6_82 im_X6_write rfl se_X6_write (by decide) rfl (by simp only [CF, mi_X6_readTest, mi_X6_write]; omega) (Nat.le_of_ble_eq_true rfl) (fun _ _ hq => ct_X6_write _ _ hq) (fun h5 => ?_)
  exact si_vret dX6_readTest_38 rfl (Nat.le_of_ble_eq_true rfl) (Nat.le_of_ble_eq_true rfl)
set_option maxHeartbeats 4000000 in
set_option maxRecDepth 100000 in
theorem s_X6_readTest {E : EV} {d : Nat} (rA : Nat → Int32 → HS → Option HS) (hrA : ∀ (l : Launch) (G : GG) {th : Nat} {a1 : Int32} {h : HS} {q : HS}, rA th a1 h = some q → Ct l yX6_readAnds (mi_X6_readAnds d) G [lvR (some th), lvI a1] h (oV q)) (th : Nat) (a1 : Int32) (h : HS) : Sim E (mi_X6_readTest d) (fin oV) 0 0 0 (largs 0 [lvR (some th), lvI a1]) [] h (m_X6_readTest rA th a1 h) := by
  unfold m_X6_readTest
  refine si_aload_n 0 dX6_readTest_0 rfl rfl ?_
  refine si_iload_n 1 dX6_readTest_1 rfl rfl ?_
  refine si_cvV 7 [lvI (a1)] dX6_readTest_2 rfl (mc_X6_readSum _) ml_X6_92 im_X6_readSum rfl se_X6_readSum (by decide) rfl (by simp only [CF, mi_X6_readTest, mi_X6_readSum]; omega) (Nat.le_of_ble_eq_true rfl) (fun _ _ hq => ct_X6_readSum _ _ hrA hq) (fun h1 => ?_)
  refine si_aload_n 0 dX6_readTest_5 rfl rfl ?_
  refine si_gI 7 4 fl_X6_29 dX6_readTest_6 (by decide) rfl (fun x3 => ?_)
  refine si_istore_n 2 dX6_readTest_9 rfl (Nat.le_of_ble_eq_true rfl) ?_
  refine si_iload_n 2 dX6_readTest_10 rfl rfl ?_
  refine si_sipush (v := 10012) dX6_readTest_11 (by decide) ?_
  refine si_icmp_eq 24 dX6_readTest_14 (by decide) ?_ ?_
  · refine si_widen 0 0 (Nat.le_of_ble_eq_true rfl) (Nat.le_of_ble_eq_true rfl) ?_
    refine si_lo [(0, lvR (some th)), (1, lvI (a1)), (2, lvI (x3))] ⟨rfl, rfl, rfl, trivial⟩ ?_
    exact X6_readTest_b24_s rA hrA th a1 x3 _
  · refine si_iload_n 2 dX6_readTest_17 rfl rfl ?_
    refine si_sipush (v := 10013) dX6_readTest_18 (by decide) ?_
    refine si_icmp_ne 38 dX6_readTest_21 (by decide) ?_ ?_
    · refine si_widen 0 0 (Nat.le_of_ble_eq_true rfl) (Nat.le_of_ble_eq_true rfl) ?_
      refine si_lo [(0, lvR (some th)), (1, lvI (a1)), (2, lvI (x3))] ⟨rfl, rfl, rfl, trivial⟩ ?_
      exact X6_readTest_b24_s rA hrA th a1 x3 _
    · exact si_vret dX6_readTest_38 rfl (Nat.le_of_ble_eq_true rfl) (Nat.le_of_ble_eq_true rfl)
theorem ct_X6_readTest (l : Launch) (G : GG) {d : Nat} {rA : Nat → Int32 → HS → Option HS} (hrA : ∀ (l : Launch) (G : GG) {th : Nat} {a1 : Int32} {h : HS} {q : HS}, rA th a1 h = some q → Ct l yX6_readAnds (mi_X6_readAnds d) G [lvR (some th), lvI a1] h (oV q)) {th : Nat} {a1 : Int32} {h : HS} {q : HS} (hq : m_X6_readTest rA th a1 h = some q) : Ct l yX6_readTest (mi_X6_readTest d) G [lvR (some th), lvI a1] h (oV q) := Ct.of (out := oV) (by decide +kernel) rfl rfl (Nat.le_of_ble_eq_true rfl) hq (fun _ _ _ _ _ _ _ _ => s_X6_readTest rA hrA th a1 h)
set_option maxHeartbeats 4000000 in
set_option maxRecDepth 100000 in
theorem X6_readAnds_L7_s {E : EV} {d : Nat} (rA : Nat → Int32 → HS → Option HS) (hrA : ∀ (l : Launch) (G : GG) {th : Nat} {a1 : Int32} {h : HS} {q : HS}, rA th a1 h = some q → Ct l yX6_readAnds (mi_X6_readAnds d) G [lvR (some th), lvI a1] h (oV q)) (th : Nat) (n : Nat) : ∀ (l1 : Int32) (l2 : Int32) (h : HS), Sim E (mi_X6_readAnds (d + 1)) (fin oV) 0 0 7 [(0, lvR (some th)), (1, lvI (l1)), (2, lvI (l2))] [] h (X6_readAnds_L7 rA th n l1 l2 h) := by
  induction n with
  | zero => intro l1 l2 h; exact si_none
  | succ n ih =>
    intro l1 l2 h
    unfold X6_readAnds_L7
    refine si_iload_n 2 dX6_readAnds_7 rfl rfl ?_
    refine si_sipush (v := 600) dX6_readAnds_8 (by decide) ?_
    refine si_icmp_ge 46 dX6_readAnds_11 (by decide) ?_ ?_
    · exact si_vret dX6_readAnds_46 rfl (Nat.le_of_ble_eq_true rfl) (Nat.le_of_ble_eq_true rfl)
    · refine si_aload_n 0 dX6_readAnds_14 rfl rfl ?_
      refine si_gI 7 4 fl_X6_29 dX6_readAnds_15 (by decide) rfl (fun x1 => ?_)
      refine si_sipush (v := 10014) dX6_readAnds_18 (by decide) ?_
      refine si_icmp_ne 46 dX6_readAnds_21 (by decide) ?_ ?_
      · refine si_aload_n 0 dX6_readAnds_24 rfl rfl ?_
        refine si_cvV 7 [] dX6_readAnds_25 rfl mc_X6_goOn ml_X6_42 im_X6_goOn rfl se_X6_goOn (by decide) rfl (by simp only [CF, mi_X6_readAnds, mi_X6_goOn]; omega) (Nat.le_of_ble_eq_true rfl) (fun _ _ hq => ct_X6_goOn _ _ hq) (fun h2 => ?_)
        refine si_aload_n 0 dX6_readAnds_28 rfl rfl ?_
        refine si_iload_n 1 dX6_readAnds_29 rfl rfl ?_
        refine si_cvV 7 [lvI (l1)] dX6_readAnds_30 rfl (mc_X6_readTest _) ml_X6_89 im_X6_readTest rfl se_X6_readTest (by decide) rfl (by simp only [CF, mi_X6_readAnds, mi_X6_readTest]; omega) (Nat.le_of_ble_eq_true rfl) (fun _ _ hq => ct_X6_readTest _ _ hrA hq) (fun h4 => ?_)
        refine si_aload_n 0 dX6_readAnds_33 rfl rfl ?_
        refine si_sipush (v := 10014) dX6_readAnds_34 (by decide) ?_
        refine si_cvV 7 [lvI ((10014 : Int32))] dX6_readAnds_37 rfl mc_X6_write ml_X6_82 im_X6_write rfl se_X6_write (by decide) rfl (by simp only [CF, mi_X6_readAnds, mi_X6_write]; omega) (Nat.le_of_ble_eq_true rfl) (fun _ _ hq => ct_X6_write _ _ hq) (fun h6 => ?_)
        refine si_iinc 2 (1) dX6_readAnds_40 rfl (by decide) (Nat.le_of_ble_eq_true rfl) ?_
        refine si_goto 7 dX6_readAnds_43 (by decide) ?_
        refine si_widen 0 0 (Nat.le_of_ble_eq_true rfl) (Nat.le_of_ble_eq_true rfl) ?_
        refine si_lo [(0, lvR (some th)), (1, lvI (l1)), (2, lvI (l2 + (1)))] ⟨rfl, rfl, rfl, trivial⟩ ?_
        exact ih l1 (l2 + (1)) _
      · exact si_vret dX6_readAnds_46 rfl (Nat.le_of_ble_eq_true rfl) (Nat.le_of_ble_eq_true rfl)
set_option maxHeartbeats 4000000 in
set_option maxRecDepth 100000 in
theorem s_X6_readAnds {E : EV} {d : Nat} (rA : Nat → Int32 → HS → Option HS) (hrA : ∀ (l : Launch) (G : GG) {th : Nat} {a1 : Int32} {h : HS} {q : HS}, rA th a1 h = some q → Ct l yX6_readAnds (mi_X6_readAnds d) G [lvR (some th), lvI a1] h (oV q)) (th : Nat) (a1 : Int32) (h : HS) : Sim E (mi_X6_readAnds (d + 1)) (fin oV) 0 0 0 (largs 0 [lvR (some th), lvI a1]) [] h (m_X6_readAnds rA th a1 h) := by
  unfold m_X6_readAnds
  refine si_aload_n 0 dX6_readAnds_0 rfl rfl ?_
  refine si_iload_n 1 dX6_readAnds_1 rfl rfl ?_
  refine si_cvV 7 [lvI (a1)] dX6_readAnds_2 rfl (mc_X6_readTest _) ml_X6_89 im_X6_readTest rfl se_X6_readTest (by decide) rfl (by simp only [CF, mi_X6_readAnds, mi_X6_readTest]; omega) (Nat.le_of_ble_eq_true rfl) (fun _ _ hq => ct_X6_readTest _ _ hrA hq) (fun h1 => ?_)
  refine si_iconst (v := 0) dX6_readAnds_5 (by decide) ?_
  refine si_istore_n 2 dX6_readAnds_6 rfl (Nat.le_of_ble_eq_true rfl) ?_
  refine si_widen 0 0 (Nat.le_of_ble_eq_true rfl) (Nat.le_of_ble_eq_true rfl) ?_
  refine si_lo [(0, lvR (some th)), (1, lvI (a1)), (2, lvI ((0 : Int32)))] ⟨rfl, rfl, rfl, trivial⟩ ?_
  exact X6_readAnds_L7_s rA hrA th FU a1 ((0 : Int32)) _
theorem ct_X6_readAnds (l : Launch) (G : GG) {d : Nat} {rA : Nat → Int32 → HS → Option HS} (hrA : ∀ (l : Launch) (G : GG) {th : Nat} {a1 : Int32} {h : HS} {q : HS}, rA th a1 h = some q → Ct l yX6_readAnds (mi_X6_readAnds d) G [lvR (some th), lvI a1] h (oV q)) {th : Nat} {a1 : Int32} {h : HS} {q : HS} (hq : m_X6_readAnds rA th a1 h = some q) : Ct l yX6_readAnds (mi_X6_readAnds (d + 1)) G [lvR (some th), lvI a1] h (oV q) := Ct.of (out := oV) (by decide +kernel) rfl rfl (Nat.le_of_ble_eq_true rfl) hq (fun _ _ _ _ _ _ _ _ => s_X6_readAnds rA hrA th a1 h)
theorem ct_raD : ∀ {d : Nat} (l : Launch) (G : GG) {th : Nat} {a1 : Int32} {h : HS} {q : HS}, raD d th a1 h = some q → Ct l yX6_readAnds (mi_X6_readAnds d) G [lvR (some th), lvI a1] h (oV q)
  | 0, _, _, _, _, _, _, hq => by cases hq
  | _ + 1, l, G, _, _, _, _, hq => ct_X6_readAnds l G (fun l G => ct_raD l G) hq
set_option maxHeartbeats 4000000 in
set_option maxRecDepth 100000 in
theorem X6_readLine_b24_s {E : EV} (th : Nat)  (h : HS) : Sim E mi_X6_readLine (fin oV) 0 0 24 [(0, lvR (some th))] [] h (X6_readLine_b24 th  h) := by
  unfold X6_readLine_b24
  refine si_aload_n 0 dX6_readLine_24 rfl rfl ?_
  refine si_sipush (v := 10020) dX6_readLine_25 (by decide) ?_
  refine si_cvV 7 [lvI ((10020 : Int32))] dX6_readLine_28 rfl mc_X6_take ml_X6_72 im_X6_take rfl se_X6_take (by decide) rfl ⟨Nat.le_of_ble_eq_true rfl, Nat.le_of_ble_eq_true rfl, Nat.le_of_ble_eq_true rfl, Nat.le_of_ble_eq_true rfl⟩ (Nat.le_of_ble_eq_true rfl) (fun _ _ hq => ct_X6_take _ _ hq) (fun h1 => ?_)
  refine si_aload_n 0 dX6_readLine_31 rfl rfl ?_
  refine si_cvI 7 [] dX6_readLine_32 rfl mc_X6_takeRate ml_X6_75 im_X6_takeRate rfl se_X6_takeRate (by decide) rfl ⟨Nat.le_of_ble_eq_true rfl, Nat.le_of_ble_eq_true rfl, Nat.le_of_ble_eq_true rfl, Nat.le_of_ble_eq_true rfl⟩ (Nat.le_of_ble_eq_true rfl) (fun _ _ hq => ct_X6_takeRate _ _ hq) (fun q3 => ?_)
  refine si_istore_n 1 dX6_readLine_35 rfl (by decide) ?_
  refine si_aload_n 0 dX6_readLine_36 rfl rfl ?_
  refine si_sipush (v := 10021) dX6_readLine_37 (by decide) ?_
  refine si_cvV 7 [lvI ((10021 : Int32))] dX6_readLine_40 rfl mc_X6_take ml_X6_72 im_X6_take rfl se_X6_take (by decide) rfl ⟨Nat.le_of_ble_eq_true rfl, Nat.le_of_ble_eq_true rfl, Nat.le_of_ble_eq_true rfl, Nat.le_of_ble_eq_true rfl⟩ (Nat.le_of_ble_eq_true rfl) (fun _ _ hq => ct_X6_take _ _ hq) (fun h5 => ?_)
  refine si_aload_n 0 dX6_readLine_43 rfl rfl ?_
  refine si_iconst (v := 0) dX6_readLine_44 (by decide) ?_
  refine si_cvV 7 [lvI ((0 : Int32))] dX6_readLine_45 rfl (mc_X6_readAnds _) ml_X6_79 im_X6_readAnds rfl se_X6_readAnds (by decide) rfl ⟨Nat.le_of_ble_eq_true rfl, Nat.le_of_ble_eq_true rfl, Nat.le_of_ble_eq_true rfl, Nat.le_of_ble_eq_true rfl⟩ (Nat.le_of_ble_eq_true rfl) (fun _ _ hq => ct_raD _ _ hq) (fun h7 => ?_)
  refine si_aload_n 0 dX6_readLine_48 rfl rfl ?_
  refine si_sipush (v := 10024) dX6_readLine_49 (by decide) ?_
  refine si_cvV 7 [lvI ((10024 : Int32))] dX6_readLine_52 rfl mc_X6_take ml_X6_72 im_X6_take rfl se_X6_take (by decide) rfl ⟨Nat.le_of_ble_eq_true rfl, Nat.le_of_ble_eq_true rfl, Nat.le_of_ble_eq_true rfl, Nat.le_of_ble_eq_true rfl⟩ (Nat.le_of_ble_eq_true rfl) (fun _ _ hq => ct_X6_take _ _ hq) (fun h9 => ?_)
  refine si_aload_n 0 dX6_readLine_55 rfl rfl ?_
  refine si_sipush (v := 20000) dX6_readLine_56 (by decide) ?_
  refine si_iload_n 1 dX6_readLine_59 rfl rfl ?_
  refine si_iadd dX6_readLine_60 ?_
  refine si_cvV 7 [lvI ((20000 : Int32) + q3.1)] dX6_readLine_61 rfl mc_X6_write ml_X6_82 im_X6_write rfl se_X6_write (by decide) rfl ⟨Nat.le_of_ble_eq_true rfl, Nat.le_of_ble_eq_true rfl, Nat.le_of_ble_eq_true rfl, Nat.le_of_ble_eq_true rfl⟩ (Nat.le_of_ble_eq_true rfl) (fun _ _ hq => ct_X6_write _ _ hq) (fun h11 => ?_)
  refine si_aload_n 0 dX6_readLine_64 rfl rfl ?_
  refine si_dup dX6_readLine_65 (cat_rf _) ?_
  refine si_gI 7 5 fl_X6_32 dX6_readLine_66 (by decide) rfl (fun x13 => ?_)
  refine si_iconst (v := 1) dX6_readLine_69 (by decide) ?_
  refine si_iadd dX6_readLine_70 ?_
  refine si_pI 7 5 fl_X6_32 dX6_readLine_71 (by decide) rfl rfl rfl (fw_X6_32 _) (fun h14 => ?_)
  exact si_vret dX6_readLine_74 rfl (Nat.le_of_ble_eq_true rfl) (Nat.le_of_ble_eq_true rfl)
set_option maxHeartbeats 4000000 in
set_option maxRecDepth 100000 in
theorem s_X6_readLine {E : EV} (th : Nat) (h : HS) : Sim E mi_X6_readLine (fin oV) 0 0 0 (largs 0 [lvR (some th)]) [] h (m_X6_readLine th h) := by
  unfold m_X6_readLine
  refine si_aload_n 0 dX6_readLine_0 rfl rfl ?_
  refine si_gI 7 4 fl_X6_29 dX6_readLine_1 (by decide) rfl (fun x1 => ?_)
  refine si_sipush (v := 10020) dX6_readLine_4 (by decide) ?_
  refine si_icmp_ne 24 dX6_readLine_7 (by decide) ?_ ?_
  · refine si_aload_n 0 dX6_readLine_10 rfl rfl ?_
    refine si_gI 7 5 fl_X6_32 dX6_readLine_11 (by decide) rfl (fun x2 => ?_)
    refine si_bipush (v := 16) dX6_readLine_14 (by decide) ?_
    refine si_icmp_lt 24 dX6_readLine_16 (by decide) ?_ ?_
    · refine si_widen 0 0 (Nat.le_of_ble_eq_true rfl) (Nat.le_of_ble_eq_true rfl) ?_
      refine si_lo [(0, lvR (some th))] ⟨rfl, trivial⟩ ?_
      exact X6_readLine_b24_s th  _
    · refine si_aload_n 0 dX6_readLine_19 rfl rfl ?_
      refine si_iconst (v := 5) dX6_readLine_20 (by decide) ?_
      refine si_cvV 7 [lvI ((5 : Int32))] dX6_readLine_21 rfl mc_X6_mark ml_X6_68 im_X6_mark rfl se_X6_mark (by decide) rfl ⟨Nat.le_of_ble_eq_true rfl, Nat.le_of_ble_eq_true rfl, Nat.le_of_ble_eq_true rfl, Nat.le_of_ble_eq_true rfl⟩ (Nat.le_of_ble_eq_true rfl) (fun _ _ hq => ct_X6_mark _ _ hq) (fun h3 => ?_)
      refine si_widen 0 0 (Nat.le_of_ble_eq_true rfl) (Nat.le_of_ble_eq_true rfl) ?_
      refine si_lo [(0, lvR (some th))] ⟨rfl, trivial⟩ ?_
      exact X6_readLine_b24_s th  _
  · refine si_widen 0 0 (Nat.le_of_ble_eq_true rfl) (Nat.le_of_ble_eq_true rfl) ?_
    refine si_lo [(0, lvR (some th))] ⟨rfl, trivial⟩ ?_
    exact X6_readLine_b24_s th  _
theorem ct_X6_readLine (l : Launch) (G : GG) {th : Nat} {h : HS} {q : HS} (hq : m_X6_readLine th h = some q) : Ct l yX6_readLine mi_X6_readLine G [lvR (some th)] h (oV q) := Ct.of (out := oV) (by decide +kernel) rfl rfl (Nat.le_of_ble_eq_true rfl) hq (fun _ _ _ _ _ _ _ _ => s_X6_readLine th h)
set_option maxHeartbeats 4000000 in
set_option maxRecDepth 100000 in
theorem X6_read_b67_s {E : EV} (th : Nat)  (h : HS) : Sim E mi_X6_read (fin oI) 0 0 67 [(0, lvR (some th))] [] h (X6_read_b67 th  h) := by
  unfold X6_read_b67
  refine si_aload_n 0 dX6_read_67 rfl rfl ?_
  refine si_gI 7 6 fl_X6_35 dX6_read_68 (by decide) rfl (fun x1 => ?_)
  exact si_iret dX6_read_71 rfl (Nat.le_of_ble_eq_true rfl) (Nat.le_of_ble_eq_true rfl)
set_option maxHeartbeats 4000000 in
set_option maxRecDepth 100000 in
theorem X6_read_L34_s {E : EV} (th : Nat) (n : Nat) : ∀ (l2 : Int32) (h : HS), Sim E mi_X6_read (fin oI) 0 0 34 [(0, lvR (some th)), (2, lvI (l2))] [] h (X6_read_L34 th n l2 h) := by
  induction n with
  | zero => intro l2 h; exact si_none
  | succ n ih =>
    intro l2 h
    unfold X6_read_L34
    refine si_iload_n 2 dX6_read_34 rfl rfl ?_
    refine si_bipush (v := 16) dX6_read_35 (by decide) ?_
    refine si_icmp_gt 67 dX6_read_37 (by decide) ?_ ?_
    · refine si_widen 0 0 (Nat.le_of_ble_eq_true rfl) (Nat.le_of_ble_eq_true rfl) ?_
      refine si_lo [(0, lvR (some th))] ⟨rfl, trivial⟩ ?_
      exact X6_read_b67_s th  _
    · refine si_aload_n 0 dX6_read_40 rfl rfl ?_
      refine si_gI 7 6 fl_X6_35 dX6_read_41 (by decide) rfl (fun x1 => ?_)
      refine si_if_ne 67 dX6_read_44 (by decide) ?_ ?_
      · refine si_aload_n 0 dX6_read_47 rfl rfl ?_
        refine si_gI 7 4 fl_X6_29 dX6_read_48 (by decide) rfl (fun x2 => ?_)
        refine si_sipush (v := 10025) dX6_read_51 (by decide) ?_
        refine si_icmp_eq 67 dX6_read_54 (by decide) ?_ ?_
        · refine si_widen 0 0 (Nat.le_of_ble_eq_true rfl) (Nat.le_of_ble_eq_true rfl) ?_
          refine si_lo [(0, lvR (some th))] ⟨rfl, trivial⟩ ?_
          exact X6_read_b67_s th  _
        · refine si_aload_n 0 dX6_read_57 rfl rfl ?_
          refine si_cvV 7 [] dX6_read_58 rfl mc_X6_readLine ml_X6_45 im_X6_readLine rfl se_X6_readLine (by decide) rfl ⟨Nat.le_of_ble_eq_true rfl, Nat.le_of_ble_eq_true rfl, Nat.le_of_ble_eq_true rfl, Nat.le_of_ble_eq_true rfl⟩ (Nat.le_of_ble_eq_true rfl) (fun _ _ hq => ct_X6_readLine _ _ hq) (fun h3 => ?_)
          refine si_iinc 2 (1) dX6_read_61 rfl (by decide) (by decide) ?_
          refine si_goto 34 dX6_read_64 (by decide) ?_
          refine si_widen 0 0 (Nat.le_of_ble_eq_true rfl) (Nat.le_of_ble_eq_true rfl) ?_
          refine si_lo [(0, lvR (some th)), (2, lvI (l2 + (1)))] ⟨rfl, rfl, trivial⟩ ?_
          exact ih (l2 + (1)) _
      · refine si_widen 0 0 (Nat.le_of_ble_eq_true rfl) (Nat.le_of_ble_eq_true rfl) ?_
        refine si_lo [(0, lvR (some th))] ⟨rfl, trivial⟩ ?_
        exact X6_read_b67_s th  _
set_option maxHeartbeats 4000000 in
set_option maxRecDepth 100000 in
theorem s_X6_read {E : EV} (th : Nat) (a1 : Option Nat) (h : HS) : Sim E mi_X6_read (fin oI) 0 0 0 (largs 0 [lvR (some th), lvR a1]) [] h (m_X6_read th a1 h) := by
  unfold m_X6_read
  refine si_aload_n 0 dX6_read_0 rfl rfl ?_
  refine si_gR 7 0 fl_X6_12 dX6_read_1 (by decide) rfl (fun x1 => ?_)
  refine si_aload_n 1 dX6_read_4 rfl rfl ?_
  refine si_cvV 8 [lvR (a1)] dX6_read_5 rfl mc_X7_scan ml_X6_38 im_X7_scan rfl se_X7_scan (by decide) rfl ⟨Nat.le_of_ble_eq_true rfl, Nat.le_of_ble_eq_true rfl, Nat.le_of_ble_eq_true rfl, Nat.le_of_ble_eq_true rfl⟩ (Nat.le_of_ble_eq_true rfl) (fun _ _ hq => ct_X7_scan _ _ hq) (fun h2 => ?_)
  refine si_aload_n 0 dX6_read_8 rfl rfl ?_
  refine si_iconst (v := 0) dX6_read_9 (by decide) ?_
  refine si_pI 7 2 fl_X6_22 dX6_read_10 (by decide) rfl rfl rfl (fw_X6_22 _) (fun h4 => ?_)
  refine si_aload_n 0 dX6_read_13 rfl rfl ?_
  refine si_iconst (v := 0) dX6_read_14 (by decide) ?_
  refine si_pI 7 5 fl_X6_32 dX6_read_15 (by decide) rfl rfl rfl (fw_X6_32 _) (fun h5 => ?_)
  refine si_aload_n 0 dX6_read_18 rfl rfl ?_
  refine si_iconst (v := 0) dX6_read_19 (by decide) ?_
  refine si_pI 7 6 fl_X6_35 dX6_read_20 (by decide) rfl rfl rfl (fw_X6_35 _) (fun h6 => ?_)
  refine si_aload_n 0 dX6_read_23 rfl rfl ?_
  refine si_iconst (v := -1) dX6_read_24 (by decide) ?_
  refine si_pI 7 3 fl_X6_26 dX6_read_25 (by decide) rfl rfl rfl (fw_X6_26 _) (fun h7 => ?_)
  refine si_aload_n 0 dX6_read_28 rfl rfl ?_
  refine si_cvV 7 [] dX6_read_29 rfl mc_X6_goOn ml_X6_42 im_X6_goOn rfl se_X6_goOn (by decide) rfl ⟨Nat.le_of_ble_eq_true rfl, Nat.le_of_ble_eq_true rfl, Nat.le_of_ble_eq_true rfl, Nat.le_of_ble_eq_true rfl⟩ (Nat.le_of_ble_eq_true rfl) (fun _ _ hq => ct_X6_goOn _ _ hq) (fun h8 => ?_)
  refine si_iconst (v := 0) dX6_read_32 (by decide) ?_
  refine si_istore_n 2 dX6_read_33 rfl (by decide) ?_
  refine si_widen 0 0 (Nat.le_of_ble_eq_true rfl) (Nat.le_of_ble_eq_true rfl) ?_
  refine si_lo [(0, lvR (some th)), (2, lvI ((0 : Int32)))] ⟨rfl, rfl, trivial⟩ ?_
  exact X6_read_L34_s th FU ((0 : Int32)) _
theorem ct_X6_read (l : Launch) (G : GG) {th : Nat} {a1 : Option Nat} {h : HS} {q : Int32 × HS} (hq : m_X6_read th a1 h = some q) : Ct l yX6_read mi_X6_read G [lvR (some th), lvR a1] h (oI q) := Ct.of (out := oI) (by decide +kernel) rfl rfl (Nat.le_of_ble_eq_true rfl) hq (fun _ _ _ _ _ _ _ _ => s_X6_read th a1 h)
set_option maxHeartbeats 4000000 in
set_option maxRecDepth 100000 in
theorem s_X8_text {E : EV} (th : Nat) (h : HS) : Sim E mi_X8_text (fin oI) 0 0 0 (largs 0 [lvR (some th)]) [] h (m_X8_text th h) := by
  unfold m_X8_text
  refine si_aload_n 0 dX8_text_0 rfl rfl ?_
  refine si_gI 9 8 fl_X8_56 dX8_text_1 (by decide) rfl (fun x1 => ?_)
  refine si_bipush (v := 20) dX8_text_4 (by decide) ?_
  refine si_icmp_lt 18 dX8_text_6 (by decide) ?_ ?_
  · refine si_aload_n 0 dX8_text_18 rfl rfl ?_
    refine si_gR 9 4 fl_X8_32 dX8_text_19 (by decide) rfl (fun x2 => ?_)
    refine si_aload_n 0 dX8_text_22 rfl rfl ?_
    refine si_gR 9 3 fl_X8_25 dX8_text_23 (by decide) rfl (fun x3 => ?_)
    refine si_cvI 7 [lvR (x3)] dX8_text_26 rfl mc_X6_read ml_X8_179 im_X6_read rfl se_X6_read (by decide) rfl ⟨Nat.le_of_ble_eq_true rfl, Nat.le_of_ble_eq_true rfl, Nat.le_of_ble_eq_true rfl, Nat.le_of_ble_eq_true rfl⟩ (Nat.le_of_ble_eq_true rfl) (fun _ _ hq => ct_X6_read _ _ hq) (fun q4 => ?_)
    refine si_istore_n 1 dX8_text_29 rfl (by decide) ?_
    refine si_aload_n 0 dX8_text_30 rfl rfl ?_
    refine si_gR 9 3 fl_X8_25 dX8_text_31 (by decide) rfl (fun x6 => ?_)
    refine si_cvV 6 [] dX8_text_34 rfl mc_X5_clear ml_X8_176 im_X5_clear rfl se_X5_clear (by decide) rfl ⟨Nat.le_of_ble_eq_true rfl, Nat.le_of_ble_eq_true rfl, Nat.le_of_ble_eq_true rfl, Nat.le_of_ble_eq_true rfl⟩ (Nat.le_of_ble_eq_true rfl) (fun _ _ hq => ct_X5_clear _ _ hq) (fun h7 => ?_)
    refine si_iload_n 1 dX8_text_37 rfl rfl ?_
    refine si_if_ne 62 dX8_text_38 (by decide) ?_ ?_
    · refine si_aload_n 0 dX8_text_41 rfl rfl ?_
      refine si_aload_n 0 dX8_text_42 rfl rfl ?_
      refine si_gR 9 4 fl_X8_32 dX8_text_43 (by decide) rfl (fun x9 => ?_)
      refine si_cvR 7 [] dX8_text_46 rfl mc_X6_rateText ml_X8_183 im_X6_rateText rfl se_X6_rateText (by decide) rfl ⟨Nat.le_of_ble_eq_true rfl, Nat.le_of_ble_eq_true rfl, Nat.le_of_ble_eq_true rfl, Nat.le_of_ble_eq_true rfl⟩ (Nat.le_of_ble_eq_true rfl) (fun _ _ hq => ct_X6_rateText _ _ hq) (fun q10 => ?_)
      refine si_pR 9 7 fl_X8_52 dX8_text_49 (by decide) rfl (fw_X8_52 _) (fun h12 => ?_)
      refine si_aload_n 0 dX8_text_52 rfl rfl ?_
      refine si_dup dX8_text_53 (cat_rf _) ?_
      refine si_gI 9 8 fl_X8_56 dX8_text_54 (by decide) rfl (fun x13 => ?_)
      refine si_iconst (v := 1) dX8_text_57 (by decide) ?_
      refine si_iadd dX8_text_58 ?_
      refine si_pI 9 8 fl_X8_56 dX8_text_59 (by decide) rfl rfl rfl (fw_X8_56 _) (fun h14 => ?_)
      refine si_iload_n 1 dX8_text_62 rfl rfl ?_
      exact si_iret dX8_text_63 rfl (Nat.le_of_ble_eq_true rfl) (Nat.le_of_ble_eq_true rfl)
    · refine si_iload_n 1 dX8_text_62 rfl rfl ?_
      exact si_iret dX8_text_63 rfl (Nat.le_of_ble_eq_true rfl) (Nat.le_of_ble_eq_true rfl)
  · refine si_aload_n 0 dX8_text_9 rfl rfl ?_
    refine si_gR 9 3 fl_X8_25 dX8_text_10 (by decide) rfl (fun x15 => ?_)
    refine si_cvV 6 [] dX8_text_13 rfl mc_X5_clear ml_X8_176 im_X5_clear rfl se_X5_clear (by decide) rfl ⟨Nat.le_of_ble_eq_true rfl, Nat.le_of_ble_eq_true rfl, Nat.le_of_ble_eq_true rfl, Nat.le_of_ble_eq_true rfl⟩ (Nat.le_of_ble_eq_true rfl) (fun _ _ hq => ct_X5_clear _ _ hq) (fun h16 => ?_)
    refine si_iconst (v := -1) dX8_text_16 (by decide) ?_
    exact si_iret dX8_text_17 rfl (Nat.le_of_ble_eq_true rfl) (Nat.le_of_ble_eq_true rfl)
theorem ct_X8_text (l : Launch) (G : GG) {th : Nat} {h : HS} {q : Int32 × HS} (hq : m_X8_text th h = some q) : Ct l yX8_text mi_X8_text G [lvR (some th)] h (oI q) := Ct.of (out := oI) (by decide +kernel) rfl rfl (Nat.le_of_ble_eq_true rfl) hq (fun _ _ _ _ _ _ _ _ => s_X8_text th h)
