theorem mw_L_7 : Cond.methodLink RL 7 yX8_right ∈ TBL := (tbl_in 764 (by decide +kernel) (by decide +kernel))
abbrev mi_L_right : MI := (cL_right, 6, RL, some .int, 7, 1, 6, "right")
def m_L_right (a1 : Option Nat) (a2 : Int32) (a3 : Int32) (a4 : Int32) (a5 : Option Nat) (h : HS) : Option (Int32 × HS) := (vc h a1 9 (fun b => m_X8_right b a2 a3 a4 h)).bind fun q => oM q.1 (fun v => (yL q.2 a5 0 v.toInt64).bind fun h1 => some (0, h1)) (some (1, q.2))
set_option maxHeartbeats 4000000 in
theorem s_L_right {E : EV} (hw : EW [(0, 12, 15, 13)] E) (hl0 : (lE E).stackTraces = false) (a1 : Option Nat) (a2 : Int32) (a3 : Int32) (a4 : Int32) (a5 : Option Nat) (h : HS) : Sim E mi_L_right finZ 0 0 0 (largs 0 [lvR a1, lvI a2, lvI a3, lvI a4, lvR a5]) [] h (m_L_right a1 a2 a3 a4 a5 h) := by
  unfold m_L_right
  refine si_aload 4 dL_right_0 rfl ?_
  refine si_iconst (v := 0) dL_right_2 (by decide) ?_
  refine si_aload_n 0 dL_right_3 rfl rfl ?_
  refine si_iload_n 1 dL_right_4 rfl rfl ?_
  refine si_iload_n 2 dL_right_5 rfl rfl ?_
  refine si_iload_n 3 dL_right_6 rfl rfl ?_
  refine sw_cv (kS := fun v h1 => (yL h1 a5 0 v.toInt64).bind fun h2 => some (0, h2)) (kN := fun h1 => some (1, h1)) hw rfl (by decide) 9 [lvI a2, lvI a3, lvI a4] dL_right_7 rfl mc_X8_right mw_L_7 im_X8_right rfl se_X8_right (by decide) rfl ⟨(Nat.le_of_ble_eq_true rfl), (Nat.le_of_ble_eq_true rfl), (Nat.le_of_ble_eq_true rfl), (Nat.le_of_ble_eq_true rfl)⟩ (Nat.le_of_ble_eq_true rfl) (fun _ _ hq => ct_X8_right _ _ hl0 hq) (fun v h1 => ?_) (fun h1 k q9 hk => ?_)
  · refine si_i2l dL_right_10 ?_
    refine si_lsr dL_right_11 (fun h2 => ?_)
    refine si_goto 19 dL_right_12 (by decide) ?_
    refine si_iconst (v := 0) dL_right_19 (by decide) ?_
    exact sw_ret (h := h2) (Nat.le_refl (sz h2)) dL_right_20 rfl (Nat.le_of_ble_eq_true rfl) (Nat.le_of_ble_eq_true rfl)
  · refine si_astore 5 dL_right_15 (by decide) ?_
    refine si_iconst (v := 1) dL_right_17 (by decide) ?_
    exact sw_ret hk dL_right_18 rfl (Nat.le_of_ble_eq_true rfl) (Nat.le_of_ble_eq_true rfl)
theorem ct_L_right (l : Launch) (G : GG) (hl0 : l.stackTraces = false) {a1 : Option Nat} {a2 : Int32} {a3 : Int32} {a4 : Int32} {a5 : Option Nat} {h : HS} {q : Int32 × HS} (hq : m_L_right a1 a2 a3 a4 a5 h = some q) : CtW l yL_right mi_L_right [(0, 12, 15, 13)] G [lvR a1, lvI a2, lvI a3, lvI a4, lvR a5] h q := CtW.of (by decide +kernel) rfl rfl (Nat.le_of_ble_eq_true rfl) hq (fun _ _ _ _ _ _ _ _ hw => s_L_right hw hl0 a1 a2 a3 a4 a5 h)
theorem mw_L_15 : Cond.methodLink RL 15 yX8_look ∈ TBL := (tbl_in 836 (by decide +kernel) (by decide +kernel))
abbrev mi_L_look : MI := (cL_look, 5, RL, some .int, 7, 1, 6, "look")
def m_L_look (a1 : Option Nat) (a2 : Int32) (a3 : Int32) (a4 : Option Nat) (h : HS) : Option (Int32 × HS) := (vc h a1 9 (fun b => m_X8_look b a2 a3 h)).bind fun q => oM q.1 (fun v => (yL q.2 a4 0 v.toInt64).bind fun h1 => some (0, h1)) (some (1, q.2))
set_option maxHeartbeats 4000000 in
theorem s_L_look {E : EV} (hw : EW [(0, 10, 13, 13)] E) (hl0 : (lE E).stackTraces = false) (a1 : Option Nat) (a2 : Int32) (a3 : Int32) (a4 : Option Nat) (h : HS) : Sim E mi_L_look finZ 0 0 0 (largs 0 [lvR a1, lvI a2, lvI a3, lvR a4]) [] h (m_L_look a1 a2 a3 a4 h) := by
  unfold m_L_look
  refine si_aload_n 3 dL_look_0 rfl rfl ?_
  refine si_iconst (v := 0) dL_look_1 (by decide) ?_
  refine si_aload_n 0 dL_look_2 rfl rfl ?_
  refine si_iload_n 1 dL_look_3 rfl rfl ?_
  refine si_iload_n 2 dL_look_4 rfl rfl ?_
  refine sw_cv (kS := fun v h1 => (yL h1 a4 0 v.toInt64).bind fun h2 => some (0, h2)) (kN := fun h1 => some (1, h1)) hw rfl (by decide) 9 [lvI a2, lvI a3] dL_look_5 rfl mc_X8_look mw_L_15 im_X8_look rfl se_X8_look (by decide) rfl ⟨(Nat.le_of_ble_eq_true rfl), (Nat.le_of_ble_eq_true rfl), (Nat.le_of_ble_eq_true rfl), (Nat.le_of_ble_eq_true rfl)⟩ (Nat.le_of_ble_eq_true rfl) (fun _ _ hq => ct_X8_look _ _ hl0 hq) (fun v h1 => ?_) (fun h1 k q9 hk => ?_)
  · refine si_i2l dL_look_8 ?_
    refine si_lsr dL_look_9 (fun h2 => ?_)
    refine si_goto 17 dL_look_10 (by decide) ?_
    refine si_iconst (v := 0) dL_look_17 (by decide) ?_
    exact sw_ret (h := h2) (Nat.le_refl (sz h2)) dL_look_18 rfl (Nat.le_of_ble_eq_true rfl) (Nat.le_of_ble_eq_true rfl)
  · refine si_astore 4 dL_look_13 (by decide) ?_
    refine si_iconst (v := 1) dL_look_15 (by decide) ?_
    exact sw_ret hk dL_look_16 rfl (Nat.le_of_ble_eq_true rfl) (Nat.le_of_ble_eq_true rfl)
theorem ct_L_look (l : Launch) (G : GG) (hl0 : l.stackTraces = false) {a1 : Option Nat} {a2 : Int32} {a3 : Int32} {a4 : Option Nat} {h : HS} {q : Int32 × HS} (hq : m_L_look a1 a2 a3 a4 h = some q) : CtW l yL_look mi_L_look [(0, 10, 13, 13)] G [lvR a1, lvI a2, lvI a3, lvR a4] h q := CtW.of (by decide +kernel) rfl rfl (Nat.le_of_ble_eq_true rfl) hq (fun _ _ _ _ _ _ _ _ hw => s_L_look hw hl0 a1 a2 a3 a4 h)
theorem mw_L_19 : Cond.methodLink RL 19 yX8_income ∈ TBL := (tbl_in 855 (by decide +kernel) (by decide +kernel))
abbrev mi_L_income : MI := (cL_income, 4, RL, some .int, 7, 1, 6, "income")
def m_L_income (a1 : Option Nat) (a2 : Int32) (a3 : Option Nat) (h : HS) : Option (Int32 × HS) := (vc h a1 9 (fun b => m_X8_income b a2 h)).bind fun q => oM q.1 (fun v => (yL q.2 a3 0 v.toInt64).bind fun h1 => some (0, h1)) (some (1, q.2))
set_option maxHeartbeats 4000000 in
theorem s_L_income {E : EV} (hw : EW [(0, 9, 12, 13)] E) (hl0 : (lE E).stackTraces = false) (a1 : Option Nat) (a2 : Int32) (a3 : Option Nat) (h : HS) : Sim E mi_L_income finZ 0 0 0 (largs 0 [lvR a1, lvI a2, lvR a3]) [] h (m_L_income a1 a2 a3 h) := by
  unfold m_L_income
  refine si_aload_n 2 dL_income_0 rfl rfl ?_
  refine si_iconst (v := 0) dL_income_1 (by decide) ?_
  refine si_aload_n 0 dL_income_2 rfl rfl ?_
  refine si_iload_n 1 dL_income_3 rfl rfl ?_
  refine sw_cv (kS := fun v h1 => (yL h1 a3 0 v.toInt64).bind fun h2 => some (0, h2)) (kN := fun h1 => some (1, h1)) hw rfl (by decide) 9 [lvI a2] dL_income_4 rfl mc_X8_income mw_L_19 im_X8_income rfl se_X8_income (by decide) rfl ⟨(Nat.le_of_ble_eq_true rfl), (Nat.le_of_ble_eq_true rfl), (Nat.le_of_ble_eq_true rfl), (Nat.le_of_ble_eq_true rfl)⟩ (Nat.le_of_ble_eq_true rfl) (fun _ _ hq => ct_X8_income _ _ hl0 hq) (fun v h1 => ?_) (fun h1 k q9 hk => ?_)
  · refine si_i2l dL_income_7 ?_
    refine si_lsr dL_income_8 (fun h2 => ?_)
    refine si_goto 15 dL_income_9 (by decide) ?_
    refine si_iconst (v := 0) dL_income_15 (by decide) ?_
    exact sw_ret (h := h2) (Nat.le_refl (sz h2)) dL_income_16 rfl (Nat.le_of_ble_eq_true rfl) (Nat.le_of_ble_eq_true rfl)
  · refine si_astore_n 3 dL_income_12 rfl (by decide) ?_
    refine si_iconst (v := 1) dL_income_13 (by decide) ?_
    exact sw_ret hk dL_income_14 rfl (Nat.le_of_ble_eq_true rfl) (Nat.le_of_ble_eq_true rfl)
theorem ct_L_income (l : Launch) (G : GG) (hl0 : l.stackTraces = false) {a1 : Option Nat} {a2 : Int32} {a3 : Option Nat} {h : HS} {q : Int32 × HS} (hq : m_L_income a1 a2 a3 h = some q) : CtW l yL_income mi_L_income [(0, 9, 12, 13)] G [lvR a1, lvI a2, lvR a3] h q := CtW.of (by decide +kernel) rfl rfl (Nat.le_of_ble_eq_true rfl) hq (fun _ _ _ _ _ _ _ _ hw => s_L_income hw hl0 a1 a2 a3 h)
