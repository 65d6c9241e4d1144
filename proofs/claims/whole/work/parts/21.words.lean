abbrev mi_X8_isWithin : MI := (cX8_isWithin, 3, RX8, some .boolean, 1, 0, 0, "isWithin")
abbrev mi_X0_runsIn : MI := (cX0_runsIn, 2, RX0, some .boolean, 1, 0, 0, "runsIn")
abbrev mi_X0_weeksRunIn : MI := (cX0_weeksRunIn, 4, RX0, some .int, 2, 0, 0, "weeksRunIn")
abbrev mi_X0_receive : MI := (cX0_receive, 2, RX0, none, 1, 0, 0, "receive")
abbrev mi_X0_isThere : MI := (cX0_isThere, 2, RX0, some .boolean, 1, 0, 0, "isThere")
abbrev mi_X0_print : MI := (cX0_print, 4, RX0, none, 2, 0, 0, "print")
abbrev mi_X0_printedIn : MI := (cX0_printedIn, 2, RX0, some .int, 2, 0, 0, "printedIn")
abbrev mi_X0_nextPanel : MI := (cX0_nextPanel, 1, RX0, some .int, 1, 0, 0, "nextPanel")
abbrev mi_X0_gap : MI := (cX0_gap, 1, RX0, some .int, 1, 0, 0, "gap")
abbrev mi_X0_missing : MI := (cX0_missing, 3, RX0, some .int, 2, 0, 0, "missing")
theorem fl_X0_46 : LF RX0 46 1 2 := ⟨_, "PanelHouse$Contract", rfl, by decide, Or.inl rfl, Or.inl (tbl_in 398 (by decide +kernel) (by decide +kernel))⟩
theorem fl_X0_9 : LF RX0 9 1 3 := ⟨_, "PanelHouse$Contract", rfl, by decide, Or.inl rfl, Or.inl (tbl_in 400 (by decide +kernel) (by decide +kernel))⟩
theorem mc_X0_runsIn : MC yX0_runsIn mi_X0_runsIn 1 := ⟨(tbl_in 381 (by decide +kernel) (by decide +kernel)), (tbl_in 23 (by decide +kernel) (by decide +kernel)), ⟨by decide +kernel, by decide +kernel⟩, by decide +kernel⟩
theorem im_X0_runsIn : Cond.instanceMethod yX0_runsIn ∈ TBL := (tbl_in 379 (by decide +kernel) (by decide +kernel))
theorem se_X0_runsIn : Cond.selects RX0 yX0_runsIn yX0_runsIn ∈ TBL := sel_in (q := (yX0_runsIn, 11)) 8 (by decide +kernel) (by decide +kernel)
theorem ml_X0_49 : ML RX0 49 yX0_runsIn := Or.inl (tbl_in 507 (by decide +kernel) (by decide +kernel))
theorem fl_X0_42 : LF RX0 42 1 1 := ⟨_, "PanelHouse$Contract", rfl, by decide, Or.inl rfl, Or.inl (tbl_in 396 (by decide +kernel) (by decide +kernel))⟩
theorem fl_X0_53 : LF RX0 53 2 7 := ⟨_, "PanelHouse$Feature", rfl, by decide, Or.inl rfl, Or.inr ⟨"PanelHouse", (nst_in 220 (by decide +kernel) (by decide +kernel))⟩⟩
theorem fl_X0_21 : LF RX0 21 1 6 := ⟨_, "PanelHouse$Contract", rfl, by decide, Or.inl rfl, Or.inl (tbl_in 405 (by decide +kernel) (by decide +kernel))⟩
theorem fl_X0_30 : LF RX0 30 1 9 := ⟨_, "PanelHouse$Contract", rfl, by decide, Or.inl rfl, Or.inl (tbl_in 410 (by decide +kernel) (by decide +kernel))⟩
theorem fl_X0_59 : LF RX0 59 2 6 := ⟨_, "PanelHouse$Feature", rfl, by decide, Or.inl rfl, Or.inr ⟨"PanelHouse", (nst_in 217 (by decide +kernel) (by decide +kernel))⟩⟩
theorem fl_X0_18 : LF RX0 18 1 5 := ⟨_, "PanelHouse$Contract", rfl, by decide, Or.inl rfl, Or.inl (tbl_in 404 (by decide +kernel) (by decide +kernel))⟩
theorem fw_X0_18 (nm : String) : FW RX0 nm 18 1 5 := fun r hr => by cases hr; exact Or.inl rfl
theorem fl_X0_15 : LF RX0 15 1 4 := ⟨_, "PanelHouse$Contract", rfl, by decide, Or.inl rfl, Or.inl (tbl_in 402 (by decide +kernel) (by decide +kernel))⟩
theorem fw_X0_21 (nm : String) : FW RX0 nm 21 1 6 := fun r hr => by cases hr; exact Or.inl rfl
theorem fl_X0_24 : LF RX0 24 1 7 := ⟨_, "PanelHouse$Contract", rfl, by decide, Or.inl rfl, Or.inl (tbl_in 406 (by decide +kernel) (by decide +kernel))⟩
theorem mc_X0_isThere : MC yX0_isThere mi_X0_isThere 1 := ⟨(tbl_in 488 (by decide +kernel) (by decide +kernel)), (tbl_in 23 (by decide +kernel) (by decide +kernel)), ⟨by decide +kernel, by decide +kernel⟩, by decide +kernel⟩
theorem im_X0_isThere : Cond.instanceMethod yX0_isThere ∈ TBL := (tbl_in 487 (by decide +kernel) (by decide +kernel))
theorem se_X0_isThere : Cond.selects RX0 yX0_isThere yX0_isThere ∈ TBL := sel_in (q := (yX0_isThere, 11)) 17 (by decide +kernel) (by decide +kernel)
theorem ml_X0_62 : ML RX0 62 yX0_isThere := Or.inl (tbl_in 485 (by decide +kernel) (by decide +kernel))
theorem fw_X0_24 (nm : String) : FW RX0 nm 24 1 7 := fun r hr => by cases hr; exact Or.inl rfl
theorem fl_X0_34 : LF RX0 34 1 10 := ⟨_, "PanelHouse$Contract", rfl, by decide, Or.inl rfl, Or.inl (tbl_in 411 (by decide +kernel) (by decide +kernel))⟩
theorem mc_X8_isWithin : MC yX8_isWithin mi_X8_isWithin 3 := ⟨(tbl_in 194 (by decide +kernel) (by decide +kernel)), (tbl_in 1 (by decide +kernel) (by decide +kernel)), ⟨by decide +kernel, by decide +kernel⟩, by decide +kernel⟩
theorem st_X8_isWithin : Cond.static yX8_isWithin ∈ TBL := (tbl_in 193 (by decide +kernel) (by decide +kernel))
theorem ml_X0_65 : ML RX0 65 yX8_isWithin := Or.inr ⟨"PanelHouse", (nst_in 489 (by decide +kernel) (by decide +kernel))⟩
