abbrev mi_X6_readPart (d : Nat) : MI := (cX6_readPart, 4, RX6, none, 4 * d + 2, 0, 0, "readPart")
abbrev mi_X6_readSum (d : Nat) : MI := (cX6_readSum, 4, RX6, none, 4 * d + 3, 0, 0, "readSum")
abbrev mi_X6_readTest (d : Nat) : MI := (cX6_readTest, 3, RX6, none, 4 * d + 4, 0, 0, "readTest")
abbrev mi_X6_readAnds (d : Nat) : MI := (cX6_readAnds, 3, RX6, none, 4 * d + 1, 0, 0, "readAnds")
abbrev mi_X6_readLine : MI := (cX6_readLine, 2, RX6, none, 26, 0, 0, "readLine")
abbrev mi_X6_read : MI := (cX6_read, 3, RX6, some .int, 27, 0, 0, "read")
abbrev mi_X8_text : MI := (cX8_text, 2, RX8, some .int, 28, 2, 602, "text")
theorem mc_X6_readAnds0 : Cond.code yX6_readAnds cX6_readAnds 3 (none) ∈ TBL := (tbl_in 680 (by decide +kernel) (by decide +kernel))
theorem mc_X6_readAnds (d : Nat) : MC yX6_readAnds (mi_X6_readAnds d) 1 := ⟨mc_X6_readAnds0, (tbl_in 6 (by decide +kernel) (by decide +kernel)), ⟨by decide +kernel, by decide +kernel⟩, by decide +kernel⟩
theorem im_X6_readAnds : Cond.instanceMethod yX6_readAnds ∈ TBL := (tbl_in 679 (by decide +kernel) (by decide +kernel))
theorem se_X6_readAnds : Cond.selects RX6 yX6_readAnds yX6_readAnds ∈ TBL := sel_in (q := (yX6_readAnds, 7)) 43 (by decide +kernel) (by decide +kernel)
theorem ml_X6_79 : ML RX6 79 yX6_readAnds := Or.inl (tbl_in 677 (by decide +kernel) (by decide +kernel))
theorem mc_X6_write : MC yX6_write mi_X6_write 1 := ⟨(tbl_in 696 (by decide +kernel) (by decide +kernel)), (tbl_in 6 (by decide +kernel) (by decide +kernel)), ⟨by decide +kernel, by decide +kernel⟩, by decide +kernel⟩
theorem im_X6_write : Cond.instanceMethod yX6_write ∈ TBL := (tbl_in 695 (by decide +kernel) (by decide +kernel))
theorem se_X6_write : Cond.selects RX6 yX6_write yX6_write ∈ TBL := sel_in (q := (yX6_write, 7)) 47 (by decide +kernel) (by decide +kernel)
theorem ml_X6_82 : ML RX6 82 yX6_write := Or.inl (tbl_in 693 (by decide +kernel) (by decide +kernel))
theorem mc_X6_readPart0 : Cond.code yX6_readPart cX6_readPart 4 (none) ∈ TBL := (tbl_in 692 (by decide +kernel) (by decide +kernel))
theorem mc_X6_readPart (d : Nat) : MC yX6_readPart (mi_X6_readPart d) 1 := ⟨mc_X6_readPart0, (tbl_in 6 (by decide +kernel) (by decide +kernel)), ⟨by decide +kernel, by decide +kernel⟩, by decide +kernel⟩
theorem im_X6_readPart : Cond.instanceMethod yX6_readPart ∈ TBL := (tbl_in 691 (by decide +kernel) (by decide +kernel))
theorem se_X6_readPart : Cond.selects RX6 yX6_readPart yX6_readPart ∈ TBL := sel_in (q := (yX6_readPart, 7)) 46 (by decide +kernel) (by decide +kernel)
theorem ml_X6_95 : ML RX6 95 yX6_readPart := Or.inl (tbl_in 689 (by decide +kernel) (by decide +kernel))
theorem mc_X6_readSum0 : Cond.code yX6_readSum cX6_readSum 4 (none) ∈ TBL := (tbl_in 688 (by decide +kernel) (by decide +kernel))
theorem mc_X6_readSum (d : Nat) : MC yX6_readSum (mi_X6_readSum d) 1 := ⟨mc_X6_readSum0, (tbl_in 6 (by decide +kernel) (by decide +kernel)), ⟨by decide +kernel, by decide +kernel⟩, by decide +kernel⟩
theorem im_X6_readSum : Cond.instanceMethod yX6_readSum ∈ TBL := (tbl_in 687 (by decide +kernel) (by decide +kernel))
theorem se_X6_readSum : Cond.selects RX6 yX6_readSum yX6_readSum ∈ TBL := sel_in (q := (yX6_readSum, 7)) 45 (by decide +kernel) (by decide +kernel)
theorem ml_X6_92 : ML RX6 92 yX6_readSum := Or.inl (tbl_in 685 (by decide +kernel) (by decide +kernel))
theorem mc_X6_readTest0 : Cond.code yX6_readTest cX6_readTest 3 (none) ∈ TBL := (tbl_in 684 (by decide +kernel) (by decide +kernel))
theorem mc_X6_readTest (d : Nat) : MC yX6_readTest (mi_X6_readTest d) 1 := ⟨mc_X6_readTest0, (tbl_in 6 (by decide +kernel) (by decide +kernel)), ⟨by decide +kernel, by decide +kernel⟩, by decide +kernel⟩
theorem im_X6_readTest : Cond.instanceMethod yX6_readTest ∈ TBL := (tbl_in 683 (by decide +kernel) (by decide +kernel))
theorem se_X6_readTest : Cond.selects RX6 yX6_readTest yX6_readTest ∈ TBL := sel_in (q := (yX6_readTest, 7)) 44 (by decide +kernel) (by decide +kernel)
theorem ml_X6_89 : ML RX6 89 yX6_readTest := Or.inl (tbl_in 681 (by decide +kernel) (by decide +kernel))
theorem mc_X6_take : MC yX6_take mi_X6_take 1 := ⟨(tbl_in 671 (by decide +kernel) (by decide +kernel)), (tbl_in 6 (by decide +kernel) (by decide +kernel)), ⟨by decide +kernel, by decide +kernel⟩, by decide +kernel⟩
theorem im_X6_take : Cond.instanceMethod yX6_take ∈ TBL := (tbl_in 670 (by decide +kernel) (by decide +kernel))
theorem se_X6_take : Cond.selects RX6 yX6_take yX6_take ∈ TBL := sel_in (q := (yX6_take, 7)) 41 (by decide +kernel) (by decide +kernel)
theorem ml_X6_72 : ML RX6 72 yX6_take := Or.inl (tbl_in 668 (by decide +kernel) (by decide +kernel))
theorem mc_X6_takeRate : MC yX6_takeRate mi_X6_takeRate 0 := ⟨(tbl_in 675 (by decide +kernel) (by decide +kernel)), (tbl_in 6 (by decide +kernel) (by decide +kernel)), ⟨by decide +kernel, by decide +kernel⟩, by decide +kernel⟩
theorem im_X6_takeRate : Cond.instanceMethod yX6_takeRate ∈ TBL := (tbl_in 674 (by decide +kernel) (by decide +kernel))
theorem se_X6_takeRate : Cond.selects RX6 yX6_takeRate yX6_takeRate ∈ TBL := sel_in (q := (yX6_takeRate, 7)) 42 (by decide +kernel) (by decide +kernel)
theorem ml_X6_75 : ML RX6 75 yX6_takeRate := Or.inl (tbl_in 672 (by decide +kernel) (by decide +kernel))
theorem mc_X7_scan : MC yX7_scan mi_X7_scan 1 := ⟨(tbl_in 569 (by decide +kernel) (by decide +kernel)), (tbl_in 7 (by decide +kernel) (by decide +kernel)), ⟨by decide +kernel, by decide +kernel⟩, by decide +kernel⟩
theorem im_X7_scan : Cond.instanceMethod yX7_scan ∈ TBL := (tbl_in 568 (by decide +kernel) (by decide +kernel))
theorem se_X7_scan : Cond.selects RX7 yX7_scan yX7_scan ∈ TBL := sel_in (q := (yX7_scan, 3)) 33 (by decide +kernel) (by decide +kernel)
theorem ml_X6_38 : ML RX6 38 yX7_scan := Or.inr ⟨"PanelHouse", (nst_in 566 (by decide +kernel) (by decide +kernel))⟩
theorem mc_X6_readLine : MC yX6_readLine mi_X6_readLine 0 := ⟨(tbl_in 663 (by decide +kernel) (by decide +kernel)), (tbl_in 6 (by decide +kernel) (by decide +kernel)), ⟨by decide +kernel, by decide +kernel⟩, by decide +kernel⟩
theorem im_X6_readLine : Cond.instanceMethod yX6_readLine ∈ TBL := (tbl_in 662 (by decide +kernel) (by decide +kernel))
theorem se_X6_readLine : Cond.selects RX6 yX6_readLine yX6_readLine ∈ TBL := sel_in (q := (yX6_readLine, 7)) 39 (by decide +kernel) (by decide +kernel)
theorem ml_X6_45 : ML RX6 45 yX6_readLine := Or.inl (tbl_in 660 (by decide +kernel) (by decide +kernel))
theorem mc_X6_read : MC yX6_read mi_X6_read 1 := ⟨(tbl_in 565 (by decide +kernel) (by decide +kernel)), (tbl_in 6 (by decide +kernel) (by decide +kernel)), ⟨by decide +kernel, by decide +kernel⟩, by decide +kernel⟩
theorem im_X6_read : Cond.instanceMethod yX6_read ∈ TBL := (tbl_in 564 (by decide +kernel) (by decide +kernel))
theorem se_X6_read : Cond.selects RX6 yX6_read yX6_read ∈ TBL := sel_in (q := (yX6_read, 7)) 32 (by decide +kernel) (by decide +kernel)
theorem ml_X8_179 : ML RX8 179 yX6_read := Or.inr ⟨"PanelHouse", (nst_in 562 (by decide +kernel) (by decide +kernel))⟩
theorem mc_X5_clear : MC yX5_clear mi_X5_clear 0 := ⟨(tbl_in 561 (by decide +kernel) (by decide +kernel)), (tbl_in 5 (by decide +kernel) (by decide +kernel)), ⟨by decide +kernel, by decide +kernel⟩, by decide +kernel⟩
theorem im_X5_clear : Cond.instanceMethod yX5_clear ∈ TBL := (tbl_in 560 (by decide +kernel) (by decide +kernel))
theorem se_X5_clear : Cond.selects RX5 yX5_clear yX5_clear ∈ TBL := sel_in (q := (yX5_clear, 2)) 31 (by decide +kernel) (by decide +kernel)
theorem ml_X8_176 : ML RX8 176 yX5_clear := Or.inr ⟨"PanelHouse", (nst_in 558 (by decide +kernel) (by decide +kernel))⟩
theorem mc_X6_rateText : MC yX6_rateText mi_X6_rateText 0 := ⟨(tbl_in 700 (by decide +kernel) (by decide +kernel)), (tbl_in 6 (by decide +kernel) (by decide +kernel)), ⟨by decide +kernel, by decide +kernel⟩, by decide +kernel⟩
theorem im_X6_rateText : Cond.instanceMethod yX6_rateText ∈ TBL := (tbl_in 699 (by decide +kernel) (by decide +kernel))
theorem se_X6_rateText : Cond.selects RX6 yX6_rateText yX6_rateText ∈ TBL := sel_in (q := (yX6_rateText, 7)) 48 (by decide +kernel) (by decide +kernel)
theorem ml_X8_183 : ML RX8 183 yX6_rateText := Or.inr ⟨"PanelHouse", (nst_in 697 (by decide +kernel) (by decide +kernel))⟩
