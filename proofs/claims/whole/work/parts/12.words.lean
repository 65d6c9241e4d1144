theorem nst_on {w : Cond} (hw : nestWord w = true) : w.onTables = true := by
  cases w <;> first | rfl | (simp [nestWord] at hw)
theorem tbl_in {w : Cond} (i : Nat) (h : tables_1[i]? = some w) (g : goodWord w = true) : w ∈ TBL := List.mem_filter.mpr ⟨List.mem_append_right _ (List.mem_of_getElem? h), g⟩
theorem nst_in {w : Cond} (i : Nat) (h : tables_1[i]? = some w) (g : nestWord w = true) : w ∈ NST := List.mem_filter.mpr ⟨List.mem_of_getElem? h, g⟩
theorem tbl_ws {ws : List Cond} (ps : List Nat) (hp : ws = ps.filterMap (fun i => tables_1[i]?)) (hg : ws.all goodWord = true) : ∀ w ∈ ws, w ∈ TBL := by
  intro w hw
  have h1 := List.all_eq_true.mp hg w hw
  rw [hp] at hw
  obtain ⟨i, -, hi⟩ := List.mem_filterMap.mp hw
  exact tbl_in i hi h1
theorem inT0 : ∀ w ∈ u_ws RJx4a65c TJx4a65c 3, w ∈ TBL := tbl_ws [58, 54, 56] (by decide +kernel) (by decide +kernel)
theorem inT1 : ∀ w ∈ u_ws RX0 TX0 11, w ∈ TBL := tbl_ws [412, 414, 416, 418, 420, 422, 424, 426, 428, 430, 432] (by decide +kernel) (by decide +kernel)
theorem inT2 : ∀ w ∈ u_ws RX1 TX1 9, w ∈ TBL := tbl_ws [224, 226, 228, 230, 232, 234, 236, 238, 240] (by decide +kernel) (by decide +kernel)
theorem inT3 : ∀ w ∈ u_ws RX2 TX2 4, w ∈ TBL := tbl_ws [324, 326, 328, 330] (by decide +kernel) (by decide +kernel)
theorem inT4 : ∀ w ∈ u_ws RX3 TX3 2, w ∈ TBL := tbl_ws [152, 154] (by decide +kernel) (by decide +kernel)
theorem inT5 : ∀ w ∈ u_ws RX4 TX4 3, w ∈ TBL := tbl_ws [134, 136, 138] (by decide +kernel) (by decide +kernel)
theorem inT6 : ∀ w ∈ u_ws RX5 TX5 2, w ∈ TBL := tbl_ws [71, 73] (by decide +kernel) (by decide +kernel)
theorem inT7 : ∀ w ∈ u_ws RX6 TX6 7, w ∈ TBL := tbl_ws [110, 112, 114, 116, 118, 120, 122] (by decide +kernel) (by decide +kernel)
theorem inT8 : ∀ w ∈ u_ws RX7 TX7 3, w ∈ TBL := tbl_ws [95, 97, 99] (by decide +kernel) (by decide +kernel)
theorem inT9 : ∀ w ∈ u_ws RX8 TX8 10, w ∈ TBL := tbl_ws [167, 169, 171, 173, 175, 177, 179, 181, 183, 185] (by decide +kernel) (by decide +kernel)
theorem inT10 : ∀ w ∈ u_ws RX9 TX9 54, w ∈ TBL := tbl_ws [939, 941, 943, 945, 947, 949, 951, 953, 955, 957, 959, 961, 963, 965, 967, 969, 971, 973, 975, 977, 979, 981, 983, 985, 987, 989, 991, 993, 995, 997, 999, 1001, 1003, 1005, 1007, 1009, 1011, 1013, 1015, 1017, 1019, 1021, 1023, 1025, 1027, 1029, 1031, 1033, 1035, 1037, 1039, 1041, 1043, 1045] (by decide +kernel) (by decide +kernel)
theorem inT (cn : Nat) (r : vw_C) (hr : vwCl[cn]? = some r) : ∀ w ∈ u_ws r.1 r.2.1 r.2.2, w ∈ TBL := by
  match cn, hr with
  | 0, hr => cases hr; exact inT0
  | 1, hr => cases hr; exact inT1
  | 2, hr => cases hr; exact inT2
  | 3, hr => cases hr; exact inT3
  | 4, hr => cases hr; exact inT4
  | 5, hr => cases hr; exact inT5
  | 6, hr => cases hr; exact inT6
  | 7, hr => cases hr; exact inT7
  | 8, hr => cases hr; exact inT8
  | 9, hr => cases hr; exact inT9
  | 10, hr => cases hr; exact inT10
  | n + 11, hr => simp [vwCl] at hr
theorem tyC_ok (cn : Nat) (r : vw_C) (hr : vwCl[cn]? = some r) : ∀ k, k < r.2.2 → parseFieldDescriptor (r.2.1 k).2.2.1 = some (tyC cn k) := by
  match cn, hr with
  | 0, hr => cases hr; exact tyJx4a65c_ok
  | 1, hr => cases hr; exact tyX0_ok
  | 2, hr => cases hr; exact tyX1_ok
  | 3, hr => cases hr; exact tyX2_ok
  | 4, hr => cases hr; exact tyX3_ok
  | 5, hr => cases hr; exact tyX4_ok
  | 6, hr => cases hr; exact tyX5_ok
  | 7, hr => cases hr; exact tyX6_ok
  | 8, hr => cases hr; exact tyX7_ok
  | 9, hr => cases hr; exact tyX8_ok
  | 10, hr => cases hr; exact tyX9_ok
  | n + 11, hr => simp [vwCl] at hr
theorem nmC (cn : Nat) (r : vw_C) (hr : vwCl[cn]? = some r) : ∀ a, a < r.2.2 → ∀ b, b < r.2.2 → a ≠ b → (r.2.1 a).2.1 ≠ (r.2.1 b).2.1 := by
  match cn, hr with
  | 0, hr => cases hr; exact nmJx4a65c
  | 1, hr => cases hr; exact nmX0
  | 2, hr => cases hr; exact nmX1
  | 3, hr => cases hr; exact nmX2
  | 4, hr => cases hr; exact nmX3
  | 5, hr => cases hr; exact nmX4
  | 6, hr => cases hr; exact nmX5
  | 7, hr => cases hr; exact nmX6
  | 8, hr => cases hr; exact nmX7
  | 9, hr => cases hr; exact nmX8
  | 10, hr => cases hr; exact nmX9
  | n + 11, hr => simp [vwCl] at hr
