theorem good_PP {ax am ao : Nat} : Good ax am ao (PP ax am ao) := by
  refine ⟨?_, op_feature, op_paper, op_circulation, op_right, op_sign, op_cancel, op_ill, op_stop, op_miss, op_send, op_weeks, op_feed, op_text, op_look, op_panel, op_income, op_share, op_sells, op_count⟩
  rintro hx hm ⟨ad, n, e, pO, fO, q, tm, tx, w, pn, nw, fs, ls, rs, rl, pr, tl, hP⟩
  have hS := hP.1
  have hM := hP.2.1
  have ko := kout hS
  refine ⟨kax hS, hM.1, ko.1, ?_⟩
  rw [ko.2]
  decide
