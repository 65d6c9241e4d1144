theorem mc_X8_init : MC yX8_init mi_X8_init 0 := ⟨(tbl_in 31 (by decide +kernel) (by decide +kernel)), (tbl_in 1 (by decide +kernel) (by decide +kernel)), ⟨by decide +kernel, by decide +kernel⟩, by decide +kernel⟩
theorem im_X8_init : Cond.instanceMethod yX8_init ∈ TBL := (tbl_in 30 (by decide +kernel) (by decide +kernel))
theorem mc_X9_init : MC yX9_init mi_X9_init 0 := ⟨(tbl_in 875 (by decide +kernel) (by decide +kernel)), (tbl_in 10 (by decide +kernel) (by decide +kernel)), ⟨by decide +kernel, by decide +kernel⟩, by decide +kernel⟩
theorem im_X9_init : Cond.instanceMethod yX9_init ∈ TBL := (tbl_in 874 (by decide +kernel) (by decide +kernel))
theorem mc_X9_thrown : MC yX9_thrown mi_X9_thrown 0 := ⟨(tbl_in 862 (by decide +kernel) (by decide +kernel)), (tbl_in 10 (by decide +kernel) (by decide +kernel)), ⟨by decide +kernel, by decide +kernel⟩, by decide +kernel⟩
theorem im_X9_thrown : Cond.instanceMethod yX9_thrown ∈ TBL := (tbl_in 860 (by decide +kernel) (by decide +kernel))
theorem se_X9_thrown : Cond.selects RX9 yX9_thrown yX9_thrown ∈ TBL := (tbl_in 861 (by decide +kernel) (by decide +kernel))
theorem mc_X8_feature : MC yX8_feature mi_X8_feature 5 := ⟨(tbl_in 191 (by decide +kernel) (by decide +kernel)), (tbl_in 1 (by decide +kernel) (by decide +kernel)), ⟨by decide +kernel, by decide +kernel⟩, by decide +kernel⟩
theorem im_X8_feature : Cond.instanceMethod yX8_feature ∈ TBL := (tbl_in 189 (by decide +kernel) (by decide +kernel))
theorem se_X8_feature : Cond.selects RX8 yX8_feature yX8_feature ∈ TBL := (tbl_in 190 (by decide +kernel) (by decide +kernel))
theorem mc_X8_paper : MC yX8_paper mi_X8_paper 3 := ⟨(tbl_in 305 (by decide +kernel) (by decide +kernel)), (tbl_in 1 (by decide +kernel) (by decide +kernel)), ⟨by decide +kernel, by decide +kernel⟩, by decide +kernel⟩
theorem im_X8_paper : Cond.instanceMethod yX8_paper ∈ TBL := (tbl_in 303 (by decide +kernel) (by decide +kernel))
theorem se_X8_paper : Cond.selects RX8 yX8_paper yX8_paper ∈ TBL := (tbl_in 304 (by decide +kernel) (by decide +kernel))
theorem mc_X8_circulation : MC yX8_circulation mi_X8_circulation 2 := ⟨(tbl_in 336 (by decide +kernel) (by decide +kernel)), (tbl_in 1 (by decide +kernel) (by decide +kernel)), ⟨by decide +kernel, by decide +kernel⟩, by decide +kernel⟩
theorem im_X8_circulation : Cond.instanceMethod yX8_circulation ∈ TBL := (tbl_in 334 (by decide +kernel) (by decide +kernel))
theorem se_X8_circulation : Cond.selects RX8 yX8_circulation yX8_circulation ∈ TBL := (tbl_in 335 (by decide +kernel) (by decide +kernel))
theorem mc_X8_sign : MC yX8_sign mi_X8_sign 2 := ⟨(tbl_in 367 (by decide +kernel) (by decide +kernel)), (tbl_in 1 (by decide +kernel) (by decide +kernel)), ⟨by decide +kernel, by decide +kernel⟩, by decide +kernel⟩
theorem im_X8_sign : Cond.instanceMethod yX8_sign ∈ TBL := (tbl_in 365 (by decide +kernel) (by decide +kernel))
theorem se_X8_sign : Cond.selects RX8 yX8_sign yX8_sign ∈ TBL := (tbl_in 366 (by decide +kernel) (by decide +kernel))
theorem mc_X8_cancel : MC yX8_cancel mi_X8_cancel 1 := ⟨(tbl_in 439 (by decide +kernel) (by decide +kernel)), (tbl_in 1 (by decide +kernel) (by decide +kernel)), ⟨by decide +kernel, by decide +kernel⟩, by decide +kernel⟩
theorem im_X8_cancel : Cond.instanceMethod yX8_cancel ∈ TBL := (tbl_in 437 (by decide +kernel) (by decide +kernel))
theorem se_X8_cancel : Cond.selects RX8 yX8_cancel yX8_cancel ∈ TBL := (tbl_in 438 (by decide +kernel) (by decide +kernel))
theorem mc_X8_ill : MC yX8_ill mi_X8_ill 2 := ⟨(tbl_in 447 (by decide +kernel) (by decide +kernel)), (tbl_in 1 (by decide +kernel) (by decide +kernel)), ⟨by decide +kernel, by decide +kernel⟩, by decide +kernel⟩
theorem im_X8_ill : Cond.instanceMethod yX8_ill ∈ TBL := (tbl_in 445 (by decide +kernel) (by decide +kernel))
theorem se_X8_ill : Cond.selects RX8 yX8_ill yX8_ill ∈ TBL := (tbl_in 446 (by decide +kernel) (by decide +kernel))
theorem mc_X8_stop : MC yX8_stop mi_X8_stop 2 := ⟨(tbl_in 451 (by decide +kernel) (by decide +kernel)), (tbl_in 1 (by decide +kernel) (by decide +kernel)), ⟨by decide +kernel, by decide +kernel⟩, by decide +kernel⟩
theorem im_X8_stop : Cond.instanceMethod yX8_stop ∈ TBL := (tbl_in 449 (by decide +kernel) (by decide +kernel))
theorem se_X8_stop : Cond.selects RX8 yX8_stop yX8_stop ∈ TBL := (tbl_in 450 (by decide +kernel) (by decide +kernel))
theorem mc_X8_miss : MC yX8_miss mi_X8_miss 1 := ⟨(tbl_in 455 (by decide +kernel) (by decide +kernel)), (tbl_in 1 (by decide +kernel) (by decide +kernel)), ⟨by decide +kernel, by decide +kernel⟩, by decide +kernel⟩
theorem im_X8_miss : Cond.instanceMethod yX8_miss ∈ TBL := (tbl_in 453 (by decide +kernel) (by decide +kernel))
theorem se_X8_miss : Cond.selects RX8 yX8_miss yX8_miss ∈ TBL := (tbl_in 454 (by decide +kernel) (by decide +kernel))
theorem mc_X8_send : MC yX8_send mi_X8_send 1 := ⟨(tbl_in 459 (by decide +kernel) (by decide +kernel)), (tbl_in 1 (by decide +kernel) (by decide +kernel)), ⟨by decide +kernel, by decide +kernel⟩, by decide +kernel⟩
theorem im_X8_send : Cond.instanceMethod yX8_send ∈ TBL := (tbl_in 457 (by decide +kernel) (by decide +kernel))
theorem se_X8_send : Cond.selects RX8 yX8_send yX8_send ∈ TBL := (tbl_in 458 (by decide +kernel) (by decide +kernel))
theorem mc_X8_weeks : MC yX8_weeks mi_X8_weeks 1 := ⟨(tbl_in 468 (by decide +kernel) (by decide +kernel)), (tbl_in 1 (by decide +kernel) (by decide +kernel)), ⟨by decide +kernel, by decide +kernel⟩, by decide +kernel⟩
theorem im_X8_weeks : Cond.instanceMethod yX8_weeks ∈ TBL := (tbl_in 466 (by decide +kernel) (by decide +kernel))
theorem se_X8_weeks : Cond.selects RX8 yX8_weeks yX8_weeks ∈ TBL := (tbl_in 467 (by decide +kernel) (by decide +kernel))
theorem mc_X8_feed : MC yX8_feed mi_X8_feed 3 := ⟨(tbl_in 544 (by decide +kernel) (by decide +kernel)), (tbl_in 1 (by decide +kernel) (by decide +kernel)), ⟨by decide +kernel, by decide +kernel⟩, by decide +kernel⟩
theorem im_X8_feed : Cond.instanceMethod yX8_feed ∈ TBL := (tbl_in 542 (by decide +kernel) (by decide +kernel))
theorem se_X8_feed : Cond.selects RX8 yX8_feed yX8_feed ∈ TBL := (tbl_in 543 (by decide +kernel) (by decide +kernel))
theorem mc_X8_text : MC yX8_text mi_X8_text 0 := ⟨(tbl_in 557 (by decide +kernel) (by decide +kernel)), (tbl_in 1 (by decide +kernel) (by decide +kernel)), ⟨by decide +kernel, by decide +kernel⟩, by decide +kernel⟩
theorem im_X8_text : Cond.instanceMethod yX8_text ∈ TBL := (tbl_in 555 (by decide +kernel) (by decide +kernel))
theorem se_X8_text : Cond.selects RX8 yX8_text yX8_text ∈ TBL := (tbl_in 556 (by decide +kernel) (by decide +kernel))
theorem mc_X8_panel : MC yX8_panel mi_X8_panel 1 := ⟨(tbl_in 718 (by decide +kernel) (by decide +kernel)), (tbl_in 1 (by decide +kernel) (by decide +kernel)), ⟨by decide +kernel, by decide +kernel⟩, by decide +kernel⟩
theorem im_X8_panel : Cond.instanceMethod yX8_panel ∈ TBL := (tbl_in 716 (by decide +kernel) (by decide +kernel))
theorem se_X8_panel : Cond.selects RX8 yX8_panel yX8_panel ∈ TBL := (tbl_in 717 (by decide +kernel) (by decide +kernel))
theorem mc_X8_share : MC yX8_share mi_X8_share 2 := ⟨(tbl_in 722 (by decide +kernel) (by decide +kernel)), (tbl_in 1 (by decide +kernel) (by decide +kernel)), ⟨by decide +kernel, by decide +kernel⟩, by decide +kernel⟩
theorem im_X8_share : Cond.instanceMethod yX8_share ∈ TBL := (tbl_in 720 (by decide +kernel) (by decide +kernel))
theorem se_X8_share : Cond.selects RX8 yX8_share yX8_share ∈ TBL := (tbl_in 721 (by decide +kernel) (by decide +kernel))
theorem mc_X8_sells : MC yX8_sells mi_X8_sells 2 := ⟨(tbl_in 751 (by decide +kernel) (by decide +kernel)), (tbl_in 1 (by decide +kernel) (by decide +kernel)), ⟨by decide +kernel, by decide +kernel⟩, by decide +kernel⟩
theorem im_X8_sells : Cond.instanceMethod yX8_sells ∈ TBL := (tbl_in 749 (by decide +kernel) (by decide +kernel))
theorem se_X8_sells : Cond.selects RX8 yX8_sells yX8_sells ∈ TBL := (tbl_in 750 (by decide +kernel) (by decide +kernel))
theorem mc_X8_count : MC yX8_count mi_X8_count 1 := ⟨(tbl_in 755 (by decide +kernel) (by decide +kernel)), (tbl_in 1 (by decide +kernel) (by decide +kernel)), ⟨by decide +kernel, by decide +kernel⟩, by decide +kernel⟩
theorem im_X8_count : Cond.instanceMethod yX8_count ∈ TBL := (tbl_in 753 (by decide +kernel) (by decide +kernel))
theorem se_X8_count : Cond.selects RX8 yX8_count yX8_count ∈ TBL := (tbl_in 754 (by decide +kernel) (by decide +kernel))
theorem mc_X9_feature : MC yX9_feature mi_X9_feature 5 := ⟨(tbl_in 1132 (by decide +kernel) (by decide +kernel)), (tbl_in 10 (by decide +kernel) (by decide +kernel)), ⟨by decide +kernel, by decide +kernel⟩, by decide +kernel⟩
theorem im_X9_feature : Cond.instanceMethod yX9_feature ∈ TBL := (tbl_in 1130 (by decide +kernel) (by decide +kernel))
theorem se_X9_feature : Cond.selects RX9 yX9_feature yX9_feature ∈ TBL := (tbl_in 1131 (by decide +kernel) (by decide +kernel))
theorem mc_X9_paper : MC yX9_paper mi_X9_paper 3 := ⟨(tbl_in 1139 (by decide +kernel) (by decide +kernel)), (tbl_in 10 (by decide +kernel) (by decide +kernel)), ⟨by decide +kernel, by decide +kernel⟩, by decide +kernel⟩
theorem im_X9_paper : Cond.instanceMethod yX9_paper ∈ TBL := (tbl_in 1137 (by decide +kernel) (by decide +kernel))
theorem se_X9_paper : Cond.selects RX9 yX9_paper yX9_paper ∈ TBL := (tbl_in 1138 (by decide +kernel) (by decide +kernel))
theorem mc_X9_circulation : MC yX9_circulation mi_X9_circulation 2 := ⟨(tbl_in 1144 (by decide +kernel) (by decide +kernel)), (tbl_in 10 (by decide +kernel) (by decide +kernel)), ⟨by decide +kernel, by decide +kernel⟩, by decide +kernel⟩
theorem im_X9_circulation : Cond.instanceMethod yX9_circulation ∈ TBL := (tbl_in 1142 (by decide +kernel) (by decide +kernel))
theorem se_X9_circulation : Cond.selects RX9 yX9_circulation yX9_circulation ∈ TBL := (tbl_in 1143 (by decide +kernel) (by decide +kernel))
theorem mc_X9_right : MC yX9_right mi_X9_right 3 := ⟨(tbl_in 1245 (by decide +kernel) (by decide +kernel)), (tbl_in 10 (by decide +kernel) (by decide +kernel)), ⟨by decide +kernel, by decide +kernel⟩, by decide +kernel⟩
theorem im_X9_right : Cond.instanceMethod yX9_right ∈ TBL := (tbl_in 1243 (by decide +kernel) (by decide +kernel))
theorem se_X9_right : Cond.selects RX9 yX9_right yX9_right ∈ TBL := (tbl_in 1244 (by decide +kernel) (by decide +kernel))
theorem mc_X9_sign : MC yX9_sign mi_X9_sign 2 := ⟨(tbl_in 1172 (by decide +kernel) (by decide +kernel)), (tbl_in 10 (by decide +kernel) (by decide +kernel)), ⟨by decide +kernel, by decide +kernel⟩, by decide +kernel⟩
theorem im_X9_sign : Cond.instanceMethod yX9_sign ∈ TBL := (tbl_in 1170 (by decide +kernel) (by decide +kernel))
theorem se_X9_sign : Cond.selects RX9 yX9_sign yX9_sign ∈ TBL := (tbl_in 1171 (by decide +kernel) (by decide +kernel))
theorem mc_X9_cancel : MC yX9_cancel mi_X9_cancel 1 := ⟨(tbl_in 1184 (by decide +kernel) (by decide +kernel)), (tbl_in 10 (by decide +kernel) (by decide +kernel)), ⟨by decide +kernel, by decide +kernel⟩, by decide +kernel⟩
theorem im_X9_cancel : Cond.instanceMethod yX9_cancel ∈ TBL := (tbl_in 1182 (by decide +kernel) (by decide +kernel))
theorem se_X9_cancel : Cond.selects RX9 yX9_cancel yX9_cancel ∈ TBL := (tbl_in 1183 (by decide +kernel) (by decide +kernel))
theorem mc_X9_ill : MC yX9_ill mi_X9_ill 2 := ⟨(tbl_in 1156 (by decide +kernel) (by decide +kernel)), (tbl_in 10 (by decide +kernel) (by decide +kernel)), ⟨by decide +kernel, by decide +kernel⟩, by decide +kernel⟩
theorem im_X9_ill : Cond.instanceMethod yX9_ill ∈ TBL := (tbl_in 1154 (by decide +kernel) (by decide +kernel))
theorem se_X9_ill : Cond.selects RX9 yX9_ill yX9_ill ∈ TBL := (tbl_in 1155 (by decide +kernel) (by decide +kernel))
theorem mc_X9_stop : MC yX9_stop mi_X9_stop 2 := ⟨(tbl_in 1164 (by decide +kernel) (by decide +kernel)), (tbl_in 10 (by decide +kernel) (by decide +kernel)), ⟨by decide +kernel, by decide +kernel⟩, by decide +kernel⟩
theorem im_X9_stop : Cond.instanceMethod yX9_stop ∈ TBL := (tbl_in 1162 (by decide +kernel) (by decide +kernel))
theorem se_X9_stop : Cond.selects RX9 yX9_stop yX9_stop ∈ TBL := (tbl_in 1163 (by decide +kernel) (by decide +kernel))
theorem mc_X9_miss : MC yX9_miss mi_X9_miss 1 := ⟨(tbl_in 1192 (by decide +kernel) (by decide +kernel)), (tbl_in 10 (by decide +kernel) (by decide +kernel)), ⟨by decide +kernel, by decide +kernel⟩, by decide +kernel⟩
theorem im_X9_miss : Cond.instanceMethod yX9_miss ∈ TBL := (tbl_in 1190 (by decide +kernel) (by decide +kernel))
theorem se_X9_miss : Cond.selects RX9 yX9_miss yX9_miss ∈ TBL := (tbl_in 1191 (by decide +kernel) (by decide +kernel))
theorem mc_X9_send : MC yX9_send mi_X9_send 1 := ⟨(tbl_in 1196 (by decide +kernel) (by decide +kernel)), (tbl_in 10 (by decide +kernel) (by decide +kernel)), ⟨by decide +kernel, by decide +kernel⟩, by decide +kernel⟩
theorem im_X9_send : Cond.instanceMethod yX9_send ∈ TBL := (tbl_in 1194 (by decide +kernel) (by decide +kernel))
theorem se_X9_send : Cond.selects RX9 yX9_send yX9_send ∈ TBL := (tbl_in 1195 (by decide +kernel) (by decide +kernel))
theorem mc_X9_weeks : MC yX9_weeks mi_X9_weeks 1 := ⟨(tbl_in 1208 (by decide +kernel) (by decide +kernel)), (tbl_in 10 (by decide +kernel) (by decide +kernel)), ⟨by decide +kernel, by decide +kernel⟩, by decide +kernel⟩
theorem im_X9_weeks : Cond.instanceMethod yX9_weeks ∈ TBL := (tbl_in 1206 (by decide +kernel) (by decide +kernel))
theorem se_X9_weeks : Cond.selects RX9 yX9_weeks yX9_weeks ∈ TBL := (tbl_in 1207 (by decide +kernel) (by decide +kernel))
theorem mc_X9_feed : MC yX9_feed mi_X9_feed 3 := ⟨(tbl_in 866 (by decide +kernel) (by decide +kernel)), (tbl_in 10 (by decide +kernel) (by decide +kernel)), ⟨by decide +kernel, by decide +kernel⟩, by decide +kernel⟩
theorem im_X9_feed : Cond.instanceMethod yX9_feed ∈ TBL := (tbl_in 864 (by decide +kernel) (by decide +kernel))
theorem se_X9_feed : Cond.selects RX9 yX9_feed yX9_feed ∈ TBL := (tbl_in 865 (by decide +kernel) (by decide +kernel))
theorem mc_X9_text : MC yX9_text mi_X9_text 0 := ⟨(tbl_in 1052 (by decide +kernel) (by decide +kernel)), (tbl_in 10 (by decide +kernel) (by decide +kernel)), ⟨by decide +kernel, by decide +kernel⟩, by decide +kernel⟩
theorem im_X9_text : Cond.instanceMethod yX9_text ∈ TBL := (tbl_in 1050 (by decide +kernel) (by decide +kernel))
theorem se_X9_text : Cond.selects RX9 yX9_text yX9_text ∈ TBL := (tbl_in 1051 (by decide +kernel) (by decide +kernel))
theorem mc_X9_look : MC yX9_look mi_X9_look 2 := ⟨(tbl_in 1257 (by decide +kernel) (by decide +kernel)), (tbl_in 10 (by decide +kernel) (by decide +kernel)), ⟨by decide +kernel, by decide +kernel⟩, by decide +kernel⟩
theorem im_X9_look : Cond.instanceMethod yX9_look ∈ TBL := (tbl_in 1255 (by decide +kernel) (by decide +kernel))
theorem se_X9_look : Cond.selects RX9 yX9_look yX9_look ∈ TBL := (tbl_in 1256 (by decide +kernel) (by decide +kernel))
theorem mc_X9_panel : MC yX9_panel mi_X9_panel 1 := ⟨(tbl_in 1168 (by decide +kernel) (by decide +kernel)), (tbl_in 10 (by decide +kernel) (by decide +kernel)), ⟨by decide +kernel, by decide +kernel⟩, by decide +kernel⟩
theorem im_X9_panel : Cond.instanceMethod yX9_panel ∈ TBL := (tbl_in 1166 (by decide +kernel) (by decide +kernel))
theorem se_X9_panel : Cond.selects RX9 yX9_panel yX9_panel ∈ TBL := (tbl_in 1167 (by decide +kernel) (by decide +kernel))
theorem mc_X9_income : MC yX9_income mi_X9_income 1 := ⟨(tbl_in 1249 (by decide +kernel) (by decide +kernel)), (tbl_in 10 (by decide +kernel) (by decide +kernel)), ⟨by decide +kernel, by decide +kernel⟩, by decide +kernel⟩
theorem im_X9_income : Cond.instanceMethod yX9_income ∈ TBL := (tbl_in 1247 (by decide +kernel) (by decide +kernel))
theorem se_X9_income : Cond.selects RX9 yX9_income yX9_income ∈ TBL := (tbl_in 1248 (by decide +kernel) (by decide +kernel))
theorem mc_X9_share : MC yX9_share mi_X9_share 2 := ⟨(tbl_in 1253 (by decide +kernel) (by decide +kernel)), (tbl_in 10 (by decide +kernel) (by decide +kernel)), ⟨by decide +kernel, by decide +kernel⟩, by decide +kernel⟩
theorem im_X9_share : Cond.instanceMethod yX9_share ∈ TBL := (tbl_in 1251 (by decide +kernel) (by decide +kernel))
theorem se_X9_share : Cond.selects RX9 yX9_share yX9_share ∈ TBL := (tbl_in 1252 (by decide +kernel) (by decide +kernel))
theorem mc_X9_sells : MC yX9_sells mi_X9_sells 2 := ⟨(tbl_in 1152 (by decide +kernel) (by decide +kernel)), (tbl_in 10 (by decide +kernel) (by decide +kernel)), ⟨by decide +kernel, by decide +kernel⟩, by decide +kernel⟩
theorem im_X9_sells : Cond.instanceMethod yX9_sells ∈ TBL := (tbl_in 1150 (by decide +kernel) (by decide +kernel))
theorem se_X9_sells : Cond.selects RX9 yX9_sells yX9_sells ∈ TBL := (tbl_in 1151 (by decide +kernel) (by decide +kernel))
theorem mc_X9_count : MC yX9_count mi_X9_count 1 := ⟨(tbl_in 1265 (by decide +kernel) (by decide +kernel)), (tbl_in 10 (by decide +kernel) (by decide +kernel)), ⟨by decide +kernel, by decide +kernel⟩, by decide +kernel⟩
theorem im_X9_count : Cond.instanceMethod yX9_count ∈ TBL := (tbl_in 1263 (by decide +kernel) (by decide +kernel))
theorem se_X9_count : Cond.selects RX9 yX9_count yX9_count ∈ TBL := (tbl_in 1264 (by decide +kernel) (by decide +kernel))
theorem lk_23 : Cond.methodLink RL 23 yX8_init ∈ TBL := (tbl_in 29 (by decide +kernel) (by decide +kernel))
theorem lk_26 : Cond.methodLink RL 26 yX9_init ∈ TBL := (tbl_in 873 (by decide +kernel) (by decide +kernel))
theorem lk_27 : Cond.methodLink RL 27 yX8_feature ∈ TBL := (tbl_in 188 (by decide +kernel) (by decide +kernel))
theorem lk_31 : Cond.methodLink RL 31 yX9_feature ∈ TBL := (tbl_in 1129 (by decide +kernel) (by decide +kernel))
theorem lk_32 : Cond.methodLink RL 32 yX8_paper ∈ TBL := (tbl_in 302 (by decide +kernel) (by decide +kernel))
theorem lk_35 : Cond.methodLink RL 35 yX9_paper ∈ TBL := (tbl_in 1136 (by decide +kernel) (by decide +kernel))
theorem lk_36 : Cond.methodLink RL 36 yX8_circulation ∈ TBL := (tbl_in 333 (by decide +kernel) (by decide +kernel))
theorem lk_40 : Cond.methodLink RL 40 yX9_circulation ∈ TBL := (tbl_in 1141 (by decide +kernel) (by decide +kernel))
theorem lk_41 : Cond.methodLink RL 41 yL_right ∈ TBL := (tbl_in 760 (by decide +kernel) (by decide +kernel))
theorem lk_46 : Cond.methodLink RL 46 yX9_right ∈ TBL := (tbl_in 1242 (by decide +kernel) (by decide +kernel))
theorem lk_47 : Cond.methodLink RL 47 yX9_thrown ∈ TBL := (tbl_in 859 (by decide +kernel) (by decide +kernel))
theorem lk_51 : Cond.methodLink RL 51 yX8_sign ∈ TBL := (tbl_in 364 (by decide +kernel) (by decide +kernel))
theorem lk_54 : Cond.methodLink RL 54 yX9_sign ∈ TBL := (tbl_in 1169 (by decide +kernel) (by decide +kernel))
theorem lk_55 : Cond.methodLink RL 55 yX8_cancel ∈ TBL := (tbl_in 436 (by decide +kernel) (by decide +kernel))
theorem lk_58 : Cond.methodLink RL 58 yX9_cancel ∈ TBL := (tbl_in 1181 (by decide +kernel) (by decide +kernel))
theorem lk_59 : Cond.methodLink RL 59 yX8_ill ∈ TBL := (tbl_in 444 (by decide +kernel) (by decide +kernel))
theorem lk_62 : Cond.methodLink RL 62 yX9_ill ∈ TBL := (tbl_in 1153 (by decide +kernel) (by decide +kernel))
theorem lk_63 : Cond.methodLink RL 63 yX8_stop ∈ TBL := (tbl_in 448 (by decide +kernel) (by decide +kernel))
theorem lk_67 : Cond.methodLink RL 67 yX9_stop ∈ TBL := (tbl_in 1161 (by decide +kernel) (by decide +kernel))
theorem lk_68 : Cond.methodLink RL 68 yX8_miss ∈ TBL := (tbl_in 452 (by decide +kernel) (by decide +kernel))
theorem lk_72 : Cond.methodLink RL 72 yX9_miss ∈ TBL := (tbl_in 1189 (by decide +kernel) (by decide +kernel))
theorem lk_73 : Cond.methodLink RL 73 yX8_send ∈ TBL := (tbl_in 456 (by decide +kernel) (by decide +kernel))
theorem lk_76 : Cond.methodLink RL 76 yX9_send ∈ TBL := (tbl_in 1193 (by decide +kernel) (by decide +kernel))
theorem lk_77 : Cond.methodLink RL 77 yX8_weeks ∈ TBL := (tbl_in 465 (by decide +kernel) (by decide +kernel))
theorem lk_80 : Cond.methodLink RL 80 yX9_weeks ∈ TBL := (tbl_in 1205 (by decide +kernel) (by decide +kernel))
theorem lk_83 : Cond.methodLink RL 83 yX8_feed ∈ TBL := (tbl_in 541 (by decide +kernel) (by decide +kernel))
theorem lk_87 : Cond.methodLink RL 87 yX9_feed ∈ TBL := (tbl_in 863 (by decide +kernel) (by decide +kernel))
theorem lk_88 : Cond.methodLink RL 88 yX8_text ∈ TBL := (tbl_in 554 (by decide +kernel) (by decide +kernel))
theorem lk_91 : Cond.methodLink RL 91 yX9_text ∈ TBL := (tbl_in 1049 (by decide +kernel) (by decide +kernel))
theorem lk_92 : Cond.methodLink RL 92 yL_look ∈ TBL := (tbl_in 833 (by decide +kernel) (by decide +kernel))
theorem lk_95 : Cond.methodLink RL 95 yX9_look ∈ TBL := (tbl_in 1254 (by decide +kernel) (by decide +kernel))
theorem lk_96 : Cond.methodLink RL 96 yX8_panel ∈ TBL := (tbl_in 715 (by decide +kernel) (by decide +kernel))
theorem lk_99 : Cond.methodLink RL 99 yX9_panel ∈ TBL := (tbl_in 1165 (by decide +kernel) (by decide +kernel))
theorem lk_100 : Cond.methodLink RL 100 yL_income ∈ TBL := (tbl_in 852 (by decide +kernel) (by decide +kernel))
theorem lk_103 : Cond.methodLink RL 103 yX9_income ∈ TBL := (tbl_in 1246 (by decide +kernel) (by decide +kernel))
theorem lk_104 : Cond.methodLink RL 104 yX8_share ∈ TBL := (tbl_in 719 (by decide +kernel) (by decide +kernel))
theorem lk_107 : Cond.methodLink RL 107 yX9_share ∈ TBL := (tbl_in 1250 (by decide +kernel) (by decide +kernel))
theorem lk_108 : Cond.methodLink RL 108 yX8_sells ∈ TBL := (tbl_in 748 (by decide +kernel) (by decide +kernel))
theorem lk_111 : Cond.methodLink RL 111 yX9_sells ∈ TBL := (tbl_in 1149 (by decide +kernel) (by decide +kernel))
theorem lk_112 : Cond.methodLink RL 112 yX8_count ∈ TBL := (tbl_in 752 (by decide +kernel) (by decide +kernel))
theorem lk_115 : Cond.methodLink RL 115 yX9_count ∈ TBL := (tbl_in 1262 (by decide +kernel) (by decide +kernel))
theorem cw_right : Cond.codeWith yL_right cL_right 6 (some .int) [(0, 12, 15, 13)] ∈ TBL := (tbl_in 762 (by decide +kernel) (by decide +kernel))
theorem sw_right : Cond.static yL_right ∈ TBL := (tbl_in 761 (by decide +kernel) (by decide +kernel))
theorem cw_look : Cond.codeWith yL_look cL_look 5 (some .int) [(0, 10, 13, 13)] ∈ TBL := (tbl_in 835 (by decide +kernel) (by decide +kernel))
theorem sw_look : Cond.static yL_look ∈ TBL := (tbl_in 834 (by decide +kernel) (by decide +kernel))
theorem cw_income : Cond.codeWith yL_income cL_income 4 (some .int) [(0, 9, 12, 13)] ∈ TBL := (tbl_in 854 (by decide +kernel) (by decide +kernel))
theorem sw_income : Cond.static yL_income ∈ TBL := (tbl_in 853 (by decide +kernel) (by decide +kernel))
theorem iw_L : Cond.initialized RL ∈ TBL := (tbl_in 0 (by decide +kernel) (by decide +kernel))
theorem kw_81 : Cond.constantLong RL 81 4294967295 ∈ TBL := (tbl_in 1266 (by decide +kernel) (by decide +kernel))
theorem aw_l : Cond.arrayClass (tyK 204) ∈ TBL := (tbl_in 1048 (by decide +kernel) (by decide +kernel))
theorem ln_8 : LN RL 8 9 10 := ⟨_, rfl, rfl, (tbl_in 27 (by decide +kernel) (by decide +kernel)), (tbl_in 28 (by decide +kernel) (by decide +kernel)), (tbl_in 1 (by decide +kernel) (by decide +kernel))⟩
theorem ln_24 : LN RL 24 10 54 := ⟨_, rfl, rfl, (tbl_in 872 (by decide +kernel) (by decide +kernel)), (tbl_in 870 (by decide +kernel) (by decide +kernel)), (tbl_in 10 (by decide +kernel) (by decide +kernel))⟩
theorem lcmp_self (x : Int64) : lg_cmp x x = 0 := by simp [lg_cmp]
abbrev LO (b ax am ao : Nat) (i : Int32) : LL := [(0, lvR (some b)), (1, lvR (some ax)), (2, lvR (some am)), (3, lvR (some ao)), (4, lvI i)]
/-- the d-th int of the call at i -/
abbrev sc (E : EL) (i d : Int32) : Int32 := xE E (i + d).toNatClampNeg
abbrev s64 (E : EL) (i d e : Int32) : Int64 := lshl (sc E i d).toInt64 32 ||| ((sc E i e).toInt64 &&& 4294967295)
def InR (E : EL) (i : Int32) : Prop := vp_in i (LE' E) ∧ vp_in (i + 1) (LE' E) ∧ vp_in (i + 2) (LE' E) ∧ vp_in (i + 3) (LE' E) ∧ vp_in (i + 4) (LE' E) ∧ vp_in (i + 5) (LE' E) ∧ vp_in (i + 6) (LE' E)
def bz (x : Int32) : Int32 := if x = 0 then 0 else 1
theorem lc_feature {E : EL} {cells slots : Nat} {hx hm : HS} {ax am ao : Nat} {i : Int32} (hi : InR E i) (hr1 : cells + 16 ≤ 601024) (hr2 : slots + 4000 ≤ 7293034) {hx' hm' : HS} {r : Int32} (hX : kd hx ax = 9 + 1) (hM : kd hm am = 10 + 1) (hq : m_X8_feature ax (sc E i 1) (sc E i 2) (sc E i 3) (sc E i 4) (sc E i 5) hx = some (r, hx')) (hq2 : m_X9_feature am (sc E i 1) (sc E i 2) (sc E i 3) (sc E i 4) (sc E i 5) (wz hm (sz hx')) = some (r, hm')) (hz : sz hm' = sz hx') (kk : SimL E (cells + 16) (slots + 4000) 1006 (LO (bE E) ax am ao i) [] hx' hm') : SimL E cells slots 132 (LO (bE E) ax am ao i) [] hx hm := by
  refine sl_aload_n 1 dL_law_132 rfl rfl ?_
  refine sl_aload_n 0 dL_law_133 rfl rfl ?_
  refine sl_iload 4 dL_law_134 rfl ?_
  refine sl_iconst (v := 1) dL_law_136 (by decide) ?_
  refine sl_iadd dL_law_137 ?_
  refine sl_sld dL_law_138 hi.2.1 ?_
  refine sl_aload_n 0 dL_law_139 rfl rfl ?_
  refine sl_iload 4 dL_law_140 rfl ?_
  refine sl_iconst (v := 2) dL_law_142 (by decide) ?_
  refine sl_iadd dL_law_143 ?_
  refine sl_sld dL_law_144 hi.2.2.1 ?_
  refine sl_aload_n 0 dL_law_145 rfl rfl ?_
  refine sl_iload 4 dL_law_146 rfl ?_
  refine sl_iconst (v := 3) dL_law_148 (by decide) ?_
  refine sl_iadd dL_law_149 ?_
  refine sl_sld dL_law_150 hi.2.2.2.1 ?_
  refine sl_aload_n 0 dL_law_151 rfl rfl ?_
  refine sl_iload 4 dL_law_152 rfl ?_
  refine sl_iconst (v := 4) dL_law_154 (by decide) ?_
  refine sl_iadd dL_law_155 ?_
  refine sl_sld dL_law_156 hi.2.2.2.2.1 ?_
  refine sl_aload_n 0 dL_law_157 rfl rfl ?_
  refine sl_iload 4 dL_law_158 rfl ?_
  refine sl_iconst (v := 5) dL_law_160 (by decide) ?_
  refine sl_iadd dL_law_161 ?_
  refine sl_sld dL_law_162 hi.2.2.2.2.2.1 ?_
  refine sl_cv (out' := oI) (q := (r, hx')) (v := some (.int (r, hx').1)) (rest := []) 9 [lvI (sc E i 1), lvI (sc E i 2), lvI (sc E i 3), lvI (sc E i 4), lvI (sc E i 5)] dL_law_163 mc_X8_feature lk_27 im_X8_feature rfl se_X8_feature (by decide) rfl ⟨(Nat.le_of_ble_eq_true rfl), (Nat.le_of_ble_eq_true rfl), by show cells + 3 ≤ _; omega, by show slots + 92 ≤ _; omega⟩ (Nat.le_of_ble_eq_true rfl) hX (ct_X8_feature _ _ hq) rfl rfl ?_
  refine sl_aload_n 2 dL_law_166 rfl rfl ?_
  refine sl_aload_n 0 dL_law_167 rfl rfl ?_
  refine sl_iload 4 dL_law_168 rfl ?_
  refine sl_iconst (v := 1) dL_law_170 (by decide) ?_
  refine sl_iadd dL_law_171 ?_
  refine sl_sld dL_law_172 hi.2.1 ?_
  refine sl_aload_n 0 dL_law_173 rfl rfl ?_
  refine sl_iload 4 dL_law_174 rfl ?_
  refine sl_iconst (v := 2) dL_law_176 (by decide) ?_
  refine sl_iadd dL_law_177 ?_
  refine sl_sld dL_law_178 hi.2.2.1 ?_
  refine sl_aload_n 0 dL_law_179 rfl rfl ?_
  refine sl_iload 4 dL_law_180 rfl ?_
  refine sl_iconst (v := 3) dL_law_182 (by decide) ?_
  refine sl_iadd dL_law_183 ?_
  refine sl_sld dL_law_184 hi.2.2.2.1 ?_
  refine sl_aload_n 0 dL_law_185 rfl rfl ?_
  refine sl_iload 4 dL_law_186 rfl ?_
  refine sl_iconst (v := 4) dL_law_188 (by decide) ?_
  refine sl_iadd dL_law_189 ?_
  refine sl_sld dL_law_190 hi.2.2.2.2.1 ?_
  refine sl_aload_n 0 dL_law_191 rfl rfl ?_
  refine sl_iload 4 dL_law_192 rfl ?_
  refine sl_iconst (v := 5) dL_law_194 (by decide) ?_
  refine sl_iadd dL_law_195 ?_
  refine sl_sld dL_law_196 hi.2.2.2.2.2.1 ?_
  refine SimL.swap ?_
  refine sl_cv (out' := oI) (q := (r, hm')) (v := some (.int (r, hm').1)) (rest := [.int (r, hx').1]) 10 [lvI (sc E i 1), lvI (sc E i 2), lvI (sc E i 3), lvI (sc E i 4), lvI (sc E i 5)] dL_law_197 mc_X9_feature lk_31 im_X9_feature rfl se_X9_feature (by decide) rfl ⟨(Nat.le_of_ble_eq_true rfl), (Nat.le_of_ble_eq_true rfl), by show cells + 3 + 0 ≤ _; omega, by show slots + 92 + 0 ≤ _; omega⟩ (Nat.le_of_ble_eq_true rfl) hM (ct_X9_feature _ _ hq2) rfl rfl ?_
  refine SimL.swap ?_
  rw [show wz (oI (r, hx')).2 (sz (oI (r, hm')).2) = hx' from by show wz hx' (sz hm') = _; rw [hz]; rfl]
  refine sl_icmp_eq 1006 dL_law_200 (by decide) (fun _ => ?_) (fun hc => absurd rfl hc)
  exact sl_widen (cells + 16) (slots + 4000) (by show cells + 3 + 0 ≤ _; omega) (by show slots + 92 + 0 ≤ _; omega) (sl_lo (LO (bE E) ax am ao i) ⟨rfl, rfl, rfl, rfl, rfl, trivial⟩ kk)
theorem lc_paper {E : EL} {cells slots : Nat} {hx hm : HS} {ax am ao : Nat} {i : Int32} (hi : InR E i) (hr1 : cells + 16 ≤ 601024) (hr2 : slots + 4000 ≤ 7293034) {hx' hm' : HS} {r : Int32} (hX : kd hx ax = 9 + 1) (hM : kd hm am = 10 + 1) (hq : m_X8_paper ax (sc E i 1) (sc E i 2) (sc E i 3) hx = some (r, hx')) (hq2 : m_X9_paper am (sc E i 1) (sc E i 2) (sc E i 3) (wz hm (sz hx')) = some (r, hm')) (hz : sz hm' = sz hx') (kk : SimL E (cells + 16) (slots + 4000) 1006 (LO (bE E) ax am ao i) [] hx' hm') : SimL E cells slots 205 (LO (bE E) ax am ao i) [] hx hm := by
  refine sl_aload_n 1 dL_law_205 rfl rfl ?_
  refine sl_aload_n 0 dL_law_206 rfl rfl ?_
  refine sl_iload 4 dL_law_207 rfl ?_
  refine sl_iconst (v := 1) dL_law_209 (by decide) ?_
  refine sl_iadd dL_law_210 ?_
  refine sl_sld dL_law_211 hi.2.1 ?_
  refine sl_aload_n 0 dL_law_212 rfl rfl ?_
  refine sl_iload 4 dL_law_213 rfl ?_
  refine sl_iconst (v := 2) dL_law_215 (by decide) ?_
  refine sl_iadd dL_law_216 ?_
  refine sl_sld dL_law_217 hi.2.2.1 ?_
  refine sl_aload_n 0 dL_law_218 rfl rfl ?_
  refine sl_iload 4 dL_law_219 rfl ?_
  refine sl_iconst (v := 3) dL_law_221 (by decide) ?_
  refine sl_iadd dL_law_222 ?_
  refine sl_sld dL_law_223 hi.2.2.2.1 ?_
  refine sl_cv (out' := oI) (q := (r, hx')) (v := some (.int (r, hx').1)) (rest := []) 9 [lvI (sc E i 1), lvI (sc E i 2), lvI (sc E i 3)] dL_law_224 mc_X8_paper lk_32 im_X8_paper rfl se_X8_paper (by decide) rfl ⟨(Nat.le_of_ble_eq_true rfl), (Nat.le_of_ble_eq_true rfl), by show cells + 3 ≤ _; omega, by show slots + 135 ≤ _; omega⟩ (Nat.le_of_ble_eq_true rfl) hX (ct_X8_paper _ _ hq) rfl rfl ?_
  refine sl_aload_n 2 dL_law_227 rfl rfl ?_
  refine sl_aload_n 0 dL_law_228 rfl rfl ?_
  refine sl_iload 4 dL_law_229 rfl ?_
  refine sl_iconst (v := 1) dL_law_231 (by decide) ?_
  refine sl_iadd dL_law_232 ?_
  refine sl_sld dL_law_233 hi.2.1 ?_
  refine sl_aload_n 0 dL_law_234 rfl rfl ?_
  refine sl_iload 4 dL_law_235 rfl ?_
  refine sl_iconst (v := 2) dL_law_237 (by decide) ?_
  refine sl_iadd dL_law_238 ?_
  refine sl_sld dL_law_239 hi.2.2.1 ?_
  refine sl_aload_n 0 dL_law_240 rfl rfl ?_
  refine sl_iload 4 dL_law_241 rfl ?_
  refine sl_iconst (v := 3) dL_law_243 (by decide) ?_
  refine sl_iadd dL_law_244 ?_
  refine sl_sld dL_law_245 hi.2.2.2.1 ?_
  refine SimL.swap ?_
  refine sl_cv (out' := oI) (q := (r, hm')) (v := some (.int (r, hm').1)) (rest := [.int (r, hx').1]) 10 [lvI (sc E i 1), lvI (sc E i 2), lvI (sc E i 3)] dL_law_246 mc_X9_paper lk_35 im_X9_paper rfl se_X9_paper (by decide) rfl ⟨(Nat.le_of_ble_eq_true rfl), (Nat.le_of_ble_eq_true rfl), by show cells + 3 + 0 ≤ _; omega, by show slots + 135 + 0 ≤ _; omega⟩ (Nat.le_of_ble_eq_true rfl) hM (ct_X9_paper _ _ hq2) rfl rfl ?_
  refine SimL.swap ?_
  rw [show wz (oI (r, hx')).2 (sz (oI (r, hm')).2) = hx' from by show wz hx' (sz hm') = _; rw [hz]; rfl]
  refine sl_icmp_eq 1006 dL_law_249 (by decide) (fun _ => ?_) (fun hc => absurd rfl hc)
  exact sl_widen (cells + 16) (slots + 4000) (by show cells + 3 + 0 ≤ _; omega) (by show slots + 135 + 0 ≤ _; omega) (sl_lo (LO (bE E) ax am ao i) ⟨rfl, rfl, rfl, rfl, rfl, trivial⟩ kk)
theorem lc_circulation {E : EL} {cells slots : Nat} {hx hm : HS} {ax am ao : Nat} {i : Int32} (hi : InR E i) (hr1 : cells + 16 ≤ 601024) (hr2 : slots + 4000 ≤ 7293034) {hx' hm' : HS} {r : Int32} (hX : kd hx ax = 9 + 1) (hM : kd hm am = 10 + 1) (hq : m_X8_circulation ax (sc E i 1) (sc E i 2) hx = some (r, hx')) (hq2 : m_X9_circulation am (sc E i 1) (sc E i 2) (wz hm (sz hx')) = some (r, hm')) (hz : sz hm' = sz hx') (kk : SimL E (cells + 16) (slots + 4000) 1006 (LO (bE E) ax am ao i) [] hx' hm') : SimL E cells slots 254 (LO (bE E) ax am ao i) [] hx hm := by
  refine sl_aload_n 1 dL_law_254 rfl rfl ?_
  refine sl_aload_n 0 dL_law_255 rfl rfl ?_
  refine sl_iload 4 dL_law_256 rfl ?_
  refine sl_iconst (v := 1) dL_law_258 (by decide) ?_
  refine sl_iadd dL_law_259 ?_
  refine sl_sld dL_law_260 hi.2.1 ?_
  refine sl_aload_n 0 dL_law_261 rfl rfl ?_
  refine sl_iload 4 dL_law_262 rfl ?_
  refine sl_iconst (v := 2) dL_law_264 (by decide) ?_
  refine sl_iadd dL_law_265 ?_
  refine sl_sld dL_law_266 hi.2.2.1 ?_
  refine sl_cv (out' := oI) (q := (r, hx')) (v := some (.int (r, hx').1)) (rest := []) 9 [lvI (sc E i 1), lvI (sc E i 2)] dL_law_267 mc_X8_circulation lk_36 im_X8_circulation rfl se_X8_circulation (by decide) rfl ⟨(Nat.le_of_ble_eq_true rfl), (Nat.le_of_ble_eq_true rfl), by show cells + 0 ≤ _; omega, by show slots + 0 ≤ _; omega⟩ (Nat.le_of_ble_eq_true rfl) hX (ct_X8_circulation _ _ hq) rfl rfl ?_
  refine sl_aload_n 2 dL_law_270 rfl rfl ?_
  refine sl_aload_n 0 dL_law_271 rfl rfl ?_
  refine sl_iload 4 dL_law_272 rfl ?_
  refine sl_iconst (v := 1) dL_law_274 (by decide) ?_
  refine sl_iadd dL_law_275 ?_
  refine sl_sld dL_law_276 hi.2.1 ?_
  refine sl_aload_n 0 dL_law_277 rfl rfl ?_
  refine sl_iload 4 dL_law_278 rfl ?_
  refine sl_iconst (v := 2) dL_law_280 (by decide) ?_
  refine sl_iadd dL_law_281 ?_
  refine sl_sld dL_law_282 hi.2.2.1 ?_
  refine SimL.swap ?_
  refine sl_cv (out' := oI) (q := (r, hm')) (v := some (.int (r, hm').1)) (rest := [.int (r, hx').1]) 10 [lvI (sc E i 1), lvI (sc E i 2)] dL_law_283 mc_X9_circulation lk_40 im_X9_circulation rfl se_X9_circulation (by decide) rfl ⟨(Nat.le_of_ble_eq_true rfl), (Nat.le_of_ble_eq_true rfl), by show cells + 0 + 0 ≤ _; omega, by show slots + 0 + 0 ≤ _; omega⟩ (Nat.le_of_ble_eq_true rfl) hM (ct_X9_circulation _ _ hq2) rfl rfl ?_
  refine SimL.swap ?_
  rw [show wz (oI (r, hx')).2 (sz (oI (r, hm')).2) = hx' from by show wz hx' (sz hm') = _; rw [hz]; rfl]
  refine sl_icmp_eq 1006 dL_law_286 (by decide) (fun _ => ?_) (fun hc => absurd rfl hc)
  exact sl_widen (cells + 16) (slots + 4000) (by show cells + 0 + 0 ≤ _; omega) (by show slots + 0 + 0 ≤ _; omega) (sl_lo (LO (bE E) ax am ao i) ⟨rfl, rfl, rfl, rfl, rfl, trivial⟩ kk)
theorem lc_right {E : EL} {cells slots : Nat} {hx hm : HS} {ax am ao : Nat} {i : Int32} (hi : InR E i) (hr1 : cells + 16 ≤ 601024) (hr2 : slots + 4000 ≤ 7293034) {hx' : HS} {k0 : Int32} (hl0 : (lEL E).stackTraces = false) (hq : m_L_right (some ax) (sc E i 1) (sc E i 2) (sc E i 3) (some ao) hx = some (k0, hx'))
    (hm2 : ∀ k, sz hx' ≤ k → ∃ v hm', m_X9_right am (sc E i 1) (sc E i 2) (sc E i 3) (wz hm k) = some (v, hm') ∧ sz hm' = k ∧ m_X9_thrown am hm' = some (k0, hm') ∧ (k0 = 0 → al hx' ao 0 = v.toInt64) ∧ kd hx' ao = 204 ∧ inB 0 (ln hx' ao) = true ∧ kd hm am = 10 + 1 ∧ kd hm' am = 10 + 1 ∧ SimL E (cells + 16) (slots + 4000) 1006 (LO (bE E) ax am ao i) [] (wz hx' k) hm') : SimL E cells slots 291 (LO (bE E) ax am ao i) [] hx hm := by
  refine sl_aload_n 1 dL_law_291 rfl rfl ?_
  refine sl_aload_n 0 dL_law_292 rfl rfl ?_
  refine sl_iload 4 dL_law_293 rfl ?_
  refine sl_iconst (v := 1) dL_law_295 (by decide) ?_
  refine sl_iadd dL_law_296 ?_
  refine sl_sld dL_law_297 hi.2.1 ?_
  refine sl_aload_n 0 dL_law_298 rfl rfl ?_
  refine sl_iload 4 dL_law_299 rfl ?_
  refine sl_iconst (v := 2) dL_law_301 (by decide) ?_
  refine sl_iadd dL_law_302 ?_
  refine sl_sld dL_law_303 hi.2.2.1 ?_
  refine sl_aload_n 0 dL_law_304 rfl rfl ?_
  refine sl_iload 4 dL_law_305 rfl ?_
  refine sl_iconst (v := 3) dL_law_307 (by decide) ?_
  refine sl_iadd dL_law_308 ?_
  refine sl_sld dL_law_309 hi.2.2.2.1 ?_
  refine sl_aload_n 3 dL_law_310 rfl rfl ?_
  refine sl_cw (n := 5) (q := (k0, hx')) (rest := []) [lvR (some ax), lvI (sc E i 1), lvI (sc E i 2), lvI (sc E i 3), lvR (some ao)] dL_law_311 cw_right iw_L ⟨by decide +kernel, by decide +kernel⟩ (by decide +kernel) lk_41 sw_right rfl ⟨(Nat.le_of_ble_eq_true rfl), (Nat.le_of_ble_eq_true rfl), by show cells + 1 ≤ _; omega, by show slots + 6 ≤ _; omega⟩ (Nat.le_of_ble_eq_true rfl) (ct_L_right _ _ hl0 hq) rfl (fun k hk => ?_)
  obtain ⟨v, hm', hq2, hz, ht, hv, hko, hlo, hkm, hkm2, kk⟩ := hm2 k hk
  refine sl_istore 5 dL_law_314 (by decide) ?_
  refine sl_aload_n 2 dL_law_316 rfl rfl ?_
  refine sl_aload_n 0 dL_law_317 rfl rfl ?_
  refine sl_iload 4 dL_law_318 rfl ?_
  refine sl_iconst (v := 1) dL_law_320 (by decide) ?_
  refine sl_iadd dL_law_321 ?_
  refine sl_sld dL_law_322 hi.2.1 ?_
  refine sl_aload_n 0 dL_law_323 rfl rfl ?_
  refine sl_iload 4 dL_law_324 rfl ?_
  refine sl_iconst (v := 2) dL_law_326 (by decide) ?_
  refine sl_iadd dL_law_327 ?_
  refine sl_sld dL_law_328 hi.2.2.1 ?_
  refine sl_aload_n 0 dL_law_329 rfl rfl ?_
  refine sl_iload 4 dL_law_330 rfl ?_
  refine sl_iconst (v := 3) dL_law_332 (by decide) ?_
  refine sl_iadd dL_law_333 ?_
  refine sl_sld dL_law_334 hi.2.2.2.1 ?_
  refine SimL.swap ?_
  refine sl_cv (out' := oI) (q := (v, hm')) (v := some (.int (v, hm').1)) (rest := []) 10 [lvI (sc E i 1), lvI (sc E i 2), lvI (sc E i 3)] dL_law_335 mc_X9_right lk_46 im_X9_right rfl se_X9_right (by decide) rfl ⟨(Nat.le_of_ble_eq_true rfl), (Nat.le_of_ble_eq_true rfl), by show cells + 1 + 0 ≤ _; omega, by show slots + 6 + 0 ≤ _; omega⟩ (Nat.le_of_ble_eq_true rfl) hkm (ct_X9_right _ _ hq2) rfl rfl ?_
  refine sl_istore 6 dL_law_338 (by decide) ?_
  refine sl_aload_n 2 dL_law_340 rfl rfl ?_
  refine sl_cv (out' := oI) (q := (k0, hm')) (v := some (.int (k0, hm').1)) (rest := []) 10 [] dL_law_341 mc_X9_thrown lk_47 im_X9_thrown rfl se_X9_thrown (by decide) rfl ⟨(Nat.le_of_ble_eq_true rfl), (Nat.le_of_ble_eq_true rfl), by show cells + 1 + 0 + 0 ≤ _; omega, by show slots + 6 + 0 + 0 ≤ _; omega⟩ (Nat.le_of_ble_eq_true rfl) hkm2 (ct_X9_thrown _ _ ht) rfl rfl ?_
  refine SimL.swap ?_
  rw [show wz (wz (wz hx' k) (sz (oI (v, hm')).2)) (sz (oI (k0, hm')).2) = wz hx' k from by show wz hx' (sz hm') = _; rw [hz]]
  refine sl_iload 5 dL_law_344 rfl ?_
  refine sl_icmp_eq 351 dL_law_346 (by decide) (fun _ => ?_) (fun hc => absurd rfl hc)
  refine sl_iload 5 dL_law_351 rfl ?_
  refine sl_if_ne 368 dL_law_353 (by decide) (fun _ => ?_) (fun hk0 => ?_)
  · refine sl_goto 1006 dL_law_368 (by decide) ?_
    exact sl_widen (cells + 16) (slots + 4000) (by show cells + 1 + 0 + 0 ≤ _; omega) (by show slots + 6 + 0 + 0 ≤ _; omega) (sl_lo (LO (bE E) ax am ao i) ⟨rfl, rfl, rfl, rfl, rfl, trivial⟩ kk)
  · refine sl_aload_n 3 dL_law_356 rfl rfl ?_
    refine sl_iconst (v := 0) dL_law_357 (by decide) ?_
    refine sl_lald dL_law_358 hko hlo ?_
    refine sl_iload 6 dL_law_359 rfl ?_
    refine sl_i2l dL_law_361 ?_
    refine sl_lcmp dL_law_362 ?_
    rw [show al (wz hx' k) ao (0 : Int32).toNatClampNeg = v.toInt64 from hv hk0]
    refine sl_if_eq 368 dL_law_363 (by decide) (fun _ => ?_) (fun hc => absurd (lcmp_self _) hc)
    refine sl_goto 1006 dL_law_368 (by decide) ?_
    exact sl_widen (cells + 16) (slots + 4000) (by show cells + 1 + 0 + 0 ≤ _; omega) (by show slots + 6 + 0 + 0 ≤ _; omega) (sl_lo (LO (bE E) ax am ao i) ⟨rfl, rfl, rfl, rfl, rfl, trivial⟩ kk)
theorem lc_sign {E : EL} {cells slots : Nat} {hx hm : HS} {ax am ao : Nat} {i : Int32} (hi : InR E i) (hr1 : cells + 16 ≤ 601024) (hr2 : slots + 4000 ≤ 7293034) {hx' hm' : HS} {r : Int32} (hX : kd hx ax = 9 + 1) (hM : kd hm am = 10 + 1) (hq : m_X8_sign ax (sc E i 1) (sc E i 2) hx = some (r, hx')) (hq2 : m_X9_sign am (sc E i 1) (sc E i 2) (wz hm (sz hx')) = some (r, hm')) (hz : sz hm' = sz hx') (kk : SimL E (cells + 16) (slots + 4000) 1006 (LO (bE E) ax am ao i) [] hx' hm') : SimL E cells slots 371 (LO (bE E) ax am ao i) [] hx hm := by
  refine sl_aload_n 1 dL_law_371 rfl rfl ?_
  refine sl_aload_n 0 dL_law_372 rfl rfl ?_
  refine sl_iload 4 dL_law_373 rfl ?_
  refine sl_iconst (v := 1) dL_law_375 (by decide) ?_
  refine sl_iadd dL_law_376 ?_
  refine sl_sld dL_law_377 hi.2.1 ?_
  refine sl_aload_n 0 dL_law_378 rfl rfl ?_
  refine sl_iload 4 dL_law_379 rfl ?_
  refine sl_iconst (v := 2) dL_law_381 (by decide) ?_
  refine sl_iadd dL_law_382 ?_
  refine sl_sld dL_law_383 hi.2.2.1 ?_
  refine sl_cv (out' := oI) (q := (r, hx')) (v := some (.int (r, hx').1)) (rest := []) 9 [lvI (sc E i 1), lvI (sc E i 2)] dL_law_384 mc_X8_sign lk_51 im_X8_sign rfl se_X8_sign (by decide) rfl ⟨(Nat.le_of_ble_eq_true rfl), (Nat.le_of_ble_eq_true rfl), by show cells + 4 ≤ _; omega, by show slots + 341 ≤ _; omega⟩ (Nat.le_of_ble_eq_true rfl) hX (ct_X8_sign _ _ hq) rfl rfl ?_
  refine sl_aload_n 2 dL_law_387 rfl rfl ?_
  refine sl_aload_n 0 dL_law_388 rfl rfl ?_
  refine sl_iload 4 dL_law_389 rfl ?_
  refine sl_iconst (v := 1) dL_law_391 (by decide) ?_
  refine sl_iadd dL_law_392 ?_
  refine sl_sld dL_law_393 hi.2.1 ?_
  refine sl_aload_n 0 dL_law_394 rfl rfl ?_
  refine sl_iload 4 dL_law_395 rfl ?_
  refine sl_iconst (v := 2) dL_law_397 (by decide) ?_
  refine sl_iadd dL_law_398 ?_
  refine sl_sld dL_law_399 hi.2.2.1 ?_
  refine SimL.swap ?_
  refine sl_cv (out' := oI) (q := (r, hm')) (v := some (.int (r, hm').1)) (rest := [.int (r, hx').1]) 10 [lvI (sc E i 1), lvI (sc E i 2)] dL_law_400 mc_X9_sign lk_54 im_X9_sign rfl se_X9_sign (by decide) rfl ⟨(Nat.le_of_ble_eq_true rfl), (Nat.le_of_ble_eq_true rfl), by show cells + 4 + 0 ≤ _; omega, by show slots + 341 + 0 ≤ _; omega⟩ (Nat.le_of_ble_eq_true rfl) hM (ct_X9_sign _ _ hq2) rfl rfl ?_
  refine SimL.swap ?_
  rw [show wz (oI (r, hx')).2 (sz (oI (r, hm')).2) = hx' from by show wz hx' (sz hm') = _; rw [hz]; rfl]
  refine sl_icmp_eq 1006 dL_law_403 (by decide) (fun _ => ?_) (fun hc => absurd rfl hc)
  exact sl_widen (cells + 16) (slots + 4000) (by show cells + 4 + 0 ≤ _; omega) (by show slots + 341 + 0 ≤ _; omega) (sl_lo (LO (bE E) ax am ao i) ⟨rfl, rfl, rfl, rfl, rfl, trivial⟩ kk)
theorem lc_cancel {E : EL} {cells slots : Nat} {hx hm : HS} {ax am ao : Nat} {i : Int32} (hi : InR E i) (hr1 : cells + 16 ≤ 601024) (hr2 : slots + 4000 ≤ 7293034) {hx' hm' : HS} {r : Int32} (hX : kd hx ax = 9 + 1) (hM : kd hm am = 10 + 1) (hq : m_X8_cancel ax (sc E i 1) hx = some (r, hx')) (hq2 : m_X9_cancel am (sc E i 1) (wz hm (sz hx')) = some (r, hm')) (hz : sz hm' = sz hx') (kk : SimL E (cells + 16) (slots + 4000) 1006 (LO (bE E) ax am ao i) [] hx' hm') : SimL E cells slots 408 (LO (bE E) ax am ao i) [] hx hm := by
  refine sl_aload_n 1 dL_law_408 rfl rfl ?_
  refine sl_aload_n 0 dL_law_409 rfl rfl ?_
  refine sl_iload 4 dL_law_410 rfl ?_
  refine sl_iconst (v := 1) dL_law_412 (by decide) ?_
  refine sl_iadd dL_law_413 ?_
  refine sl_sld dL_law_414 hi.2.1 ?_
  refine sl_cv (out' := oI) (q := (r, hx')) (v := some (.int (r, hx').1)) (rest := []) 9 [lvI (sc E i 1)] dL_law_415 mc_X8_cancel lk_55 im_X8_cancel rfl se_X8_cancel (by decide) rfl ⟨(Nat.le_of_ble_eq_true rfl), (Nat.le_of_ble_eq_true rfl), by show cells + 0 ≤ _; omega, by show slots + 0 ≤ _; omega⟩ (Nat.le_of_ble_eq_true rfl) hX (ct_X8_cancel _ _ hq) rfl rfl ?_
  refine sl_aload_n 2 dL_law_418 rfl rfl ?_
  refine sl_aload_n 0 dL_law_419 rfl rfl ?_
  refine sl_iload 4 dL_law_420 rfl ?_
  refine sl_iconst (v := 1) dL_law_422 (by decide) ?_
  refine sl_iadd dL_law_423 ?_
  refine sl_sld dL_law_424 hi.2.1 ?_
  refine SimL.swap ?_
  refine sl_cv (out' := oI) (q := (r, hm')) (v := some (.int (r, hm').1)) (rest := [.int (r, hx').1]) 10 [lvI (sc E i 1)] dL_law_425 mc_X9_cancel lk_58 im_X9_cancel rfl se_X9_cancel (by decide) rfl ⟨(Nat.le_of_ble_eq_true rfl), (Nat.le_of_ble_eq_true rfl), by show cells + 0 + 0 ≤ _; omega, by show slots + 0 + 0 ≤ _; omega⟩ (Nat.le_of_ble_eq_true rfl) hM (ct_X9_cancel _ _ hq2) rfl rfl ?_
  refine SimL.swap ?_
  rw [show wz (oI (r, hx')).2 (sz (oI (r, hm')).2) = hx' from by show wz hx' (sz hm') = _; rw [hz]; rfl]
  refine sl_icmp_eq 1006 dL_law_428 (by decide) (fun _ => ?_) (fun hc => absurd rfl hc)
  exact sl_widen (cells + 16) (slots + 4000) (by show cells + 0 + 0 ≤ _; omega) (by show slots + 0 + 0 ≤ _; omega) (sl_lo (LO (bE E) ax am ao i) ⟨rfl, rfl, rfl, rfl, rfl, trivial⟩ kk)
theorem lc_ill {E : EL} {cells slots : Nat} {hx hm : HS} {ax am ao : Nat} {i : Int32} (hi : InR E i) (hr1 : cells + 16 ≤ 601024) (hr2 : slots + 4000 ≤ 7293034) {hx' hm' : HS} {r : Int32} (hX : kd hx ax = 9 + 1) (hM : kd hm am = 10 + 1) (hq : m_X8_ill ax (sc E i 1) (sc E i 2) hx = some (r, hx')) (hq2 : m_X9_ill am (sc E i 1) (sc E i 2) (wz hm (sz hx')) = some (r, hm')) (hz : sz hm' = sz hx') (kk : SimL E (cells + 16) (slots + 4000) 1006 (LO (bE E) ax am ao i) [] hx' hm') : SimL E cells slots 433 (LO (bE E) ax am ao i) [] hx hm := by
  refine sl_aload_n 1 dL_law_433 rfl rfl ?_
  refine sl_aload_n 0 dL_law_434 rfl rfl ?_
  refine sl_iload 4 dL_law_435 rfl ?_
  refine sl_iconst (v := 1) dL_law_437 (by decide) ?_
  refine sl_iadd dL_law_438 ?_
  refine sl_sld dL_law_439 hi.2.1 ?_
  refine sl_aload_n 0 dL_law_440 rfl rfl ?_
  refine sl_iload 4 dL_law_441 rfl ?_
  refine sl_iconst (v := 2) dL_law_443 (by decide) ?_
  refine sl_iadd dL_law_444 ?_
  refine sl_sld dL_law_445 hi.2.2.1 ?_
  refine sl_cv (out' := oI) (q := (r, hx')) (v := some (.int (r, hx').1)) (rest := []) 9 [lvI (sc E i 1), lvI (sc E i 2)] dL_law_446 mc_X8_ill lk_59 im_X8_ill rfl se_X8_ill (by decide) rfl ⟨(Nat.le_of_ble_eq_true rfl), (Nat.le_of_ble_eq_true rfl), by show cells + 0 ≤ _; omega, by show slots + 0 ≤ _; omega⟩ (Nat.le_of_ble_eq_true rfl) hX (ct_X8_ill _ _ hq) rfl rfl ?_
  refine sl_aload_n 2 dL_law_449 rfl rfl ?_
  refine sl_aload_n 0 dL_law_450 rfl rfl ?_
  refine sl_iload 4 dL_law_451 rfl ?_
  refine sl_iconst (v := 1) dL_law_453 (by decide) ?_
  refine sl_iadd dL_law_454 ?_
  refine sl_sld dL_law_455 hi.2.1 ?_
  refine sl_aload_n 0 dL_law_456 rfl rfl ?_
  refine sl_iload 4 dL_law_457 rfl ?_
  refine sl_iconst (v := 2) dL_law_459 (by decide) ?_
  refine sl_iadd dL_law_460 ?_
  refine sl_sld dL_law_461 hi.2.2.1 ?_
  refine SimL.swap ?_
  refine sl_cv (out' := oI) (q := (r, hm')) (v := some (.int (r, hm').1)) (rest := [.int (r, hx').1]) 10 [lvI (sc E i 1), lvI (sc E i 2)] dL_law_462 mc_X9_ill lk_62 im_X9_ill rfl se_X9_ill (by decide) rfl ⟨(Nat.le_of_ble_eq_true rfl), (Nat.le_of_ble_eq_true rfl), by show cells + 0 + 0 ≤ _; omega, by show slots + 0 + 0 ≤ _; omega⟩ (Nat.le_of_ble_eq_true rfl) hM (ct_X9_ill _ _ hq2) rfl rfl ?_
  refine SimL.swap ?_
  rw [show wz (oI (r, hx')).2 (sz (oI (r, hm')).2) = hx' from by show wz hx' (sz hm') = _; rw [hz]; rfl]
  refine sl_icmp_eq 1006 dL_law_465 (by decide) (fun _ => ?_) (fun hc => absurd rfl hc)
  exact sl_widen (cells + 16) (slots + 4000) (by show cells + 0 + 0 ≤ _; omega) (by show slots + 0 + 0 ≤ _; omega) (sl_lo (LO (bE E) ax am ao i) ⟨rfl, rfl, rfl, rfl, rfl, trivial⟩ kk)
theorem lc_stop {E : EL} {cells slots : Nat} {hx hm : HS} {ax am ao : Nat} {i : Int32} (hi : InR E i) (hr1 : cells + 16 ≤ 601024) (hr2 : slots + 4000 ≤ 7293034) {hx' hm' : HS} {r : Int32} (hX : kd hx ax = 9 + 1) (hM : kd hm am = 10 + 1) (hq : m_X8_stop ax (sc E i 1) (bz (sc E i 2)) hx = some (r, hx')) (hq2 : m_X9_stop am (sc E i 1) (bz (sc E i 2)) (wz hm (sz hx')) = some (r, hm')) (hz : sz hm' = sz hx') (kk : SimL E (cells + 16) (slots + 4000) 1006 (LO (bE E) ax am ao i) [] hx' hm') : SimL E cells slots 470 (LO (bE E) ax am ao i) [] hx hm := by
  refine sl_aload_n 1 dL_law_470 rfl rfl ?_
  refine sl_aload_n 0 dL_law_471 rfl rfl ?_
  refine sl_iload 4 dL_law_472 rfl ?_
  refine sl_iconst (v := 1) dL_law_474 (by decide) ?_
  refine sl_iadd dL_law_475 ?_
  refine sl_sld dL_law_476 hi.2.1 ?_
  refine sl_aload_n 0 dL_law_477 rfl rfl ?_
  refine sl_iload 4 dL_law_478 rfl ?_
  refine sl_iconst (v := 2) dL_law_480 (by decide) ?_
  refine sl_iadd dL_law_481 ?_
  refine sl_sld dL_law_482 hi.2.2.1 ?_
  refine sl_if_eq 490 dL_law_483 (by decide) (fun hc => ?_) (fun hc => ?_)
  · refine sl_iconst (v := 0) dL_law_490 (by decide) ?_
    rw [show bz (sc E i 2) = 0 from if_pos hc] at hq hq2
    refine sl_cv (out' := oI) (q := (r, hx')) (v := some (.int (r, hx').1)) (rest := []) 9 [lvI (sc E i 1), lvI 0] dL_law_491 mc_X8_stop lk_63 im_X8_stop rfl se_X8_stop (by decide) rfl ⟨(Nat.le_of_ble_eq_true rfl), (Nat.le_of_ble_eq_true rfl), by show cells + 0 ≤ _; omega, by show slots + 0 ≤ _; omega⟩ (Nat.le_of_ble_eq_true rfl) hX (ct_X8_stop _ _ hq) rfl rfl ?_
    refine sl_aload_n 2 dL_law_494 rfl rfl ?_
    refine sl_aload_n 0 dL_law_495 rfl rfl ?_
    refine sl_iload 4 dL_law_496 rfl ?_
    refine sl_iconst (v := 1) dL_law_498 (by decide) ?_
    refine sl_iadd dL_law_499 ?_
    refine sl_sld dL_law_500 hi.2.1 ?_
    refine sl_aload_n 0 dL_law_501 rfl rfl ?_
    refine sl_iload 4 dL_law_502 rfl ?_
    refine sl_iconst (v := 2) dL_law_504 (by decide) ?_
    refine sl_iadd dL_law_505 ?_
    refine sl_sld dL_law_506 hi.2.2.1 ?_
    refine sl_if_eq 514 dL_law_507 (by decide) (fun _ => ?_) (fun h9 => absurd hc h9)
    refine sl_iconst (v := 0) dL_law_514 (by decide) ?_
    refine SimL.swap ?_
    refine sl_cv (out' := oI) (q := (r, hm')) (v := some (.int (r, hm').1)) (rest := [.int (r, hx').1]) 10 [lvI (sc E i 1), lvI 0] dL_law_515 mc_X9_stop lk_67 im_X9_stop rfl se_X9_stop (by decide) rfl ⟨(Nat.le_of_ble_eq_true rfl), (Nat.le_of_ble_eq_true rfl), by show cells + 0 + 0 ≤ _; omega, by show slots + 0 + 0 ≤ _; omega⟩ (Nat.le_of_ble_eq_true rfl) hM (ct_X9_stop _ _ hq2) rfl rfl ?_
    refine SimL.swap ?_
    rw [show wz (oI (r, hx')).2 (sz (oI (r, hm')).2) = hx' from by show wz hx' (sz hm') = _; rw [hz]; rfl]
    refine sl_icmp_eq 1006 dL_law_518 (by decide) (fun _ => ?_) (fun hc => absurd rfl hc)
    exact sl_widen (cells + 16) (slots + 4000) (by show cells + 0 + 0 ≤ _; omega) (by show slots + 0 + 0 ≤ _; omega) (sl_lo (LO (bE E) ax am ao i) ⟨rfl, rfl, rfl, rfl, rfl, trivial⟩ kk)
  · refine sl_iconst (v := 1) dL_law_486 (by decide) ?_
    refine sl_goto 491 dL_law_487 (by decide) ?_
    rw [show bz (sc E i 2) = 1 from if_neg hc] at hq hq2
    refine sl_cv (out' := oI) (q := (r, hx')) (v := some (.int (r, hx').1)) (rest := []) 9 [lvI (sc E i 1), lvI 1] dL_law_491 mc_X8_stop lk_63 im_X8_stop rfl se_X8_stop (by decide) rfl ⟨(Nat.le_of_ble_eq_true rfl), (Nat.le_of_ble_eq_true rfl), by show cells + 0 ≤ _; omega, by show slots + 0 ≤ _; omega⟩ (Nat.le_of_ble_eq_true rfl) hX (ct_X8_stop _ _ hq) rfl rfl ?_
    refine sl_aload_n 2 dL_law_494 rfl rfl ?_
    refine sl_aload_n 0 dL_law_495 rfl rfl ?_
    refine sl_iload 4 dL_law_496 rfl ?_
    refine sl_iconst (v := 1) dL_law_498 (by decide) ?_
    refine sl_iadd dL_law_499 ?_
    refine sl_sld dL_law_500 hi.2.1 ?_
    refine sl_aload_n 0 dL_law_501 rfl rfl ?_
    refine sl_iload 4 dL_law_502 rfl ?_
    refine sl_iconst (v := 2) dL_law_504 (by decide) ?_
    refine sl_iadd dL_law_505 ?_
    refine sl_sld dL_law_506 hi.2.2.1 ?_
    refine sl_if_eq 514 dL_law_507 (by decide) (fun h9 => absurd h9 hc) (fun _ => ?_)
    refine sl_iconst (v := 1) dL_law_510 (by decide) ?_
    refine sl_goto 515 dL_law_511 (by decide) ?_
    refine SimL.swap ?_
    refine sl_cv (out' := oI) (q := (r, hm')) (v := some (.int (r, hm').1)) (rest := [.int (r, hx').1]) 10 [lvI (sc E i 1), lvI 1] dL_law_515 mc_X9_stop lk_67 im_X9_stop rfl se_X9_stop (by decide) rfl ⟨(Nat.le_of_ble_eq_true rfl), (Nat.le_of_ble_eq_true rfl), by show cells + 0 + 0 ≤ _; omega, by show slots + 0 + 0 ≤ _; omega⟩ (Nat.le_of_ble_eq_true rfl) hM (ct_X9_stop _ _ hq2) rfl rfl ?_
    refine SimL.swap ?_
    rw [show wz (oI (r, hx')).2 (sz (oI (r, hm')).2) = hx' from by show wz hx' (sz hm') = _; rw [hz]; rfl]
    refine sl_icmp_eq 1006 dL_law_518 (by decide) (fun _ => ?_) (fun hc => absurd rfl hc)
    exact sl_widen (cells + 16) (slots + 4000) (by show cells + 0 + 0 ≤ _; omega) (by show slots + 0 + 0 ≤ _; omega) (sl_lo (LO (bE E) ax am ao i) ⟨rfl, rfl, rfl, rfl, rfl, trivial⟩ kk)
theorem lc_miss {E : EL} {cells slots : Nat} {hx hm : HS} {ax am ao : Nat} {i : Int32} (hi : InR E i) (hr1 : cells + 16 ≤ 601024) (hr2 : slots + 4000 ≤ 7293034) {hx' hm' : HS} {r : Int32} (hX : kd hx ax = 9 + 1) (hM : kd hm am = 10 + 1) (hq : m_X8_miss ax (sc E i 1) hx = some (r, hx')) (hq2 : m_X9_miss am (sc E i 1) (wz hm (sz hx')) = some (r, hm')) (hz : sz hm' = sz hx') (kk : SimL E (cells + 16) (slots + 4000) 1006 (LO (bE E) ax am ao i) [] hx' hm') : SimL E cells slots 523 (LO (bE E) ax am ao i) [] hx hm := by
  refine sl_aload_n 1 dL_law_523 rfl rfl ?_
  refine sl_aload_n 0 dL_law_524 rfl rfl ?_
  refine sl_iload 4 dL_law_525 rfl ?_
  refine sl_iconst (v := 1) dL_law_527 (by decide) ?_
  refine sl_iadd dL_law_528 ?_
  refine sl_sld dL_law_529 hi.2.1 ?_
  refine sl_cv (out' := oI) (q := (r, hx')) (v := some (.int (r, hx').1)) (rest := []) 9 [lvI (sc E i 1)] dL_law_530 mc_X8_miss lk_68 im_X8_miss rfl se_X8_miss (by decide) rfl ⟨(Nat.le_of_ble_eq_true rfl), (Nat.le_of_ble_eq_true rfl), by show cells + 0 ≤ _; omega, by show slots + 0 ≤ _; omega⟩ (Nat.le_of_ble_eq_true rfl) hX (ct_X8_miss _ _ hq) rfl rfl ?_
  refine sl_aload_n 2 dL_law_533 rfl rfl ?_
  refine sl_aload_n 0 dL_law_534 rfl rfl ?_
  refine sl_iload 4 dL_law_535 rfl ?_
  refine sl_iconst (v := 1) dL_law_537 (by decide) ?_
  refine sl_iadd dL_law_538 ?_
  refine sl_sld dL_law_539 hi.2.1 ?_
  refine SimL.swap ?_
  refine sl_cv (out' := oI) (q := (r, hm')) (v := some (.int (r, hm').1)) (rest := [.int (r, hx').1]) 10 [lvI (sc E i 1)] dL_law_540 mc_X9_miss lk_72 im_X9_miss rfl se_X9_miss (by decide) rfl ⟨(Nat.le_of_ble_eq_true rfl), (Nat.le_of_ble_eq_true rfl), by show cells + 0 + 0 ≤ _; omega, by show slots + 0 + 0 ≤ _; omega⟩ (Nat.le_of_ble_eq_true rfl) hM (ct_X9_miss _ _ hq2) rfl rfl ?_
  refine SimL.swap ?_
  rw [show wz (oI (r, hx')).2 (sz (oI (r, hm')).2) = hx' from by show wz hx' (sz hm') = _; rw [hz]; rfl]
  refine sl_icmp_eq 1006 dL_law_543 (by decide) (fun _ => ?_) (fun hc => absurd rfl hc)
  exact sl_widen (cells + 16) (slots + 4000) (by show cells + 0 + 0 ≤ _; omega) (by show slots + 0 + 0 ≤ _; omega) (sl_lo (LO (bE E) ax am ao i) ⟨rfl, rfl, rfl, rfl, rfl, trivial⟩ kk)
theorem lc_send {E : EL} {cells slots : Nat} {hx hm : HS} {ax am ao : Nat} {i : Int32} (hi : InR E i) (hr1 : cells + 16 ≤ 601024) (hr2 : slots + 4000 ≤ 7293034) {hx' hm' : HS} {r : Int32} (hX : kd hx ax = 9 + 1) (hM : kd hm am = 10 + 1) (hq : m_X8_send ax (sc E i 1) hx = some (r, hx')) (hq2 : m_X9_send am (sc E i 1) (wz hm (sz hx')) = some (r, hm')) (hz : sz hm' = sz hx') (kk : SimL E (cells + 16) (slots + 4000) 1006 (LO (bE E) ax am ao i) [] hx' hm') : SimL E cells slots 548 (LO (bE E) ax am ao i) [] hx hm := by
  refine sl_aload_n 1 dL_law_548 rfl rfl ?_
  refine sl_aload_n 0 dL_law_549 rfl rfl ?_
  refine sl_iload 4 dL_law_550 rfl ?_
  refine sl_iconst (v := 1) dL_law_552 (by decide) ?_
  refine sl_iadd dL_law_553 ?_
  refine sl_sld dL_law_554 hi.2.1 ?_
  refine sl_cv (out' := oI) (q := (r, hx')) (v := some (.int (r, hx').1)) (rest := []) 9 [lvI (sc E i 1)] dL_law_555 mc_X8_send lk_73 im_X8_send rfl se_X8_send (by decide) rfl ⟨(Nat.le_of_ble_eq_true rfl), (Nat.le_of_ble_eq_true rfl), by show cells + 0 ≤ _; omega, by show slots + 0 ≤ _; omega⟩ (Nat.le_of_ble_eq_true rfl) hX (ct_X8_send _ _ hq) rfl rfl ?_
  refine sl_aload_n 2 dL_law_558 rfl rfl ?_
  refine sl_aload_n 0 dL_law_559 rfl rfl ?_
  refine sl_iload 4 dL_law_560 rfl ?_
  refine sl_iconst (v := 1) dL_law_562 (by decide) ?_
  refine sl_iadd dL_law_563 ?_
  refine sl_sld dL_law_564 hi.2.1 ?_
  refine SimL.swap ?_
  refine sl_cv (out' := oI) (q := (r, hm')) (v := some (.int (r, hm').1)) (rest := [.int (r, hx').1]) 10 [lvI (sc E i 1)] dL_law_565 mc_X9_send lk_76 im_X9_send rfl se_X9_send (by decide) rfl ⟨(Nat.le_of_ble_eq_true rfl), (Nat.le_of_ble_eq_true rfl), by show cells + 0 + 0 ≤ _; omega, by show slots + 0 + 0 ≤ _; omega⟩ (Nat.le_of_ble_eq_true rfl) hM (ct_X9_send _ _ hq2) rfl rfl ?_
  refine SimL.swap ?_
  rw [show wz (oI (r, hx')).2 (sz (oI (r, hm')).2) = hx' from by show wz hx' (sz hm') = _; rw [hz]; rfl]
  refine sl_icmp_eq 1006 dL_law_568 (by decide) (fun _ => ?_) (fun hc => absurd rfl hc)
  exact sl_widen (cells + 16) (slots + 4000) (by show cells + 0 + 0 ≤ _; omega) (by show slots + 0 + 0 ≤ _; omega) (sl_lo (LO (bE E) ax am ao i) ⟨rfl, rfl, rfl, rfl, rfl, trivial⟩ kk)
theorem lc_weeks {E : EL} {cells slots : Nat} {hx hm : HS} {ax am ao : Nat} {i : Int32} (hi : InR E i) (hr1 : cells + 16 ≤ 601024) (hr2 : slots + 4000 ≤ 7293034) {hx' hm' : HS} {r : Int32} (hX : kd hx ax = 9 + 1) (hM : kd hm am = 10 + 1) (hq : m_X8_weeks ax (sc E i 1) hx = some (r, hx')) (hq2 : m_X9_weeks am (sc E i 1) (wz hm (sz hx')) = some (r, hm')) (hz : sz hm' = sz hx') (kk : SimL E (cells + 16) (slots + 4000) 1006 (LO (bE E) ax am ao i) [] hx' hm') : SimL E cells slots 573 (LO (bE E) ax am ao i) [] hx hm := by
  refine sl_aload_n 1 dL_law_573 rfl rfl ?_
  refine sl_aload_n 0 dL_law_574 rfl rfl ?_
  refine sl_iload 4 dL_law_575 rfl ?_
  refine sl_iconst (v := 1) dL_law_577 (by decide) ?_
  refine sl_iadd dL_law_578 ?_
  refine sl_sld dL_law_579 hi.2.1 ?_
  refine sl_cv (out' := oI) (q := (r, hx')) (v := some (.int (r, hx').1)) (rest := []) 9 [lvI (sc E i 1)] dL_law_580 mc_X8_weeks lk_77 im_X8_weeks rfl se_X8_weeks (by decide) rfl ⟨(Nat.le_of_ble_eq_true rfl), (Nat.le_of_ble_eq_true rfl), by show cells + 0 ≤ _; omega, by show slots + 0 ≤ _; omega⟩ (Nat.le_of_ble_eq_true rfl) hX (ct_X8_weeks _ _ hq) rfl rfl ?_
  refine sl_aload_n 2 dL_law_583 rfl rfl ?_
  refine sl_aload_n 0 dL_law_584 rfl rfl ?_
  refine sl_iload 4 dL_law_585 rfl ?_
  refine sl_iconst (v := 1) dL_law_587 (by decide) ?_
  refine sl_iadd dL_law_588 ?_
  refine sl_sld dL_law_589 hi.2.1 ?_
  refine SimL.swap ?_
  refine sl_cv (out' := oI) (q := (r, hm')) (v := some (.int (r, hm').1)) (rest := [.int (r, hx').1]) 10 [lvI (sc E i 1)] dL_law_590 mc_X9_weeks lk_80 im_X9_weeks rfl se_X9_weeks (by decide) rfl ⟨(Nat.le_of_ble_eq_true rfl), (Nat.le_of_ble_eq_true rfl), by show cells + 0 + 0 ≤ _; omega, by show slots + 0 + 0 ≤ _; omega⟩ (Nat.le_of_ble_eq_true rfl) hM (ct_X9_weeks _ _ hq2) rfl rfl ?_
  refine SimL.swap ?_
  rw [show wz (oI (r, hx')).2 (sz (oI (r, hm')).2) = hx' from by show wz hx' (sz hm') = _; rw [hz]; rfl]
  refine sl_icmp_eq 1006 dL_law_593 (by decide) (fun _ => ?_) (fun hc => absurd rfl hc)
  exact sl_widen (cells + 16) (slots + 4000) (by show cells + 0 + 0 ≤ _; omega) (by show slots + 0 + 0 ≤ _; omega) (sl_lo (LO (bE E) ax am ao i) ⟨rfl, rfl, rfl, rfl, rfl, trivial⟩ kk)
theorem lc_feed {E : EL} {cells slots : Nat} {hx hm : HS} {ax am ao : Nat} {i : Int32} (hi : InR E i) (hr1 : cells + 16 ≤ 601024) (hr2 : slots + 4000 ≤ 7293034) {hx' hm' : HS} {r : Int32} (hX : kd hx ax = 9 + 1) (hM : kd hm am = 10 + 1) (hq : m_X8_feed ax ((lshl (sc E i 1).toInt64 32) ||| ((sc E i 2).toInt64 &&& 4294967295)) ((lshl (sc E i 3).toInt64 32) ||| ((sc E i 4).toInt64 &&& 4294967295)) ((lshl (sc E i 5).toInt64 32) ||| ((sc E i 6).toInt64 &&& 4294967295)) hx = some (r, hx')) (hq2 : m_X9_feed am ((lshl (sc E i 1).toInt64 32) ||| ((sc E i 2).toInt64 &&& 4294967295)) ((lshl (sc E i 3).toInt64 32) ||| ((sc E i 4).toInt64 &&& 4294967295)) ((lshl (sc E i 5).toInt64 32) ||| ((sc E i 6).toInt64 &&& 4294967295)) (wz hm (sz hx')) = some (r, hm')) (hz : sz hm' = sz hx') (kk : SimL E (cells + 16) (slots + 4000) 1006 (LO (bE E) ax am ao i) [] hx' hm') : SimL E cells slots 598 (LO (bE E) ax am ao i) [] hx hm := by
  refine sl_aload_n 1 dL_law_598 rfl rfl ?_
  refine sl_aload_n 0 dL_law_599 rfl rfl ?_
  refine sl_iload 4 dL_law_600 rfl ?_
  refine sl_iconst (v := 1) dL_law_602 (by decide) ?_
  refine sl_iadd dL_law_603 ?_
  refine sl_sld dL_law_604 hi.2.1 ?_
  refine sl_i2l dL_law_605 ?_
  refine sl_bipush (v := 32) dL_law_606 (by decide) ?_
  refine sl_lshl dL_law_608 ?_
  refine sl_aload_n 0 dL_law_609 rfl rfl ?_
  refine sl_iload 4 dL_law_610 rfl ?_
  refine sl_iconst (v := 2) dL_law_612 (by decide) ?_
  refine sl_iadd dL_law_613 ?_
  refine sl_sld dL_law_614 hi.2.2.1 ?_
  refine sl_i2l dL_law_615 ?_
  refine sl_ldc2 dL_law_616 kw_81 ?_
  refine sl_land dL_law_619 ?_
  refine sl_lor dL_law_620 ?_
  refine sl_aload_n 0 dL_law_621 rfl rfl ?_
  refine sl_iload 4 dL_law_622 rfl ?_
  refine sl_iconst (v := 3) dL_law_624 (by decide) ?_
  refine sl_iadd dL_law_625 ?_
  refine sl_sld dL_law_626 hi.2.2.2.1 ?_
  refine sl_i2l dL_law_627 ?_
  refine sl_bipush (v := 32) dL_law_628 (by decide) ?_
  refine sl_lshl dL_law_630 ?_
  refine sl_aload_n 0 dL_law_631 rfl rfl ?_
  refine sl_iload 4 dL_law_632 rfl ?_
  refine sl_iconst (v := 4) dL_law_634 (by decide) ?_
  refine sl_iadd dL_law_635 ?_
  refine sl_sld dL_law_636 hi.2.2.2.2.1 ?_
  refine sl_i2l dL_law_637 ?_
  refine sl_ldc2 dL_law_638 kw_81 ?_
  refine sl_land dL_law_641 ?_
  refine sl_lor dL_law_642 ?_
  refine sl_aload_n 0 dL_law_643 rfl rfl ?_
  refine sl_iload 4 dL_law_644 rfl ?_
  refine sl_iconst (v := 5) dL_law_646 (by decide) ?_
  refine sl_iadd dL_law_647 ?_
  refine sl_sld dL_law_648 hi.2.2.2.2.2.1 ?_
  refine sl_i2l dL_law_649 ?_
  refine sl_bipush (v := 32) dL_law_650 (by decide) ?_
  refine sl_lshl dL_law_652 ?_
  refine sl_aload_n 0 dL_law_653 rfl rfl ?_
  refine sl_iload 4 dL_law_654 rfl ?_
  refine sl_bipush (v := 6) dL_law_656 (by decide) ?_
  refine sl_iadd dL_law_658 ?_
  refine sl_sld dL_law_659 hi.2.2.2.2.2.2 ?_
  refine sl_i2l dL_law_660 ?_
  refine sl_ldc2 dL_law_661 kw_81 ?_
  refine sl_land dL_law_664 ?_
  refine sl_lor dL_law_665 ?_
  refine sl_cv (out' := oI) (q := (r, hx')) (v := some (.int (r, hx').1)) (rest := []) 9 [lvJ ((lshl (sc E i 1).toInt64 32) ||| ((sc E i 2).toInt64 &&& 4294967295)), lvJ ((lshl (sc E i 3).toInt64 32) ||| ((sc E i 4).toInt64 &&& 4294967295)), lvJ ((lshl (sc E i 5).toInt64 32) ||| ((sc E i 6).toInt64 &&& 4294967295))] dL_law_666 mc_X8_feed lk_83 im_X8_feed rfl se_X8_feed (by decide) rfl ⟨(Nat.le_of_ble_eq_true rfl), (Nat.le_of_ble_eq_true rfl), by show cells + 0 ≤ _; omega, by show slots + 0 ≤ _; omega⟩ (Nat.le_of_ble_eq_true rfl) hX (ct_X8_feed _ _ hq) rfl rfl ?_
  refine sl_aload_n 2 dL_law_669 rfl rfl ?_
  refine sl_aload_n 0 dL_law_670 rfl rfl ?_
  refine sl_iload 4 dL_law_671 rfl ?_
  refine sl_iconst (v := 1) dL_law_673 (by decide) ?_
  refine sl_iadd dL_law_674 ?_
  refine sl_sld dL_law_675 hi.2.1 ?_
  refine sl_i2l dL_law_676 ?_
  refine sl_bipush (v := 32) dL_law_677 (by decide) ?_
  refine sl_lshl dL_law_679 ?_
  refine sl_aload_n 0 dL_law_680 rfl rfl ?_
  refine sl_iload 4 dL_law_681 rfl ?_
  refine sl_iconst (v := 2) dL_law_683 (by decide) ?_
  refine sl_iadd dL_law_684 ?_
  refine sl_sld dL_law_685 hi.2.2.1 ?_
  refine sl_i2l dL_law_686 ?_
  refine sl_ldc2 dL_law_687 kw_81 ?_
  refine sl_land dL_law_690 ?_
  refine sl_lor dL_law_691 ?_
  refine sl_aload_n 0 dL_law_692 rfl rfl ?_
  refine sl_iload 4 dL_law_693 rfl ?_
  refine sl_iconst (v := 3) dL_law_695 (by decide) ?_
  refine sl_iadd dL_law_696 ?_
  refine sl_sld dL_law_697 hi.2.2.2.1 ?_
  refine sl_i2l dL_law_698 ?_
  refine sl_bipush (v := 32) dL_law_699 (by decide) ?_
  refine sl_lshl dL_law_701 ?_
  refine sl_aload_n 0 dL_law_702 rfl rfl ?_
  refine sl_iload 4 dL_law_703 rfl ?_
  refine sl_iconst (v := 4) dL_law_705 (by decide) ?_
  refine sl_iadd dL_law_706 ?_
  refine sl_sld dL_law_707 hi.2.2.2.2.1 ?_
  refine sl_i2l dL_law_708 ?_
  refine sl_ldc2 dL_law_709 kw_81 ?_
  refine sl_land dL_law_712 ?_
  refine sl_lor dL_law_713 ?_
  refine sl_aload_n 0 dL_law_714 rfl rfl ?_
  refine sl_iload 4 dL_law_715 rfl ?_
  refine sl_iconst (v := 5) dL_law_717 (by decide) ?_
  refine sl_iadd dL_law_718 ?_
  refine sl_sld dL_law_719 hi.2.2.2.2.2.1 ?_
  refine sl_i2l dL_law_720 ?_
  refine sl_bipush (v := 32) dL_law_721 (by decide) ?_
  refine sl_lshl dL_law_723 ?_
  refine sl_aload_n 0 dL_law_724 rfl rfl ?_
  refine sl_iload 4 dL_law_725 rfl ?_
  refine sl_bipush (v := 6) dL_law_727 (by decide) ?_
  refine sl_iadd dL_law_729 ?_
  refine sl_sld dL_law_730 hi.2.2.2.2.2.2 ?_
  refine sl_i2l dL_law_731 ?_
  refine sl_ldc2 dL_law_732 kw_81 ?_
  refine sl_land dL_law_735 ?_
  refine sl_lor dL_law_736 ?_
  refine SimL.swap ?_
  refine sl_cv (out' := oI) (q := (r, hm')) (v := some (.int (r, hm').1)) (rest := [.int (r, hx').1]) 10 [lvJ ((lshl (sc E i 1).toInt64 32) ||| ((sc E i 2).toInt64 &&& 4294967295)), lvJ ((lshl (sc E i 3).toInt64 32) ||| ((sc E i 4).toInt64 &&& 4294967295)), lvJ ((lshl (sc E i 5).toInt64 32) ||| ((sc E i 6).toInt64 &&& 4294967295))] dL_law_737 mc_X9_feed lk_87 im_X9_feed rfl se_X9_feed (by decide) rfl ⟨(Nat.le_of_ble_eq_true rfl), (Nat.le_of_ble_eq_true rfl), by show cells + 0 + 0 ≤ _; omega, by show slots + 0 + 0 ≤ _; omega⟩ (Nat.le_of_ble_eq_true rfl) hM (ct_X9_feed _ _ hq2) rfl rfl ?_
  refine SimL.swap ?_
  rw [show wz (oI (r, hx')).2 (sz (oI (r, hm')).2) = hx' from by show wz hx' (sz hm') = _; rw [hz]; rfl]
  refine sl_icmp_eq 1006 dL_law_740 (by decide) (fun _ => ?_) (fun hc => absurd rfl hc)
  exact sl_widen (cells + 16) (slots + 4000) (by show cells + 0 + 0 ≤ _; omega) (by show slots + 0 + 0 ≤ _; omega) (sl_lo (LO (bE E) ax am ao i) ⟨rfl, rfl, rfl, rfl, rfl, trivial⟩ kk)
theorem lc_text {E : EL} {cells slots : Nat} {hx hm : HS} {ax am ao : Nat} {i : Int32} (hi : InR E i) (hr1 : cells + 16 ≤ 601024) (hr2 : slots + 4000 ≤ 7293034) {hx' hm' : HS} {r : Int32} (hX : kd hx ax = 9 + 1) (hM : kd hm am = 10 + 1) (hq : m_X8_text ax hx = some (r, hx')) (hq2 : m_X9_text am (wz hm (sz hx')) = some (r, hm')) (hz : sz hm' = sz hx') (kk : SimL E (cells + 16) (slots + 4000) 1006 (LO (bE E) ax am ao i) [] hx' hm') : SimL E cells slots 745 (LO (bE E) ax am ao i) [] hx hm := by
  refine sl_aload_n 1 dL_law_745 rfl rfl ?_
  refine sl_cv (out' := oI) (q := (r, hx')) (v := some (.int (r, hx').1)) (rest := []) 9 [] dL_law_746 mc_X8_text lk_88 im_X8_text rfl se_X8_text (by decide) rfl ⟨(Nat.le_of_ble_eq_true rfl), (Nat.le_of_ble_eq_true rfl), by show cells + 2 ≤ _; omega, by show slots + 602 ≤ _; omega⟩ (Nat.le_of_ble_eq_true rfl) hX (ct_X8_text _ _ hq) rfl rfl ?_
  refine sl_aload_n 2 dL_law_749 rfl rfl ?_
  refine SimL.swap ?_
  refine sl_cv (out' := oI) (q := (r, hm')) (v := some (.int (r, hm').1)) (rest := [.int (r, hx').1]) 10 [] dL_law_750 mc_X9_text lk_91 im_X9_text rfl se_X9_text (by decide) rfl ⟨(Nat.le_of_ble_eq_true rfl), (Nat.le_of_ble_eq_true rfl), by show cells + 2 + 0 ≤ _; omega, by show slots + 602 + 0 ≤ _; omega⟩ (Nat.le_of_ble_eq_true rfl) hM (ct_X9_text _ _ hq2) rfl rfl ?_
  refine SimL.swap ?_
  rw [show wz (oI (r, hx')).2 (sz (oI (r, hm')).2) = hx' from by show wz hx' (sz hm') = _; rw [hz]; rfl]
  refine sl_icmp_eq 1006 dL_law_753 (by decide) (fun _ => ?_) (fun hc => absurd rfl hc)
  exact sl_widen (cells + 16) (slots + 4000) (by show cells + 2 + 0 ≤ _; omega) (by show slots + 602 + 0 ≤ _; omega) (sl_lo (LO (bE E) ax am ao i) ⟨rfl, rfl, rfl, rfl, rfl, trivial⟩ kk)
theorem lc_look {E : EL} {cells slots : Nat} {hx hm : HS} {ax am ao : Nat} {i : Int32} (hi : InR E i) (hr1 : cells + 16 ≤ 601024) (hr2 : slots + 4000 ≤ 7293034) {hx' : HS} {k0 : Int32} (hl0 : (lEL E).stackTraces = false) (hq : m_L_look (some ax) (sc E i 1) (sc E i 2) (some ao) hx = some (k0, hx'))
    (hm2 : ∀ k, sz hx' ≤ k → ∃ v hm', m_X9_look am (sc E i 1) (sc E i 2) (wz hm k) = some (v, hm') ∧ sz hm' = k ∧ m_X9_thrown am hm' = some (k0, hm') ∧ (k0 = 0 → al hx' ao 0 = v.toInt64) ∧ kd hx' ao = 204 ∧ inB 0 (ln hx' ao) = true ∧ kd hm am = 10 + 1 ∧ kd hm' am = 10 + 1 ∧ SimL E (cells + 16) (slots + 4000) 1006 (LO (bE E) ax am ao i) [] (wz hx' k) hm') : SimL E cells slots 758 (LO (bE E) ax am ao i) [] hx hm := by
  refine sl_aload_n 1 dL_law_758 rfl rfl ?_
  refine sl_aload_n 0 dL_law_759 rfl rfl ?_
  refine sl_iload 4 dL_law_760 rfl ?_
  refine sl_iconst (v := 1) dL_law_762 (by decide) ?_
  refine sl_iadd dL_law_763 ?_
  refine sl_sld dL_law_764 hi.2.1 ?_
  refine sl_aload_n 0 dL_law_765 rfl rfl ?_
  refine sl_iload 4 dL_law_766 rfl ?_
  refine sl_iconst (v := 2) dL_law_768 (by decide) ?_
  refine sl_iadd dL_law_769 ?_
  refine sl_sld dL_law_770 hi.2.2.1 ?_
  refine sl_aload_n 3 dL_law_771 rfl rfl ?_
  refine sl_cw (n := 4) (q := (k0, hx')) (rest := []) [lvR (some ax), lvI (sc E i 1), lvI (sc E i 2), lvR (some ao)] dL_law_772 cw_look iw_L ⟨by decide +kernel, by decide +kernel⟩ (by decide +kernel) lk_92 sw_look rfl ⟨(Nat.le_of_ble_eq_true rfl), (Nat.le_of_ble_eq_true rfl), by show cells + 1 ≤ _; omega, by show slots + 6 ≤ _; omega⟩ (Nat.le_of_ble_eq_true rfl) (ct_L_look _ _ hl0 hq) rfl (fun k hk => ?_)
  obtain ⟨v, hm', hq2, hz, ht, hv, hko, hlo, hkm, hkm2, kk⟩ := hm2 k hk
  refine sl_istore 5 dL_law_775 (by decide) ?_
  refine sl_aload_n 2 dL_law_777 rfl rfl ?_
  refine sl_aload_n 0 dL_law_778 rfl rfl ?_
  refine sl_iload 4 dL_law_779 rfl ?_
  refine sl_iconst (v := 1) dL_law_781 (by decide) ?_
  refine sl_iadd dL_law_782 ?_
  refine sl_sld dL_law_783 hi.2.1 ?_
  refine sl_aload_n 0 dL_law_784 rfl rfl ?_
  refine sl_iload 4 dL_law_785 rfl ?_
  refine sl_iconst (v := 2) dL_law_787 (by decide) ?_
  refine sl_iadd dL_law_788 ?_
  refine sl_sld dL_law_789 hi.2.2.1 ?_
  refine SimL.swap ?_
  refine sl_cv (out' := oI) (q := (v, hm')) (v := some (.int (v, hm').1)) (rest := []) 10 [lvI (sc E i 1), lvI (sc E i 2)] dL_law_790 mc_X9_look lk_95 im_X9_look rfl se_X9_look (by decide) rfl ⟨(Nat.le_of_ble_eq_true rfl), (Nat.le_of_ble_eq_true rfl), by show cells + 1 + 0 ≤ _; omega, by show slots + 6 + 0 ≤ _; omega⟩ (Nat.le_of_ble_eq_true rfl) hkm (ct_X9_look _ _ hq2) rfl rfl ?_
  refine sl_istore 6 dL_law_793 (by decide) ?_
  refine sl_aload_n 2 dL_law_795 rfl rfl ?_
  refine sl_cv (out' := oI) (q := (k0, hm')) (v := some (.int (k0, hm').1)) (rest := []) 10 [] dL_law_796 mc_X9_thrown lk_47 im_X9_thrown rfl se_X9_thrown (by decide) rfl ⟨(Nat.le_of_ble_eq_true rfl), (Nat.le_of_ble_eq_true rfl), by show cells + 1 + 0 + 0 ≤ _; omega, by show slots + 6 + 0 + 0 ≤ _; omega⟩ (Nat.le_of_ble_eq_true rfl) hkm2 (ct_X9_thrown _ _ ht) rfl rfl ?_
  refine SimL.swap ?_
  rw [show wz (wz (wz hx' k) (sz (oI (v, hm')).2)) (sz (oI (k0, hm')).2) = wz hx' k from by show wz hx' (sz hm') = _; rw [hz]]
  refine sl_iload 5 dL_law_799 rfl ?_
  refine sl_icmp_eq 806 dL_law_801 (by decide) (fun _ => ?_) (fun hc => absurd rfl hc)
  refine sl_iload 5 dL_law_806 rfl ?_
  refine sl_if_ne 823 dL_law_808 (by decide) (fun _ => ?_) (fun hk0 => ?_)
  · refine sl_goto 1006 dL_law_823 (by decide) ?_
    exact sl_widen (cells + 16) (slots + 4000) (by show cells + 1 + 0 + 0 ≤ _; omega) (by show slots + 6 + 0 + 0 ≤ _; omega) (sl_lo (LO (bE E) ax am ao i) ⟨rfl, rfl, rfl, rfl, rfl, trivial⟩ kk)
  · refine sl_aload_n 3 dL_law_811 rfl rfl ?_
    refine sl_iconst (v := 0) dL_law_812 (by decide) ?_
    refine sl_lald dL_law_813 hko hlo ?_
    refine sl_iload 6 dL_law_814 rfl ?_
    refine sl_i2l dL_law_816 ?_
    refine sl_lcmp dL_law_817 ?_
    rw [show al (wz hx' k) ao (0 : Int32).toNatClampNeg = v.toInt64 from hv hk0]
    refine sl_if_eq 823 dL_law_818 (by decide) (fun _ => ?_) (fun hc => absurd (lcmp_self _) hc)
    refine sl_goto 1006 dL_law_823 (by decide) ?_
    exact sl_widen (cells + 16) (slots + 4000) (by show cells + 1 + 0 + 0 ≤ _; omega) (by show slots + 6 + 0 + 0 ≤ _; omega) (sl_lo (LO (bE E) ax am ao i) ⟨rfl, rfl, rfl, rfl, rfl, trivial⟩ kk)
theorem lc_panel {E : EL} {cells slots : Nat} {hx hm : HS} {ax am ao : Nat} {i : Int32} (hi : InR E i) (hr1 : cells + 16 ≤ 601024) (hr2 : slots + 4000 ≤ 7293034) {hx' hm' : HS} {r : Int32} (hX : kd hx ax = 9 + 1) (hM : kd hm am = 10 + 1) (hq : m_X8_panel ax (sc E i 1) hx = some (r, hx')) (hq2 : m_X9_panel am (sc E i 1) (wz hm (sz hx')) = some (r, hm')) (hz : sz hm' = sz hx') (kk : SimL E (cells + 16) (slots + 4000) 1006 (LO (bE E) ax am ao i) [] hx' hm') : SimL E cells slots 826 (LO (bE E) ax am ao i) [] hx hm := by
  refine sl_aload_n 1 dL_law_826 rfl rfl ?_
  refine sl_aload_n 0 dL_law_827 rfl rfl ?_
  refine sl_iload 4 dL_law_828 rfl ?_
  refine sl_iconst (v := 1) dL_law_830 (by decide) ?_
  refine sl_iadd dL_law_831 ?_
  refine sl_sld dL_law_832 hi.2.1 ?_
  refine sl_cv (out' := oI) (q := (r, hx')) (v := some (.int (r, hx').1)) (rest := []) 9 [lvI (sc E i 1)] dL_law_833 mc_X8_panel lk_96 im_X8_panel rfl se_X8_panel (by decide) rfl ⟨(Nat.le_of_ble_eq_true rfl), (Nat.le_of_ble_eq_true rfl), by show cells + 0 ≤ _; omega, by show slots + 0 ≤ _; omega⟩ (Nat.le_of_ble_eq_true rfl) hX (ct_X8_panel _ _ hq) rfl rfl ?_
  refine sl_aload_n 2 dL_law_836 rfl rfl ?_
  refine sl_aload_n 0 dL_law_837 rfl rfl ?_
  refine sl_iload 4 dL_law_838 rfl ?_
  refine sl_iconst (v := 1) dL_law_840 (by decide) ?_
  refine sl_iadd dL_law_841 ?_
  refine sl_sld dL_law_842 hi.2.1 ?_
  refine SimL.swap ?_
  refine sl_cv (out' := oI) (q := (r, hm')) (v := some (.int (r, hm').1)) (rest := [.int (r, hx').1]) 10 [lvI (sc E i 1)] dL_law_843 mc_X9_panel lk_99 im_X9_panel rfl se_X9_panel (by decide) rfl ⟨(Nat.le_of_ble_eq_true rfl), (Nat.le_of_ble_eq_true rfl), by show cells + 0 + 0 ≤ _; omega, by show slots + 0 + 0 ≤ _; omega⟩ (Nat.le_of_ble_eq_true rfl) hM (ct_X9_panel _ _ hq2) rfl rfl ?_
  refine SimL.swap ?_
  rw [show wz (oI (r, hx')).2 (sz (oI (r, hm')).2) = hx' from by show wz hx' (sz hm') = _; rw [hz]; rfl]
  refine sl_icmp_eq 1006 dL_law_846 (by decide) (fun _ => ?_) (fun hc => absurd rfl hc)
  exact sl_widen (cells + 16) (slots + 4000) (by show cells + 0 + 0 ≤ _; omega) (by show slots + 0 + 0 ≤ _; omega) (sl_lo (LO (bE E) ax am ao i) ⟨rfl, rfl, rfl, rfl, rfl, trivial⟩ kk)
theorem lc_income {E : EL} {cells slots : Nat} {hx hm : HS} {ax am ao : Nat} {i : Int32} (hi : InR E i) (hr1 : cells + 16 ≤ 601024) (hr2 : slots + 4000 ≤ 7293034) {hx' : HS} {k0 : Int32} (hl0 : (lEL E).stackTraces = false) (hq : m_L_income (some ax) (sc E i 1) (some ao) hx = some (k0, hx'))
    (hm2 : ∀ k, sz hx' ≤ k → ∃ v hm', m_X9_income am (sc E i 1) (wz hm k) = some (v, hm') ∧ sz hm' = k ∧ m_X9_thrown am hm' = some (k0, hm') ∧ (k0 = 0 → al hx' ao 0 = v.toInt64) ∧ kd hx' ao = 204 ∧ inB 0 (ln hx' ao) = true ∧ kd hm am = 10 + 1 ∧ kd hm' am = 10 + 1 ∧ SimL E (cells + 16) (slots + 4000) 1006 (LO (bE E) ax am ao i) [] (wz hx' k) hm') : SimL E cells slots 851 (LO (bE E) ax am ao i) [] hx hm := by
  refine sl_aload_n 1 dL_law_851 rfl rfl ?_
  refine sl_aload_n 0 dL_law_852 rfl rfl ?_
  refine sl_iload 4 dL_law_853 rfl ?_
  refine sl_iconst (v := 1) dL_law_855 (by decide) ?_
  refine sl_iadd dL_law_856 ?_
  refine sl_sld dL_law_857 hi.2.1 ?_
  refine sl_aload_n 3 dL_law_858 rfl rfl ?_
  refine sl_cw (n := 3) (q := (k0, hx')) (rest := []) [lvR (some ax), lvI (sc E i 1), lvR (some ao)] dL_law_859 cw_income iw_L ⟨by decide +kernel, by decide +kernel⟩ (by decide +kernel) lk_100 sw_income rfl ⟨(Nat.le_of_ble_eq_true rfl), (Nat.le_of_ble_eq_true rfl), by show cells + 1 ≤ _; omega, by show slots + 6 ≤ _; omega⟩ (Nat.le_of_ble_eq_true rfl) (ct_L_income _ _ hl0 hq) rfl (fun k hk => ?_)
  obtain ⟨v, hm', hq2, hz, ht, hv, hko, hlo, hkm, hkm2, kk⟩ := hm2 k hk
  refine sl_istore 5 dL_law_862 (by decide) ?_
  refine sl_aload_n 2 dL_law_864 rfl rfl ?_
  refine sl_aload_n 0 dL_law_865 rfl rfl ?_
  refine sl_iload 4 dL_law_866 rfl ?_
  refine sl_iconst (v := 1) dL_law_868 (by decide) ?_
  refine sl_iadd dL_law_869 ?_
  refine sl_sld dL_law_870 hi.2.1 ?_
  refine SimL.swap ?_
  refine sl_cv (out' := oI) (q := (v, hm')) (v := some (.int (v, hm').1)) (rest := []) 10 [lvI (sc E i 1)] dL_law_871 mc_X9_income lk_103 im_X9_income rfl se_X9_income (by decide) rfl ⟨(Nat.le_of_ble_eq_true rfl), (Nat.le_of_ble_eq_true rfl), by show cells + 1 + 0 ≤ _; omega, by show slots + 6 + 0 ≤ _; omega⟩ (Nat.le_of_ble_eq_true rfl) hkm (ct_X9_income _ _ hq2) rfl rfl ?_
  refine sl_istore 6 dL_law_874 (by decide) ?_
  refine sl_aload_n 2 dL_law_876 rfl rfl ?_
  refine sl_cv (out' := oI) (q := (k0, hm')) (v := some (.int (k0, hm').1)) (rest := []) 10 [] dL_law_877 mc_X9_thrown lk_47 im_X9_thrown rfl se_X9_thrown (by decide) rfl ⟨(Nat.le_of_ble_eq_true rfl), (Nat.le_of_ble_eq_true rfl), by show cells + 1 + 0 + 0 ≤ _; omega, by show slots + 6 + 0 + 0 ≤ _; omega⟩ (Nat.le_of_ble_eq_true rfl) hkm2 (ct_X9_thrown _ _ ht) rfl rfl ?_
  refine SimL.swap ?_
  rw [show wz (wz (wz hx' k) (sz (oI (v, hm')).2)) (sz (oI (k0, hm')).2) = wz hx' k from by show wz hx' (sz hm') = _; rw [hz]]
  refine sl_iload 5 dL_law_880 rfl ?_
  refine sl_icmp_eq 887 dL_law_882 (by decide) (fun _ => ?_) (fun hc => absurd rfl hc)
  refine sl_iload 5 dL_law_887 rfl ?_
  refine sl_if_ne 904 dL_law_889 (by decide) (fun _ => ?_) (fun hk0 => ?_)
  · refine sl_goto 1006 dL_law_904 (by decide) ?_
    exact sl_widen (cells + 16) (slots + 4000) (by show cells + 1 + 0 + 0 ≤ _; omega) (by show slots + 6 + 0 + 0 ≤ _; omega) (sl_lo (LO (bE E) ax am ao i) ⟨rfl, rfl, rfl, rfl, rfl, trivial⟩ kk)
  · refine sl_aload_n 3 dL_law_892 rfl rfl ?_
    refine sl_iconst (v := 0) dL_law_893 (by decide) ?_
    refine sl_lald dL_law_894 hko hlo ?_
    refine sl_iload 6 dL_law_895 rfl ?_
    refine sl_i2l dL_law_897 ?_
    refine sl_lcmp dL_law_898 ?_
    rw [show al (wz hx' k) ao (0 : Int32).toNatClampNeg = v.toInt64 from hv hk0]
    refine sl_if_eq 904 dL_law_899 (by decide) (fun _ => ?_) (fun hc => absurd (lcmp_self _) hc)
    refine sl_goto 1006 dL_law_904 (by decide) ?_
    exact sl_widen (cells + 16) (slots + 4000) (by show cells + 1 + 0 + 0 ≤ _; omega) (by show slots + 6 + 0 + 0 ≤ _; omega) (sl_lo (LO (bE E) ax am ao i) ⟨rfl, rfl, rfl, rfl, rfl, trivial⟩ kk)
theorem lc_share {E : EL} {cells slots : Nat} {hx hm : HS} {ax am ao : Nat} {i : Int32} (hi : InR E i) (hr1 : cells + 16 ≤ 601024) (hr2 : slots + 4000 ≤ 7293034) {hx' hm' : HS} {r : Int32} (hX : kd hx ax = 9 + 1) (hM : kd hm am = 10 + 1) (hq : m_X8_share ax (sc E i 1) (sc E i 2) hx = some (r, hx')) (hq2 : m_X9_share am (sc E i 1) (sc E i 2) (wz hm (sz hx')) = some (r, hm')) (hz : sz hm' = sz hx') (kk : SimL E (cells + 16) (slots + 4000) 1006 (LO (bE E) ax am ao i) [] hx' hm') : SimL E cells slots 907 (LO (bE E) ax am ao i) [] hx hm := by
  refine sl_aload_n 1 dL_law_907 rfl rfl ?_
  refine sl_aload_n 0 dL_law_908 rfl rfl ?_
  refine sl_iload 4 dL_law_909 rfl ?_
  refine sl_iconst (v := 1) dL_law_911 (by decide) ?_
  refine sl_iadd dL_law_912 ?_
  refine sl_sld dL_law_913 hi.2.1 ?_
  refine sl_aload_n 0 dL_law_914 rfl rfl ?_
  refine sl_iload 4 dL_law_915 rfl ?_
  refine sl_iconst (v := 2) dL_law_917 (by decide) ?_
  refine sl_iadd dL_law_918 ?_
  refine sl_sld dL_law_919 hi.2.2.1 ?_
  refine sl_cv (out' := oI) (q := (r, hx')) (v := some (.int (r, hx').1)) (rest := []) 9 [lvI (sc E i 1), lvI (sc E i 2)] dL_law_920 mc_X8_share lk_104 im_X8_share rfl se_X8_share (by decide) rfl ⟨(Nat.le_of_ble_eq_true rfl), (Nat.le_of_ble_eq_true rfl), by show cells + 0 ≤ _; omega, by show slots + 0 ≤ _; omega⟩ (Nat.le_of_ble_eq_true rfl) hX (ct_X8_share _ _ hq) rfl rfl ?_
  refine sl_aload_n 2 dL_law_923 rfl rfl ?_
  refine sl_aload_n 0 dL_law_924 rfl rfl ?_
  refine sl_iload 4 dL_law_925 rfl ?_
  refine sl_iconst (v := 1) dL_law_927 (by decide) ?_
  refine sl_iadd dL_law_928 ?_
  refine sl_sld dL_law_929 hi.2.1 ?_
  refine sl_aload_n 0 dL_law_930 rfl rfl ?_
  refine sl_iload 4 dL_law_931 rfl ?_
  refine sl_iconst (v := 2) dL_law_933 (by decide) ?_
  refine sl_iadd dL_law_934 ?_
  refine sl_sld dL_law_935 hi.2.2.1 ?_
  refine SimL.swap ?_
  refine sl_cv (out' := oI) (q := (r, hm')) (v := some (.int (r, hm').1)) (rest := [.int (r, hx').1]) 10 [lvI (sc E i 1), lvI (sc E i 2)] dL_law_936 mc_X9_share lk_107 im_X9_share rfl se_X9_share (by decide) rfl ⟨(Nat.le_of_ble_eq_true rfl), (Nat.le_of_ble_eq_true rfl), by show cells + 0 + 0 ≤ _; omega, by show slots + 0 + 0 ≤ _; omega⟩ (Nat.le_of_ble_eq_true rfl) hM (ct_X9_share _ _ hq2) rfl rfl ?_
  refine SimL.swap ?_
  rw [show wz (oI (r, hx')).2 (sz (oI (r, hm')).2) = hx' from by show wz hx' (sz hm') = _; rw [hz]; rfl]
  refine sl_icmp_eq 1006 dL_law_939 (by decide) (fun _ => ?_) (fun hc => absurd rfl hc)
  exact sl_widen (cells + 16) (slots + 4000) (by show cells + 0 + 0 ≤ _; omega) (by show slots + 0 + 0 ≤ _; omega) (sl_lo (LO (bE E) ax am ao i) ⟨rfl, rfl, rfl, rfl, rfl, trivial⟩ kk)
theorem lc_sells {E : EL} {cells slots : Nat} {hx hm : HS} {ax am ao : Nat} {i : Int32} (hi : InR E i) (hr1 : cells + 16 ≤ 601024) (hr2 : slots + 4000 ≤ 7293034) {hx' hm' : HS} {r : Int32} (hX : kd hx ax = 9 + 1) (hM : kd hm am = 10 + 1) (hq : m_X8_sells ax (sc E i 1) (sc E i 2) hx = some (r, hx')) (hq2 : m_X9_sells am (sc E i 1) (sc E i 2) (wz hm (sz hx')) = some (r, hm')) (hz : sz hm' = sz hx') (kk : SimL E (cells + 16) (slots + 4000) 1006 (LO (bE E) ax am ao i) [] hx' hm') : SimL E cells slots 944 (LO (bE E) ax am ao i) [] hx hm := by
  refine sl_aload_n 1 dL_law_944 rfl rfl ?_
  refine sl_aload_n 0 dL_law_945 rfl rfl ?_
  refine sl_iload 4 dL_law_946 rfl ?_
  refine sl_iconst (v := 1) dL_law_948 (by decide) ?_
  refine sl_iadd dL_law_949 ?_
  refine sl_sld dL_law_950 hi.2.1 ?_
  refine sl_aload_n 0 dL_law_951 rfl rfl ?_
  refine sl_iload 4 dL_law_952 rfl ?_
  refine sl_iconst (v := 2) dL_law_954 (by decide) ?_
  refine sl_iadd dL_law_955 ?_
  refine sl_sld dL_law_956 hi.2.2.1 ?_
  refine sl_cv (out' := oI) (q := (r, hx')) (v := some (.int (r, hx').1)) (rest := []) 9 [lvI (sc E i 1), lvI (sc E i 2)] dL_law_957 mc_X8_sells lk_108 im_X8_sells rfl se_X8_sells (by decide) rfl ⟨(Nat.le_of_ble_eq_true rfl), (Nat.le_of_ble_eq_true rfl), by show cells + 0 ≤ _; omega, by show slots + 0 ≤ _; omega⟩ (Nat.le_of_ble_eq_true rfl) hX (ct_X8_sells _ _ hq) rfl rfl ?_
  refine sl_aload_n 2 dL_law_960 rfl rfl ?_
  refine sl_aload_n 0 dL_law_961 rfl rfl ?_
  refine sl_iload 4 dL_law_962 rfl ?_
  refine sl_iconst (v := 1) dL_law_964 (by decide) ?_
  refine sl_iadd dL_law_965 ?_
  refine sl_sld dL_law_966 hi.2.1 ?_
  refine sl_aload_n 0 dL_law_967 rfl rfl ?_
  refine sl_iload 4 dL_law_968 rfl ?_
  refine sl_iconst (v := 2) dL_law_970 (by decide) ?_
  refine sl_iadd dL_law_971 ?_
  refine sl_sld dL_law_972 hi.2.2.1 ?_
  refine SimL.swap ?_
  refine sl_cv (out' := oI) (q := (r, hm')) (v := some (.int (r, hm').1)) (rest := [.int (r, hx').1]) 10 [lvI (sc E i 1), lvI (sc E i 2)] dL_law_973 mc_X9_sells lk_111 im_X9_sells rfl se_X9_sells (by decide) rfl ⟨(Nat.le_of_ble_eq_true rfl), (Nat.le_of_ble_eq_true rfl), by show cells + 0 + 0 ≤ _; omega, by show slots + 0 + 0 ≤ _; omega⟩ (Nat.le_of_ble_eq_true rfl) hM (ct_X9_sells _ _ hq2) rfl rfl ?_
  refine SimL.swap ?_
  rw [show wz (oI (r, hx')).2 (sz (oI (r, hm')).2) = hx' from by show wz hx' (sz hm') = _; rw [hz]; rfl]
  refine sl_icmp_eq 1006 dL_law_976 (by decide) (fun _ => ?_) (fun hc => absurd rfl hc)
  exact sl_widen (cells + 16) (slots + 4000) (by show cells + 0 + 0 ≤ _; omega) (by show slots + 0 + 0 ≤ _; omega) (sl_lo (LO (bE E) ax am ao i) ⟨rfl, rfl, rfl, rfl, rfl, trivial⟩ kk)
theorem lc_count {E : EL} {cells slots : Nat} {hx hm : HS} {ax am ao : Nat} {i : Int32} (hi : InR E i) (hr1 : cells + 16 ≤ 601024) (hr2 : slots + 4000 ≤ 7293034) {hx' hm' : HS} {r : Int32} (hX : kd hx ax = 9 + 1) (hM : kd hm am = 10 + 1) (hq : m_X8_count ax (sc E i 1) hx = some (r, hx')) (hq2 : m_X9_count am (sc E i 1) (wz hm (sz hx')) = some (r, hm')) (hz : sz hm' = sz hx') (kk : SimL E (cells + 16) (slots + 4000) 1006 (LO (bE E) ax am ao i) [] hx' hm') : SimL E cells slots 981 (LO (bE E) ax am ao i) [] hx hm := by
  refine sl_aload_n 1 dL_law_981 rfl rfl ?_
  refine sl_aload_n 0 dL_law_982 rfl rfl ?_
  refine sl_iload 4 dL_law_983 rfl ?_
  refine sl_iconst (v := 1) dL_law_985 (by decide) ?_
  refine sl_iadd dL_law_986 ?_
  refine sl_sld dL_law_987 hi.2.1 ?_
  refine sl_cv (out' := oI) (q := (r, hx')) (v := some (.int (r, hx').1)) (rest := []) 9 [lvI (sc E i 1)] dL_law_988 mc_X8_count lk_112 im_X8_count rfl se_X8_count (by decide) rfl ⟨(Nat.le_of_ble_eq_true rfl), (Nat.le_of_ble_eq_true rfl), by show cells + 0 ≤ _; omega, by show slots + 0 ≤ _; omega⟩ (Nat.le_of_ble_eq_true rfl) hX (ct_X8_count _ _ hq) rfl rfl ?_
  refine sl_aload_n 2 dL_law_991 rfl rfl ?_
  refine sl_aload_n 0 dL_law_992 rfl rfl ?_
  refine sl_iload 4 dL_law_993 rfl ?_
  refine sl_iconst (v := 1) dL_law_995 (by decide) ?_
  refine sl_iadd dL_law_996 ?_
  refine sl_sld dL_law_997 hi.2.1 ?_
  refine SimL.swap ?_
  refine sl_cv (out' := oI) (q := (r, hm')) (v := some (.int (r, hm').1)) (rest := [.int (r, hx').1]) 10 [lvI (sc E i 1)] dL_law_998 mc_X9_count lk_115 im_X9_count rfl se_X9_count (by decide) rfl ⟨(Nat.le_of_ble_eq_true rfl), (Nat.le_of_ble_eq_true rfl), by show cells + 0 + 0 ≤ _; omega, by show slots + 0 + 0 ≤ _; omega⟩ (Nat.le_of_ble_eq_true rfl) hM (ct_X9_count _ _ hq2) rfl rfl ?_
  refine SimL.swap ?_
  rw [show wz (oI (r, hx')).2 (sz (oI (r, hm')).2) = hx' from by show wz hx' (sz hm') = _; rw [hz]; rfl]
  refine sl_icmp_eq 1006 dL_law_1001 (by decide) (fun _ => ?_) (fun hc => absurd rfl hc)
  exact sl_widen (cells + 16) (slots + 4000) (by show cells + 0 + 0 ≤ _; omega) (by show slots + 0 + 0 ≤ _; omega) (sl_lo (LO (bE E) ax am ao i) ⟨rfl, rfl, rfl, rfl, rfl, trivial⟩ kk)
