/-! ===== the law's code ===== -/
theorem zw_0 : Cond.initialized RL ∈ zq_tb := zq_in1 (i := 0) rfl rfl
theorem zw_364 : Cond.methodLink RL 26 yX11_sign ∈ zq_tb := zq_in2 (i := 124) rfl rfl
theorem zw_365 : Cond.instanceMethod yX11_sign ∈ zq_tb := zq_in2 (i := 125) rfl rfl
theorem zw_366 : Cond.selects RX11 yX11_sign yX11_sign ∈ zq_tb := zq_in2 (i := 126) rfl rfl
theorem zw_372 : Cond.methodLink RL 31 yX11_end ∈ zq_tb := zq_in2 (i := 132) rfl rfl
theorem zw_373 : Cond.instanceMethod yX11_end ∈ zq_tb := zq_in2 (i := 133) rfl rfl
theorem zw_374 : Cond.selects RX11 yX11_end yX11_end ∈ zq_tb := zq_in2 (i := 134) rfl rfl
theorem zw_380 : Cond.methodLink RL 36 yX11_loaf ∈ zq_tb := zq_in2 (i := 140) rfl rfl
theorem zw_381 : Cond.instanceMethod yX11_loaf ∈ zq_tb := zq_in2 (i := 141) rfl rfl
theorem zw_382 : Cond.selects RX11 yX11_loaf yX11_loaf ∈ zq_tb := zq_in2 (i := 142) rfl rfl
theorem zw_456 : Cond.methodLink RL 41 yX11_guests ∈ zq_tb := zq_in2 (i := 216) rfl rfl
theorem zw_457 : Cond.instanceMethod yX11_guests ∈ zq_tb := zq_in2 (i := 217) rfl rfl
theorem zw_458 : Cond.selects RX11 yX11_guests yX11_guests ∈ zq_tb := zq_in2 (i := 218) rfl rfl
theorem zw_472 : Cond.methodLink RL 45 yX11_deeds ∈ zq_tb := zq_in2 (i := 232) rfl rfl
theorem zw_473 : Cond.instanceMethod yX11_deeds ∈ zq_tb := zq_in2 (i := 233) rfl rfl
theorem zw_474 : Cond.selects RX11 yX11_deeds yX11_deeds ∈ zq_tb := zq_in2 (i := 234) rfl rfl
theorem zw_502 : Cond.methodLink RL 49 yX11_rule ∈ zq_tb := zq_in3 (i := 22) rfl rfl
theorem zw_503 : Cond.instanceMethod yX11_rule ∈ zq_tb := zq_in3 (i := 23) rfl rfl
theorem zw_504 : Cond.selects RX11 yX11_rule yX11_rule ∈ zq_tb := zq_in3 (i := 24) rfl rfl
theorem zw_542 : Cond.methodLink RL 65 yX11_worth ∈ zq_tb := zq_in3 (i := 62) rfl rfl
theorem zw_543 : Cond.instanceMethod yX11_worth ∈ zq_tb := zq_in3 (i := 63) rfl rfl
theorem zw_544 : Cond.selects RX11 yX11_worth yX11_worth ∈ zq_tb := zq_in3 (i := 64) rfl rfl
theorem zw_558 : Cond.methodLink RL 69 yX11_taste ∈ zq_tb := zq_in3 (i := 78) rfl rfl
theorem zw_559 : Cond.instanceMethod yX11_taste ∈ zq_tb := zq_in3 (i := 79) rfl rfl
theorem zw_560 : Cond.selects RX11 yX11_taste yX11_taste ∈ zq_tb := zq_in3 (i := 80) rfl rfl
theorem zw_566 : Cond.methodLink RL 74 yX11_sheet ∈ zq_tb := zq_in3 (i := 86) rfl rfl
theorem zw_567 : Cond.instanceMethod yX11_sheet ∈ zq_tb := zq_in3 (i := 87) rfl rfl
theorem zw_568 : Cond.selects RX11 yX11_sheet yX11_sheet ∈ zq_tb := zq_in3 (i := 88) rfl rfl
theorem zw_575 : Cond.methodLink RL 79 yX11_give ∈ zq_tb := zq_in3 (i := 95) rfl rfl
theorem zw_576 : Cond.instanceMethod yX11_give ∈ zq_tb := zq_in3 (i := 96) rfl rfl
theorem zw_577 : Cond.selects RX11 yX11_give yX11_give ∈ zq_tb := zq_in3 (i := 97) rfl rfl
theorem zw_612 : Cond.methodLink RL 83 yX11_back ∈ zq_tb := zq_in3 (i := 132) rfl rfl
theorem zw_613 : Cond.instanceMethod yX11_back ∈ zq_tb := zq_in3 (i := 133) rfl rfl
theorem zw_614 : Cond.selects RX11 yX11_back yX11_back ∈ zq_tb := zq_in3 (i := 134) rfl rfl
theorem zw_620 : Cond.methodLink RL 87 yX11_mouse ∈ zq_tb := zq_in3 (i := 140) rfl rfl
theorem zw_621 : Cond.instanceMethod yX11_mouse ∈ zq_tb := zq_in3 (i := 141) rfl rfl
theorem zw_622 : Cond.selects RX11 yX11_mouse yX11_mouse ∈ zq_tb := zq_in3 (i := 142) rfl rfl
theorem zw_628 : Cond.methodLink RL 91 yX11_supper ∈ zq_tb := zq_in3 (i := 148) rfl rfl
theorem zw_629 : Cond.instanceMethod yX11_supper ∈ zq_tb := zq_in3 (i := 149) rfl rfl
theorem zw_630 : Cond.selects RX11 yX11_supper yX11_supper ∈ zq_tb := zq_in3 (i := 150) rfl rfl
theorem zw_662 : Cond.methodLink RL 95 yX11_undo ∈ zq_tb := zq_in3 (i := 182) rfl rfl
theorem zw_663 : Cond.instanceMethod yX11_undo ∈ zq_tb := zq_in3 (i := 183) rfl rfl
theorem zw_664 : Cond.selects RX11 yX11_undo yX11_undo ∈ zq_tb := zq_in3 (i := 184) rfl rfl
theorem zw_670 : Cond.methodLink RL 99 yX11_seen ∈ zq_tb := zq_in3 (i := 190) rfl rfl
theorem zw_671 : Cond.instanceMethod yX11_seen ∈ zq_tb := zq_in3 (i := 191) rfl rfl
theorem zw_672 : Cond.selects RX11 yX11_seen yX11_seen ∈ zq_tb := zq_in3 (i := 192) rfl rfl
theorem zw_678 : Cond.methodLink RL 103 yX11_envy ∈ zq_tb := zq_in3 (i := 198) rfl rfl
theorem zw_679 : Cond.instanceMethod yX11_envy ∈ zq_tb := zq_in3 (i := 199) rfl rfl
theorem zw_680 : Cond.selects RX11 yX11_envy yX11_envy ∈ zq_tb := zq_in3 (i := 200) rfl rfl
theorem zw_682 : Cond.methodLink RL 107 yX11_wronged ∈ zq_tb := zq_in3 (i := 202) rfl rfl
theorem zw_683 : Cond.instanceMethod yX11_wronged ∈ zq_tb := zq_in3 (i := 203) rfl rfl
theorem zw_684 : Cond.selects RX11 yX11_wronged yX11_wronged ∈ zq_tb := zq_in3 (i := 204) rfl rfl
theorem zw_701 : Cond.methodLink RL 111 yX11_happiest ∈ zq_tb := zq_in3 (i := 221) rfl rfl
theorem zw_702 : Cond.instanceMethod yX11_happiest ∈ zq_tb := zq_in3 (i := 222) rfl rfl
theorem zw_703 : Cond.selects RX11 yX11_happiest yX11_happiest ∈ zq_tb := zq_in3 (i := 223) rfl rfl
theorem zw_710 : Cond.methodLink RL 115 yX11_pieces ∈ zq_tb := zq_in3 (i := 230) rfl rfl
theorem zw_711 : Cond.instanceMethod yX11_pieces ∈ zq_tb := zq_in3 (i := 231) rfl rfl
theorem zw_712 : Cond.selects RX11 yX11_pieces yX11_pieces ∈ zq_tb := zq_in3 (i := 232) rfl rfl
theorem zw_714 : Cond.methodLink RL 119 yX11_trade ∈ zq_tb := zq_in3 (i := 234) rfl rfl
theorem zw_715 : Cond.instanceMethod yX11_trade ∈ zq_tb := zq_in3 (i := 235) rfl rfl
theorem zw_716 : Cond.selects RX11 yX11_trade yX11_trade ∈ zq_tb := zq_in3 (i := 236) rfl rfl
theorem zw_722 : Cond.methodLink RL 123 yX11_slices ∈ zq_tb := zq_in4 (i := 2) rfl rfl
theorem zw_723 : Cond.instanceMethod yX11_slices ∈ zq_tb := zq_in4 (i := 3) rfl rfl
theorem zw_724 : Cond.selects RX11 yX11_slices yX11_slices ∈ zq_tb := zq_in4 (i := 4) rfl rfl
theorem zw_776 : Cond.methodLink RL 127 yX11_quarrel ∈ zq_tb := zq_in4 (i := 56) rfl rfl
theorem zw_777 : Cond.instanceMethod yX11_quarrel ∈ zq_tb := zq_in4 (i := 57) rfl rfl
theorem zw_778 : Cond.selects RX11 yX11_quarrel yX11_quarrel ∈ zq_tb := zq_in4 (i := 58) rfl rfl
theorem zw_780 : Cond.methodLink RL 131 yX11_stretch ∈ zq_tb := zq_in4 (i := 60) rfl rfl
theorem zw_781 : Cond.instanceMethod yX11_stretch ∈ zq_tb := zq_in4 (i := 61) rfl rfl
theorem zw_782 : Cond.selects RX11 yX11_stretch yX11_stretch ∈ zq_tb := zq_in4 (i := 62) rfl rfl
theorem zw_784 : Cond.methodLink RL 135 yX11_richest ∈ zq_tb := zq_in4 (i := 64) rfl rfl
theorem zw_785 : Cond.instanceMethod yX11_richest ∈ zq_tb := zq_in4 (i := 65) rfl rfl
theorem zw_786 : Cond.selects RX11 yX11_richest yX11_richest ∈ zq_tb := zq_in4 (i := 66) rfl rfl
theorem zw_788 : Cond.methodLink RL 139 yX11_parts ∈ zq_tb := zq_in4 (i := 68) rfl rfl
theorem zw_789 : Cond.instanceMethod yX11_parts ∈ zq_tb := zq_in4 (i := 69) rfl rfl
theorem zw_790 : Cond.selects RX11 yX11_parts yX11_parts ∈ zq_tb := zq_in4 (i := 70) rfl rfl
theorem zw_796 : Cond.methodLink RL 143 yX11_calm ∈ zq_tb := zq_in4 (i := 76) rfl rfl
theorem zw_797 : Cond.instanceMethod yX11_calm ∈ zq_tb := zq_in4 (i := 77) rfl rfl
theorem zw_798 : Cond.selects RX11 yX11_calm yX11_calm ∈ zq_tb := zq_in4 (i := 78) rfl rfl
theorem zw_833 : Cond.methodLink RL 147 yX11_cuts ∈ zq_tb := zq_in4 (i := 113) rfl rfl
theorem zw_834 : Cond.instanceMethod yX11_cuts ∈ zq_tb := zq_in4 (i := 114) rfl rfl
theorem zw_835 : Cond.selects RX11 yX11_cuts yX11_cuts ∈ zq_tb := zq_in4 (i := 115) rfl rfl
theorem zw_840 : Cond.methodLink RL 151 yX11_byturns ∈ zq_tb := zq_in4 (i := 120) rfl rfl
theorem zw_841 : Cond.instanceMethod yX11_byturns ∈ zq_tb := zq_in4 (i := 121) rfl rfl
theorem zw_842 : Cond.selects RX11 yX11_byturns yX11_byturns ∈ zq_tb := zq_in4 (i := 122) rfl rfl
theorem zw_866 : Cond.methodLink RL 155 yX11_lies ∈ zq_tb := zq_in4 (i := 146) rfl rfl
theorem zw_867 : Cond.instanceMethod yX11_lies ∈ zq_tb := zq_in4 (i := 147) rfl rfl
theorem zw_868 : Cond.selects RX11 yX11_lies yX11_lies ∈ zq_tb := zq_in4 (i := 148) rfl rfl
theorem zw_875 : Cond.methodLink RL 159 yX11_chose ∈ zq_tb := zq_in4 (i := 155) rfl rfl
theorem zw_876 : Cond.instanceMethod yX11_chose ∈ zq_tb := zq_in4 (i := 156) rfl rfl
theorem zw_877 : Cond.selects RX11 yX11_chose yX11_chose ∈ zq_tb := zq_in4 (i := 157) rfl rfl
theorem zw_883 : Cond.methodLink RL 163 yX11_forget ∈ zq_tb := zq_in4 (i := 163) rfl rfl
theorem zw_884 : Cond.instanceMethod yX11_forget ∈ zq_tb := zq_in4 (i := 164) rfl rfl
theorem zw_885 : Cond.selects RX11 yX11_forget yX11_forget ∈ zq_tb := zq_in4 (i := 165) rfl rfl
theorem zw_887 : Cond.methodLink RL 167 yX11_tastes ∈ zq_tb := zq_in4 (i := 167) rfl rfl
theorem zw_888 : Cond.instanceMethod yX11_tastes ∈ zq_tb := zq_in4 (i := 168) rfl rfl
theorem zw_889 : Cond.selects RX11 yX11_tastes yX11_tastes ∈ zq_tb := zq_in4 (i := 169) rfl rfl
theorem zw_905 : Cond.methodLink RL 171 yX11_offer ∈ zq_tb := zq_in4 (i := 185) rfl rfl
theorem zw_906 : Cond.instanceMethod yX11_offer ∈ zq_tb := zq_in4 (i := 186) rfl rfl
theorem zw_907 : Cond.selects RX11 yX11_offer yX11_offer ∈ zq_tb := zq_in4 (i := 187) rfl rfl
theorem zw_923 : Cond.methodLink RL 175 yX11_claims ∈ zq_tb := zq_in4 (i := 203) rfl rfl
theorem zw_924 : Cond.instanceMethod yX11_claims ∈ zq_tb := zq_in4 (i := 204) rfl rfl
theorem zw_925 : Cond.selects RX11 yX11_claims yX11_claims ∈ zq_tb := zq_in4 (i := 205) rfl rfl
theorem zw_937 : Cond.methodLink RL 179 yX11_settle ∈ zq_tb := zq_in4 (i := 217) rfl rfl
theorem zw_938 : Cond.instanceMethod yX11_settle ∈ zq_tb := zq_in4 (i := 218) rfl rfl
theorem zw_939 : Cond.selects RX11 yX11_settle yX11_settle ∈ zq_tb := zq_in4 (i := 219) rfl rfl
theorem zw_941 : Cond.methodLink RL 183 yX11_nothing ∈ zq_tb := zq_in4 (i := 221) rfl rfl
theorem zw_942 : Cond.instanceMethod yX11_nothing ∈ zq_tb := zq_in4 (i := 222) rfl rfl
theorem zw_943 : Cond.selects RX11 yX11_nothing yX11_nothing ∈ zq_tb := zq_in4 (i := 223) rfl rfl
theorem zw_953 : Cond.methodLink RL 187 yX11_ate ∈ zq_tb := zq_in4 (i := 233) rfl rfl
theorem zw_954 : Cond.instanceMethod yX11_ate ∈ zq_tb := zq_in4 (i := 234) rfl rfl
theorem zw_955 : Cond.selects RX11 yX11_ate yX11_ate ∈ zq_tb := zq_in4 (i := 235) rfl rfl
theorem zw_958 : Cond.methodLink RL 191 yX11_enough ∈ zq_tb := zq_in4 (i := 238) rfl rfl
theorem zw_959 : Cond.instanceMethod yX11_enough ∈ zq_tb := zq_in4 (i := 239) rfl rfl
theorem zw_960 : Cond.selects RX11 yX11_enough yX11_enough ∈ zq_tb := zq_in5 (i := 0) rfl rfl
theorem zw_971 : Cond.methodLink RL 195 yX11_wide ∈ zq_tb := zq_in5 (i := 11) rfl rfl
theorem zw_972 : Cond.instanceMethod yX11_wide ∈ zq_tb := zq_in5 (i := 12) rfl rfl
theorem zw_973 : Cond.selects RX11 yX11_wide yX11_wide ∈ zq_tb := zq_in5 (i := 13) rfl rfl
theorem zw_975 : Cond.methodLink RL 199 yX11_suppers ∈ zq_tb := zq_in5 (i := 15) rfl rfl
theorem zw_976 : Cond.instanceMethod yX11_suppers ∈ zq_tb := zq_in5 (i := 16) rfl rfl
theorem zw_977 : Cond.selects RX11 yX11_suppers yX11_suppers ∈ zq_tb := zq_in5 (i := 17) rfl rfl
theorem zw_980 : Cond.methodLink RL 203 yX11_keep ∈ zq_tb := zq_in5 (i := 20) rfl rfl
theorem zw_981 : Cond.instanceMethod yX11_keep ∈ zq_tb := zq_in5 (i := 21) rfl rfl
theorem zw_982 : Cond.selects RX11 yX11_keep yX11_keep ∈ zq_tb := zq_in5 (i := 22) rfl rfl
theorem zw_988 : Cond.methodLink RL 207 yX11_again ∈ zq_tb := zq_in5 (i := 28) rfl rfl
theorem zw_989 : Cond.instanceMethod yX11_again ∈ zq_tb := zq_in5 (i := 29) rfl rfl
theorem zw_990 : Cond.selects RX11 yX11_again yX11_again ∈ zq_tb := zq_in5 (i := 30) rfl rfl
theorem zw_996 : Cond.methodLink RL 211 yX11_count ∈ zq_tb := zq_in5 (i := 36) rfl rfl
theorem zw_997 : Cond.instanceMethod yX11_count ∈ zq_tb := zq_in5 (i := 37) rfl rfl
theorem zw_998 : Cond.selects RX11 yX11_count yX11_count ∈ zq_tb := zq_in5 (i := 38) rfl rfl
theorem zw_1000 : Cond.methodLink RL 53 yL_cell ∈ zq_tb := zq_in5 (i := 40) rfl rfl
theorem zw_1001 : Cond.static yL_cell ∈ zq_tb := zq_in5 (i := 41) rfl rfl
theorem zw_1074 : Cond.methodLink RL 62 yL_guest ∈ zq_tb := zq_in5 (i := 114) rfl rfl
theorem zw_1075 : Cond.static yL_guest ∈ zq_tb := zq_in5 (i := 115) rfl rfl
theorem zw_1082 : Cond.methodLink RL 215 yL_row ∈ zq_tb := zq_in5 (i := 122) rfl rfl
theorem zw_1083 : Cond.static yL_row ∈ zq_tb := zq_in5 (i := 123) rfl rfl
theorem zw_1299 : Cond.methodLink RL 59 yX12_thrown ∈ zq_tb := zq_in6 (i := 99) rfl rfl
theorem zw_1300 : Cond.instanceMethod yX12_thrown ∈ zq_tb := zq_in6 (i := 100) rfl rfl
theorem zw_1301 : Cond.selects RX12 yX12_thrown yX12_thrown ∈ zq_tb := zq_in6 (i := 101) rfl rfl
theorem zw_1303 : Cond.methodLink RL 30 yX12_sign ∈ zq_tb := zq_in6 (i := 103) rfl rfl
theorem zw_1304 : Cond.instanceMethod yX12_sign ∈ zq_tb := zq_in6 (i := 104) rfl rfl
theorem zw_1305 : Cond.selects RX12 yX12_sign yX12_sign ∈ zq_tb := zq_in6 (i := 105) rfl rfl
theorem zw_1307 : Cond.methodLink RL 35 yX12_end ∈ zq_tb := zq_in6 (i := 107) rfl rfl
theorem zw_1308 : Cond.instanceMethod yX12_end ∈ zq_tb := zq_in6 (i := 108) rfl rfl
theorem zw_1309 : Cond.selects RX12 yX12_end yX12_end ∈ zq_tb := zq_in6 (i := 109) rfl rfl
theorem zw_1314 : Cond.methodLink RL 40 yX12_loaf ∈ zq_tb := zq_in6 (i := 114) rfl rfl
theorem zw_1315 : Cond.instanceMethod yX12_loaf ∈ zq_tb := zq_in6 (i := 115) rfl rfl
theorem zw_1316 : Cond.selects RX12 yX12_loaf yX12_loaf ∈ zq_tb := zq_in6 (i := 116) rfl rfl
theorem zw_1392 : Cond.methodLink RL 44 yX12_guests ∈ zq_tb := zq_in6 (i := 192) rfl rfl
theorem zw_1393 : Cond.instanceMethod yX12_guests ∈ zq_tb := zq_in6 (i := 193) rfl rfl
theorem zw_1394 : Cond.selects RX12 yX12_guests yX12_guests ∈ zq_tb := zq_in6 (i := 194) rfl rfl
theorem zw_1410 : Cond.methodLink RL 48 yX12_deeds ∈ zq_tb := zq_in6 (i := 210) rfl rfl
theorem zw_1411 : Cond.instanceMethod yX12_deeds ∈ zq_tb := zq_in6 (i := 211) rfl rfl
theorem zw_1412 : Cond.selects RX12 yX12_deeds yX12_deeds ∈ zq_tb := zq_in6 (i := 212) rfl rfl
theorem zw_1429 : Cond.methodLink RL 52 yX12_rule ∈ zq_tb := zq_in6 (i := 229) rfl rfl
theorem zw_1430 : Cond.instanceMethod yX12_rule ∈ zq_tb := zq_in6 (i := 230) rfl rfl
theorem zw_1431 : Cond.selects RX12 yX12_rule yX12_rule ∈ zq_tb := zq_in6 (i := 231) rfl rfl
theorem zw_1449 : Cond.methodLink RL 58 yX12_cell ∈ zq_tb := zq_in7 (i := 9) rfl rfl
theorem zw_1450 : Cond.instanceMethod yX12_cell ∈ zq_tb := zq_in7 (i := 10) rfl rfl
theorem zw_1451 : Cond.selects RX12 yX12_cell yX12_cell ∈ zq_tb := zq_in7 (i := 11) rfl rfl
theorem zw_1462 : Cond.methodLink RL 64 yX12_guest ∈ zq_tb := zq_in7 (i := 22) rfl rfl
theorem zw_1463 : Cond.instanceMethod yX12_guest ∈ zq_tb := zq_in7 (i := 23) rfl rfl
theorem zw_1464 : Cond.selects RX12 yX12_guest yX12_guest ∈ zq_tb := zq_in7 (i := 24) rfl rfl
theorem zw_1503 : Cond.methodLink RL 68 yX12_worth ∈ zq_tb := zq_in7 (i := 63) rfl rfl
theorem zw_1504 : Cond.instanceMethod yX12_worth ∈ zq_tb := zq_in7 (i := 64) rfl rfl
theorem zw_1505 : Cond.selects RX12 yX12_worth yX12_worth ∈ zq_tb := zq_in7 (i := 65) rfl rfl
theorem zw_1507 : Cond.methodLink RL 73 yX12_taste ∈ zq_tb := zq_in7 (i := 67) rfl rfl
theorem zw_1508 : Cond.instanceMethod yX12_taste ∈ zq_tb := zq_in7 (i := 68) rfl rfl
theorem zw_1509 : Cond.selects RX12 yX12_taste yX12_taste ∈ zq_tb := zq_in7 (i := 69) rfl rfl
theorem zw_1513 : Cond.methodLink RL 78 yX12_sheet ∈ zq_tb := zq_in7 (i := 73) rfl rfl
theorem zw_1514 : Cond.instanceMethod yX12_sheet ∈ zq_tb := zq_in7 (i := 74) rfl rfl
theorem zw_1515 : Cond.selects RX12 yX12_sheet yX12_sheet ∈ zq_tb := zq_in7 (i := 75) rfl rfl
theorem zw_1517 : Cond.methodLink RL 98 yX12_undo ∈ zq_tb := zq_in7 (i := 77) rfl rfl
theorem zw_1518 : Cond.instanceMethod yX12_undo ∈ zq_tb := zq_in7 (i := 78) rfl rfl
theorem zw_1519 : Cond.selects RX12 yX12_undo yX12_undo ∈ zq_tb := zq_in7 (i := 79) rfl rfl
theorem zw_1521 : Cond.methodLink RL 82 yX12_give ∈ zq_tb := zq_in7 (i := 81) rfl rfl
theorem zw_1522 : Cond.instanceMethod yX12_give ∈ zq_tb := zq_in7 (i := 82) rfl rfl
theorem zw_1523 : Cond.selects RX12 yX12_give yX12_give ∈ zq_tb := zq_in7 (i := 83) rfl rfl
theorem zw_1545 : Cond.methodLink RL 86 yX12_back ∈ zq_tb := zq_in7 (i := 105) rfl rfl
theorem zw_1546 : Cond.instanceMethod yX12_back ∈ zq_tb := zq_in7 (i := 106) rfl rfl
theorem zw_1547 : Cond.selects RX12 yX12_back yX12_back ∈ zq_tb := zq_in7 (i := 107) rfl rfl
theorem zw_1553 : Cond.methodLink RL 90 yX12_mouse ∈ zq_tb := zq_in7 (i := 113) rfl rfl
theorem zw_1554 : Cond.instanceMethod yX12_mouse ∈ zq_tb := zq_in7 (i := 114) rfl rfl
theorem zw_1555 : Cond.selects RX12 yX12_mouse yX12_mouse ∈ zq_tb := zq_in7 (i := 115) rfl rfl
theorem zw_1561 : Cond.methodLink RL 94 yX12_supper ∈ zq_tb := zq_in7 (i := 121) rfl rfl
theorem zw_1562 : Cond.instanceMethod yX12_supper ∈ zq_tb := zq_in7 (i := 122) rfl rfl
theorem zw_1563 : Cond.selects RX12 yX12_supper yX12_supper ∈ zq_tb := zq_in7 (i := 123) rfl rfl
theorem zw_1578 : Cond.methodLink RL 102 yX12_seen ∈ zq_tb := zq_in7 (i := 138) rfl rfl
theorem zw_1579 : Cond.instanceMethod yX12_seen ∈ zq_tb := zq_in7 (i := 139) rfl rfl
theorem zw_1580 : Cond.selects RX12 yX12_seen yX12_seen ∈ zq_tb := zq_in7 (i := 140) rfl rfl
theorem zw_1582 : Cond.methodLink RL 106 yX12_envy ∈ zq_tb := zq_in7 (i := 142) rfl rfl
theorem zw_1583 : Cond.instanceMethod yX12_envy ∈ zq_tb := zq_in7 (i := 143) rfl rfl
theorem zw_1584 : Cond.selects RX12 yX12_envy yX12_envy ∈ zq_tb := zq_in7 (i := 144) rfl rfl
theorem zw_1586 : Cond.methodLink RL 110 yX12_wronged ∈ zq_tb := zq_in7 (i := 146) rfl rfl
theorem zw_1587 : Cond.instanceMethod yX12_wronged ∈ zq_tb := zq_in7 (i := 147) rfl rfl
theorem zw_1588 : Cond.selects RX12 yX12_wronged yX12_wronged ∈ zq_tb := zq_in7 (i := 148) rfl rfl
theorem zw_1591 : Cond.methodLink RL 114 yX12_happiest ∈ zq_tb := zq_in7 (i := 151) rfl rfl
theorem zw_1592 : Cond.instanceMethod yX12_happiest ∈ zq_tb := zq_in7 (i := 152) rfl rfl
theorem zw_1593 : Cond.selects RX12 yX12_happiest yX12_happiest ∈ zq_tb := zq_in7 (i := 153) rfl rfl
theorem zw_1598 : Cond.methodLink RL 118 yX12_pieces ∈ zq_tb := zq_in7 (i := 158) rfl rfl
theorem zw_1599 : Cond.instanceMethod yX12_pieces ∈ zq_tb := zq_in7 (i := 159) rfl rfl
theorem zw_1600 : Cond.selects RX12 yX12_pieces yX12_pieces ∈ zq_tb := zq_in7 (i := 160) rfl rfl
theorem zw_1602 : Cond.methodLink RL 122 yX12_trade ∈ zq_tb := zq_in7 (i := 162) rfl rfl
theorem zw_1603 : Cond.instanceMethod yX12_trade ∈ zq_tb := zq_in7 (i := 163) rfl rfl
theorem zw_1604 : Cond.selects RX12 yX12_trade yX12_trade ∈ zq_tb := zq_in7 (i := 164) rfl rfl
theorem zw_1606 : Cond.methodLink RL 126 yX12_slices ∈ zq_tb := zq_in7 (i := 166) rfl rfl
theorem zw_1607 : Cond.instanceMethod yX12_slices ∈ zq_tb := zq_in7 (i := 167) rfl rfl
theorem zw_1608 : Cond.selects RX12 yX12_slices yX12_slices ∈ zq_tb := zq_in7 (i := 168) rfl rfl
theorem zw_1633 : Cond.methodLink RL 130 yX12_quarrel ∈ zq_tb := zq_in7 (i := 193) rfl rfl
theorem zw_1634 : Cond.instanceMethod yX12_quarrel ∈ zq_tb := zq_in7 (i := 194) rfl rfl
theorem zw_1635 : Cond.selects RX12 yX12_quarrel yX12_quarrel ∈ zq_tb := zq_in7 (i := 195) rfl rfl
theorem zw_1637 : Cond.methodLink RL 134 yX12_stretch ∈ zq_tb := zq_in7 (i := 197) rfl rfl
theorem zw_1638 : Cond.instanceMethod yX12_stretch ∈ zq_tb := zq_in7 (i := 198) rfl rfl
theorem zw_1639 : Cond.selects RX12 yX12_stretch yX12_stretch ∈ zq_tb := zq_in7 (i := 199) rfl rfl
theorem zw_1641 : Cond.methodLink RL 138 yX12_richest ∈ zq_tb := zq_in7 (i := 201) rfl rfl
theorem zw_1642 : Cond.instanceMethod yX12_richest ∈ zq_tb := zq_in7 (i := 202) rfl rfl
theorem zw_1643 : Cond.selects RX12 yX12_richest yX12_richest ∈ zq_tb := zq_in7 (i := 203) rfl rfl
theorem zw_1649 : Cond.methodLink RL 142 yX12_parts ∈ zq_tb := zq_in7 (i := 209) rfl rfl
theorem zw_1650 : Cond.instanceMethod yX12_parts ∈ zq_tb := zq_in7 (i := 210) rfl rfl
theorem zw_1651 : Cond.selects RX12 yX12_parts yX12_parts ∈ zq_tb := zq_in7 (i := 211) rfl rfl
theorem zw_1659 : Cond.methodLink RL 146 yX12_calm ∈ zq_tb := zq_in7 (i := 219) rfl rfl
theorem zw_1660 : Cond.instanceMethod yX12_calm ∈ zq_tb := zq_in7 (i := 220) rfl rfl
theorem zw_1661 : Cond.selects RX12 yX12_calm yX12_calm ∈ zq_tb := zq_in7 (i := 221) rfl rfl
theorem zw_1675 : Cond.methodLink RL 150 yX12_cuts ∈ zq_tb := zq_in7 (i := 235) rfl rfl
theorem zw_1676 : Cond.instanceMethod yX12_cuts ∈ zq_tb := zq_in7 (i := 236) rfl rfl
theorem zw_1677 : Cond.selects RX12 yX12_cuts yX12_cuts ∈ zq_tb := zq_in7 (i := 237) rfl rfl
theorem zw_1680 : Cond.methodLink RL 154 yX12_byturns ∈ zq_tb := zq_in8 (i := 0) rfl rfl
theorem zw_1681 : Cond.instanceMethod yX12_byturns ∈ zq_tb := zq_in8 (i := 1) rfl rfl
theorem zw_1682 : Cond.selects RX12 yX12_byturns yX12_byturns ∈ zq_tb := zq_in8 (i := 2) rfl rfl
theorem zw_1696 : Cond.methodLink RL 158 yX12_lies ∈ zq_tb := zq_in8 (i := 16) rfl rfl
theorem zw_1697 : Cond.instanceMethod yX12_lies ∈ zq_tb := zq_in8 (i := 17) rfl rfl
theorem zw_1698 : Cond.selects RX12 yX12_lies yX12_lies ∈ zq_tb := zq_in8 (i := 18) rfl rfl
theorem zw_1700 : Cond.methodLink RL 162 yX12_chose ∈ zq_tb := zq_in8 (i := 20) rfl rfl
theorem zw_1701 : Cond.instanceMethod yX12_chose ∈ zq_tb := zq_in8 (i := 21) rfl rfl
theorem zw_1702 : Cond.selects RX12 yX12_chose yX12_chose ∈ zq_tb := zq_in8 (i := 22) rfl rfl
theorem zw_1704 : Cond.methodLink RL 166 yX12_forget ∈ zq_tb := zq_in8 (i := 24) rfl rfl
theorem zw_1705 : Cond.instanceMethod yX12_forget ∈ zq_tb := zq_in8 (i := 25) rfl rfl
theorem zw_1706 : Cond.selects RX12 yX12_forget yX12_forget ∈ zq_tb := zq_in8 (i := 26) rfl rfl
theorem zw_1708 : Cond.methodLink RL 170 yX12_tastes ∈ zq_tb := zq_in8 (i := 28) rfl rfl
theorem zw_1709 : Cond.instanceMethod yX12_tastes ∈ zq_tb := zq_in8 (i := 29) rfl rfl
theorem zw_1710 : Cond.selects RX12 yX12_tastes yX12_tastes ∈ zq_tb := zq_in8 (i := 30) rfl rfl
theorem zw_1716 : Cond.methodLink RL 174 yX12_offer ∈ zq_tb := zq_in8 (i := 36) rfl rfl
theorem zw_1717 : Cond.instanceMethod yX12_offer ∈ zq_tb := zq_in8 (i := 37) rfl rfl
theorem zw_1718 : Cond.selects RX12 yX12_offer yX12_offer ∈ zq_tb := zq_in8 (i := 38) rfl rfl
theorem zw_1720 : Cond.methodLink RL 178 yX12_claims ∈ zq_tb := zq_in8 (i := 40) rfl rfl
theorem zw_1721 : Cond.instanceMethod yX12_claims ∈ zq_tb := zq_in8 (i := 41) rfl rfl
theorem zw_1722 : Cond.selects RX12 yX12_claims yX12_claims ∈ zq_tb := zq_in8 (i := 42) rfl rfl
theorem zw_1728 : Cond.methodLink RL 182 yX12_settle ∈ zq_tb := zq_in8 (i := 48) rfl rfl
theorem zw_1729 : Cond.instanceMethod yX12_settle ∈ zq_tb := zq_in8 (i := 49) rfl rfl
theorem zw_1730 : Cond.selects RX12 yX12_settle yX12_settle ∈ zq_tb := zq_in8 (i := 50) rfl rfl
theorem zw_1733 : Cond.methodLink RL 186 yX12_nothing ∈ zq_tb := zq_in8 (i := 53) rfl rfl
theorem zw_1734 : Cond.instanceMethod yX12_nothing ∈ zq_tb := zq_in8 (i := 54) rfl rfl
theorem zw_1735 : Cond.selects RX12 yX12_nothing yX12_nothing ∈ zq_tb := zq_in8 (i := 55) rfl rfl
theorem zw_1741 : Cond.methodLink RL 190 yX12_ate ∈ zq_tb := zq_in8 (i := 61) rfl rfl
theorem zw_1742 : Cond.instanceMethod yX12_ate ∈ zq_tb := zq_in8 (i := 62) rfl rfl
theorem zw_1743 : Cond.selects RX12 yX12_ate yX12_ate ∈ zq_tb := zq_in8 (i := 63) rfl rfl
theorem zw_1750 : Cond.methodLink RL 194 yX12_enough ∈ zq_tb := zq_in8 (i := 70) rfl rfl
theorem zw_1751 : Cond.instanceMethod yX12_enough ∈ zq_tb := zq_in8 (i := 71) rfl rfl
theorem zw_1752 : Cond.selects RX12 yX12_enough yX12_enough ∈ zq_tb := zq_in8 (i := 72) rfl rfl
theorem zw_1759 : Cond.methodLink RL 198 yX12_wide ∈ zq_tb := zq_in8 (i := 79) rfl rfl
theorem zw_1760 : Cond.instanceMethod yX12_wide ∈ zq_tb := zq_in8 (i := 80) rfl rfl
theorem zw_1761 : Cond.selects RX12 yX12_wide yX12_wide ∈ zq_tb := zq_in8 (i := 81) rfl rfl
theorem zw_1763 : Cond.methodLink RL 202 yX12_suppers ∈ zq_tb := zq_in8 (i := 83) rfl rfl
theorem zw_1764 : Cond.instanceMethod yX12_suppers ∈ zq_tb := zq_in8 (i := 84) rfl rfl
theorem zw_1765 : Cond.selects RX12 yX12_suppers yX12_suppers ∈ zq_tb := zq_in8 (i := 85) rfl rfl
theorem zw_1769 : Cond.methodLink RL 206 yX12_keep ∈ zq_tb := zq_in8 (i := 89) rfl rfl
theorem zw_1770 : Cond.instanceMethod yX12_keep ∈ zq_tb := zq_in8 (i := 90) rfl rfl
theorem zw_1771 : Cond.selects RX12 yX12_keep yX12_keep ∈ zq_tb := zq_in8 (i := 91) rfl rfl
theorem zw_1773 : Cond.methodLink RL 210 yX12_again ∈ zq_tb := zq_in8 (i := 93) rfl rfl
theorem zw_1774 : Cond.instanceMethod yX12_again ∈ zq_tb := zq_in8 (i := 94) rfl rfl
theorem zw_1775 : Cond.selects RX12 yX12_again yX12_again ∈ zq_tb := zq_in8 (i := 95) rfl rfl
theorem zw_1777 : Cond.methodLink RL 214 yX12_count ∈ zq_tb := zq_in8 (i := 97) rfl rfl
theorem zw_1778 : Cond.instanceMethod yX12_count ∈ zq_tb := zq_in8 (i := 98) rfl rfl
theorem zw_1779 : Cond.selects RX12 yX12_count yX12_count ∈ zq_tb := zq_in8 (i := 99) rfl rfl
theorem zw_1781 : Cond.methodLink RL 218 yX12_row ∈ zq_tb := zq_in8 (i := 101) rfl rfl
theorem zw_1782 : Cond.instanceMethod yX12_row ∈ zq_tb := zq_in8 (i := 102) rfl rfl
theorem zw_1783 : Cond.selects RX12 yX12_row yX12_row ∈ zq_tb := zq_in8 (i := 103) rfl rfl
theorem zs9_X11_sign : Cond.selects yX11_sign.cls yX11_sign yX11_sign ∈ zq_tb := zw_366
theorem zs9_X12_sign : Cond.selects yX12_sign.cls yX12_sign yX12_sign ∈ zq_tb := zw_1305
theorem zs9_X11_end : Cond.selects yX11_end.cls yX11_end yX11_end ∈ zq_tb := zw_374
theorem zs9_X12_end : Cond.selects yX12_end.cls yX12_end yX12_end ∈ zq_tb := zw_1309
theorem zs9_X11_loaf : Cond.selects yX11_loaf.cls yX11_loaf yX11_loaf ∈ zq_tb := zw_382
theorem zs9_X12_loaf : Cond.selects yX12_loaf.cls yX12_loaf yX12_loaf ∈ zq_tb := zw_1316
theorem zs9_X11_guests : Cond.selects yX11_guests.cls yX11_guests yX11_guests ∈ zq_tb := zw_458
theorem zs9_X12_guests : Cond.selects yX12_guests.cls yX12_guests yX12_guests ∈ zq_tb := zw_1394
theorem zs9_X11_deeds : Cond.selects yX11_deeds.cls yX11_deeds yX11_deeds ∈ zq_tb := zw_474
theorem zs9_X12_deeds : Cond.selects yX12_deeds.cls yX12_deeds yX12_deeds ∈ zq_tb := zw_1412
theorem zs9_X11_rule : Cond.selects yX11_rule.cls yX11_rule yX11_rule ∈ zq_tb := zw_504
theorem zs9_X12_rule : Cond.selects yX12_rule.cls yX12_rule yX12_rule ∈ zq_tb := zw_1431
theorem zl_L_cell : Cond.codeWith yL_cell cL_cell 5 (some .int) [(0, 10, 13, 13)] ∈ zq_tb := zq_in5 (i := 42) rfl rfl
theorem zs9_X12_cell : Cond.selects yX12_cell.cls yX12_cell yX12_cell ∈ zq_tb := zw_1451
theorem zs9_X12_thrown : Cond.selects yX12_thrown.cls yX12_thrown yX12_thrown ∈ zq_tb := zw_1301
theorem zl_L_guest : Cond.codeWith yL_guest cL_guest 5 (some .int) [(0, 10, 13, 13)] ∈ zq_tb := zq_in5 (i := 116) rfl rfl
theorem zs9_X12_guest : Cond.selects yX12_guest.cls yX12_guest yX12_guest ∈ zq_tb := zw_1464
theorem zs9_X11_worth : Cond.selects yX11_worth.cls yX11_worth yX11_worth ∈ zq_tb := zw_544
theorem zs9_X12_worth : Cond.selects yX12_worth.cls yX12_worth yX12_worth ∈ zq_tb := zw_1505
theorem zs9_X11_taste : Cond.selects yX11_taste.cls yX11_taste yX11_taste ∈ zq_tb := zw_560
theorem zs9_X12_taste : Cond.selects yX12_taste.cls yX12_taste yX12_taste ∈ zq_tb := zw_1509
theorem zs9_X11_sheet : Cond.selects yX11_sheet.cls yX11_sheet yX11_sheet ∈ zq_tb := zw_568
theorem zs9_X12_sheet : Cond.selects yX12_sheet.cls yX12_sheet yX12_sheet ∈ zq_tb := zw_1515
theorem zs9_X11_give : Cond.selects yX11_give.cls yX11_give yX11_give ∈ zq_tb := zw_577
theorem zs9_X12_give : Cond.selects yX12_give.cls yX12_give yX12_give ∈ zq_tb := zw_1523
theorem zs9_X11_back : Cond.selects yX11_back.cls yX11_back yX11_back ∈ zq_tb := zw_614
theorem zs9_X12_back : Cond.selects yX12_back.cls yX12_back yX12_back ∈ zq_tb := zw_1547
theorem zs9_X11_mouse : Cond.selects yX11_mouse.cls yX11_mouse yX11_mouse ∈ zq_tb := zw_622
theorem zs9_X12_mouse : Cond.selects yX12_mouse.cls yX12_mouse yX12_mouse ∈ zq_tb := zw_1555
theorem zs9_X11_supper : Cond.selects yX11_supper.cls yX11_supper yX11_supper ∈ zq_tb := zw_630
theorem zs9_X12_supper : Cond.selects yX12_supper.cls yX12_supper yX12_supper ∈ zq_tb := zw_1563
theorem zs9_X11_undo : Cond.selects yX11_undo.cls yX11_undo yX11_undo ∈ zq_tb := zw_664
theorem zs9_X12_undo : Cond.selects yX12_undo.cls yX12_undo yX12_undo ∈ zq_tb := zw_1519
theorem zs9_X11_seen : Cond.selects yX11_seen.cls yX11_seen yX11_seen ∈ zq_tb := zw_672
theorem zs9_X12_seen : Cond.selects yX12_seen.cls yX12_seen yX12_seen ∈ zq_tb := zw_1580
theorem zs9_X11_envy : Cond.selects yX11_envy.cls yX11_envy yX11_envy ∈ zq_tb := zw_680
theorem zs9_X12_envy : Cond.selects yX12_envy.cls yX12_envy yX12_envy ∈ zq_tb := zw_1584
theorem zs9_X11_wronged : Cond.selects yX11_wronged.cls yX11_wronged yX11_wronged ∈ zq_tb := zw_684
theorem zs9_X12_wronged : Cond.selects yX12_wronged.cls yX12_wronged yX12_wronged ∈ zq_tb := zw_1588
theorem zs9_X11_happiest : Cond.selects yX11_happiest.cls yX11_happiest yX11_happiest ∈ zq_tb := zw_703
theorem zs9_X12_happiest : Cond.selects yX12_happiest.cls yX12_happiest yX12_happiest ∈ zq_tb := zw_1593
theorem zs9_X11_pieces : Cond.selects yX11_pieces.cls yX11_pieces yX11_pieces ∈ zq_tb := zw_712
theorem zs9_X12_pieces : Cond.selects yX12_pieces.cls yX12_pieces yX12_pieces ∈ zq_tb := zw_1600
theorem zs9_X11_trade : Cond.selects yX11_trade.cls yX11_trade yX11_trade ∈ zq_tb := zw_716
theorem zs9_X12_trade : Cond.selects yX12_trade.cls yX12_trade yX12_trade ∈ zq_tb := zw_1604
theorem zs9_X11_slices : Cond.selects yX11_slices.cls yX11_slices yX11_slices ∈ zq_tb := zw_724
theorem zs9_X12_slices : Cond.selects yX12_slices.cls yX12_slices yX12_slices ∈ zq_tb := zw_1608
theorem zs9_X11_quarrel : Cond.selects yX11_quarrel.cls yX11_quarrel yX11_quarrel ∈ zq_tb := zw_778
theorem zs9_X12_quarrel : Cond.selects yX12_quarrel.cls yX12_quarrel yX12_quarrel ∈ zq_tb := zw_1635
theorem zs9_X11_stretch : Cond.selects yX11_stretch.cls yX11_stretch yX11_stretch ∈ zq_tb := zw_782
theorem zs9_X12_stretch : Cond.selects yX12_stretch.cls yX12_stretch yX12_stretch ∈ zq_tb := zw_1639
theorem zs9_X11_richest : Cond.selects yX11_richest.cls yX11_richest yX11_richest ∈ zq_tb := zw_786
theorem zs9_X12_richest : Cond.selects yX12_richest.cls yX12_richest yX12_richest ∈ zq_tb := zw_1643
theorem zs9_X11_parts : Cond.selects yX11_parts.cls yX11_parts yX11_parts ∈ zq_tb := zw_790
theorem zs9_X12_parts : Cond.selects yX12_parts.cls yX12_parts yX12_parts ∈ zq_tb := zw_1651
theorem zs9_X11_calm : Cond.selects yX11_calm.cls yX11_calm yX11_calm ∈ zq_tb := zw_798
theorem zs9_X12_calm : Cond.selects yX12_calm.cls yX12_calm yX12_calm ∈ zq_tb := zw_1661
theorem zs9_X11_cuts : Cond.selects yX11_cuts.cls yX11_cuts yX11_cuts ∈ zq_tb := zw_835
theorem zs9_X12_cuts : Cond.selects yX12_cuts.cls yX12_cuts yX12_cuts ∈ zq_tb := zw_1677
theorem zs9_X11_byturns : Cond.selects yX11_byturns.cls yX11_byturns yX11_byturns ∈ zq_tb := zw_842
theorem zs9_X12_byturns : Cond.selects yX12_byturns.cls yX12_byturns yX12_byturns ∈ zq_tb := zw_1682
theorem zs9_X11_lies : Cond.selects yX11_lies.cls yX11_lies yX11_lies ∈ zq_tb := zw_868
theorem zs9_X12_lies : Cond.selects yX12_lies.cls yX12_lies yX12_lies ∈ zq_tb := zw_1698
theorem zs9_X11_chose : Cond.selects yX11_chose.cls yX11_chose yX11_chose ∈ zq_tb := zw_877
theorem zs9_X12_chose : Cond.selects yX12_chose.cls yX12_chose yX12_chose ∈ zq_tb := zw_1702
theorem zs9_X11_forget : Cond.selects yX11_forget.cls yX11_forget yX11_forget ∈ zq_tb := zw_885
theorem zs9_X12_forget : Cond.selects yX12_forget.cls yX12_forget yX12_forget ∈ zq_tb := zw_1706
theorem zs9_X11_tastes : Cond.selects yX11_tastes.cls yX11_tastes yX11_tastes ∈ zq_tb := zw_889
theorem zs9_X12_tastes : Cond.selects yX12_tastes.cls yX12_tastes yX12_tastes ∈ zq_tb := zw_1710
theorem zs9_X11_offer : Cond.selects yX11_offer.cls yX11_offer yX11_offer ∈ zq_tb := zw_907
theorem zs9_X12_offer : Cond.selects yX12_offer.cls yX12_offer yX12_offer ∈ zq_tb := zw_1718
theorem zs9_X11_claims : Cond.selects yX11_claims.cls yX11_claims yX11_claims ∈ zq_tb := zw_925
theorem zs9_X12_claims : Cond.selects yX12_claims.cls yX12_claims yX12_claims ∈ zq_tb := zw_1722
theorem zs9_X11_settle : Cond.selects yX11_settle.cls yX11_settle yX11_settle ∈ zq_tb := zw_939
theorem zs9_X12_settle : Cond.selects yX12_settle.cls yX12_settle yX12_settle ∈ zq_tb := zw_1730
theorem zs9_X11_nothing : Cond.selects yX11_nothing.cls yX11_nothing yX11_nothing ∈ zq_tb := zw_943
theorem zs9_X12_nothing : Cond.selects yX12_nothing.cls yX12_nothing yX12_nothing ∈ zq_tb := zw_1735
theorem zs9_X11_ate : Cond.selects yX11_ate.cls yX11_ate yX11_ate ∈ zq_tb := zw_955
theorem zs9_X12_ate : Cond.selects yX12_ate.cls yX12_ate yX12_ate ∈ zq_tb := zw_1743
theorem zs9_X11_enough : Cond.selects yX11_enough.cls yX11_enough yX11_enough ∈ zq_tb := zw_960
theorem zs9_X12_enough : Cond.selects yX12_enough.cls yX12_enough yX12_enough ∈ zq_tb := zw_1752
theorem zs9_X11_wide : Cond.selects yX11_wide.cls yX11_wide yX11_wide ∈ zq_tb := zw_973
theorem zs9_X12_wide : Cond.selects yX12_wide.cls yX12_wide yX12_wide ∈ zq_tb := zw_1761
theorem zs9_X11_suppers : Cond.selects yX11_suppers.cls yX11_suppers yX11_suppers ∈ zq_tb := zw_977
theorem zs9_X12_suppers : Cond.selects yX12_suppers.cls yX12_suppers yX12_suppers ∈ zq_tb := zw_1765
theorem zs9_X11_keep : Cond.selects yX11_keep.cls yX11_keep yX11_keep ∈ zq_tb := zw_982
theorem zs9_X12_keep : Cond.selects yX12_keep.cls yX12_keep yX12_keep ∈ zq_tb := zw_1771
theorem zs9_X11_again : Cond.selects yX11_again.cls yX11_again yX11_again ∈ zq_tb := zw_990
theorem zs9_X12_again : Cond.selects yX12_again.cls yX12_again yX12_again ∈ zq_tb := zw_1775
theorem zs9_X11_count : Cond.selects yX11_count.cls yX11_count yX11_count ∈ zq_tb := zw_998
theorem zs9_X12_count : Cond.selects yX12_count.cls yX12_count yX12_count ∈ zq_tb := zw_1779
theorem zl_L_row : Cond.codeWith yL_row cL_row 4 (some .int) [(0, 8, 11, 13)] ∈ zq_tb := zq_in5 (i := 124) rfl rfl
theorem zs9_X12_row : Cond.selects yX12_row.cls yX12_row yX12_row ∈ zq_tb := zw_1783
theorem dL_law_0 : decode cL_law 0 = .ok (.new 8, 3) := by decide +kernel
theorem dL_law_3 : decode cL_law 3 = .ok (.dup, 1) := by decide +kernel
theorem dL_law_4 : decode cL_law 4 = .ok (.invokespecial 22, 3) := by decide +kernel
theorem dL_law_7 : decode cL_law 7 = .ok (.astore_n 1, 1) := by decide +kernel
theorem dL_law_8 : decode cL_law 8 = .ok (.new 23, 3) := by decide +kernel
theorem dL_law_11 : decode cL_law 11 = .ok (.dup, 1) := by decide +kernel
theorem dL_law_12 : decode cL_law 12 = .ok (.invokespecial 25, 3) := by decide +kernel
theorem dL_law_15 : decode cL_law 15 = .ok (.astore_n 2, 1) := by decide +kernel
theorem dL_law_16 : decode cL_law 16 = .ok (.iconst 1, 1) := by decide +kernel
theorem dL_law_17 : decode cL_law 17 = .ok (.newarray .long, 2) := by decide +kernel
theorem dL_law_19 : decode cL_law 19 = .ok (.astore_n 3, 1) := by decide +kernel
theorem dL_law_20 : decode cL_law 20 = .ok (.iconst 0, 1) := by decide +kernel
theorem dL_law_21 : decode cL_law 21 = .ok (.istore 4, 2) := by decide +kernel
theorem dL_law_23 : decode cL_law 23 = .ok (.iload 4, 2) := by decide +kernel
theorem dL_law_25 : decode cL_law 25 = .ok (.aload_n 0, 1) := by decide +kernel
theorem dL_law_26 : decode cL_law 26 = .ok (.arraylength, 1) := by decide +kernel
theorem dL_law_27 : decode cL_law 27 = .ok (.iconst 5, 1) := by decide +kernel
theorem dL_law_28 : decode cL_law 28 = .ok (.isub, 1) := by decide +kernel
theorem dL_law_29 : decode cL_law 29 = .ok (.if_icmp .gt 1515, 3) := by decide +kernel
theorem dL_law_32 : decode cL_law 32 = .ok (.aload_n 0, 1) := by decide +kernel
theorem dL_law_33 : decode cL_law 33 = .ok (.iload 4, 2) := by decide +kernel
theorem dL_law_35 : decode cL_law 35 = .ok (.iaload, 1) := by decide +kernel
theorem dL_law_36 : decode cL_law 36 = .ok (.bipush 63, 2) := by decide +kernel
theorem dL_law_38 : decode cL_law 38 = .ok (.iand, 1) := by decide +kernel
theorem dL_law_39 : decode cL_law 39 = .ok (.tableswitch 1499 0 45 #[197, 222, 247, 260, 273, 286, 299, 367, 435, 472, 521, 582, 631, 668, 693, 706, 719, 756, 769, 782, 795, 820, 857, 882, 895, 908, 945, 982, 995, 1032, 1045, 1070, 1107, 1120, 1145, 1170, 1183, 1220, 1233, 1258, 1295, 1332, 1369, 1394, 1419, 1444], 197) := by decide +kernel
theorem dL_law_236 : decode cL_law 236 = .ok (.aload_n 1, 1) := by decide +kernel
theorem dL_law_237 : decode cL_law 237 = .ok (.aload_n 0, 1) := by decide +kernel
theorem dL_law_238 : decode cL_law 238 = .ok (.iload 4, 2) := by decide +kernel
theorem dL_law_240 : decode cL_law 240 = .ok (.iconst 1, 1) := by decide +kernel
theorem dL_law_241 : decode cL_law 241 = .ok (.iadd, 1) := by decide +kernel
theorem dL_law_242 : decode cL_law 242 = .ok (.iaload, 1) := by decide +kernel
theorem dL_law_243 : decode cL_law 243 = .ok (.invokevirtual 26, 3) := by decide +kernel
theorem dL_law_246 : decode cL_law 246 = .ok (.aload_n 2, 1) := by decide +kernel
theorem dL_law_247 : decode cL_law 247 = .ok (.aload_n 0, 1) := by decide +kernel
theorem dL_law_248 : decode cL_law 248 = .ok (.iload 4, 2) := by decide +kernel
theorem dL_law_250 : decode cL_law 250 = .ok (.iconst 1, 1) := by decide +kernel
theorem dL_law_251 : decode cL_law 251 = .ok (.iadd, 1) := by decide +kernel
theorem dL_law_252 : decode cL_law 252 = .ok (.iaload, 1) := by decide +kernel
theorem dL_law_253 : decode cL_law 253 = .ok (.invokevirtual 30, 3) := by decide +kernel
theorem dL_law_256 : decode cL_law 256 = .ok (.if_icmp .eq 1282, 3) := by decide +kernel
theorem dL_law_259 : decode cL_law 259 = .ok (.iconst 0, 1) := by decide +kernel
theorem dL_law_260 : decode cL_law 260 = .ok (.ireturn, 1) := by decide +kernel
theorem dL_law_261 : decode cL_law 261 = .ok (.aload_n 1, 1) := by decide +kernel
theorem dL_law_262 : decode cL_law 262 = .ok (.aload_n 0, 1) := by decide +kernel
theorem dL_law_263 : decode cL_law 263 = .ok (.iload 4, 2) := by decide +kernel
theorem dL_law_265 : decode cL_law 265 = .ok (.iconst 1, 1) := by decide +kernel
theorem dL_law_266 : decode cL_law 266 = .ok (.iadd, 1) := by decide +kernel
theorem dL_law_267 : decode cL_law 267 = .ok (.iaload, 1) := by decide +kernel
theorem dL_law_268 : decode cL_law 268 = .ok (.invokevirtual 31, 3) := by decide +kernel
theorem dL_law_271 : decode cL_law 271 = .ok (.aload_n 2, 1) := by decide +kernel
theorem dL_law_272 : decode cL_law 272 = .ok (.aload_n 0, 1) := by decide +kernel
theorem dL_law_273 : decode cL_law 273 = .ok (.iload 4, 2) := by decide +kernel
theorem dL_law_275 : decode cL_law 275 = .ok (.iconst 1, 1) := by decide +kernel
theorem dL_law_276 : decode cL_law 276 = .ok (.iadd, 1) := by decide +kernel
theorem dL_law_277 : decode cL_law 277 = .ok (.iaload, 1) := by decide +kernel
theorem dL_law_278 : decode cL_law 278 = .ok (.invokevirtual 35, 3) := by decide +kernel
theorem dL_law_281 : decode cL_law 281 = .ok (.if_icmp .eq 1257, 3) := by decide +kernel
theorem dL_law_284 : decode cL_law 284 = .ok (.iconst 0, 1) := by decide +kernel
theorem dL_law_285 : decode cL_law 285 = .ok (.ireturn, 1) := by decide +kernel
theorem dL_law_286 : decode cL_law 286 = .ok (.aload_n 1, 1) := by decide +kernel
theorem dL_law_287 : decode cL_law 287 = .ok (.invokevirtual 36, 3) := by decide +kernel
theorem dL_law_290 : decode cL_law 290 = .ok (.aload_n 2, 1) := by decide +kernel
theorem dL_law_291 : decode cL_law 291 = .ok (.invokevirtual 40, 3) := by decide +kernel
theorem dL_law_294 : decode cL_law 294 = .ok (.if_icmp .eq 1244, 3) := by decide +kernel
theorem dL_law_297 : decode cL_law 297 = .ok (.iconst 0, 1) := by decide +kernel
theorem dL_law_298 : decode cL_law 298 = .ok (.ireturn, 1) := by decide +kernel
theorem dL_law_299 : decode cL_law 299 = .ok (.aload_n 1, 1) := by decide +kernel
theorem dL_law_300 : decode cL_law 300 = .ok (.invokevirtual 41, 3) := by decide +kernel
theorem dL_law_303 : decode cL_law 303 = .ok (.aload_n 2, 1) := by decide +kernel
theorem dL_law_304 : decode cL_law 304 = .ok (.invokevirtual 44, 3) := by decide +kernel
theorem dL_law_307 : decode cL_law 307 = .ok (.if_icmp .eq 1231, 3) := by decide +kernel
theorem dL_law_310 : decode cL_law 310 = .ok (.iconst 0, 1) := by decide +kernel
theorem dL_law_311 : decode cL_law 311 = .ok (.ireturn, 1) := by decide +kernel
theorem dL_law_312 : decode cL_law 312 = .ok (.aload_n 1, 1) := by decide +kernel
theorem dL_law_313 : decode cL_law 313 = .ok (.invokevirtual 45, 3) := by decide +kernel
theorem dL_law_316 : decode cL_law 316 = .ok (.aload_n 2, 1) := by decide +kernel
theorem dL_law_317 : decode cL_law 317 = .ok (.invokevirtual 48, 3) := by decide +kernel
theorem dL_law_320 : decode cL_law 320 = .ok (.if_icmp .eq 1218, 3) := by decide +kernel
theorem dL_law_323 : decode cL_law 323 = .ok (.iconst 0, 1) := by decide +kernel
theorem dL_law_324 : decode cL_law 324 = .ok (.ireturn, 1) := by decide +kernel
theorem dL_law_325 : decode cL_law 325 = .ok (.aload_n 1, 1) := by decide +kernel
theorem dL_law_326 : decode cL_law 326 = .ok (.invokevirtual 49, 3) := by decide +kernel
theorem dL_law_329 : decode cL_law 329 = .ok (.aload_n 2, 1) := by decide +kernel
theorem dL_law_330 : decode cL_law 330 = .ok (.invokevirtual 52, 3) := by decide +kernel
theorem dL_law_333 : decode cL_law 333 = .ok (.if_icmp .eq 1205, 3) := by decide +kernel
theorem dL_law_336 : decode cL_law 336 = .ok (.iconst 0, 1) := by decide +kernel
theorem dL_law_337 : decode cL_law 337 = .ok (.ireturn, 1) := by decide +kernel
theorem dL_law_338 : decode cL_law 338 = .ok (.aload_n 1, 1) := by decide +kernel
theorem dL_law_339 : decode cL_law 339 = .ok (.aload_n 0, 1) := by decide +kernel
theorem dL_law_340 : decode cL_law 340 = .ok (.iload 4, 2) := by decide +kernel
theorem dL_law_342 : decode cL_law 342 = .ok (.iconst 1, 1) := by decide +kernel
theorem dL_law_343 : decode cL_law 343 = .ok (.iadd, 1) := by decide +kernel
theorem dL_law_344 : decode cL_law 344 = .ok (.iaload, 1) := by decide +kernel
theorem dL_law_345 : decode cL_law 345 = .ok (.aload_n 0, 1) := by decide +kernel
theorem dL_law_346 : decode cL_law 346 = .ok (.iload 4, 2) := by decide +kernel
theorem dL_law_348 : decode cL_law 348 = .ok (.iconst 2, 1) := by decide +kernel
theorem dL_law_349 : decode cL_law 349 = .ok (.iadd, 1) := by decide +kernel
theorem dL_law_350 : decode cL_law 350 = .ok (.iaload, 1) := by decide +kernel
theorem dL_law_351 : decode cL_law 351 = .ok (.aload_n 3, 1) := by decide +kernel
theorem dL_law_352 : decode cL_law 352 = .ok (.invokestatic 53, 3) := by decide +kernel
theorem dL_law_355 : decode cL_law 355 = .ok (.istore 5, 2) := by decide +kernel
theorem dL_law_357 : decode cL_law 357 = .ok (.aload_n 2, 1) := by decide +kernel
theorem dL_law_358 : decode cL_law 358 = .ok (.aload_n 0, 1) := by decide +kernel
theorem dL_law_359 : decode cL_law 359 = .ok (.iload 4, 2) := by decide +kernel
theorem dL_law_361 : decode cL_law 361 = .ok (.iconst 1, 1) := by decide +kernel
theorem dL_law_362 : decode cL_law 362 = .ok (.iadd, 1) := by decide +kernel
theorem dL_law_363 : decode cL_law 363 = .ok (.iaload, 1) := by decide +kernel
theorem dL_law_364 : decode cL_law 364 = .ok (.aload_n 0, 1) := by decide +kernel
theorem dL_law_365 : decode cL_law 365 = .ok (.iload 4, 2) := by decide +kernel
theorem dL_law_367 : decode cL_law 367 = .ok (.iconst 2, 1) := by decide +kernel
theorem dL_law_368 : decode cL_law 368 = .ok (.iadd, 1) := by decide +kernel
theorem dL_law_369 : decode cL_law 369 = .ok (.iaload, 1) := by decide +kernel
theorem dL_law_370 : decode cL_law 370 = .ok (.invokevirtual 58, 3) := by decide +kernel
theorem dL_law_373 : decode cL_law 373 = .ok (.istore 6, 2) := by decide +kernel
theorem dL_law_375 : decode cL_law 375 = .ok (.aload_n 2, 1) := by decide +kernel
theorem dL_law_376 : decode cL_law 376 = .ok (.invokevirtual 59, 3) := by decide +kernel
theorem dL_law_379 : decode cL_law 379 = .ok (.iload 5, 2) := by decide +kernel
theorem dL_law_381 : decode cL_law 381 = .ok (.if_icmp .eq 5, 3) := by decide +kernel
theorem dL_law_384 : decode cL_law 384 = .ok (.iconst 0, 1) := by decide +kernel
theorem dL_law_385 : decode cL_law 385 = .ok (.ireturn, 1) := by decide +kernel
theorem dL_law_386 : decode cL_law 386 = .ok (.iload 5, 2) := by decide +kernel
theorem dL_law_388 : decode cL_law 388 = .ok (.ifCond .ne 15, 3) := by decide +kernel
theorem dL_law_391 : decode cL_law 391 = .ok (.aload_n 3, 1) := by decide +kernel
theorem dL_law_392 : decode cL_law 392 = .ok (.iconst 0, 1) := by decide +kernel
theorem dL_law_393 : decode cL_law 393 = .ok (.laload, 1) := by decide +kernel
theorem dL_law_394 : decode cL_law 394 = .ok (.iload 6, 2) := by decide +kernel
theorem dL_law_396 : decode cL_law 396 = .ok (.i2l, 1) := by decide +kernel
theorem dL_law_397 : decode cL_law 397 = .ok (.lcmp, 1) := by decide +kernel
theorem dL_law_398 : decode cL_law 398 = .ok (.ifCond .eq 5, 3) := by decide +kernel
theorem dL_law_401 : decode cL_law 401 = .ok (.iconst 0, 1) := by decide +kernel
theorem dL_law_402 : decode cL_law 402 = .ok (.ireturn, 1) := by decide +kernel
theorem dL_law_403 : decode cL_law 403 = .ok (.goto 1135, 3) := by decide +kernel
theorem dL_law_406 : decode cL_law 406 = .ok (.aload_n 1, 1) := by decide +kernel
theorem dL_law_407 : decode cL_law 407 = .ok (.aload_n 0, 1) := by decide +kernel
theorem dL_law_408 : decode cL_law 408 = .ok (.iload 4, 2) := by decide +kernel
theorem dL_law_410 : decode cL_law 410 = .ok (.iconst 1, 1) := by decide +kernel
theorem dL_law_411 : decode cL_law 411 = .ok (.iadd, 1) := by decide +kernel
theorem dL_law_412 : decode cL_law 412 = .ok (.iaload, 1) := by decide +kernel
theorem dL_law_413 : decode cL_law 413 = .ok (.aload_n 0, 1) := by decide +kernel
theorem dL_law_414 : decode cL_law 414 = .ok (.iload 4, 2) := by decide +kernel
theorem dL_law_416 : decode cL_law 416 = .ok (.iconst 2, 1) := by decide +kernel
theorem dL_law_417 : decode cL_law 417 = .ok (.iadd, 1) := by decide +kernel
theorem dL_law_418 : decode cL_law 418 = .ok (.iaload, 1) := by decide +kernel
theorem dL_law_419 : decode cL_law 419 = .ok (.aload_n 3, 1) := by decide +kernel
theorem dL_law_420 : decode cL_law 420 = .ok (.invokestatic 62, 3) := by decide +kernel
theorem dL_law_423 : decode cL_law 423 = .ok (.istore 5, 2) := by decide +kernel
theorem dL_law_425 : decode cL_law 425 = .ok (.aload_n 2, 1) := by decide +kernel
theorem dL_law_426 : decode cL_law 426 = .ok (.aload_n 0, 1) := by decide +kernel
theorem dL_law_427 : decode cL_law 427 = .ok (.iload 4, 2) := by decide +kernel
theorem dL_law_429 : decode cL_law 429 = .ok (.iconst 1, 1) := by decide +kernel
theorem dL_law_430 : decode cL_law 430 = .ok (.iadd, 1) := by decide +kernel
theorem dL_law_431 : decode cL_law 431 = .ok (.iaload, 1) := by decide +kernel
theorem dL_law_432 : decode cL_law 432 = .ok (.aload_n 0, 1) := by decide +kernel
theorem dL_law_433 : decode cL_law 433 = .ok (.iload 4, 2) := by decide +kernel
theorem dL_law_435 : decode cL_law 435 = .ok (.iconst 2, 1) := by decide +kernel
theorem dL_law_436 : decode cL_law 436 = .ok (.iadd, 1) := by decide +kernel
theorem dL_law_437 : decode cL_law 437 = .ok (.iaload, 1) := by decide +kernel
theorem dL_law_438 : decode cL_law 438 = .ok (.invokevirtual 64, 3) := by decide +kernel
theorem dL_law_441 : decode cL_law 441 = .ok (.istore 6, 2) := by decide +kernel
theorem dL_law_443 : decode cL_law 443 = .ok (.aload_n 2, 1) := by decide +kernel
theorem dL_law_444 : decode cL_law 444 = .ok (.invokevirtual 59, 3) := by decide +kernel
theorem dL_law_447 : decode cL_law 447 = .ok (.iload 5, 2) := by decide +kernel
theorem dL_law_449 : decode cL_law 449 = .ok (.if_icmp .eq 5, 3) := by decide +kernel
theorem dL_law_452 : decode cL_law 452 = .ok (.iconst 0, 1) := by decide +kernel
theorem dL_law_453 : decode cL_law 453 = .ok (.ireturn, 1) := by decide +kernel
theorem dL_law_454 : decode cL_law 454 = .ok (.iload 5, 2) := by decide +kernel
theorem dL_law_456 : decode cL_law 456 = .ok (.ifCond .ne 15, 3) := by decide +kernel
theorem dL_law_459 : decode cL_law 459 = .ok (.aload_n 3, 1) := by decide +kernel
theorem dL_law_460 : decode cL_law 460 = .ok (.iconst 0, 1) := by decide +kernel
theorem dL_law_461 : decode cL_law 461 = .ok (.laload, 1) := by decide +kernel
theorem dL_law_462 : decode cL_law 462 = .ok (.iload 6, 2) := by decide +kernel
theorem dL_law_464 : decode cL_law 464 = .ok (.i2l, 1) := by decide +kernel
theorem dL_law_465 : decode cL_law 465 = .ok (.lcmp, 1) := by decide +kernel
theorem dL_law_466 : decode cL_law 466 = .ok (.ifCond .eq 5, 3) := by decide +kernel
theorem dL_law_469 : decode cL_law 469 = .ok (.iconst 0, 1) := by decide +kernel
theorem dL_law_470 : decode cL_law 470 = .ok (.ireturn, 1) := by decide +kernel
theorem dL_law_471 : decode cL_law 471 = .ok (.goto 1067, 3) := by decide +kernel
theorem dL_law_474 : decode cL_law 474 = .ok (.aload_n 1, 1) := by decide +kernel
theorem dL_law_475 : decode cL_law 475 = .ok (.aload_n 0, 1) := by decide +kernel
theorem dL_law_476 : decode cL_law 476 = .ok (.iload 4, 2) := by decide +kernel
theorem dL_law_478 : decode cL_law 478 = .ok (.iconst 1, 1) := by decide +kernel
theorem dL_law_479 : decode cL_law 479 = .ok (.iadd, 1) := by decide +kernel
theorem dL_law_480 : decode cL_law 480 = .ok (.iaload, 1) := by decide +kernel
theorem dL_law_481 : decode cL_law 481 = .ok (.aload_n 0, 1) := by decide +kernel
theorem dL_law_482 : decode cL_law 482 = .ok (.iload 4, 2) := by decide +kernel
theorem dL_law_484 : decode cL_law 484 = .ok (.iconst 2, 1) := by decide +kernel
theorem dL_law_485 : decode cL_law 485 = .ok (.iadd, 1) := by decide +kernel
theorem dL_law_486 : decode cL_law 486 = .ok (.iaload, 1) := by decide +kernel
theorem dL_law_487 : decode cL_law 487 = .ok (.invokevirtual 65, 3) := by decide +kernel
theorem dL_law_490 : decode cL_law 490 = .ok (.aload_n 2, 1) := by decide +kernel
theorem dL_law_491 : decode cL_law 491 = .ok (.aload_n 0, 1) := by decide +kernel
theorem dL_law_492 : decode cL_law 492 = .ok (.iload 4, 2) := by decide +kernel
theorem dL_law_494 : decode cL_law 494 = .ok (.iconst 1, 1) := by decide +kernel
theorem dL_law_495 : decode cL_law 495 = .ok (.iadd, 1) := by decide +kernel
theorem dL_law_496 : decode cL_law 496 = .ok (.iaload, 1) := by decide +kernel
theorem dL_law_497 : decode cL_law 497 = .ok (.aload_n 0, 1) := by decide +kernel
theorem dL_law_498 : decode cL_law 498 = .ok (.iload 4, 2) := by decide +kernel
theorem dL_law_500 : decode cL_law 500 = .ok (.iconst 2, 1) := by decide +kernel
theorem dL_law_501 : decode cL_law 501 = .ok (.iadd, 1) := by decide +kernel
theorem dL_law_502 : decode cL_law 502 = .ok (.iaload, 1) := by decide +kernel
theorem dL_law_503 : decode cL_law 503 = .ok (.invokevirtual 68, 3) := by decide +kernel
theorem dL_law_506 : decode cL_law 506 = .ok (.if_icmp .eq 1032, 3) := by decide +kernel
theorem dL_law_509 : decode cL_law 509 = .ok (.iconst 0, 1) := by decide +kernel
theorem dL_law_510 : decode cL_law 510 = .ok (.ireturn, 1) := by decide +kernel
theorem dL_law_511 : decode cL_law 511 = .ok (.aload_n 1, 1) := by decide +kernel
theorem dL_law_512 : decode cL_law 512 = .ok (.aload_n 0, 1) := by decide +kernel
theorem dL_law_513 : decode cL_law 513 = .ok (.iload 4, 2) := by decide +kernel
theorem dL_law_515 : decode cL_law 515 = .ok (.iconst 1, 1) := by decide +kernel
theorem dL_law_516 : decode cL_law 516 = .ok (.iadd, 1) := by decide +kernel
theorem dL_law_517 : decode cL_law 517 = .ok (.iaload, 1) := by decide +kernel
theorem dL_law_518 : decode cL_law 518 = .ok (.aload_n 0, 1) := by decide +kernel
theorem dL_law_519 : decode cL_law 519 = .ok (.iload 4, 2) := by decide +kernel
theorem dL_law_521 : decode cL_law 521 = .ok (.iconst 2, 1) := by decide +kernel
theorem dL_law_522 : decode cL_law 522 = .ok (.iadd, 1) := by decide +kernel
theorem dL_law_523 : decode cL_law 523 = .ok (.iaload, 1) := by decide +kernel
theorem dL_law_524 : decode cL_law 524 = .ok (.aload_n 0, 1) := by decide +kernel
theorem dL_law_525 : decode cL_law 525 = .ok (.iload 4, 2) := by decide +kernel
theorem dL_law_527 : decode cL_law 527 = .ok (.iconst 3, 1) := by decide +kernel
theorem dL_law_528 : decode cL_law 528 = .ok (.iadd, 1) := by decide +kernel
theorem dL_law_529 : decode cL_law 529 = .ok (.iaload, 1) := by decide +kernel
theorem dL_law_530 : decode cL_law 530 = .ok (.invokevirtual 69, 3) := by decide +kernel
theorem dL_law_533 : decode cL_law 533 = .ok (.aload_n 2, 1) := by decide +kernel
theorem dL_law_534 : decode cL_law 534 = .ok (.aload_n 0, 1) := by decide +kernel
theorem dL_law_535 : decode cL_law 535 = .ok (.iload 4, 2) := by decide +kernel
theorem dL_law_537 : decode cL_law 537 = .ok (.iconst 1, 1) := by decide +kernel
theorem dL_law_538 : decode cL_law 538 = .ok (.iadd, 1) := by decide +kernel
theorem dL_law_539 : decode cL_law 539 = .ok (.iaload, 1) := by decide +kernel
theorem dL_law_540 : decode cL_law 540 = .ok (.aload_n 0, 1) := by decide +kernel
theorem dL_law_541 : decode cL_law 541 = .ok (.iload 4, 2) := by decide +kernel
theorem dL_law_543 : decode cL_law 543 = .ok (.iconst 2, 1) := by decide +kernel
theorem dL_law_544 : decode cL_law 544 = .ok (.iadd, 1) := by decide +kernel
theorem dL_law_545 : decode cL_law 545 = .ok (.iaload, 1) := by decide +kernel
theorem dL_law_546 : decode cL_law 546 = .ok (.aload_n 0, 1) := by decide +kernel
theorem dL_law_547 : decode cL_law 547 = .ok (.iload 4, 2) := by decide +kernel
theorem dL_law_549 : decode cL_law 549 = .ok (.iconst 3, 1) := by decide +kernel
theorem dL_law_550 : decode cL_law 550 = .ok (.iadd, 1) := by decide +kernel
theorem dL_law_551 : decode cL_law 551 = .ok (.iaload, 1) := by decide +kernel
theorem dL_law_552 : decode cL_law 552 = .ok (.invokevirtual 73, 3) := by decide +kernel
theorem dL_law_555 : decode cL_law 555 = .ok (.if_icmp .eq 983, 3) := by decide +kernel
theorem dL_law_558 : decode cL_law 558 = .ok (.iconst 0, 1) := by decide +kernel
theorem dL_law_559 : decode cL_law 559 = .ok (.ireturn, 1) := by decide +kernel
theorem dL_law_560 : decode cL_law 560 = .ok (.aload_n 1, 1) := by decide +kernel
theorem dL_law_561 : decode cL_law 561 = .ok (.aload_n 0, 1) := by decide +kernel
theorem dL_law_562 : decode cL_law 562 = .ok (.iload 4, 2) := by decide +kernel
theorem dL_law_564 : decode cL_law 564 = .ok (.iconst 1, 1) := by decide +kernel
theorem dL_law_565 : decode cL_law 565 = .ok (.iadd, 1) := by decide +kernel
theorem dL_law_566 : decode cL_law 566 = .ok (.iaload, 1) := by decide +kernel
theorem dL_law_567 : decode cL_law 567 = .ok (.aload_n 0, 1) := by decide +kernel
theorem dL_law_568 : decode cL_law 568 = .ok (.iload 4, 2) := by decide +kernel
theorem dL_law_570 : decode cL_law 570 = .ok (.iconst 2, 1) := by decide +kernel
theorem dL_law_571 : decode cL_law 571 = .ok (.iadd, 1) := by decide +kernel
theorem dL_law_572 : decode cL_law 572 = .ok (.iaload, 1) := by decide +kernel
theorem dL_law_573 : decode cL_law 573 = .ok (.aload_n 0, 1) := by decide +kernel
theorem dL_law_574 : decode cL_law 574 = .ok (.iload 4, 2) := by decide +kernel
theorem dL_law_576 : decode cL_law 576 = .ok (.iconst 3, 1) := by decide +kernel
theorem dL_law_577 : decode cL_law 577 = .ok (.iadd, 1) := by decide +kernel
theorem dL_law_578 : decode cL_law 578 = .ok (.iaload, 1) := by decide +kernel
theorem dL_law_579 : decode cL_law 579 = .ok (.aload_n 0, 1) := by decide +kernel
theorem dL_law_580 : decode cL_law 580 = .ok (.iload 4, 2) := by decide +kernel
theorem dL_law_582 : decode cL_law 582 = .ok (.iconst 4, 1) := by decide +kernel
theorem dL_law_583 : decode cL_law 583 = .ok (.iadd, 1) := by decide +kernel
theorem dL_law_584 : decode cL_law 584 = .ok (.iaload, 1) := by decide +kernel
theorem dL_law_585 : decode cL_law 585 = .ok (.invokevirtual 74, 3) := by decide +kernel
theorem dL_law_588 : decode cL_law 588 = .ok (.aload_n 2, 1) := by decide +kernel
theorem dL_law_589 : decode cL_law 589 = .ok (.aload_n 0, 1) := by decide +kernel
theorem dL_law_590 : decode cL_law 590 = .ok (.iload 4, 2) := by decide +kernel
theorem dL_law_592 : decode cL_law 592 = .ok (.iconst 1, 1) := by decide +kernel
theorem dL_law_593 : decode cL_law 593 = .ok (.iadd, 1) := by decide +kernel
theorem dL_law_594 : decode cL_law 594 = .ok (.iaload, 1) := by decide +kernel
theorem dL_law_595 : decode cL_law 595 = .ok (.aload_n 0, 1) := by decide +kernel
theorem dL_law_596 : decode cL_law 596 = .ok (.iload 4, 2) := by decide +kernel
theorem dL_law_598 : decode cL_law 598 = .ok (.iconst 2, 1) := by decide +kernel
theorem dL_law_599 : decode cL_law 599 = .ok (.iadd, 1) := by decide +kernel
theorem dL_law_600 : decode cL_law 600 = .ok (.iaload, 1) := by decide +kernel
theorem dL_law_601 : decode cL_law 601 = .ok (.aload_n 0, 1) := by decide +kernel
theorem dL_law_602 : decode cL_law 602 = .ok (.iload 4, 2) := by decide +kernel
theorem dL_law_604 : decode cL_law 604 = .ok (.iconst 3, 1) := by decide +kernel
theorem dL_law_605 : decode cL_law 605 = .ok (.iadd, 1) := by decide +kernel
theorem dL_law_606 : decode cL_law 606 = .ok (.iaload, 1) := by decide +kernel
theorem dL_law_607 : decode cL_law 607 = .ok (.aload_n 0, 1) := by decide +kernel
theorem dL_law_608 : decode cL_law 608 = .ok (.iload 4, 2) := by decide +kernel
theorem dL_law_610 : decode cL_law 610 = .ok (.iconst 4, 1) := by decide +kernel
theorem dL_law_611 : decode cL_law 611 = .ok (.iadd, 1) := by decide +kernel
theorem dL_law_612 : decode cL_law 612 = .ok (.iaload, 1) := by decide +kernel
theorem dL_law_613 : decode cL_law 613 = .ok (.invokevirtual 78, 3) := by decide +kernel
theorem dL_law_616 : decode cL_law 616 = .ok (.if_icmp .eq 922, 3) := by decide +kernel
theorem dL_law_619 : decode cL_law 619 = .ok (.iconst 0, 1) := by decide +kernel
theorem dL_law_620 : decode cL_law 620 = .ok (.ireturn, 1) := by decide +kernel
theorem dL_law_621 : decode cL_law 621 = .ok (.aload_n 1, 1) := by decide +kernel
theorem dL_law_622 : decode cL_law 622 = .ok (.aload_n 0, 1) := by decide +kernel
theorem dL_law_623 : decode cL_law 623 = .ok (.iload 4, 2) := by decide +kernel
theorem dL_law_625 : decode cL_law 625 = .ok (.iconst 1, 1) := by decide +kernel
theorem dL_law_626 : decode cL_law 626 = .ok (.iadd, 1) := by decide +kernel
theorem dL_law_627 : decode cL_law 627 = .ok (.iaload, 1) := by decide +kernel
theorem dL_law_628 : decode cL_law 628 = .ok (.aload_n 0, 1) := by decide +kernel
theorem dL_law_629 : decode cL_law 629 = .ok (.iload 4, 2) := by decide +kernel
theorem dL_law_631 : decode cL_law 631 = .ok (.iconst 2, 1) := by decide +kernel
theorem dL_law_632 : decode cL_law 632 = .ok (.iadd, 1) := by decide +kernel
theorem dL_law_633 : decode cL_law 633 = .ok (.iaload, 1) := by decide +kernel
theorem dL_law_634 : decode cL_law 634 = .ok (.aload_n 0, 1) := by decide +kernel
theorem dL_law_635 : decode cL_law 635 = .ok (.iload 4, 2) := by decide +kernel
theorem dL_law_637 : decode cL_law 637 = .ok (.iconst 3, 1) := by decide +kernel
theorem dL_law_638 : decode cL_law 638 = .ok (.iadd, 1) := by decide +kernel
theorem dL_law_639 : decode cL_law 639 = .ok (.iaload, 1) := by decide +kernel
theorem dL_law_640 : decode cL_law 640 = .ok (.invokevirtual 79, 3) := by decide +kernel
theorem dL_law_643 : decode cL_law 643 = .ok (.aload_n 2, 1) := by decide +kernel
theorem dL_law_644 : decode cL_law 644 = .ok (.aload_n 0, 1) := by decide +kernel
theorem dL_law_645 : decode cL_law 645 = .ok (.iload 4, 2) := by decide +kernel
theorem dL_law_647 : decode cL_law 647 = .ok (.iconst 1, 1) := by decide +kernel
theorem dL_law_648 : decode cL_law 648 = .ok (.iadd, 1) := by decide +kernel
theorem dL_law_649 : decode cL_law 649 = .ok (.iaload, 1) := by decide +kernel
theorem dL_law_650 : decode cL_law 650 = .ok (.aload_n 0, 1) := by decide +kernel
theorem dL_law_651 : decode cL_law 651 = .ok (.iload 4, 2) := by decide +kernel
theorem dL_law_653 : decode cL_law 653 = .ok (.iconst 2, 1) := by decide +kernel
theorem dL_law_654 : decode cL_law 654 = .ok (.iadd, 1) := by decide +kernel
theorem dL_law_655 : decode cL_law 655 = .ok (.iaload, 1) := by decide +kernel
theorem dL_law_656 : decode cL_law 656 = .ok (.aload_n 0, 1) := by decide +kernel
theorem dL_law_657 : decode cL_law 657 = .ok (.iload 4, 2) := by decide +kernel
theorem dL_law_659 : decode cL_law 659 = .ok (.iconst 3, 1) := by decide +kernel
theorem dL_law_660 : decode cL_law 660 = .ok (.iadd, 1) := by decide +kernel
theorem dL_law_661 : decode cL_law 661 = .ok (.iaload, 1) := by decide +kernel
theorem dL_law_662 : decode cL_law 662 = .ok (.invokevirtual 82, 3) := by decide +kernel
theorem dL_law_665 : decode cL_law 665 = .ok (.if_icmp .eq 873, 3) := by decide +kernel
theorem dL_law_668 : decode cL_law 668 = .ok (.iconst 0, 1) := by decide +kernel
theorem dL_law_669 : decode cL_law 669 = .ok (.ireturn, 1) := by decide +kernel
theorem dL_law_670 : decode cL_law 670 = .ok (.aload_n 1, 1) := by decide +kernel
theorem dL_law_671 : decode cL_law 671 = .ok (.aload_n 0, 1) := by decide +kernel
theorem dL_law_672 : decode cL_law 672 = .ok (.iload 4, 2) := by decide +kernel
theorem dL_law_674 : decode cL_law 674 = .ok (.iconst 1, 1) := by decide +kernel
theorem dL_law_675 : decode cL_law 675 = .ok (.iadd, 1) := by decide +kernel
theorem dL_law_676 : decode cL_law 676 = .ok (.iaload, 1) := by decide +kernel
theorem dL_law_677 : decode cL_law 677 = .ok (.aload_n 0, 1) := by decide +kernel
theorem dL_law_678 : decode cL_law 678 = .ok (.iload 4, 2) := by decide +kernel
theorem dL_law_680 : decode cL_law 680 = .ok (.iconst 2, 1) := by decide +kernel
theorem dL_law_681 : decode cL_law 681 = .ok (.iadd, 1) := by decide +kernel
theorem dL_law_682 : decode cL_law 682 = .ok (.iaload, 1) := by decide +kernel
theorem dL_law_683 : decode cL_law 683 = .ok (.invokevirtual 83, 3) := by decide +kernel
theorem dL_law_686 : decode cL_law 686 = .ok (.aload_n 2, 1) := by decide +kernel
theorem dL_law_687 : decode cL_law 687 = .ok (.aload_n 0, 1) := by decide +kernel
theorem dL_law_688 : decode cL_law 688 = .ok (.iload 4, 2) := by decide +kernel
theorem dL_law_690 : decode cL_law 690 = .ok (.iconst 1, 1) := by decide +kernel
theorem dL_law_691 : decode cL_law 691 = .ok (.iadd, 1) := by decide +kernel
theorem dL_law_692 : decode cL_law 692 = .ok (.iaload, 1) := by decide +kernel
theorem dL_law_693 : decode cL_law 693 = .ok (.aload_n 0, 1) := by decide +kernel
theorem dL_law_694 : decode cL_law 694 = .ok (.iload 4, 2) := by decide +kernel
theorem dL_law_696 : decode cL_law 696 = .ok (.iconst 2, 1) := by decide +kernel
theorem dL_law_697 : decode cL_law 697 = .ok (.iadd, 1) := by decide +kernel
theorem dL_law_698 : decode cL_law 698 = .ok (.iaload, 1) := by decide +kernel
theorem dL_law_699 : decode cL_law 699 = .ok (.invokevirtual 86, 3) := by decide +kernel
theorem dL_law_702 : decode cL_law 702 = .ok (.if_icmp .eq 836, 3) := by decide +kernel
theorem dL_law_705 : decode cL_law 705 = .ok (.iconst 0, 1) := by decide +kernel
theorem dL_law_706 : decode cL_law 706 = .ok (.ireturn, 1) := by decide +kernel
theorem dL_law_707 : decode cL_law 707 = .ok (.aload_n 1, 1) := by decide +kernel
theorem dL_law_708 : decode cL_law 708 = .ok (.aload_n 0, 1) := by decide +kernel
theorem dL_law_709 : decode cL_law 709 = .ok (.iload 4, 2) := by decide +kernel
theorem dL_law_711 : decode cL_law 711 = .ok (.iconst 1, 1) := by decide +kernel
theorem dL_law_712 : decode cL_law 712 = .ok (.iadd, 1) := by decide +kernel
theorem dL_law_713 : decode cL_law 713 = .ok (.iaload, 1) := by decide +kernel
theorem dL_law_714 : decode cL_law 714 = .ok (.invokevirtual 87, 3) := by decide +kernel
theorem dL_law_717 : decode cL_law 717 = .ok (.aload_n 2, 1) := by decide +kernel
theorem dL_law_718 : decode cL_law 718 = .ok (.aload_n 0, 1) := by decide +kernel
theorem dL_law_719 : decode cL_law 719 = .ok (.iload 4, 2) := by decide +kernel
theorem dL_law_721 : decode cL_law 721 = .ok (.iconst 1, 1) := by decide +kernel
theorem dL_law_722 : decode cL_law 722 = .ok (.iadd, 1) := by decide +kernel
theorem dL_law_723 : decode cL_law 723 = .ok (.iaload, 1) := by decide +kernel
theorem dL_law_724 : decode cL_law 724 = .ok (.invokevirtual 90, 3) := by decide +kernel
theorem dL_law_727 : decode cL_law 727 = .ok (.if_icmp .eq 811, 3) := by decide +kernel
theorem dL_law_730 : decode cL_law 730 = .ok (.iconst 0, 1) := by decide +kernel
theorem dL_law_731 : decode cL_law 731 = .ok (.ireturn, 1) := by decide +kernel
theorem dL_law_732 : decode cL_law 732 = .ok (.aload_n 1, 1) := by decide +kernel
theorem dL_law_733 : decode cL_law 733 = .ok (.invokevirtual 91, 3) := by decide +kernel
theorem dL_law_736 : decode cL_law 736 = .ok (.aload_n 2, 1) := by decide +kernel
theorem dL_law_737 : decode cL_law 737 = .ok (.invokevirtual 94, 3) := by decide +kernel
theorem dL_law_740 : decode cL_law 740 = .ok (.if_icmp .eq 798, 3) := by decide +kernel
theorem dL_law_743 : decode cL_law 743 = .ok (.iconst 0, 1) := by decide +kernel
theorem dL_law_744 : decode cL_law 744 = .ok (.ireturn, 1) := by decide +kernel
theorem dL_law_745 : decode cL_law 745 = .ok (.aload_n 1, 1) := by decide +kernel
theorem dL_law_746 : decode cL_law 746 = .ok (.invokevirtual 95, 3) := by decide +kernel
theorem dL_law_749 : decode cL_law 749 = .ok (.aload_n 2, 1) := by decide +kernel
theorem dL_law_750 : decode cL_law 750 = .ok (.invokevirtual 98, 3) := by decide +kernel
theorem dL_law_753 : decode cL_law 753 = .ok (.if_icmp .eq 785, 3) := by decide +kernel
theorem dL_law_756 : decode cL_law 756 = .ok (.iconst 0, 1) := by decide +kernel
theorem dL_law_757 : decode cL_law 757 = .ok (.ireturn, 1) := by decide +kernel
theorem dL_law_758 : decode cL_law 758 = .ok (.aload_n 1, 1) := by decide +kernel
theorem dL_law_759 : decode cL_law 759 = .ok (.aload_n 0, 1) := by decide +kernel
theorem dL_law_760 : decode cL_law 760 = .ok (.iload 4, 2) := by decide +kernel
theorem dL_law_762 : decode cL_law 762 = .ok (.iconst 1, 1) := by decide +kernel
theorem dL_law_763 : decode cL_law 763 = .ok (.iadd, 1) := by decide +kernel
theorem dL_law_764 : decode cL_law 764 = .ok (.iaload, 1) := by decide +kernel
theorem dL_law_765 : decode cL_law 765 = .ok (.aload_n 0, 1) := by decide +kernel
theorem dL_law_766 : decode cL_law 766 = .ok (.iload 4, 2) := by decide +kernel
theorem dL_law_768 : decode cL_law 768 = .ok (.iconst 2, 1) := by decide +kernel
theorem dL_law_769 : decode cL_law 769 = .ok (.iadd, 1) := by decide +kernel
theorem dL_law_770 : decode cL_law 770 = .ok (.iaload, 1) := by decide +kernel
theorem dL_law_771 : decode cL_law 771 = .ok (.invokevirtual 99, 3) := by decide +kernel
theorem dL_law_774 : decode cL_law 774 = .ok (.aload_n 2, 1) := by decide +kernel
theorem dL_law_775 : decode cL_law 775 = .ok (.aload_n 0, 1) := by decide +kernel
theorem dL_law_776 : decode cL_law 776 = .ok (.iload 4, 2) := by decide +kernel
theorem dL_law_778 : decode cL_law 778 = .ok (.iconst 1, 1) := by decide +kernel
theorem dL_law_779 : decode cL_law 779 = .ok (.iadd, 1) := by decide +kernel
theorem dL_law_780 : decode cL_law 780 = .ok (.iaload, 1) := by decide +kernel
theorem dL_law_781 : decode cL_law 781 = .ok (.aload_n 0, 1) := by decide +kernel
theorem dL_law_782 : decode cL_law 782 = .ok (.iload 4, 2) := by decide +kernel
theorem dL_law_784 : decode cL_law 784 = .ok (.iconst 2, 1) := by decide +kernel
theorem dL_law_785 : decode cL_law 785 = .ok (.iadd, 1) := by decide +kernel
theorem dL_law_786 : decode cL_law 786 = .ok (.iaload, 1) := by decide +kernel
theorem dL_law_787 : decode cL_law 787 = .ok (.invokevirtual 102, 3) := by decide +kernel
theorem dL_law_790 : decode cL_law 790 = .ok (.if_icmp .eq 748, 3) := by decide +kernel
theorem dL_law_793 : decode cL_law 793 = .ok (.iconst 0, 1) := by decide +kernel
theorem dL_law_794 : decode cL_law 794 = .ok (.ireturn, 1) := by decide +kernel
theorem dL_law_795 : decode cL_law 795 = .ok (.aload_n 1, 1) := by decide +kernel
theorem dL_law_796 : decode cL_law 796 = .ok (.invokevirtual 103, 3) := by decide +kernel
theorem dL_law_799 : decode cL_law 799 = .ok (.aload_n 2, 1) := by decide +kernel
theorem dL_law_800 : decode cL_law 800 = .ok (.invokevirtual 106, 3) := by decide +kernel
theorem dL_law_803 : decode cL_law 803 = .ok (.if_icmp .eq 735, 3) := by decide +kernel
theorem dL_law_806 : decode cL_law 806 = .ok (.iconst 0, 1) := by decide +kernel
theorem dL_law_807 : decode cL_law 807 = .ok (.ireturn, 1) := by decide +kernel
theorem dL_law_808 : decode cL_law 808 = .ok (.aload_n 1, 1) := by decide +kernel
theorem dL_law_809 : decode cL_law 809 = .ok (.invokevirtual 107, 3) := by decide +kernel
theorem dL_law_812 : decode cL_law 812 = .ok (.aload_n 2, 1) := by decide +kernel
theorem dL_law_813 : decode cL_law 813 = .ok (.invokevirtual 110, 3) := by decide +kernel
theorem dL_law_816 : decode cL_law 816 = .ok (.if_icmp .eq 722, 3) := by decide +kernel
theorem dL_law_819 : decode cL_law 819 = .ok (.iconst 0, 1) := by decide +kernel
theorem dL_law_820 : decode cL_law 820 = .ok (.ireturn, 1) := by decide +kernel
theorem dL_law_821 : decode cL_law 821 = .ok (.aload_n 1, 1) := by decide +kernel
theorem dL_law_822 : decode cL_law 822 = .ok (.invokevirtual 111, 3) := by decide +kernel
theorem dL_law_825 : decode cL_law 825 = .ok (.aload_n 2, 1) := by decide +kernel
theorem dL_law_826 : decode cL_law 826 = .ok (.invokevirtual 114, 3) := by decide +kernel
theorem dL_law_829 : decode cL_law 829 = .ok (.if_icmp .eq 709, 3) := by decide +kernel
theorem dL_law_832 : decode cL_law 832 = .ok (.iconst 0, 1) := by decide +kernel
theorem dL_law_833 : decode cL_law 833 = .ok (.ireturn, 1) := by decide +kernel
theorem dL_law_834 : decode cL_law 834 = .ok (.aload_n 1, 1) := by decide +kernel
theorem dL_law_835 : decode cL_law 835 = .ok (.aload_n 0, 1) := by decide +kernel
theorem dL_law_836 : decode cL_law 836 = .ok (.iload 4, 2) := by decide +kernel
theorem dL_law_838 : decode cL_law 838 = .ok (.iconst 1, 1) := by decide +kernel
theorem dL_law_839 : decode cL_law 839 = .ok (.iadd, 1) := by decide +kernel
theorem dL_law_840 : decode cL_law 840 = .ok (.iaload, 1) := by decide +kernel
theorem dL_law_841 : decode cL_law 841 = .ok (.invokevirtual 115, 3) := by decide +kernel
theorem dL_law_844 : decode cL_law 844 = .ok (.aload_n 2, 1) := by decide +kernel
theorem dL_law_845 : decode cL_law 845 = .ok (.aload_n 0, 1) := by decide +kernel
theorem dL_law_846 : decode cL_law 846 = .ok (.iload 4, 2) := by decide +kernel
theorem dL_law_848 : decode cL_law 848 = .ok (.iconst 1, 1) := by decide +kernel
theorem dL_law_849 : decode cL_law 849 = .ok (.iadd, 1) := by decide +kernel
theorem dL_law_850 : decode cL_law 850 = .ok (.iaload, 1) := by decide +kernel
theorem dL_law_851 : decode cL_law 851 = .ok (.invokevirtual 118, 3) := by decide +kernel
theorem dL_law_854 : decode cL_law 854 = .ok (.if_icmp .eq 684, 3) := by decide +kernel
theorem dL_law_857 : decode cL_law 857 = .ok (.iconst 0, 1) := by decide +kernel
theorem dL_law_858 : decode cL_law 858 = .ok (.ireturn, 1) := by decide +kernel
theorem dL_law_859 : decode cL_law 859 = .ok (.aload_n 1, 1) := by decide +kernel
theorem dL_law_860 : decode cL_law 860 = .ok (.aload_n 0, 1) := by decide +kernel
theorem dL_law_861 : decode cL_law 861 = .ok (.iload 4, 2) := by decide +kernel
theorem dL_law_863 : decode cL_law 863 = .ok (.iconst 1, 1) := by decide +kernel
theorem dL_law_864 : decode cL_law 864 = .ok (.iadd, 1) := by decide +kernel
theorem dL_law_865 : decode cL_law 865 = .ok (.iaload, 1) := by decide +kernel
theorem dL_law_866 : decode cL_law 866 = .ok (.aload_n 0, 1) := by decide +kernel
theorem dL_law_867 : decode cL_law 867 = .ok (.iload 4, 2) := by decide +kernel
theorem dL_law_869 : decode cL_law 869 = .ok (.iconst 2, 1) := by decide +kernel
theorem dL_law_870 : decode cL_law 870 = .ok (.iadd, 1) := by decide +kernel
theorem dL_law_871 : decode cL_law 871 = .ok (.iaload, 1) := by decide +kernel
theorem dL_law_872 : decode cL_law 872 = .ok (.invokevirtual 119, 3) := by decide +kernel
theorem dL_law_875 : decode cL_law 875 = .ok (.aload_n 2, 1) := by decide +kernel
theorem dL_law_876 : decode cL_law 876 = .ok (.aload_n 0, 1) := by decide +kernel
theorem dL_law_877 : decode cL_law 877 = .ok (.iload 4, 2) := by decide +kernel
theorem dL_law_879 : decode cL_law 879 = .ok (.iconst 1, 1) := by decide +kernel
theorem dL_law_880 : decode cL_law 880 = .ok (.iadd, 1) := by decide +kernel
theorem dL_law_881 : decode cL_law 881 = .ok (.iaload, 1) := by decide +kernel
theorem dL_law_882 : decode cL_law 882 = .ok (.aload_n 0, 1) := by decide +kernel
theorem dL_law_883 : decode cL_law 883 = .ok (.iload 4, 2) := by decide +kernel
theorem dL_law_885 : decode cL_law 885 = .ok (.iconst 2, 1) := by decide +kernel
theorem dL_law_886 : decode cL_law 886 = .ok (.iadd, 1) := by decide +kernel
theorem dL_law_887 : decode cL_law 887 = .ok (.iaload, 1) := by decide +kernel
theorem dL_law_888 : decode cL_law 888 = .ok (.invokevirtual 122, 3) := by decide +kernel
theorem dL_law_891 : decode cL_law 891 = .ok (.if_icmp .eq 647, 3) := by decide +kernel
theorem dL_law_894 : decode cL_law 894 = .ok (.iconst 0, 1) := by decide +kernel
theorem dL_law_895 : decode cL_law 895 = .ok (.ireturn, 1) := by decide +kernel
theorem dL_law_896 : decode cL_law 896 = .ok (.aload_n 1, 1) := by decide +kernel
theorem dL_law_897 : decode cL_law 897 = .ok (.aload_n 0, 1) := by decide +kernel
theorem dL_law_898 : decode cL_law 898 = .ok (.iload 4, 2) := by decide +kernel
theorem dL_law_900 : decode cL_law 900 = .ok (.iconst 1, 1) := by decide +kernel
theorem dL_law_901 : decode cL_law 901 = .ok (.iadd, 1) := by decide +kernel
theorem dL_law_902 : decode cL_law 902 = .ok (.iaload, 1) := by decide +kernel
theorem dL_law_903 : decode cL_law 903 = .ok (.invokevirtual 123, 3) := by decide +kernel
theorem dL_law_906 : decode cL_law 906 = .ok (.aload_n 2, 1) := by decide +kernel
theorem dL_law_907 : decode cL_law 907 = .ok (.aload_n 0, 1) := by decide +kernel
theorem dL_law_908 : decode cL_law 908 = .ok (.iload 4, 2) := by decide +kernel
theorem dL_law_910 : decode cL_law 910 = .ok (.iconst 1, 1) := by decide +kernel
theorem dL_law_911 : decode cL_law 911 = .ok (.iadd, 1) := by decide +kernel
theorem dL_law_912 : decode cL_law 912 = .ok (.iaload, 1) := by decide +kernel
theorem dL_law_913 : decode cL_law 913 = .ok (.invokevirtual 126, 3) := by decide +kernel
theorem dL_law_916 : decode cL_law 916 = .ok (.if_icmp .eq 622, 3) := by decide +kernel
theorem dL_law_919 : decode cL_law 919 = .ok (.iconst 0, 1) := by decide +kernel
theorem dL_law_920 : decode cL_law 920 = .ok (.ireturn, 1) := by decide +kernel
theorem dL_law_921 : decode cL_law 921 = .ok (.aload_n 1, 1) := by decide +kernel
theorem dL_law_922 : decode cL_law 922 = .ok (.invokevirtual 127, 3) := by decide +kernel
theorem dL_law_925 : decode cL_law 925 = .ok (.aload_n 2, 1) := by decide +kernel
theorem dL_law_926 : decode cL_law 926 = .ok (.invokevirtual 130, 3) := by decide +kernel
theorem dL_law_929 : decode cL_law 929 = .ok (.if_icmp .eq 609, 3) := by decide +kernel
theorem dL_law_932 : decode cL_law 932 = .ok (.iconst 0, 1) := by decide +kernel
theorem dL_law_933 : decode cL_law 933 = .ok (.ireturn, 1) := by decide +kernel
theorem dL_law_934 : decode cL_law 934 = .ok (.aload_n 1, 1) := by decide +kernel
theorem dL_law_935 : decode cL_law 935 = .ok (.invokevirtual 131, 3) := by decide +kernel
theorem dL_law_938 : decode cL_law 938 = .ok (.aload_n 2, 1) := by decide +kernel
theorem dL_law_939 : decode cL_law 939 = .ok (.invokevirtual 134, 3) := by decide +kernel
theorem dL_law_942 : decode cL_law 942 = .ok (.if_icmp .eq 596, 3) := by decide +kernel
theorem dL_law_945 : decode cL_law 945 = .ok (.iconst 0, 1) := by decide +kernel
theorem dL_law_946 : decode cL_law 946 = .ok (.ireturn, 1) := by decide +kernel
theorem dL_law_947 : decode cL_law 947 = .ok (.aload_n 1, 1) := by decide +kernel
theorem dL_law_948 : decode cL_law 948 = .ok (.aload_n 0, 1) := by decide +kernel
theorem dL_law_949 : decode cL_law 949 = .ok (.iload 4, 2) := by decide +kernel
theorem dL_law_951 : decode cL_law 951 = .ok (.iconst 1, 1) := by decide +kernel
theorem dL_law_952 : decode cL_law 952 = .ok (.iadd, 1) := by decide +kernel
theorem dL_law_953 : decode cL_law 953 = .ok (.iaload, 1) := by decide +kernel
theorem dL_law_954 : decode cL_law 954 = .ok (.aload_n 0, 1) := by decide +kernel
theorem dL_law_955 : decode cL_law 955 = .ok (.iload 4, 2) := by decide +kernel
theorem dL_law_957 : decode cL_law 957 = .ok (.iconst 2, 1) := by decide +kernel
theorem dL_law_958 : decode cL_law 958 = .ok (.iadd, 1) := by decide +kernel
theorem dL_law_959 : decode cL_law 959 = .ok (.iaload, 1) := by decide +kernel
theorem dL_law_960 : decode cL_law 960 = .ok (.invokevirtual 135, 3) := by decide +kernel
theorem dL_law_963 : decode cL_law 963 = .ok (.aload_n 2, 1) := by decide +kernel
theorem dL_law_964 : decode cL_law 964 = .ok (.aload_n 0, 1) := by decide +kernel
theorem dL_law_965 : decode cL_law 965 = .ok (.iload 4, 2) := by decide +kernel
theorem dL_law_967 : decode cL_law 967 = .ok (.iconst 1, 1) := by decide +kernel
theorem dL_law_968 : decode cL_law 968 = .ok (.iadd, 1) := by decide +kernel
theorem dL_law_969 : decode cL_law 969 = .ok (.iaload, 1) := by decide +kernel
theorem dL_law_970 : decode cL_law 970 = .ok (.aload_n 0, 1) := by decide +kernel
theorem dL_law_971 : decode cL_law 971 = .ok (.iload 4, 2) := by decide +kernel
theorem dL_law_973 : decode cL_law 973 = .ok (.iconst 2, 1) := by decide +kernel
theorem dL_law_974 : decode cL_law 974 = .ok (.iadd, 1) := by decide +kernel
theorem dL_law_975 : decode cL_law 975 = .ok (.iaload, 1) := by decide +kernel
theorem dL_law_976 : decode cL_law 976 = .ok (.invokevirtual 138, 3) := by decide +kernel
theorem dL_law_979 : decode cL_law 979 = .ok (.if_icmp .eq 559, 3) := by decide +kernel
theorem dL_law_982 : decode cL_law 982 = .ok (.iconst 0, 1) := by decide +kernel
theorem dL_law_983 : decode cL_law 983 = .ok (.ireturn, 1) := by decide +kernel
theorem dL_law_984 : decode cL_law 984 = .ok (.aload_n 1, 1) := by decide +kernel
theorem dL_law_985 : decode cL_law 985 = .ok (.aload_n 0, 1) := by decide +kernel
theorem dL_law_986 : decode cL_law 986 = .ok (.iload 4, 2) := by decide +kernel
theorem dL_law_988 : decode cL_law 988 = .ok (.iconst 1, 1) := by decide +kernel
theorem dL_law_989 : decode cL_law 989 = .ok (.iadd, 1) := by decide +kernel
theorem dL_law_990 : decode cL_law 990 = .ok (.iaload, 1) := by decide +kernel
theorem dL_law_991 : decode cL_law 991 = .ok (.aload_n 0, 1) := by decide +kernel
theorem dL_law_992 : decode cL_law 992 = .ok (.iload 4, 2) := by decide +kernel
theorem dL_law_994 : decode cL_law 994 = .ok (.iconst 2, 1) := by decide +kernel
theorem dL_law_995 : decode cL_law 995 = .ok (.iadd, 1) := by decide +kernel
theorem dL_law_996 : decode cL_law 996 = .ok (.iaload, 1) := by decide +kernel
theorem dL_law_997 : decode cL_law 997 = .ok (.invokevirtual 139, 3) := by decide +kernel
theorem dL_law_1000 : decode cL_law 1000 = .ok (.aload_n 2, 1) := by decide +kernel
theorem dL_law_1001 : decode cL_law 1001 = .ok (.aload_n 0, 1) := by decide +kernel
theorem dL_law_1002 : decode cL_law 1002 = .ok (.iload 4, 2) := by decide +kernel
theorem dL_law_1004 : decode cL_law 1004 = .ok (.iconst 1, 1) := by decide +kernel
theorem dL_law_1005 : decode cL_law 1005 = .ok (.iadd, 1) := by decide +kernel
theorem dL_law_1006 : decode cL_law 1006 = .ok (.iaload, 1) := by decide +kernel
theorem dL_law_1007 : decode cL_law 1007 = .ok (.aload_n 0, 1) := by decide +kernel
theorem dL_law_1008 : decode cL_law 1008 = .ok (.iload 4, 2) := by decide +kernel
theorem dL_law_1010 : decode cL_law 1010 = .ok (.iconst 2, 1) := by decide +kernel
theorem dL_law_1011 : decode cL_law 1011 = .ok (.iadd, 1) := by decide +kernel
theorem dL_law_1012 : decode cL_law 1012 = .ok (.iaload, 1) := by decide +kernel
theorem dL_law_1013 : decode cL_law 1013 = .ok (.invokevirtual 142, 3) := by decide +kernel
theorem dL_law_1016 : decode cL_law 1016 = .ok (.if_icmp .eq 522, 3) := by decide +kernel
theorem dL_law_1019 : decode cL_law 1019 = .ok (.iconst 0, 1) := by decide +kernel
theorem dL_law_1020 : decode cL_law 1020 = .ok (.ireturn, 1) := by decide +kernel
theorem dL_law_1021 : decode cL_law 1021 = .ok (.aload_n 1, 1) := by decide +kernel
theorem dL_law_1022 : decode cL_law 1022 = .ok (.invokevirtual 143, 3) := by decide +kernel
theorem dL_law_1025 : decode cL_law 1025 = .ok (.aload_n 2, 1) := by decide +kernel
theorem dL_law_1026 : decode cL_law 1026 = .ok (.invokevirtual 146, 3) := by decide +kernel
theorem dL_law_1029 : decode cL_law 1029 = .ok (.if_icmp .eq 509, 3) := by decide +kernel
theorem dL_law_1032 : decode cL_law 1032 = .ok (.iconst 0, 1) := by decide +kernel
theorem dL_law_1033 : decode cL_law 1033 = .ok (.ireturn, 1) := by decide +kernel
theorem dL_law_1034 : decode cL_law 1034 = .ok (.aload_n 1, 1) := by decide +kernel
theorem dL_law_1035 : decode cL_law 1035 = .ok (.aload_n 0, 1) := by decide +kernel
theorem dL_law_1036 : decode cL_law 1036 = .ok (.iload 4, 2) := by decide +kernel
theorem dL_law_1038 : decode cL_law 1038 = .ok (.iconst 1, 1) := by decide +kernel
theorem dL_law_1039 : decode cL_law 1039 = .ok (.iadd, 1) := by decide +kernel
theorem dL_law_1040 : decode cL_law 1040 = .ok (.iaload, 1) := by decide +kernel
theorem dL_law_1041 : decode cL_law 1041 = .ok (.aload_n 0, 1) := by decide +kernel
theorem dL_law_1042 : decode cL_law 1042 = .ok (.iload 4, 2) := by decide +kernel
theorem dL_law_1044 : decode cL_law 1044 = .ok (.iconst 2, 1) := by decide +kernel
theorem dL_law_1045 : decode cL_law 1045 = .ok (.iadd, 1) := by decide +kernel
theorem dL_law_1046 : decode cL_law 1046 = .ok (.iaload, 1) := by decide +kernel
theorem dL_law_1047 : decode cL_law 1047 = .ok (.invokevirtual 147, 3) := by decide +kernel
theorem dL_law_1050 : decode cL_law 1050 = .ok (.aload_n 2, 1) := by decide +kernel
theorem dL_law_1051 : decode cL_law 1051 = .ok (.aload_n 0, 1) := by decide +kernel
theorem dL_law_1052 : decode cL_law 1052 = .ok (.iload 4, 2) := by decide +kernel
theorem dL_law_1054 : decode cL_law 1054 = .ok (.iconst 1, 1) := by decide +kernel
theorem dL_law_1055 : decode cL_law 1055 = .ok (.iadd, 1) := by decide +kernel
theorem dL_law_1056 : decode cL_law 1056 = .ok (.iaload, 1) := by decide +kernel
theorem dL_law_1057 : decode cL_law 1057 = .ok (.aload_n 0, 1) := by decide +kernel
theorem dL_law_1058 : decode cL_law 1058 = .ok (.iload 4, 2) := by decide +kernel
theorem dL_law_1060 : decode cL_law 1060 = .ok (.iconst 2, 1) := by decide +kernel
theorem dL_law_1061 : decode cL_law 1061 = .ok (.iadd, 1) := by decide +kernel
theorem dL_law_1062 : decode cL_law 1062 = .ok (.iaload, 1) := by decide +kernel
theorem dL_law_1063 : decode cL_law 1063 = .ok (.invokevirtual 150, 3) := by decide +kernel
theorem dL_law_1066 : decode cL_law 1066 = .ok (.if_icmp .eq 472, 3) := by decide +kernel
theorem dL_law_1069 : decode cL_law 1069 = .ok (.iconst 0, 1) := by decide +kernel
theorem dL_law_1070 : decode cL_law 1070 = .ok (.ireturn, 1) := by decide +kernel
theorem dL_law_1071 : decode cL_law 1071 = .ok (.aload_n 1, 1) := by decide +kernel
theorem dL_law_1072 : decode cL_law 1072 = .ok (.invokevirtual 151, 3) := by decide +kernel
theorem dL_law_1075 : decode cL_law 1075 = .ok (.aload_n 2, 1) := by decide +kernel
theorem dL_law_1076 : decode cL_law 1076 = .ok (.invokevirtual 154, 3) := by decide +kernel
theorem dL_law_1079 : decode cL_law 1079 = .ok (.if_icmp .eq 459, 3) := by decide +kernel
theorem dL_law_1082 : decode cL_law 1082 = .ok (.iconst 0, 1) := by decide +kernel
theorem dL_law_1083 : decode cL_law 1083 = .ok (.ireturn, 1) := by decide +kernel
theorem dL_law_1084 : decode cL_law 1084 = .ok (.aload_n 1, 1) := by decide +kernel
theorem dL_law_1085 : decode cL_law 1085 = .ok (.aload_n 0, 1) := by decide +kernel
theorem dL_law_1086 : decode cL_law 1086 = .ok (.iload 4, 2) := by decide +kernel
theorem dL_law_1088 : decode cL_law 1088 = .ok (.iconst 1, 1) := by decide +kernel
theorem dL_law_1089 : decode cL_law 1089 = .ok (.iadd, 1) := by decide +kernel
theorem dL_law_1090 : decode cL_law 1090 = .ok (.iaload, 1) := by decide +kernel
theorem dL_law_1091 : decode cL_law 1091 = .ok (.invokevirtual 155, 3) := by decide +kernel
theorem dL_law_1094 : decode cL_law 1094 = .ok (.aload_n 2, 1) := by decide +kernel
theorem dL_law_1095 : decode cL_law 1095 = .ok (.aload_n 0, 1) := by decide +kernel
theorem dL_law_1096 : decode cL_law 1096 = .ok (.iload 4, 2) := by decide +kernel
theorem dL_law_1098 : decode cL_law 1098 = .ok (.iconst 1, 1) := by decide +kernel
theorem dL_law_1099 : decode cL_law 1099 = .ok (.iadd, 1) := by decide +kernel
theorem dL_law_1100 : decode cL_law 1100 = .ok (.iaload, 1) := by decide +kernel
theorem dL_law_1101 : decode cL_law 1101 = .ok (.invokevirtual 158, 3) := by decide +kernel
theorem dL_law_1104 : decode cL_law 1104 = .ok (.if_icmp .eq 434, 3) := by decide +kernel
theorem dL_law_1107 : decode cL_law 1107 = .ok (.iconst 0, 1) := by decide +kernel
theorem dL_law_1108 : decode cL_law 1108 = .ok (.ireturn, 1) := by decide +kernel
theorem dL_law_1109 : decode cL_law 1109 = .ok (.aload_n 1, 1) := by decide +kernel
theorem dL_law_1110 : decode cL_law 1110 = .ok (.aload_n 0, 1) := by decide +kernel
theorem dL_law_1111 : decode cL_law 1111 = .ok (.iload 4, 2) := by decide +kernel
theorem dL_law_1113 : decode cL_law 1113 = .ok (.iconst 1, 1) := by decide +kernel
theorem dL_law_1114 : decode cL_law 1114 = .ok (.iadd, 1) := by decide +kernel
theorem dL_law_1115 : decode cL_law 1115 = .ok (.iaload, 1) := by decide +kernel
theorem dL_law_1116 : decode cL_law 1116 = .ok (.aload_n 0, 1) := by decide +kernel
theorem dL_law_1117 : decode cL_law 1117 = .ok (.iload 4, 2) := by decide +kernel
theorem dL_law_1119 : decode cL_law 1119 = .ok (.iconst 2, 1) := by decide +kernel
theorem dL_law_1120 : decode cL_law 1120 = .ok (.iadd, 1) := by decide +kernel
theorem dL_law_1121 : decode cL_law 1121 = .ok (.iaload, 1) := by decide +kernel
theorem dL_law_1122 : decode cL_law 1122 = .ok (.invokevirtual 159, 3) := by decide +kernel
theorem dL_law_1125 : decode cL_law 1125 = .ok (.aload_n 2, 1) := by decide +kernel
theorem dL_law_1126 : decode cL_law 1126 = .ok (.aload_n 0, 1) := by decide +kernel
theorem dL_law_1127 : decode cL_law 1127 = .ok (.iload 4, 2) := by decide +kernel
theorem dL_law_1129 : decode cL_law 1129 = .ok (.iconst 1, 1) := by decide +kernel
theorem dL_law_1130 : decode cL_law 1130 = .ok (.iadd, 1) := by decide +kernel
theorem dL_law_1131 : decode cL_law 1131 = .ok (.iaload, 1) := by decide +kernel
theorem dL_law_1132 : decode cL_law 1132 = .ok (.aload_n 0, 1) := by decide +kernel
theorem dL_law_1133 : decode cL_law 1133 = .ok (.iload 4, 2) := by decide +kernel
theorem dL_law_1135 : decode cL_law 1135 = .ok (.iconst 2, 1) := by decide +kernel
theorem dL_law_1136 : decode cL_law 1136 = .ok (.iadd, 1) := by decide +kernel
theorem dL_law_1137 : decode cL_law 1137 = .ok (.iaload, 1) := by decide +kernel
theorem dL_law_1138 : decode cL_law 1138 = .ok (.invokevirtual 162, 3) := by decide +kernel
theorem dL_law_1141 : decode cL_law 1141 = .ok (.if_icmp .eq 397, 3) := by decide +kernel
theorem dL_law_1144 : decode cL_law 1144 = .ok (.iconst 0, 1) := by decide +kernel
theorem dL_law_1145 : decode cL_law 1145 = .ok (.ireturn, 1) := by decide +kernel
theorem dL_law_1146 : decode cL_law 1146 = .ok (.aload_n 1, 1) := by decide +kernel
theorem dL_law_1147 : decode cL_law 1147 = .ok (.invokevirtual 163, 3) := by decide +kernel
theorem dL_law_1150 : decode cL_law 1150 = .ok (.aload_n 2, 1) := by decide +kernel
theorem dL_law_1151 : decode cL_law 1151 = .ok (.invokevirtual 166, 3) := by decide +kernel
theorem dL_law_1154 : decode cL_law 1154 = .ok (.if_icmp .eq 384, 3) := by decide +kernel
theorem dL_law_1157 : decode cL_law 1157 = .ok (.iconst 0, 1) := by decide +kernel
theorem dL_law_1158 : decode cL_law 1158 = .ok (.ireturn, 1) := by decide +kernel
theorem dL_law_1159 : decode cL_law 1159 = .ok (.aload_n 1, 1) := by decide +kernel
theorem dL_law_1160 : decode cL_law 1160 = .ok (.aload_n 0, 1) := by decide +kernel
theorem dL_law_1161 : decode cL_law 1161 = .ok (.iload 4, 2) := by decide +kernel
theorem dL_law_1163 : decode cL_law 1163 = .ok (.iconst 1, 1) := by decide +kernel
theorem dL_law_1164 : decode cL_law 1164 = .ok (.iadd, 1) := by decide +kernel
theorem dL_law_1165 : decode cL_law 1165 = .ok (.iaload, 1) := by decide +kernel
theorem dL_law_1166 : decode cL_law 1166 = .ok (.invokevirtual 167, 3) := by decide +kernel
theorem dL_law_1169 : decode cL_law 1169 = .ok (.aload_n 2, 1) := by decide +kernel
theorem dL_law_1170 : decode cL_law 1170 = .ok (.aload_n 0, 1) := by decide +kernel
theorem dL_law_1171 : decode cL_law 1171 = .ok (.iload 4, 2) := by decide +kernel
theorem dL_law_1173 : decode cL_law 1173 = .ok (.iconst 1, 1) := by decide +kernel
theorem dL_law_1174 : decode cL_law 1174 = .ok (.iadd, 1) := by decide +kernel
theorem dL_law_1175 : decode cL_law 1175 = .ok (.iaload, 1) := by decide +kernel
theorem dL_law_1176 : decode cL_law 1176 = .ok (.invokevirtual 170, 3) := by decide +kernel
theorem dL_law_1179 : decode cL_law 1179 = .ok (.if_icmp .eq 359, 3) := by decide +kernel
theorem dL_law_1182 : decode cL_law 1182 = .ok (.iconst 0, 1) := by decide +kernel
theorem dL_law_1183 : decode cL_law 1183 = .ok (.ireturn, 1) := by decide +kernel
theorem dL_law_1184 : decode cL_law 1184 = .ok (.aload_n 1, 1) := by decide +kernel
theorem dL_law_1185 : decode cL_law 1185 = .ok (.aload_n 0, 1) := by decide +kernel
theorem dL_law_1186 : decode cL_law 1186 = .ok (.iload 4, 2) := by decide +kernel
theorem dL_law_1188 : decode cL_law 1188 = .ok (.iconst 1, 1) := by decide +kernel
theorem dL_law_1189 : decode cL_law 1189 = .ok (.iadd, 1) := by decide +kernel
theorem dL_law_1190 : decode cL_law 1190 = .ok (.iaload, 1) := by decide +kernel
theorem dL_law_1191 : decode cL_law 1191 = .ok (.invokevirtual 171, 3) := by decide +kernel
theorem dL_law_1194 : decode cL_law 1194 = .ok (.aload_n 2, 1) := by decide +kernel
theorem dL_law_1195 : decode cL_law 1195 = .ok (.aload_n 0, 1) := by decide +kernel
theorem dL_law_1196 : decode cL_law 1196 = .ok (.iload 4, 2) := by decide +kernel
theorem dL_law_1198 : decode cL_law 1198 = .ok (.iconst 1, 1) := by decide +kernel
theorem dL_law_1199 : decode cL_law 1199 = .ok (.iadd, 1) := by decide +kernel
theorem dL_law_1200 : decode cL_law 1200 = .ok (.iaload, 1) := by decide +kernel
theorem dL_law_1201 : decode cL_law 1201 = .ok (.invokevirtual 174, 3) := by decide +kernel
theorem dL_law_1204 : decode cL_law 1204 = .ok (.if_icmp .eq 334, 3) := by decide +kernel
theorem dL_law_1207 : decode cL_law 1207 = .ok (.iconst 0, 1) := by decide +kernel
theorem dL_law_1208 : decode cL_law 1208 = .ok (.ireturn, 1) := by decide +kernel
theorem dL_law_1209 : decode cL_law 1209 = .ok (.aload_n 1, 1) := by decide +kernel
theorem dL_law_1210 : decode cL_law 1210 = .ok (.invokevirtual 175, 3) := by decide +kernel
theorem dL_law_1213 : decode cL_law 1213 = .ok (.aload_n 2, 1) := by decide +kernel
theorem dL_law_1214 : decode cL_law 1214 = .ok (.invokevirtual 178, 3) := by decide +kernel
theorem dL_law_1217 : decode cL_law 1217 = .ok (.if_icmp .eq 321, 3) := by decide +kernel
theorem dL_law_1220 : decode cL_law 1220 = .ok (.iconst 0, 1) := by decide +kernel
theorem dL_law_1221 : decode cL_law 1221 = .ok (.ireturn, 1) := by decide +kernel
theorem dL_law_1222 : decode cL_law 1222 = .ok (.aload_n 1, 1) := by decide +kernel
theorem dL_law_1223 : decode cL_law 1223 = .ok (.aload_n 0, 1) := by decide +kernel
theorem dL_law_1224 : decode cL_law 1224 = .ok (.iload 4, 2) := by decide +kernel
theorem dL_law_1226 : decode cL_law 1226 = .ok (.iconst 1, 1) := by decide +kernel
theorem dL_law_1227 : decode cL_law 1227 = .ok (.iadd, 1) := by decide +kernel
theorem dL_law_1228 : decode cL_law 1228 = .ok (.iaload, 1) := by decide +kernel
theorem dL_law_1229 : decode cL_law 1229 = .ok (.aload_n 0, 1) := by decide +kernel
theorem dL_law_1230 : decode cL_law 1230 = .ok (.iload 4, 2) := by decide +kernel
theorem dL_law_1232 : decode cL_law 1232 = .ok (.iconst 2, 1) := by decide +kernel
theorem dL_law_1233 : decode cL_law 1233 = .ok (.iadd, 1) := by decide +kernel
theorem dL_law_1234 : decode cL_law 1234 = .ok (.iaload, 1) := by decide +kernel
theorem dL_law_1235 : decode cL_law 1235 = .ok (.invokevirtual 179, 3) := by decide +kernel
theorem dL_law_1238 : decode cL_law 1238 = .ok (.aload_n 2, 1) := by decide +kernel
theorem dL_law_1239 : decode cL_law 1239 = .ok (.aload_n 0, 1) := by decide +kernel
theorem dL_law_1240 : decode cL_law 1240 = .ok (.iload 4, 2) := by decide +kernel
theorem dL_law_1242 : decode cL_law 1242 = .ok (.iconst 1, 1) := by decide +kernel
theorem dL_law_1243 : decode cL_law 1243 = .ok (.iadd, 1) := by decide +kernel
theorem dL_law_1244 : decode cL_law 1244 = .ok (.iaload, 1) := by decide +kernel
theorem dL_law_1245 : decode cL_law 1245 = .ok (.aload_n 0, 1) := by decide +kernel
theorem dL_law_1246 : decode cL_law 1246 = .ok (.iload 4, 2) := by decide +kernel
theorem dL_law_1248 : decode cL_law 1248 = .ok (.iconst 2, 1) := by decide +kernel
theorem dL_law_1249 : decode cL_law 1249 = .ok (.iadd, 1) := by decide +kernel
theorem dL_law_1250 : decode cL_law 1250 = .ok (.iaload, 1) := by decide +kernel
theorem dL_law_1251 : decode cL_law 1251 = .ok (.invokevirtual 182, 3) := by decide +kernel
theorem dL_law_1254 : decode cL_law 1254 = .ok (.if_icmp .eq 284, 3) := by decide +kernel
theorem dL_law_1257 : decode cL_law 1257 = .ok (.iconst 0, 1) := by decide +kernel
theorem dL_law_1258 : decode cL_law 1258 = .ok (.ireturn, 1) := by decide +kernel
theorem dL_law_1259 : decode cL_law 1259 = .ok (.aload_n 1, 1) := by decide +kernel
theorem dL_law_1260 : decode cL_law 1260 = .ok (.invokevirtual 183, 3) := by decide +kernel
theorem dL_law_1263 : decode cL_law 1263 = .ok (.aload_n 2, 1) := by decide +kernel
theorem dL_law_1264 : decode cL_law 1264 = .ok (.invokevirtual 186, 3) := by decide +kernel
theorem dL_law_1267 : decode cL_law 1267 = .ok (.if_icmp .eq 271, 3) := by decide +kernel
theorem dL_law_1270 : decode cL_law 1270 = .ok (.iconst 0, 1) := by decide +kernel
theorem dL_law_1271 : decode cL_law 1271 = .ok (.ireturn, 1) := by decide +kernel
theorem dL_law_1272 : decode cL_law 1272 = .ok (.aload_n 1, 1) := by decide +kernel
theorem dL_law_1273 : decode cL_law 1273 = .ok (.aload_n 0, 1) := by decide +kernel
theorem dL_law_1274 : decode cL_law 1274 = .ok (.iload 4, 2) := by decide +kernel
theorem dL_law_1276 : decode cL_law 1276 = .ok (.iconst 1, 1) := by decide +kernel
theorem dL_law_1277 : decode cL_law 1277 = .ok (.iadd, 1) := by decide +kernel
theorem dL_law_1278 : decode cL_law 1278 = .ok (.iaload, 1) := by decide +kernel
theorem dL_law_1279 : decode cL_law 1279 = .ok (.invokevirtual 187, 3) := by decide +kernel
theorem dL_law_1282 : decode cL_law 1282 = .ok (.aload_n 2, 1) := by decide +kernel
theorem dL_law_1283 : decode cL_law 1283 = .ok (.aload_n 0, 1) := by decide +kernel
theorem dL_law_1284 : decode cL_law 1284 = .ok (.iload 4, 2) := by decide +kernel
theorem dL_law_1286 : decode cL_law 1286 = .ok (.iconst 1, 1) := by decide +kernel
theorem dL_law_1287 : decode cL_law 1287 = .ok (.iadd, 1) := by decide +kernel
theorem dL_law_1288 : decode cL_law 1288 = .ok (.iaload, 1) := by decide +kernel
theorem dL_law_1289 : decode cL_law 1289 = .ok (.invokevirtual 190, 3) := by decide +kernel
theorem dL_law_1292 : decode cL_law 1292 = .ok (.if_icmp .eq 246, 3) := by decide +kernel
theorem dL_law_1295 : decode cL_law 1295 = .ok (.iconst 0, 1) := by decide +kernel
theorem dL_law_1296 : decode cL_law 1296 = .ok (.ireturn, 1) := by decide +kernel
theorem dL_law_1297 : decode cL_law 1297 = .ok (.aload_n 1, 1) := by decide +kernel
theorem dL_law_1298 : decode cL_law 1298 = .ok (.aload_n 0, 1) := by decide +kernel
theorem dL_law_1299 : decode cL_law 1299 = .ok (.iload 4, 2) := by decide +kernel
theorem dL_law_1301 : decode cL_law 1301 = .ok (.iconst 1, 1) := by decide +kernel
theorem dL_law_1302 : decode cL_law 1302 = .ok (.iadd, 1) := by decide +kernel
theorem dL_law_1303 : decode cL_law 1303 = .ok (.iaload, 1) := by decide +kernel
theorem dL_law_1304 : decode cL_law 1304 = .ok (.aload_n 0, 1) := by decide +kernel
theorem dL_law_1305 : decode cL_law 1305 = .ok (.iload 4, 2) := by decide +kernel
theorem dL_law_1307 : decode cL_law 1307 = .ok (.iconst 2, 1) := by decide +kernel
theorem dL_law_1308 : decode cL_law 1308 = .ok (.iadd, 1) := by decide +kernel
theorem dL_law_1309 : decode cL_law 1309 = .ok (.iaload, 1) := by decide +kernel
theorem dL_law_1310 : decode cL_law 1310 = .ok (.invokevirtual 191, 3) := by decide +kernel
theorem dL_law_1313 : decode cL_law 1313 = .ok (.aload_n 2, 1) := by decide +kernel
theorem dL_law_1314 : decode cL_law 1314 = .ok (.aload_n 0, 1) := by decide +kernel
theorem dL_law_1315 : decode cL_law 1315 = .ok (.iload 4, 2) := by decide +kernel
theorem dL_law_1317 : decode cL_law 1317 = .ok (.iconst 1, 1) := by decide +kernel
theorem dL_law_1318 : decode cL_law 1318 = .ok (.iadd, 1) := by decide +kernel
theorem dL_law_1319 : decode cL_law 1319 = .ok (.iaload, 1) := by decide +kernel
theorem dL_law_1320 : decode cL_law 1320 = .ok (.aload_n 0, 1) := by decide +kernel
theorem dL_law_1321 : decode cL_law 1321 = .ok (.iload 4, 2) := by decide +kernel
theorem dL_law_1323 : decode cL_law 1323 = .ok (.iconst 2, 1) := by decide +kernel
theorem dL_law_1324 : decode cL_law 1324 = .ok (.iadd, 1) := by decide +kernel
theorem dL_law_1325 : decode cL_law 1325 = .ok (.iaload, 1) := by decide +kernel
theorem dL_law_1326 : decode cL_law 1326 = .ok (.invokevirtual 194, 3) := by decide +kernel
theorem dL_law_1329 : decode cL_law 1329 = .ok (.if_icmp .eq 209, 3) := by decide +kernel
theorem dL_law_1332 : decode cL_law 1332 = .ok (.iconst 0, 1) := by decide +kernel
theorem dL_law_1333 : decode cL_law 1333 = .ok (.ireturn, 1) := by decide +kernel
theorem dL_law_1334 : decode cL_law 1334 = .ok (.aload_n 1, 1) := by decide +kernel
theorem dL_law_1335 : decode cL_law 1335 = .ok (.aload_n 0, 1) := by decide +kernel
theorem dL_law_1336 : decode cL_law 1336 = .ok (.iload 4, 2) := by decide +kernel
theorem dL_law_1338 : decode cL_law 1338 = .ok (.iconst 1, 1) := by decide +kernel
theorem dL_law_1339 : decode cL_law 1339 = .ok (.iadd, 1) := by decide +kernel
theorem dL_law_1340 : decode cL_law 1340 = .ok (.iaload, 1) := by decide +kernel
theorem dL_law_1341 : decode cL_law 1341 = .ok (.aload_n 0, 1) := by decide +kernel
theorem dL_law_1342 : decode cL_law 1342 = .ok (.iload 4, 2) := by decide +kernel
theorem dL_law_1344 : decode cL_law 1344 = .ok (.iconst 2, 1) := by decide +kernel
theorem dL_law_1345 : decode cL_law 1345 = .ok (.iadd, 1) := by decide +kernel
theorem dL_law_1346 : decode cL_law 1346 = .ok (.iaload, 1) := by decide +kernel
theorem dL_law_1347 : decode cL_law 1347 = .ok (.invokevirtual 195, 3) := by decide +kernel
theorem dL_law_1350 : decode cL_law 1350 = .ok (.aload_n 2, 1) := by decide +kernel
theorem dL_law_1351 : decode cL_law 1351 = .ok (.aload_n 0, 1) := by decide +kernel
theorem dL_law_1352 : decode cL_law 1352 = .ok (.iload 4, 2) := by decide +kernel
theorem dL_law_1354 : decode cL_law 1354 = .ok (.iconst 1, 1) := by decide +kernel
theorem dL_law_1355 : decode cL_law 1355 = .ok (.iadd, 1) := by decide +kernel
theorem dL_law_1356 : decode cL_law 1356 = .ok (.iaload, 1) := by decide +kernel
theorem dL_law_1357 : decode cL_law 1357 = .ok (.aload_n 0, 1) := by decide +kernel
theorem dL_law_1358 : decode cL_law 1358 = .ok (.iload 4, 2) := by decide +kernel
theorem dL_law_1360 : decode cL_law 1360 = .ok (.iconst 2, 1) := by decide +kernel
theorem dL_law_1361 : decode cL_law 1361 = .ok (.iadd, 1) := by decide +kernel
theorem dL_law_1362 : decode cL_law 1362 = .ok (.iaload, 1) := by decide +kernel
theorem dL_law_1363 : decode cL_law 1363 = .ok (.invokevirtual 198, 3) := by decide +kernel
theorem dL_law_1366 : decode cL_law 1366 = .ok (.if_icmp .eq 172, 3) := by decide +kernel
theorem dL_law_1369 : decode cL_law 1369 = .ok (.iconst 0, 1) := by decide +kernel
theorem dL_law_1370 : decode cL_law 1370 = .ok (.ireturn, 1) := by decide +kernel
theorem dL_law_1371 : decode cL_law 1371 = .ok (.aload_n 1, 1) := by decide +kernel
theorem dL_law_1372 : decode cL_law 1372 = .ok (.aload_n 0, 1) := by decide +kernel
theorem dL_law_1373 : decode cL_law 1373 = .ok (.iload 4, 2) := by decide +kernel
theorem dL_law_1375 : decode cL_law 1375 = .ok (.iconst 1, 1) := by decide +kernel
theorem dL_law_1376 : decode cL_law 1376 = .ok (.iadd, 1) := by decide +kernel
theorem dL_law_1377 : decode cL_law 1377 = .ok (.iaload, 1) := by decide +kernel
theorem dL_law_1378 : decode cL_law 1378 = .ok (.aload_n 0, 1) := by decide +kernel
theorem dL_law_1379 : decode cL_law 1379 = .ok (.iload 4, 2) := by decide +kernel
theorem dL_law_1381 : decode cL_law 1381 = .ok (.iconst 2, 1) := by decide +kernel
theorem dL_law_1382 : decode cL_law 1382 = .ok (.iadd, 1) := by decide +kernel
theorem dL_law_1383 : decode cL_law 1383 = .ok (.iaload, 1) := by decide +kernel
theorem dL_law_1384 : decode cL_law 1384 = .ok (.invokevirtual 199, 3) := by decide +kernel
theorem dL_law_1387 : decode cL_law 1387 = .ok (.aload_n 2, 1) := by decide +kernel
theorem dL_law_1388 : decode cL_law 1388 = .ok (.aload_n 0, 1) := by decide +kernel
theorem dL_law_1389 : decode cL_law 1389 = .ok (.iload 4, 2) := by decide +kernel
theorem dL_law_1391 : decode cL_law 1391 = .ok (.iconst 1, 1) := by decide +kernel
theorem dL_law_1392 : decode cL_law 1392 = .ok (.iadd, 1) := by decide +kernel
theorem dL_law_1393 : decode cL_law 1393 = .ok (.iaload, 1) := by decide +kernel
theorem dL_law_1394 : decode cL_law 1394 = .ok (.aload_n 0, 1) := by decide +kernel
theorem dL_law_1395 : decode cL_law 1395 = .ok (.iload 4, 2) := by decide +kernel
theorem dL_law_1397 : decode cL_law 1397 = .ok (.iconst 2, 1) := by decide +kernel
theorem dL_law_1398 : decode cL_law 1398 = .ok (.iadd, 1) := by decide +kernel
theorem dL_law_1399 : decode cL_law 1399 = .ok (.iaload, 1) := by decide +kernel
theorem dL_law_1400 : decode cL_law 1400 = .ok (.invokevirtual 202, 3) := by decide +kernel
theorem dL_law_1403 : decode cL_law 1403 = .ok (.if_icmp .eq 135, 3) := by decide +kernel
theorem dL_law_1406 : decode cL_law 1406 = .ok (.iconst 0, 1) := by decide +kernel
theorem dL_law_1407 : decode cL_law 1407 = .ok (.ireturn, 1) := by decide +kernel
theorem dL_law_1408 : decode cL_law 1408 = .ok (.aload_n 1, 1) := by decide +kernel
theorem dL_law_1409 : decode cL_law 1409 = .ok (.aload_n 0, 1) := by decide +kernel
theorem dL_law_1410 : decode cL_law 1410 = .ok (.iload 4, 2) := by decide +kernel
theorem dL_law_1412 : decode cL_law 1412 = .ok (.iconst 1, 1) := by decide +kernel
theorem dL_law_1413 : decode cL_law 1413 = .ok (.iadd, 1) := by decide +kernel
theorem dL_law_1414 : decode cL_law 1414 = .ok (.iaload, 1) := by decide +kernel
theorem dL_law_1415 : decode cL_law 1415 = .ok (.invokevirtual 203, 3) := by decide +kernel
theorem dL_law_1418 : decode cL_law 1418 = .ok (.aload_n 2, 1) := by decide +kernel
theorem dL_law_1419 : decode cL_law 1419 = .ok (.aload_n 0, 1) := by decide +kernel
theorem dL_law_1420 : decode cL_law 1420 = .ok (.iload 4, 2) := by decide +kernel
theorem dL_law_1422 : decode cL_law 1422 = .ok (.iconst 1, 1) := by decide +kernel
theorem dL_law_1423 : decode cL_law 1423 = .ok (.iadd, 1) := by decide +kernel
theorem dL_law_1424 : decode cL_law 1424 = .ok (.iaload, 1) := by decide +kernel
theorem dL_law_1425 : decode cL_law 1425 = .ok (.invokevirtual 206, 3) := by decide +kernel
theorem dL_law_1428 : decode cL_law 1428 = .ok (.if_icmp .eq 110, 3) := by decide +kernel
theorem dL_law_1431 : decode cL_law 1431 = .ok (.iconst 0, 1) := by decide +kernel
theorem dL_law_1432 : decode cL_law 1432 = .ok (.ireturn, 1) := by decide +kernel
theorem dL_law_1433 : decode cL_law 1433 = .ok (.aload_n 1, 1) := by decide +kernel
theorem dL_law_1434 : decode cL_law 1434 = .ok (.aload_n 0, 1) := by decide +kernel
theorem dL_law_1435 : decode cL_law 1435 = .ok (.iload 4, 2) := by decide +kernel
theorem dL_law_1437 : decode cL_law 1437 = .ok (.iconst 1, 1) := by decide +kernel
theorem dL_law_1438 : decode cL_law 1438 = .ok (.iadd, 1) := by decide +kernel
theorem dL_law_1439 : decode cL_law 1439 = .ok (.iaload, 1) := by decide +kernel
theorem dL_law_1440 : decode cL_law 1440 = .ok (.invokevirtual 207, 3) := by decide +kernel
theorem dL_law_1443 : decode cL_law 1443 = .ok (.aload_n 2, 1) := by decide +kernel
theorem dL_law_1444 : decode cL_law 1444 = .ok (.aload_n 0, 1) := by decide +kernel
theorem dL_law_1445 : decode cL_law 1445 = .ok (.iload 4, 2) := by decide +kernel
theorem dL_law_1447 : decode cL_law 1447 = .ok (.iconst 1, 1) := by decide +kernel
theorem dL_law_1448 : decode cL_law 1448 = .ok (.iadd, 1) := by decide +kernel
theorem dL_law_1449 : decode cL_law 1449 = .ok (.iaload, 1) := by decide +kernel
theorem dL_law_1450 : decode cL_law 1450 = .ok (.invokevirtual 210, 3) := by decide +kernel
theorem dL_law_1453 : decode cL_law 1453 = .ok (.if_icmp .eq 85, 3) := by decide +kernel
theorem dL_law_1456 : decode cL_law 1456 = .ok (.iconst 0, 1) := by decide +kernel
theorem dL_law_1457 : decode cL_law 1457 = .ok (.ireturn, 1) := by decide +kernel
theorem dL_law_1458 : decode cL_law 1458 = .ok (.aload_n 1, 1) := by decide +kernel
theorem dL_law_1459 : decode cL_law 1459 = .ok (.aload_n 0, 1) := by decide +kernel
theorem dL_law_1460 : decode cL_law 1460 = .ok (.iload 4, 2) := by decide +kernel
theorem dL_law_1462 : decode cL_law 1462 = .ok (.iconst 1, 1) := by decide +kernel
theorem dL_law_1463 : decode cL_law 1463 = .ok (.iadd, 1) := by decide +kernel
theorem dL_law_1464 : decode cL_law 1464 = .ok (.iaload, 1) := by decide +kernel
theorem dL_law_1465 : decode cL_law 1465 = .ok (.invokevirtual 211, 3) := by decide +kernel
theorem dL_law_1468 : decode cL_law 1468 = .ok (.aload_n 2, 1) := by decide +kernel
theorem dL_law_1469 : decode cL_law 1469 = .ok (.aload_n 0, 1) := by decide +kernel
theorem dL_law_1470 : decode cL_law 1470 = .ok (.iload 4, 2) := by decide +kernel
theorem dL_law_1472 : decode cL_law 1472 = .ok (.iconst 1, 1) := by decide +kernel
theorem dL_law_1473 : decode cL_law 1473 = .ok (.iadd, 1) := by decide +kernel
theorem dL_law_1474 : decode cL_law 1474 = .ok (.iaload, 1) := by decide +kernel
theorem dL_law_1475 : decode cL_law 1475 = .ok (.invokevirtual 214, 3) := by decide +kernel
theorem dL_law_1478 : decode cL_law 1478 = .ok (.if_icmp .eq 60, 3) := by decide +kernel
theorem dL_law_1481 : decode cL_law 1481 = .ok (.iconst 0, 1) := by decide +kernel
theorem dL_law_1482 : decode cL_law 1482 = .ok (.ireturn, 1) := by decide +kernel
theorem dL_law_1483 : decode cL_law 1483 = .ok (.aload_n 1, 1) := by decide +kernel
theorem dL_law_1484 : decode cL_law 1484 = .ok (.aload_n 0, 1) := by decide +kernel
theorem dL_law_1485 : decode cL_law 1485 = .ok (.iload 4, 2) := by decide +kernel
theorem dL_law_1487 : decode cL_law 1487 = .ok (.iconst 1, 1) := by decide +kernel
theorem dL_law_1488 : decode cL_law 1488 = .ok (.iadd, 1) := by decide +kernel
theorem dL_law_1489 : decode cL_law 1489 = .ok (.iaload, 1) := by decide +kernel
theorem dL_law_1490 : decode cL_law 1490 = .ok (.aload_n 3, 1) := by decide +kernel
theorem dL_law_1491 : decode cL_law 1491 = .ok (.invokestatic 215, 3) := by decide +kernel
theorem dL_law_1494 : decode cL_law 1494 = .ok (.istore 5, 2) := by decide +kernel
theorem dL_law_1496 : decode cL_law 1496 = .ok (.aload_n 2, 1) := by decide +kernel
theorem dL_law_1497 : decode cL_law 1497 = .ok (.aload_n 0, 1) := by decide +kernel
theorem dL_law_1498 : decode cL_law 1498 = .ok (.iload 4, 2) := by decide +kernel
theorem dL_law_1500 : decode cL_law 1500 = .ok (.iconst 1, 1) := by decide +kernel
theorem dL_law_1501 : decode cL_law 1501 = .ok (.iadd, 1) := by decide +kernel
theorem dL_law_1502 : decode cL_law 1502 = .ok (.iaload, 1) := by decide +kernel
theorem dL_law_1503 : decode cL_law 1503 = .ok (.invokevirtual 218, 3) := by decide +kernel
theorem dL_law_1506 : decode cL_law 1506 = .ok (.lstore 6, 2) := by decide +kernel
theorem dL_law_1508 : decode cL_law 1508 = .ok (.aload_n 2, 1) := by decide +kernel
theorem dL_law_1509 : decode cL_law 1509 = .ok (.invokevirtual 59, 3) := by decide +kernel
theorem dL_law_1512 : decode cL_law 1512 = .ok (.iload 5, 2) := by decide +kernel
theorem dL_law_1514 : decode cL_law 1514 = .ok (.if_icmp .eq 5, 3) := by decide +kernel
theorem dL_law_1517 : decode cL_law 1517 = .ok (.iconst 0, 1) := by decide +kernel
theorem dL_law_1518 : decode cL_law 1518 = .ok (.ireturn, 1) := by decide +kernel
theorem dL_law_1519 : decode cL_law 1519 = .ok (.iload 5, 2) := by decide +kernel
theorem dL_law_1521 : decode cL_law 1521 = .ok (.ifCond .ne 14, 3) := by decide +kernel
theorem dL_law_1524 : decode cL_law 1524 = .ok (.aload_n 3, 1) := by decide +kernel
theorem dL_law_1525 : decode cL_law 1525 = .ok (.iconst 0, 1) := by decide +kernel
theorem dL_law_1526 : decode cL_law 1526 = .ok (.laload, 1) := by decide +kernel
theorem dL_law_1527 : decode cL_law 1527 = .ok (.lload 6, 2) := by decide +kernel
theorem dL_law_1529 : decode cL_law 1529 = .ok (.lcmp, 1) := by decide +kernel
theorem dL_law_1530 : decode cL_law 1530 = .ok (.ifCond .eq 5, 3) := by decide +kernel
theorem dL_law_1533 : decode cL_law 1533 = .ok (.iconst 0, 1) := by decide +kernel
theorem dL_law_1534 : decode cL_law 1534 = .ok (.ireturn, 1) := by decide +kernel
theorem dL_law_1535 : decode cL_law 1535 = .ok (.goto 3, 3) := by decide +kernel
theorem dL_law_1538 : decode cL_law 1538 = .ok (.iinc 4 5, 3) := by decide +kernel
theorem dL_law_1541 : decode cL_law 1541 = .ok (.goto (-1518), 3) := by decide +kernel
theorem dL_law_1544 : decode cL_law 1544 = .ok (.iconst 1, 1) := by decide +kernel
theorem dL_law_1545 : decode cL_law 1545 = .ok (.ireturn, 1) := by decide +kernel
def xL_0 (L : Nat) (xs : Nat → Int32) (s_X11_sign : zq_Sp) (s_X12_sign : zq_Sp) (J : zq_P) (ls : zq_L) (st : List Value) (h : zq_H) : Prop := (zi_aload 1 (zi_aload 0 (zi_iload 4 (zi_push (.int 1) (zi_i2 (fun x y => x + y) (zi_sld L xs (zi_callV 1 0 s_X11_sign (zi_aload 2 (zi_aload 0 (zi_iload 4 (zi_push (.int 1) (zi_i2 (fun x y => x + y) (zi_sld L xs (zi_callV 1 56 s_X12_sign (zi_if2 (fun x y => x = y) (J) (zi_no)))))))))))))))) ls st h
theorem kL_0 {X : zq_X} {d L : Nat} {xs : Nat → Int32} (C : zq_C X cL_law 8 RL d) (hX : zq_Xs X L xs) {d_X11_sign : Nat} {s_X11_sign : zq_Sp} (h_X11_sign : zq_M yX11_sign cX11_sign 2 (some .int) 1 d_X11_sign s_X11_sign) (g_X11_sign : d_X11_sign + 1 ≤ d) {d_X12_sign : Nat} {s_X12_sign : zq_Sp} (h_X12_sign : zq_M yX12_sign cX12_sign 3 (some .int) 1 d_X12_sign s_X12_sign) (g_X12_sign : d_X12_sign + 1 ≤ d) {J : zq_P} (j : zq_ok X 8 1538 J) : zq_ok X 8 236 (xL_0 L xs s_X11_sign s_X12_sign J) := by
  refine zs_aload_n C dL_law_236 rfl ?_
  refine zs_aload_n C dL_law_237 rfl ?_
  refine zs_iload C dL_law_238 ?_
  refine zs_iconst C dL_law_240 (by decide) ?_
  refine zs_iadd C dL_law_241 ?_
  refine zs_sld C hX dL_law_242 ?_
  refine zs_callV C h_X11_sign g_X11_sign zy_X11_sign zp_0 (show vwCl[11]? = some (RX11, TX11, 16) from rfl) zw_364 zw_365 zs9_X11_sign dL_law_243 ?_
  refine zs_aload_n C dL_law_246 rfl ?_
  refine zs_aload_n C dL_law_247 rfl ?_
  refine zs_iload C dL_law_248 ?_
  refine zs_iconst C dL_law_250 (by decide) ?_
  refine zs_iadd C dL_law_251 ?_
  refine zs_sld C hX dL_law_252 ?_
  refine zs_callV C h_X12_sign g_X12_sign zy_X12_sign zp_56 (show vwCl[12]? = some (RX12, TX12, 67) from rfl) zw_1303 zw_1304 zs9_X12_sign dL_law_253 ?_
  refine zs_icmp_eq C dL_law_256 (tgt := 1538) (by decide) ?_ ?_
  · exact j
  · exact zs_no
def xL_1 (L : Nat) (xs : Nat → Int32) (s_X11_end : zq_Sp) (s_X12_end : zq_Sp) (J : zq_P) (ls : zq_L) (st : List Value) (h : zq_H) : Prop := (zi_aload 1 (zi_aload 0 (zi_iload 4 (zi_push (.int 1) (zi_i2 (fun x y => x + y) (zi_sld L xs (zi_callV 1 0 s_X11_end (zi_aload 2 (zi_aload 0 (zi_iload 4 (zi_push (.int 1) (zi_i2 (fun x y => x + y) (zi_sld L xs (zi_callV 1 56 s_X12_end (zi_if2 (fun x y => x = y) (J) (zi_no)))))))))))))))) ls st h
theorem kL_1 {X : zq_X} {d L : Nat} {xs : Nat → Int32} (C : zq_C X cL_law 8 RL d) (hX : zq_Xs X L xs) {d_X11_end : Nat} {s_X11_end : zq_Sp} (h_X11_end : zq_M yX11_end cX11_end 2 (some .boolean) 1 d_X11_end s_X11_end) (g_X11_end : d_X11_end + 1 ≤ d) {d_X12_end : Nat} {s_X12_end : zq_Sp} (h_X12_end : zq_M yX12_end cX12_end 2 (some .boolean) 1 d_X12_end s_X12_end) (g_X12_end : d_X12_end + 1 ≤ d) {J : zq_P} (j : zq_ok X 8 1538 J) : zq_ok X 8 261 (xL_1 L xs s_X11_end s_X12_end J) := by
  refine zs_aload_n C dL_law_261 rfl ?_
  refine zs_aload_n C dL_law_262 rfl ?_
  refine zs_iload C dL_law_263 ?_
  refine zs_iconst C dL_law_265 (by decide) ?_
  refine zs_iadd C dL_law_266 ?_
  refine zs_sld C hX dL_law_267 ?_
  refine zs_callV C h_X11_end g_X11_end zy_X11_end zp_0 (show vwCl[11]? = some (RX11, TX11, 16) from rfl) zw_372 zw_373 zs9_X11_end dL_law_268 ?_
  refine zs_aload_n C dL_law_271 rfl ?_
  refine zs_aload_n C dL_law_272 rfl ?_
  refine zs_iload C dL_law_273 ?_
  refine zs_iconst C dL_law_275 (by decide) ?_
  refine zs_iadd C dL_law_276 ?_
  refine zs_sld C hX dL_law_277 ?_
  refine zs_callV C h_X12_end g_X12_end zy_X12_end zp_56 (show vwCl[12]? = some (RX12, TX12, 67) from rfl) zw_1307 zw_1308 zs9_X12_end dL_law_278 ?_
  refine zs_icmp_eq C dL_law_281 (tgt := 1538) (by decide) ?_ ?_
  · exact j
  · exact zs_no
def xL_2 (L : Nat) (xs : Nat → Int32) (s_X11_loaf : List Value → zq_H → zq_Q → zq_Q → Prop) (s_X12_loaf : zq_Sp) (J : zq_P) (J2 : zq_P) (ls : zq_L) (st : List Value) (h : zq_H) : Prop := (zi_aload 1 (zi_callV2 zxA s_X11_loaf (zi_aload 2 (zi_callV 0 56 s_X12_loaf (zi_if2 (fun x y => x = y) (J) (zi_no)))) (zi_aload 2 (zi_callV 0 56 s_X12_loaf (zi_if2 (fun x y => x = y) (J2) (zi_no)))))) ls st h
theorem kL_2 {X : zq_X} {d L : Nat} {xs : Nat → Int32} (C : zq_C X cL_law 8 RL d) (hX : zq_Xs X L xs) {d_X11_loaf : Nat} {s_X11_loaf : List Value → zq_H → zq_Q → zq_Q → Prop} (h_X11_loaf : zq_M2 zxA yX11_loaf cX11_loaf 3 (some .int) d_X11_loaf s_X11_loaf) (g_X11_loaf : d_X11_loaf + 1 ≤ d) {d_X12_loaf : Nat} {s_X12_loaf : zq_Sp} (h_X12_loaf : zq_M yX12_loaf cX12_loaf 5 (some .int) 1 d_X12_loaf s_X12_loaf) (g_X12_loaf : d_X12_loaf + 1 ≤ d) {J : zq_P} (j : zq_ok X 8 1538 J) {J2 : zq_P} (j2 : zq_ok (zxX zxA X) 8 1538 J2) : zq_ok X 8 286 (xL_2 L xs s_X11_loaf s_X12_loaf J J2) := by
  have C2 := zxC zxA_ok C
  refine zs_aload_n C dL_law_286 rfl ?_
  refine zs_callV2 zxA_ok C h_X11_loaf g_X11_loaf zy_X11_loaf zp_0 (show vwCl[11]? = some (RX11, TX11, 16) from rfl) zw_380 zw_381 zs9_X11_loaf dL_law_287 ?_ ?_
  · refine zs_aload_n C dL_law_290 rfl ?_
    refine zs_callV C h_X12_loaf g_X12_loaf zy_X12_loaf zp_56 (show vwCl[12]? = some (RX12, TX12, 67) from rfl) zw_1314 zw_1315 zs9_X12_loaf dL_law_291 ?_
    refine zs_icmp_eq C dL_law_294 (tgt := 1538) (by decide) ?_ ?_
    · exact j
    · exact zs_no
  · refine zs_aload_n C2 dL_law_290 rfl ?_
    refine zs_callV C2 h_X12_loaf g_X12_loaf zy_X12_loaf zp_56 (show vwCl[12]? = some (RX12, TX12, 67) from rfl) zw_1314 zw_1315 zs9_X12_loaf dL_law_291 ?_
    refine zs_icmp_eq C2 dL_law_294 (tgt := 1538) (by decide) ?_ ?_
    · exact j2
    · exact zs_no
def xL_3 (L : Nat) (xs : Nat → Int32) (s_X11_guests : zq_Sp) (s_X12_guests : zq_Sp) (J : zq_P) (ls : zq_L) (st : List Value) (h : zq_H) : Prop := (zi_aload 1 (zi_callV 0 0 s_X11_guests (zi_aload 2 (zi_callV 0 56 s_X12_guests (zi_if2 (fun x y => x = y) (J) (zi_no)))))) ls st h
theorem kL_3 {X : zq_X} {d L : Nat} {xs : Nat → Int32} (C : zq_C X cL_law 8 RL d) (hX : zq_Xs X L xs) {d_X11_guests : Nat} {s_X11_guests : zq_Sp} (h_X11_guests : zq_M yX11_guests cX11_guests 2 (some .int) 1 d_X11_guests s_X11_guests) (g_X11_guests : d_X11_guests + 1 ≤ d) {d_X12_guests : Nat} {s_X12_guests : zq_Sp} (h_X12_guests : zq_M yX12_guests cX12_guests 7 (some .int) 1 d_X12_guests s_X12_guests) (g_X12_guests : d_X12_guests + 1 ≤ d) {J : zq_P} (j : zq_ok X 8 1538 J) : zq_ok X 8 299 (xL_3 L xs s_X11_guests s_X12_guests J) := by
  refine zs_aload_n C dL_law_299 rfl ?_
  refine zs_callV C h_X11_guests g_X11_guests zy_X11_guests zp_0 (show vwCl[11]? = some (RX11, TX11, 16) from rfl) zw_456 zw_457 zs9_X11_guests dL_law_300 ?_
  refine zs_aload_n C dL_law_303 rfl ?_
  refine zs_callV C h_X12_guests g_X12_guests zy_X12_guests zp_56 (show vwCl[12]? = some (RX12, TX12, 67) from rfl) zw_1392 zw_1393 zs9_X12_guests dL_law_304 ?_
  refine zs_icmp_eq C dL_law_307 (tgt := 1538) (by decide) ?_ ?_
  · exact j
  · exact zs_no
def xL_4 (L : Nat) (xs : Nat → Int32) (s_X11_deeds : zq_Sp) (s_X12_deeds : zq_Sp) (J : zq_P) (ls : zq_L) (st : List Value) (h : zq_H) : Prop := (zi_aload 1 (zi_callV 0 0 s_X11_deeds (zi_aload 2 (zi_callV 0 56 s_X12_deeds (zi_if2 (fun x y => x = y) (J) (zi_no)))))) ls st h
theorem kL_4 {X : zq_X} {d L : Nat} {xs : Nat → Int32} (C : zq_C X cL_law 8 RL d) (hX : zq_Xs X L xs) {d_X11_deeds : Nat} {s_X11_deeds : zq_Sp} (h_X11_deeds : zq_M yX11_deeds cX11_deeds 2 (some .int) 1 d_X11_deeds s_X11_deeds) (g_X11_deeds : d_X11_deeds + 1 ≤ d) {d_X12_deeds : Nat} {s_X12_deeds : zq_Sp} (h_X12_deeds : zq_M yX12_deeds cX12_deeds 6 (some .int) 1 d_X12_deeds s_X12_deeds) (g_X12_deeds : d_X12_deeds + 1 ≤ d) {J : zq_P} (j : zq_ok X 8 1538 J) : zq_ok X 8 312 (xL_4 L xs s_X11_deeds s_X12_deeds J) := by
  refine zs_aload_n C dL_law_312 rfl ?_
  refine zs_callV C h_X11_deeds g_X11_deeds zy_X11_deeds zp_0 (show vwCl[11]? = some (RX11, TX11, 16) from rfl) zw_472 zw_473 zs9_X11_deeds dL_law_313 ?_
  refine zs_aload_n C dL_law_316 rfl ?_
  refine zs_callV C h_X12_deeds g_X12_deeds zy_X12_deeds zp_56 (show vwCl[12]? = some (RX12, TX12, 67) from rfl) zw_1410 zw_1411 zs9_X12_deeds dL_law_317 ?_
  refine zs_icmp_eq C dL_law_320 (tgt := 1538) (by decide) ?_ ?_
  · exact j
  · exact zs_no
def xL_5 (L : Nat) (xs : Nat → Int32) (s_X11_rule : List Value → zq_H → zq_Q → zq_Q → Prop) (s_X12_rule : zq_Sp) (J : zq_P) (J2 : zq_P) (ls : zq_L) (st : List Value) (h : zq_H) : Prop := (zi_aload 1 (zi_callV2 zxB s_X11_rule (zi_aload 2 (zi_callV 0 56 s_X12_rule (zi_if2 (fun x y => x = y) (J) (zi_no)))) (zi_aload 2 (zi_callV 0 56 s_X12_rule (zi_if2 (fun x y => x = y) (J2) (zi_no)))))) ls st h
theorem kL_5 {X : zq_X} {d L : Nat} {xs : Nat → Int32} (C : zq_C X cL_law 8 RL d) (hX : zq_Xs X L xs) {d_X11_rule : Nat} {s_X11_rule : List Value → zq_H → zq_Q → zq_Q → Prop} (h_X11_rule : zq_M2 zxB yX11_rule cX11_rule 3 (some .int) d_X11_rule s_X11_rule) (g_X11_rule : d_X11_rule + 1 ≤ d) {d_X12_rule : Nat} {s_X12_rule : zq_Sp} (h_X12_rule : zq_M yX12_rule cX12_rule 5 (some .int) 1 d_X12_rule s_X12_rule) (g_X12_rule : d_X12_rule + 1 ≤ d) {J : zq_P} (j : zq_ok X 8 1538 J) {J2 : zq_P} (j2 : zq_ok (zxX zxB X) 8 1538 J2) : zq_ok X 8 325 (xL_5 L xs s_X11_rule s_X12_rule J J2) := by
  have C2 := zxC zxB_ok C
  refine zs_aload_n C dL_law_325 rfl ?_
  refine zs_callV2 zxB_ok C h_X11_rule g_X11_rule zy_X11_rule zp_0 (show vwCl[11]? = some (RX11, TX11, 16) from rfl) zw_502 zw_503 zs9_X11_rule dL_law_326 ?_ ?_
  · refine zs_aload_n C dL_law_329 rfl ?_
    refine zs_callV C h_X12_rule g_X12_rule zy_X12_rule zp_56 (show vwCl[12]? = some (RX12, TX12, 67) from rfl) zw_1429 zw_1430 zs9_X12_rule dL_law_330 ?_
    refine zs_icmp_eq C dL_law_333 (tgt := 1538) (by decide) ?_ ?_
    · exact j
    · exact zs_no
  · refine zs_aload_n C2 dL_law_329 rfl ?_
    refine zs_callV C2 h_X12_rule g_X12_rule zy_X12_rule zp_56 (show vwCl[12]? = some (RX12, TX12, 67) from rfl) zw_1429 zw_1430 zs9_X12_rule dL_law_330 ?_
    refine zs_icmp_eq C2 dL_law_333 (tgt := 1538) (by decide) ?_ ?_
    · exact j2
    · exact zs_no
def xL_6 (L : Nat) (xs : Nat → Int32) (s_X12_cell : zq_Sp) (J : zq_P) (ls : zq_L) (st : List Value) (h : zq_H) : Prop := (zi_aload 1 (zi_aload 0 (zi_iload 4 (zi_push (.int 1) (zi_i2 (fun x y => x + y) (zi_sld L xs (zi_aload 0 (zi_iload 4 (zi_push (.int 2) (zi_i2 (fun x y => x + y) (zi_sld L xs (zi_aload 3 (zi_callS 4 sp_LCell (zi_istore 5 (zi_aload 2 (zi_aload 0 (zi_iload 4 (zi_push (.int 1) (zi_i2 (fun x y => x + y) (zi_sld L xs (zi_aload 0 (zi_iload 4 (zi_push (.int 2) (zi_i2 (fun x y => x + y) (zi_sld L xs (zi_callV 2 56 s_X12_cell (zi_istore 6 (zi_aload 2 (zi_callV 0 56 sp_thrown (zi_iload 5 (zi_if2 (fun x y => x = y) (zi_iload 5 (zi_if1 (fun x => x = 0) (zi_aload 3 (zi_push (.int 0) (zi_aldL 102 1 (zi_iload 6 (zi_i2l (zi_lcmp (zi_if1 (fun x => x = 0) (J) (zi_no)))))))) (J))) (zi_no)))))))))))))))))))))))))))))))) ls st h
theorem kL_6 {X : zq_X} {d L : Nat} {xs : Nat → Int32} (C : zq_C X cL_law 8 RL d) (hX : zq_Xs X L xs) (hTX : zq_TX X) (hd9 : 30 ≤ d) {d_X12_cell : Nat} {s_X12_cell : zq_Sp} (h_X12_cell : zq_M yX12_cell cX12_cell 3 (some .int) 1 d_X12_cell s_X12_cell) (g_X12_cell : d_X12_cell + 1 ≤ d) {J : zq_P} (j : zq_ok (zq_up X) 8 1538 J) : zq_ok X 8 338 (xL_6 L xs s_X12_cell J) := by
  have C1 := zq_C_up C hTX
  have hX1 := zq_Xs_up hX
  refine zs_aload_n C dL_law_338 rfl ?_
  refine zs_aload_n C dL_law_339 rfl ?_
  refine zs_iload C dL_law_340 ?_
  refine zs_iconst C dL_law_342 (by decide) ?_
  refine zs_iadd C dL_law_343 ?_
  refine zs_sld C hX dL_law_344 ?_
  refine zs_aload_n C dL_law_345 rfl ?_
  refine zs_iload C dL_law_346 ?_
  refine zs_iconst C dL_law_348 (by decide) ?_
  refine zs_iadd C dL_law_349 ?_
  refine zs_sld C hX dL_law_350 ?_
  refine zs_aload_n C dL_law_351 rfl ?_
  refine zs_callH C hTX ok_LCell (by omega) zl_L_cell zw_0 (by decide +kernel) (by decide) zw_1000 zw_1001 dL_law_352 ?_
  refine zs_istore C1 dL_law_355 (by decide) ?_
  refine zs_aload_n C1 dL_law_357 rfl ?_
  refine zs_aload_n C1 dL_law_358 rfl ?_
  refine zs_iload C1 dL_law_359 ?_
  refine zs_iconst C1 dL_law_361 (by decide) ?_
  refine zs_iadd C1 dL_law_362 ?_
  refine zs_sld C1 hX1 dL_law_363 ?_
  refine zs_aload_n C1 dL_law_364 rfl ?_
  refine zs_iload C1 dL_law_365 ?_
  refine zs_iconst C1 dL_law_367 (by decide) ?_
  refine zs_iadd C1 dL_law_368 ?_
  refine zs_sld C1 hX1 dL_law_369 ?_
  refine zs_callV C1 h_X12_cell g_X12_cell zy_X12_cell zp_56 (show vwCl[12]? = some (RX12, TX12, 67) from rfl) zw_1449 zw_1450 zs9_X12_cell dL_law_370 ?_
  refine zs_istore C1 dL_law_373 (by decide) ?_
  refine zs_aload_n C1 dL_law_375 rfl ?_
  refine zs_callV C1 ok_thrown (by omega) zy_X12_thrown zp_56 (show vwCl[12]? = some (RX12, TX12, 67) from rfl) zw_1299 zw_1300 zs9_X12_thrown dL_law_376 ?_
  refine zs_iload C1 dL_law_379 ?_
  refine zs_icmp_eq C1 dL_law_381 (tgt := 386) (by decide) ?_ ?_
  · refine zs_iload C1 dL_law_386 ?_
    refine zs_if_ne C1 dL_law_388 (tgt := 403) (by decide) ?_ ?_
    · refine zs_goto (tgt := 1538) C1 dL_law_403 (by decide) ?_
      exact j
    · refine zs_aload_n C1 dL_law_391 rfl ?_
      refine zs_iconst C1 dL_law_392 (by decide) ?_
      refine zs_laload C1 zp_102 dL_law_393 ?_
      refine zs_iload C1 dL_law_394 ?_
      refine zs_i2l C1 dL_law_396 ?_
      refine zs_lcmp C1 dL_law_397 ?_
      refine zs_if_eq C1 dL_law_398 (tgt := 403) (by decide) ?_ ?_
      · refine zs_goto (tgt := 1538) C1 dL_law_403 (by decide) ?_
        exact j
      · exact zs_no
  · exact zs_no
def xL_7 (L : Nat) (xs : Nat → Int32) (s_X12_guest : zq_Sp) (J : zq_P) (ls : zq_L) (st : List Value) (h : zq_H) : Prop := (zi_aload 1 (zi_aload 0 (zi_iload 4 (zi_push (.int 1) (zi_i2 (fun x y => x + y) (zi_sld L xs (zi_aload 0 (zi_iload 4 (zi_push (.int 2) (zi_i2 (fun x y => x + y) (zi_sld L xs (zi_aload 3 (zi_callS 4 sp_LGuest (zi_istore 5 (zi_aload 2 (zi_aload 0 (zi_iload 4 (zi_push (.int 1) (zi_i2 (fun x y => x + y) (zi_sld L xs (zi_aload 0 (zi_iload 4 (zi_push (.int 2) (zi_i2 (fun x y => x + y) (zi_sld L xs (zi_callV 2 56 s_X12_guest (zi_istore 6 (zi_aload 2 (zi_callV 0 56 sp_thrown (zi_iload 5 (zi_if2 (fun x y => x = y) (zi_iload 5 (zi_if1 (fun x => x = 0) (zi_aload 3 (zi_push (.int 0) (zi_aldL 102 1 (zi_iload 6 (zi_i2l (zi_lcmp (zi_if1 (fun x => x = 0) (J) (zi_no)))))))) (J))) (zi_no)))))))))))))))))))))))))))))))) ls st h
theorem kL_7 {X : zq_X} {d L : Nat} {xs : Nat → Int32} (C : zq_C X cL_law 8 RL d) (hX : zq_Xs X L xs) (hTX : zq_TX X) (hd9 : 30 ≤ d) {d_X12_guest : Nat} {s_X12_guest : zq_Sp} (h_X12_guest : zq_M yX12_guest cX12_guest 3 (some .int) 1 d_X12_guest s_X12_guest) (g_X12_guest : d_X12_guest + 1 ≤ d) {J : zq_P} (j : zq_ok (zq_up X) 8 1538 J) : zq_ok X 8 406 (xL_7 L xs s_X12_guest J) := by
  have C1 := zq_C_up C hTX
  have hX1 := zq_Xs_up hX
  refine zs_aload_n C dL_law_406 rfl ?_
  refine zs_aload_n C dL_law_407 rfl ?_
  refine zs_iload C dL_law_408 ?_
  refine zs_iconst C dL_law_410 (by decide) ?_
  refine zs_iadd C dL_law_411 ?_
  refine zs_sld C hX dL_law_412 ?_
  refine zs_aload_n C dL_law_413 rfl ?_
  refine zs_iload C dL_law_414 ?_
  refine zs_iconst C dL_law_416 (by decide) ?_
  refine zs_iadd C dL_law_417 ?_
  refine zs_sld C hX dL_law_418 ?_
  refine zs_aload_n C dL_law_419 rfl ?_
  refine zs_callH C hTX ok_LGuest (by omega) zl_L_guest zw_0 (by decide +kernel) (by decide) zw_1074 zw_1075 dL_law_420 ?_
  refine zs_istore C1 dL_law_423 (by decide) ?_
  refine zs_aload_n C1 dL_law_425 rfl ?_
  refine zs_aload_n C1 dL_law_426 rfl ?_
  refine zs_iload C1 dL_law_427 ?_
  refine zs_iconst C1 dL_law_429 (by decide) ?_
  refine zs_iadd C1 dL_law_430 ?_
  refine zs_sld C1 hX1 dL_law_431 ?_
  refine zs_aload_n C1 dL_law_432 rfl ?_
  refine zs_iload C1 dL_law_433 ?_
  refine zs_iconst C1 dL_law_435 (by decide) ?_
  refine zs_iadd C1 dL_law_436 ?_
  refine zs_sld C1 hX1 dL_law_437 ?_
  refine zs_callV C1 h_X12_guest g_X12_guest zy_X12_guest zp_56 (show vwCl[12]? = some (RX12, TX12, 67) from rfl) zw_1462 zw_1463 zs9_X12_guest dL_law_438 ?_
  refine zs_istore C1 dL_law_441 (by decide) ?_
  refine zs_aload_n C1 dL_law_443 rfl ?_
  refine zs_callV C1 ok_thrown (by omega) zy_X12_thrown zp_56 (show vwCl[12]? = some (RX12, TX12, 67) from rfl) zw_1299 zw_1300 zs9_X12_thrown dL_law_444 ?_
  refine zs_iload C1 dL_law_447 ?_
  refine zs_icmp_eq C1 dL_law_449 (tgt := 454) (by decide) ?_ ?_
  · refine zs_iload C1 dL_law_454 ?_
    refine zs_if_ne C1 dL_law_456 (tgt := 471) (by decide) ?_ ?_
    · refine zs_goto (tgt := 1538) C1 dL_law_471 (by decide) ?_
      exact j
    · refine zs_aload_n C1 dL_law_459 rfl ?_
      refine zs_iconst C1 dL_law_460 (by decide) ?_
      refine zs_laload C1 zp_102 dL_law_461 ?_
      refine zs_iload C1 dL_law_462 ?_
      refine zs_i2l C1 dL_law_464 ?_
      refine zs_lcmp C1 dL_law_465 ?_
      refine zs_if_eq C1 dL_law_466 (tgt := 471) (by decide) ?_ ?_
      · refine zs_goto (tgt := 1538) C1 dL_law_471 (by decide) ?_
        exact j
      · exact zs_no
  · exact zs_no
def xL_8 (L : Nat) (xs : Nat → Int32) (s_X11_worth : zq_Sp) (s_X12_worth : zq_Sp) (J : zq_P) (ls : zq_L) (st : List Value) (h : zq_H) : Prop := (zi_aload 1 (zi_aload 0 (zi_iload 4 (zi_push (.int 1) (zi_i2 (fun x y => x + y) (zi_sld L xs (zi_aload 0 (zi_iload 4 (zi_push (.int 2) (zi_i2 (fun x y => x + y) (zi_sld L xs (zi_callV 2 0 s_X11_worth (zi_aload 2 (zi_aload 0 (zi_iload 4 (zi_push (.int 1) (zi_i2 (fun x y => x + y) (zi_sld L xs (zi_aload 0 (zi_iload 4 (zi_push (.int 2) (zi_i2 (fun x y => x + y) (zi_sld L xs (zi_callV 2 56 s_X12_worth (zi_if2 (fun x y => x = y) (J) (zi_no)))))))))))))))))))))))))) ls st h
theorem kL_8 {X : zq_X} {d L : Nat} {xs : Nat → Int32} (C : zq_C X cL_law 8 RL d) (hX : zq_Xs X L xs) {d_X11_worth : Nat} {s_X11_worth : zq_Sp} (h_X11_worth : zq_M yX11_worth cX11_worth 3 (some .int) 1 d_X11_worth s_X11_worth) (g_X11_worth : d_X11_worth + 1 ≤ d) {d_X12_worth : Nat} {s_X12_worth : zq_Sp} (h_X12_worth : zq_M yX12_worth cX12_worth 3 (some .int) 1 d_X12_worth s_X12_worth) (g_X12_worth : d_X12_worth + 1 ≤ d) {J : zq_P} (j : zq_ok X 8 1538 J) : zq_ok X 8 474 (xL_8 L xs s_X11_worth s_X12_worth J) := by
  refine zs_aload_n C dL_law_474 rfl ?_
  refine zs_aload_n C dL_law_475 rfl ?_
  refine zs_iload C dL_law_476 ?_
  refine zs_iconst C dL_law_478 (by decide) ?_
  refine zs_iadd C dL_law_479 ?_
  refine zs_sld C hX dL_law_480 ?_
  refine zs_aload_n C dL_law_481 rfl ?_
  refine zs_iload C dL_law_482 ?_
  refine zs_iconst C dL_law_484 (by decide) ?_
  refine zs_iadd C dL_law_485 ?_
  refine zs_sld C hX dL_law_486 ?_
  refine zs_callV C h_X11_worth g_X11_worth zy_X11_worth zp_0 (show vwCl[11]? = some (RX11, TX11, 16) from rfl) zw_542 zw_543 zs9_X11_worth dL_law_487 ?_
  refine zs_aload_n C dL_law_490 rfl ?_
  refine zs_aload_n C dL_law_491 rfl ?_
  refine zs_iload C dL_law_492 ?_
  refine zs_iconst C dL_law_494 (by decide) ?_
  refine zs_iadd C dL_law_495 ?_
  refine zs_sld C hX dL_law_496 ?_
  refine zs_aload_n C dL_law_497 rfl ?_
  refine zs_iload C dL_law_498 ?_
  refine zs_iconst C dL_law_500 (by decide) ?_
  refine zs_iadd C dL_law_501 ?_
  refine zs_sld C hX dL_law_502 ?_
  refine zs_callV C h_X12_worth g_X12_worth zy_X12_worth zp_56 (show vwCl[12]? = some (RX12, TX12, 67) from rfl) zw_1503 zw_1504 zs9_X12_worth dL_law_503 ?_
  refine zs_icmp_eq C dL_law_506 (tgt := 1538) (by decide) ?_ ?_
  · exact j
  · exact zs_no
def xL_9 (L : Nat) (xs : Nat → Int32) (s_X11_taste : zq_Sp) (s_X12_taste : zq_Sp) (J : zq_P) (ls : zq_L) (st : List Value) (h : zq_H) : Prop := (zi_aload 1 (zi_aload 0 (zi_iload 4 (zi_push (.int 1) (zi_i2 (fun x y => x + y) (zi_sld L xs (zi_aload 0 (zi_iload 4 (zi_push (.int 2) (zi_i2 (fun x y => x + y) (zi_sld L xs (zi_aload 0 (zi_iload 4 (zi_push (.int 3) (zi_i2 (fun x y => x + y) (zi_sld L xs (zi_callV 3 0 s_X11_taste (zi_aload 2 (zi_aload 0 (zi_iload 4 (zi_push (.int 1) (zi_i2 (fun x y => x + y) (zi_sld L xs (zi_aload 0 (zi_iload 4 (zi_push (.int 2) (zi_i2 (fun x y => x + y) (zi_sld L xs (zi_aload 0 (zi_iload 4 (zi_push (.int 3) (zi_i2 (fun x y => x + y) (zi_sld L xs (zi_callV 3 56 s_X12_taste (zi_if2 (fun x y => x = y) (J) (zi_no)))))))))))))))))))))))))))))))))))) ls st h
theorem kL_9 {X : zq_X} {d L : Nat} {xs : Nat → Int32} (C : zq_C X cL_law 8 RL d) (hX : zq_Xs X L xs) {d_X11_taste : Nat} {s_X11_taste : zq_Sp} (h_X11_taste : zq_M yX11_taste cX11_taste 5 (some .int) 1 d_X11_taste s_X11_taste) (g_X11_taste : d_X11_taste + 1 ≤ d) {d_X12_taste : Nat} {s_X12_taste : zq_Sp} (h_X12_taste : zq_M yX12_taste cX12_taste 5 (some .int) 1 d_X12_taste s_X12_taste) (g_X12_taste : d_X12_taste + 1 ≤ d) {J : zq_P} (j : zq_ok X 8 1538 J) : zq_ok X 8 511 (xL_9 L xs s_X11_taste s_X12_taste J) := by
  refine zs_aload_n C dL_law_511 rfl ?_
  refine zs_aload_n C dL_law_512 rfl ?_
  refine zs_iload C dL_law_513 ?_
  refine zs_iconst C dL_law_515 (by decide) ?_
  refine zs_iadd C dL_law_516 ?_
  refine zs_sld C hX dL_law_517 ?_
  refine zs_aload_n C dL_law_518 rfl ?_
  refine zs_iload C dL_law_519 ?_
  refine zs_iconst C dL_law_521 (by decide) ?_
  refine zs_iadd C dL_law_522 ?_
  refine zs_sld C hX dL_law_523 ?_
  refine zs_aload_n C dL_law_524 rfl ?_
  refine zs_iload C dL_law_525 ?_
  refine zs_iconst C dL_law_527 (by decide) ?_
  refine zs_iadd C dL_law_528 ?_
  refine zs_sld C hX dL_law_529 ?_
  refine zs_callV C h_X11_taste g_X11_taste zy_X11_taste zp_0 (show vwCl[11]? = some (RX11, TX11, 16) from rfl) zw_558 zw_559 zs9_X11_taste dL_law_530 ?_
  refine zs_aload_n C dL_law_533 rfl ?_
  refine zs_aload_n C dL_law_534 rfl ?_
  refine zs_iload C dL_law_535 ?_
  refine zs_iconst C dL_law_537 (by decide) ?_
  refine zs_iadd C dL_law_538 ?_
  refine zs_sld C hX dL_law_539 ?_
  refine zs_aload_n C dL_law_540 rfl ?_
  refine zs_iload C dL_law_541 ?_
  refine zs_iconst C dL_law_543 (by decide) ?_
  refine zs_iadd C dL_law_544 ?_
  refine zs_sld C hX dL_law_545 ?_
  refine zs_aload_n C dL_law_546 rfl ?_
  refine zs_iload C dL_law_547 ?_
  refine zs_iconst C dL_law_549 (by decide) ?_
  refine zs_iadd C dL_law_550 ?_
  refine zs_sld C hX dL_law_551 ?_
  refine zs_callV C h_X12_taste g_X12_taste zy_X12_taste zp_56 (show vwCl[12]? = some (RX12, TX12, 67) from rfl) zw_1507 zw_1508 zs9_X12_taste dL_law_552 ?_
  refine zs_icmp_eq C dL_law_555 (tgt := 1538) (by decide) ?_ ?_
  · exact j
  · exact zs_no
def xL_10 (L : Nat) (xs : Nat → Int32) (s_X11_sheet : zq_Sp) (s_X12_sheet : zq_Sp) (J : zq_P) (ls : zq_L) (st : List Value) (h : zq_H) : Prop := (zi_aload 1 (zi_aload 0 (zi_iload 4 (zi_push (.int 1) (zi_i2 (fun x y => x + y) (zi_sld L xs (zi_aload 0 (zi_iload 4 (zi_push (.int 2) (zi_i2 (fun x y => x + y) (zi_sld L xs (zi_aload 0 (zi_iload 4 (zi_push (.int 3) (zi_i2 (fun x y => x + y) (zi_sld L xs (zi_aload 0 (zi_iload 4 (zi_push (.int 4) (zi_i2 (fun x y => x + y) (zi_sld L xs (zi_callV 4 0 s_X11_sheet (zi_aload 2 (zi_aload 0 (zi_iload 4 (zi_push (.int 1) (zi_i2 (fun x y => x + y) (zi_sld L xs (zi_aload 0 (zi_iload 4 (zi_push (.int 2) (zi_i2 (fun x y => x + y) (zi_sld L xs (zi_aload 0 (zi_iload 4 (zi_push (.int 3) (zi_i2 (fun x y => x + y) (zi_sld L xs (zi_aload 0 (zi_iload 4 (zi_push (.int 4) (zi_i2 (fun x y => x + y) (zi_sld L xs (zi_callV 4 56 s_X12_sheet (zi_if2 (fun x y => x = y) (J) (zi_no)))))))))))))))))))))))))))))))))))))))))))))) ls st h
theorem kL_10 {X : zq_X} {d L : Nat} {xs : Nat → Int32} (C : zq_C X cL_law 8 RL d) (hX : zq_Xs X L xs) {d_X11_sheet : Nat} {s_X11_sheet : zq_Sp} (h_X11_sheet : zq_M yX11_sheet cX11_sheet 9 (some .int) 1 d_X11_sheet s_X11_sheet) (g_X11_sheet : d_X11_sheet + 1 ≤ d) {d_X12_sheet : Nat} {s_X12_sheet : zq_Sp} (h_X12_sheet : zq_M yX12_sheet cX12_sheet 9 (some .int) 1 d_X12_sheet s_X12_sheet) (g_X12_sheet : d_X12_sheet + 1 ≤ d) {J : zq_P} (j : zq_ok X 8 1538 J) : zq_ok X 8 560 (xL_10 L xs s_X11_sheet s_X12_sheet J) := by
  refine zs_aload_n C dL_law_560 rfl ?_
  refine zs_aload_n C dL_law_561 rfl ?_
  refine zs_iload C dL_law_562 ?_
  refine zs_iconst C dL_law_564 (by decide) ?_
  refine zs_iadd C dL_law_565 ?_
  refine zs_sld C hX dL_law_566 ?_
  refine zs_aload_n C dL_law_567 rfl ?_
  refine zs_iload C dL_law_568 ?_
  refine zs_iconst C dL_law_570 (by decide) ?_
  refine zs_iadd C dL_law_571 ?_
  refine zs_sld C hX dL_law_572 ?_
  refine zs_aload_n C dL_law_573 rfl ?_
  refine zs_iload C dL_law_574 ?_
  refine zs_iconst C dL_law_576 (by decide) ?_
  refine zs_iadd C dL_law_577 ?_
  refine zs_sld C hX dL_law_578 ?_
  refine zs_aload_n C dL_law_579 rfl ?_
  refine zs_iload C dL_law_580 ?_
  refine zs_iconst C dL_law_582 (by decide) ?_
  refine zs_iadd C dL_law_583 ?_
  refine zs_sld C hX dL_law_584 ?_
  refine zs_callV C h_X11_sheet g_X11_sheet zy_X11_sheet zp_0 (show vwCl[11]? = some (RX11, TX11, 16) from rfl) zw_566 zw_567 zs9_X11_sheet dL_law_585 ?_
  refine zs_aload_n C dL_law_588 rfl ?_
  refine zs_aload_n C dL_law_589 rfl ?_
  refine zs_iload C dL_law_590 ?_
  refine zs_iconst C dL_law_592 (by decide) ?_
  refine zs_iadd C dL_law_593 ?_
  refine zs_sld C hX dL_law_594 ?_
  refine zs_aload_n C dL_law_595 rfl ?_
  refine zs_iload C dL_law_596 ?_
  refine zs_iconst C dL_law_598 (by decide) ?_
  refine zs_iadd C dL_law_599 ?_
  refine zs_sld C hX dL_law_600 ?_
  refine zs_aload_n C dL_law_601 rfl ?_
  refine zs_iload C dL_law_602 ?_
  refine zs_iconst C dL_law_604 (by decide) ?_
  refine zs_iadd C dL_law_605 ?_
  refine zs_sld C hX dL_law_606 ?_
  refine zs_aload_n C dL_law_607 rfl ?_
  refine zs_iload C dL_law_608 ?_
  refine zs_iconst C dL_law_610 (by decide) ?_
  refine zs_iadd C dL_law_611 ?_
  refine zs_sld C hX dL_law_612 ?_
  refine zs_callV C h_X12_sheet g_X12_sheet zy_X12_sheet zp_56 (show vwCl[12]? = some (RX12, TX12, 67) from rfl) zw_1513 zw_1514 zs9_X12_sheet dL_law_613 ?_
  refine zs_icmp_eq C dL_law_616 (tgt := 1538) (by decide) ?_ ?_
  · exact j
  · exact zs_no
def xL_11 (L : Nat) (xs : Nat → Int32) (s_X11_give : zq_Sp) (s_X12_give : zq_Sp) (J : zq_P) (ls : zq_L) (st : List Value) (h : zq_H) : Prop := (zi_aload 1 (zi_aload 0 (zi_iload 4 (zi_push (.int 1) (zi_i2 (fun x y => x + y) (zi_sld L xs (zi_aload 0 (zi_iload 4 (zi_push (.int 2) (zi_i2 (fun x y => x + y) (zi_sld L xs (zi_aload 0 (zi_iload 4 (zi_push (.int 3) (zi_i2 (fun x y => x + y) (zi_sld L xs (zi_callV 3 0 s_X11_give (zi_aload 2 (zi_aload 0 (zi_iload 4 (zi_push (.int 1) (zi_i2 (fun x y => x + y) (zi_sld L xs (zi_aload 0 (zi_iload 4 (zi_push (.int 2) (zi_i2 (fun x y => x + y) (zi_sld L xs (zi_aload 0 (zi_iload 4 (zi_push (.int 3) (zi_i2 (fun x y => x + y) (zi_sld L xs (zi_callV 3 56 s_X12_give (zi_if2 (fun x y => x = y) (J) (zi_no)))))))))))))))))))))))))))))))))))) ls st h
theorem kL_11 {X : zq_X} {d L : Nat} {xs : Nat → Int32} (C : zq_C X cL_law 8 RL d) (hX : zq_Xs X L xs) {d_X11_give : Nat} {s_X11_give : zq_Sp} (h_X11_give : zq_M yX11_give cX11_give 6 (some .int) 1 d_X11_give s_X11_give) (g_X11_give : d_X11_give + 1 ≤ d) {d_X12_give : Nat} {s_X12_give : zq_Sp} (h_X12_give : zq_M yX12_give cX12_give 4 (some .int) 1 d_X12_give s_X12_give) (g_X12_give : d_X12_give + 1 ≤ d) {J : zq_P} (j : zq_ok X 8 1538 J) : zq_ok X 8 621 (xL_11 L xs s_X11_give s_X12_give J) := by
  refine zs_aload_n C dL_law_621 rfl ?_
  refine zs_aload_n C dL_law_622 rfl ?_
  refine zs_iload C dL_law_623 ?_
  refine zs_iconst C dL_law_625 (by decide) ?_
  refine zs_iadd C dL_law_626 ?_
  refine zs_sld C hX dL_law_627 ?_
  refine zs_aload_n C dL_law_628 rfl ?_
  refine zs_iload C dL_law_629 ?_
  refine zs_iconst C dL_law_631 (by decide) ?_
  refine zs_iadd C dL_law_632 ?_
  refine zs_sld C hX dL_law_633 ?_
  refine zs_aload_n C dL_law_634 rfl ?_
  refine zs_iload C dL_law_635 ?_
  refine zs_iconst C dL_law_637 (by decide) ?_
  refine zs_iadd C dL_law_638 ?_
  refine zs_sld C hX dL_law_639 ?_
  refine zs_callV C h_X11_give g_X11_give zy_X11_give zp_0 (show vwCl[11]? = some (RX11, TX11, 16) from rfl) zw_575 zw_576 zs9_X11_give dL_law_640 ?_
  refine zs_aload_n C dL_law_643 rfl ?_
  refine zs_aload_n C dL_law_644 rfl ?_
  refine zs_iload C dL_law_645 ?_
  refine zs_iconst C dL_law_647 (by decide) ?_
  refine zs_iadd C dL_law_648 ?_
  refine zs_sld C hX dL_law_649 ?_
  refine zs_aload_n C dL_law_650 rfl ?_
  refine zs_iload C dL_law_651 ?_
  refine zs_iconst C dL_law_653 (by decide) ?_
  refine zs_iadd C dL_law_654 ?_
  refine zs_sld C hX dL_law_655 ?_
  refine zs_aload_n C dL_law_656 rfl ?_
  refine zs_iload C dL_law_657 ?_
  refine zs_iconst C dL_law_659 (by decide) ?_
  refine zs_iadd C dL_law_660 ?_
  refine zs_sld C hX dL_law_661 ?_
  refine zs_callV C h_X12_give g_X12_give zy_X12_give zp_56 (show vwCl[12]? = some (RX12, TX12, 67) from rfl) zw_1521 zw_1522 zs9_X12_give dL_law_662 ?_
  refine zs_icmp_eq C dL_law_665 (tgt := 1538) (by decide) ?_ ?_
  · exact j
  · exact zs_no
def xL_12 (L : Nat) (xs : Nat → Int32) (s_X11_back : zq_Sp) (s_X12_back : zq_Sp) (J : zq_P) (ls : zq_L) (st : List Value) (h : zq_H) : Prop := (zi_aload 1 (zi_aload 0 (zi_iload 4 (zi_push (.int 1) (zi_i2 (fun x y => x + y) (zi_sld L xs (zi_aload 0 (zi_iload 4 (zi_push (.int 2) (zi_i2 (fun x y => x + y) (zi_sld L xs (zi_callV 2 0 s_X11_back (zi_aload 2 (zi_aload 0 (zi_iload 4 (zi_push (.int 1) (zi_i2 (fun x y => x + y) (zi_sld L xs (zi_aload 0 (zi_iload 4 (zi_push (.int 2) (zi_i2 (fun x y => x + y) (zi_sld L xs (zi_callV 2 56 s_X12_back (zi_if2 (fun x y => x = y) (J) (zi_no)))))))))))))))))))))))))) ls st h
theorem kL_12 {X : zq_X} {d L : Nat} {xs : Nat → Int32} (C : zq_C X cL_law 8 RL d) (hX : zq_Xs X L xs) {d_X11_back : Nat} {s_X11_back : zq_Sp} (h_X11_back : zq_M yX11_back cX11_back 5 (some .int) 1 d_X11_back s_X11_back) (g_X11_back : d_X11_back + 1 ≤ d) {d_X12_back : Nat} {s_X12_back : zq_Sp} (h_X12_back : zq_M yX12_back cX12_back 3 (some .int) 1 d_X12_back s_X12_back) (g_X12_back : d_X12_back + 1 ≤ d) {J : zq_P} (j : zq_ok X 8 1538 J) : zq_ok X 8 670 (xL_12 L xs s_X11_back s_X12_back J) := by
  refine zs_aload_n C dL_law_670 rfl ?_
  refine zs_aload_n C dL_law_671 rfl ?_
  refine zs_iload C dL_law_672 ?_
  refine zs_iconst C dL_law_674 (by decide) ?_
  refine zs_iadd C dL_law_675 ?_
  refine zs_sld C hX dL_law_676 ?_
  refine zs_aload_n C dL_law_677 rfl ?_
  refine zs_iload C dL_law_678 ?_
  refine zs_iconst C dL_law_680 (by decide) ?_
  refine zs_iadd C dL_law_681 ?_
  refine zs_sld C hX dL_law_682 ?_
  refine zs_callV C h_X11_back g_X11_back zy_X11_back zp_0 (show vwCl[11]? = some (RX11, TX11, 16) from rfl) zw_612 zw_613 zs9_X11_back dL_law_683 ?_
  refine zs_aload_n C dL_law_686 rfl ?_
  refine zs_aload_n C dL_law_687 rfl ?_
  refine zs_iload C dL_law_688 ?_
  refine zs_iconst C dL_law_690 (by decide) ?_
  refine zs_iadd C dL_law_691 ?_
  refine zs_sld C hX dL_law_692 ?_
  refine zs_aload_n C dL_law_693 rfl ?_
  refine zs_iload C dL_law_694 ?_
  refine zs_iconst C dL_law_696 (by decide) ?_
  refine zs_iadd C dL_law_697 ?_
  refine zs_sld C hX dL_law_698 ?_
  refine zs_callV C h_X12_back g_X12_back zy_X12_back zp_56 (show vwCl[12]? = some (RX12, TX12, 67) from rfl) zw_1545 zw_1546 zs9_X12_back dL_law_699 ?_
  refine zs_icmp_eq C dL_law_702 (tgt := 1538) (by decide) ?_ ?_
  · exact j
  · exact zs_no
def xL_13 (L : Nat) (xs : Nat → Int32) (s_X11_mouse : zq_Sp) (s_X12_mouse : zq_Sp) (J : zq_P) (ls : zq_L) (st : List Value) (h : zq_H) : Prop := (zi_aload 1 (zi_aload 0 (zi_iload 4 (zi_push (.int 1) (zi_i2 (fun x y => x + y) (zi_sld L xs (zi_callV 1 0 s_X11_mouse (zi_aload 2 (zi_aload 0 (zi_iload 4 (zi_push (.int 1) (zi_i2 (fun x y => x + y) (zi_sld L xs (zi_callV 1 56 s_X12_mouse (zi_if2 (fun x y => x = y) (J) (zi_no)))))))))))))))) ls st h
theorem kL_13 {X : zq_X} {d L : Nat} {xs : Nat → Int32} (C : zq_C X cL_law 8 RL d) (hX : zq_Xs X L xs) {d_X11_mouse : Nat} {s_X11_mouse : zq_Sp} (h_X11_mouse : zq_M yX11_mouse cX11_mouse 4 (some .int) 1 d_X11_mouse s_X11_mouse) (g_X11_mouse : d_X11_mouse + 1 ≤ d) {d_X12_mouse : Nat} {s_X12_mouse : zq_Sp} (h_X12_mouse : zq_M yX12_mouse cX12_mouse 2 (some .int) 1 d_X12_mouse s_X12_mouse) (g_X12_mouse : d_X12_mouse + 1 ≤ d) {J : zq_P} (j : zq_ok X 8 1538 J) : zq_ok X 8 707 (xL_13 L xs s_X11_mouse s_X12_mouse J) := by
  refine zs_aload_n C dL_law_707 rfl ?_
  refine zs_aload_n C dL_law_708 rfl ?_
  refine zs_iload C dL_law_709 ?_
  refine zs_iconst C dL_law_711 (by decide) ?_
  refine zs_iadd C dL_law_712 ?_
  refine zs_sld C hX dL_law_713 ?_
  refine zs_callV C h_X11_mouse g_X11_mouse zy_X11_mouse zp_0 (show vwCl[11]? = some (RX11, TX11, 16) from rfl) zw_620 zw_621 zs9_X11_mouse dL_law_714 ?_
  refine zs_aload_n C dL_law_717 rfl ?_
  refine zs_aload_n C dL_law_718 rfl ?_
  refine zs_iload C dL_law_719 ?_
  refine zs_iconst C dL_law_721 (by decide) ?_
  refine zs_iadd C dL_law_722 ?_
  refine zs_sld C hX dL_law_723 ?_
  refine zs_callV C h_X12_mouse g_X12_mouse zy_X12_mouse zp_56 (show vwCl[12]? = some (RX12, TX12, 67) from rfl) zw_1553 zw_1554 zs9_X12_mouse dL_law_724 ?_
  refine zs_icmp_eq C dL_law_727 (tgt := 1538) (by decide) ?_ ?_
  · exact j
  · exact zs_no
def xL_14 (L : Nat) (xs : Nat → Int32) (s_X11_supper : zq_Sp) (s_X12_supper : zq_Sp) (J : zq_P) (ls : zq_L) (st : List Value) (h : zq_H) : Prop := (zi_aload 1 (zi_callV 0 0 s_X11_supper (zi_aload 2 (zi_callV 0 56 s_X12_supper (zi_if2 (fun x y => x = y) (J) (zi_no)))))) ls st h
theorem kL_14 {X : zq_X} {d L : Nat} {xs : Nat → Int32} (C : zq_C X cL_law 8 RL d) (hX : zq_Xs X L xs) {d_X11_supper : Nat} {s_X11_supper : zq_Sp} (h_X11_supper : zq_M yX11_supper cX11_supper 5 (some .int) 1 d_X11_supper s_X11_supper) (g_X11_supper : d_X11_supper + 1 ≤ d) {d_X12_supper : Nat} {s_X12_supper : zq_Sp} (h_X12_supper : zq_M yX12_supper cX12_supper 6 (some .int) 1 d_X12_supper s_X12_supper) (g_X12_supper : d_X12_supper + 1 ≤ d) {J : zq_P} (j : zq_ok X 8 1538 J) : zq_ok X 8 732 (xL_14 L xs s_X11_supper s_X12_supper J) := by
  refine zs_aload_n C dL_law_732 rfl ?_
  refine zs_callV C h_X11_supper g_X11_supper zy_X11_supper zp_0 (show vwCl[11]? = some (RX11, TX11, 16) from rfl) zw_628 zw_629 zs9_X11_supper dL_law_733 ?_
  refine zs_aload_n C dL_law_736 rfl ?_
  refine zs_callV C h_X12_supper g_X12_supper zy_X12_supper zp_56 (show vwCl[12]? = some (RX12, TX12, 67) from rfl) zw_1561 zw_1562 zs9_X12_supper dL_law_737 ?_
  refine zs_icmp_eq C dL_law_740 (tgt := 1538) (by decide) ?_ ?_
  · exact j
  · exact zs_no
def xL_15 (L : Nat) (xs : Nat → Int32) (s_X11_undo : zq_Sp) (s_X12_undo : zq_Sp) (J : zq_P) (ls : zq_L) (st : List Value) (h : zq_H) : Prop := (zi_aload 1 (zi_callV 0 0 s_X11_undo (zi_aload 2 (zi_callV 0 56 s_X12_undo (zi_if2 (fun x y => x = y) (J) (zi_no)))))) ls st h
theorem kL_15 {X : zq_X} {d L : Nat} {xs : Nat → Int32} (C : zq_C X cL_law 8 RL d) (hX : zq_Xs X L xs) {d_X11_undo : Nat} {s_X11_undo : zq_Sp} (h_X11_undo : zq_M yX11_undo cX11_undo 1 (some .int) 1 d_X11_undo s_X11_undo) (g_X11_undo : d_X11_undo + 1 ≤ d) {d_X12_undo : Nat} {s_X12_undo : zq_Sp} (h_X12_undo : zq_M yX12_undo cX12_undo 2 (some .int) 1 d_X12_undo s_X12_undo) (g_X12_undo : d_X12_undo + 1 ≤ d) {J : zq_P} (j : zq_ok X 8 1538 J) : zq_ok X 8 745 (xL_15 L xs s_X11_undo s_X12_undo J) := by
  refine zs_aload_n C dL_law_745 rfl ?_
  refine zs_callV C h_X11_undo g_X11_undo zy_X11_undo zp_0 (show vwCl[11]? = some (RX11, TX11, 16) from rfl) zw_662 zw_663 zs9_X11_undo dL_law_746 ?_
  refine zs_aload_n C dL_law_749 rfl ?_
  refine zs_callV C h_X12_undo g_X12_undo zy_X12_undo zp_56 (show vwCl[12]? = some (RX12, TX12, 67) from rfl) zw_1517 zw_1518 zs9_X12_undo dL_law_750 ?_
  refine zs_icmp_eq C dL_law_753 (tgt := 1538) (by decide) ?_ ?_
  · exact j
  · exact zs_no
def xL_16 (L : Nat) (xs : Nat → Int32) (s_X11_seen : zq_Sp) (s_X12_seen : zq_Sp) (J : zq_P) (ls : zq_L) (st : List Value) (h : zq_H) : Prop := (zi_aload 1 (zi_aload 0 (zi_iload 4 (zi_push (.int 1) (zi_i2 (fun x y => x + y) (zi_sld L xs (zi_aload 0 (zi_iload 4 (zi_push (.int 2) (zi_i2 (fun x y => x + y) (zi_sld L xs (zi_callV 2 0 s_X11_seen (zi_aload 2 (zi_aload 0 (zi_iload 4 (zi_push (.int 1) (zi_i2 (fun x y => x + y) (zi_sld L xs (zi_aload 0 (zi_iload 4 (zi_push (.int 2) (zi_i2 (fun x y => x + y) (zi_sld L xs (zi_callV 2 56 s_X12_seen (zi_if2 (fun x y => x = y) (J) (zi_no)))))))))))))))))))))))))) ls st h
theorem kL_16 {X : zq_X} {d L : Nat} {xs : Nat → Int32} (C : zq_C X cL_law 8 RL d) (hX : zq_Xs X L xs) {d_X11_seen : Nat} {s_X11_seen : zq_Sp} (h_X11_seen : zq_M yX11_seen cX11_seen 3 (some .int) 1 d_X11_seen s_X11_seen) (g_X11_seen : d_X11_seen + 1 ≤ d) {d_X12_seen : Nat} {s_X12_seen : zq_Sp} (h_X12_seen : zq_M yX12_seen cX12_seen 3 (some .int) 1 d_X12_seen s_X12_seen) (g_X12_seen : d_X12_seen + 1 ≤ d) {J : zq_P} (j : zq_ok X 8 1538 J) : zq_ok X 8 758 (xL_16 L xs s_X11_seen s_X12_seen J) := by
  refine zs_aload_n C dL_law_758 rfl ?_
  refine zs_aload_n C dL_law_759 rfl ?_
  refine zs_iload C dL_law_760 ?_
  refine zs_iconst C dL_law_762 (by decide) ?_
  refine zs_iadd C dL_law_763 ?_
  refine zs_sld C hX dL_law_764 ?_
  refine zs_aload_n C dL_law_765 rfl ?_
  refine zs_iload C dL_law_766 ?_
  refine zs_iconst C dL_law_768 (by decide) ?_
  refine zs_iadd C dL_law_769 ?_
  refine zs_sld C hX dL_law_770 ?_
  refine zs_callV C h_X11_seen g_X11_seen zy_X11_seen zp_0 (show vwCl[11]? = some (RX11, TX11, 16) from rfl) zw_670 zw_671 zs9_X11_seen dL_law_771 ?_
  refine zs_aload_n C dL_law_774 rfl ?_
  refine zs_aload_n C dL_law_775 rfl ?_
  refine zs_iload C dL_law_776 ?_
  refine zs_iconst C dL_law_778 (by decide) ?_
  refine zs_iadd C dL_law_779 ?_
  refine zs_sld C hX dL_law_780 ?_
  refine zs_aload_n C dL_law_781 rfl ?_
  refine zs_iload C dL_law_782 ?_
  refine zs_iconst C dL_law_784 (by decide) ?_
  refine zs_iadd C dL_law_785 ?_
  refine zs_sld C hX dL_law_786 ?_
  refine zs_callV C h_X12_seen g_X12_seen zy_X12_seen zp_56 (show vwCl[12]? = some (RX12, TX12, 67) from rfl) zw_1578 zw_1579 zs9_X12_seen dL_law_787 ?_
  refine zs_icmp_eq C dL_law_790 (tgt := 1538) (by decide) ?_ ?_
  · exact j
  · exact zs_no
def xL_17 (L : Nat) (xs : Nat → Int32) (s_X11_envy : zq_Sp) (s_X12_envy : zq_Sp) (J : zq_P) (ls : zq_L) (st : List Value) (h : zq_H) : Prop := (zi_aload 1 (zi_callV 0 0 s_X11_envy (zi_aload 2 (zi_callV 0 56 s_X12_envy (zi_if2 (fun x y => x = y) (J) (zi_no)))))) ls st h
theorem kL_17 {X : zq_X} {d L : Nat} {xs : Nat → Int32} (C : zq_C X cL_law 8 RL d) (hX : zq_Xs X L xs) {d_X11_envy : Nat} {s_X11_envy : zq_Sp} (h_X11_envy : zq_M yX11_envy cX11_envy 5 (some .int) 1 d_X11_envy s_X11_envy) (g_X11_envy : d_X11_envy + 1 ≤ d) {d_X12_envy : Nat} {s_X12_envy : zq_Sp} (h_X12_envy : zq_M yX12_envy cX12_envy 4 (some .int) 1 d_X12_envy s_X12_envy) (g_X12_envy : d_X12_envy + 1 ≤ d) {J : zq_P} (j : zq_ok X 8 1538 J) : zq_ok X 8 795 (xL_17 L xs s_X11_envy s_X12_envy J) := by
  refine zs_aload_n C dL_law_795 rfl ?_
  refine zs_callV C h_X11_envy g_X11_envy zy_X11_envy zp_0 (show vwCl[11]? = some (RX11, TX11, 16) from rfl) zw_678 zw_679 zs9_X11_envy dL_law_796 ?_
  refine zs_aload_n C dL_law_799 rfl ?_
  refine zs_callV C h_X12_envy g_X12_envy zy_X12_envy zp_56 (show vwCl[12]? = some (RX12, TX12, 67) from rfl) zw_1582 zw_1583 zs9_X12_envy dL_law_800 ?_
  refine zs_icmp_eq C dL_law_803 (tgt := 1538) (by decide) ?_ ?_
  · exact j
  · exact zs_no
def xL_18 (L : Nat) (xs : Nat → Int32) (s_X11_wronged : zq_Sp) (s_X12_wronged : zq_Sp) (J : zq_P) (ls : zq_L) (st : List Value) (h : zq_H) : Prop := (zi_aload 1 (zi_callV 0 0 s_X11_wronged (zi_aload 2 (zi_callV 0 56 s_X12_wronged (zi_if2 (fun x y => x = y) (J) (zi_no)))))) ls st h
theorem kL_18 {X : zq_X} {d L : Nat} {xs : Nat → Int32} (C : zq_C X cL_law 8 RL d) (hX : zq_Xs X L xs) {d_X11_wronged : Nat} {s_X11_wronged : zq_Sp} (h_X11_wronged : zq_M yX11_wronged cX11_wronged 4 (some .int) 1 d_X11_wronged s_X11_wronged) (g_X11_wronged : d_X11_wronged + 1 ≤ d) {d_X12_wronged : Nat} {s_X12_wronged : zq_Sp} (h_X12_wronged : zq_M yX12_wronged cX12_wronged 4 (some .int) 1 d_X12_wronged s_X12_wronged) (g_X12_wronged : d_X12_wronged + 1 ≤ d) {J : zq_P} (j : zq_ok X 8 1538 J) : zq_ok X 8 808 (xL_18 L xs s_X11_wronged s_X12_wronged J) := by
  refine zs_aload_n C dL_law_808 rfl ?_
  refine zs_callV C h_X11_wronged g_X11_wronged zy_X11_wronged zp_0 (show vwCl[11]? = some (RX11, TX11, 16) from rfl) zw_682 zw_683 zs9_X11_wronged dL_law_809 ?_
  refine zs_aload_n C dL_law_812 rfl ?_
  refine zs_callV C h_X12_wronged g_X12_wronged zy_X12_wronged zp_56 (show vwCl[12]? = some (RX12, TX12, 67) from rfl) zw_1586 zw_1587 zs9_X12_wronged dL_law_813 ?_
  refine zs_icmp_eq C dL_law_816 (tgt := 1538) (by decide) ?_ ?_
  · exact j
  · exact zs_no
def xL_19 (L : Nat) (xs : Nat → Int32) (s_X11_happiest : zq_Sp) (s_X12_happiest : zq_Sp) (J : zq_P) (ls : zq_L) (st : List Value) (h : zq_H) : Prop := (zi_aload 1 (zi_callV 0 0 s_X11_happiest (zi_aload 2 (zi_callV 0 56 s_X12_happiest (zi_if2 (fun x y => x = y) (J) (zi_no)))))) ls st h
theorem kL_19 {X : zq_X} {d L : Nat} {xs : Nat → Int32} (C : zq_C X cL_law 8 RL d) (hX : zq_Xs X L xs) {d_X11_happiest : Nat} {s_X11_happiest : zq_Sp} (h_X11_happiest : zq_M yX11_happiest cX11_happiest 11 (some .int) 1 d_X11_happiest s_X11_happiest) (g_X11_happiest : d_X11_happiest + 1 ≤ d) {d_X12_happiest : Nat} {s_X12_happiest : zq_Sp} (h_X12_happiest : zq_M yX12_happiest cX12_happiest 11 (some .int) 1 d_X12_happiest s_X12_happiest) (g_X12_happiest : d_X12_happiest + 1 ≤ d) {J : zq_P} (j : zq_ok X 8 1538 J) : zq_ok X 8 821 (xL_19 L xs s_X11_happiest s_X12_happiest J) := by
  refine zs_aload_n C dL_law_821 rfl ?_
  refine zs_callV C h_X11_happiest g_X11_happiest zy_X11_happiest zp_0 (show vwCl[11]? = some (RX11, TX11, 16) from rfl) zw_701 zw_702 zs9_X11_happiest dL_law_822 ?_
  refine zs_aload_n C dL_law_825 rfl ?_
  refine zs_callV C h_X12_happiest g_X12_happiest zy_X12_happiest zp_56 (show vwCl[12]? = some (RX12, TX12, 67) from rfl) zw_1591 zw_1592 zs9_X12_happiest dL_law_826 ?_
  refine zs_icmp_eq C dL_law_829 (tgt := 1538) (by decide) ?_ ?_
  · exact j
  · exact zs_no
def xL_20 (L : Nat) (xs : Nat → Int32) (s_X11_pieces : zq_Sp) (s_X12_pieces : zq_Sp) (J : zq_P) (ls : zq_L) (st : List Value) (h : zq_H) : Prop := (zi_aload 1 (zi_aload 0 (zi_iload 4 (zi_push (.int 1) (zi_i2 (fun x y => x + y) (zi_sld L xs (zi_callV 1 0 s_X11_pieces (zi_aload 2 (zi_aload 0 (zi_iload 4 (zi_push (.int 1) (zi_i2 (fun x y => x + y) (zi_sld L xs (zi_callV 1 56 s_X12_pieces (zi_if2 (fun x y => x = y) (J) (zi_no)))))))))))))))) ls st h
theorem kL_20 {X : zq_X} {d L : Nat} {xs : Nat → Int32} (C : zq_C X cL_law 8 RL d) (hX : zq_Xs X L xs) {d_X11_pieces : Nat} {s_X11_pieces : zq_Sp} (h_X11_pieces : zq_M yX11_pieces cX11_pieces 7 (some .int) 1 d_X11_pieces s_X11_pieces) (g_X11_pieces : d_X11_pieces + 1 ≤ d) {d_X12_pieces : Nat} {s_X12_pieces : zq_Sp} (h_X12_pieces : zq_M yX12_pieces cX12_pieces 7 (some .int) 1 d_X12_pieces s_X12_pieces) (g_X12_pieces : d_X12_pieces + 1 ≤ d) {J : zq_P} (j : zq_ok X 8 1538 J) : zq_ok X 8 834 (xL_20 L xs s_X11_pieces s_X12_pieces J) := by
  refine zs_aload_n C dL_law_834 rfl ?_
  refine zs_aload_n C dL_law_835 rfl ?_
  refine zs_iload C dL_law_836 ?_
  refine zs_iconst C dL_law_838 (by decide) ?_
  refine zs_iadd C dL_law_839 ?_
  refine zs_sld C hX dL_law_840 ?_
  refine zs_callV C h_X11_pieces g_X11_pieces zy_X11_pieces zp_0 (show vwCl[11]? = some (RX11, TX11, 16) from rfl) zw_710 zw_711 zs9_X11_pieces dL_law_841 ?_
  refine zs_aload_n C dL_law_844 rfl ?_
  refine zs_aload_n C dL_law_845 rfl ?_
  refine zs_iload C dL_law_846 ?_
  refine zs_iconst C dL_law_848 (by decide) ?_
  refine zs_iadd C dL_law_849 ?_
  refine zs_sld C hX dL_law_850 ?_
  refine zs_callV C h_X12_pieces g_X12_pieces zy_X12_pieces zp_56 (show vwCl[12]? = some (RX12, TX12, 67) from rfl) zw_1598 zw_1599 zs9_X12_pieces dL_law_851 ?_
  refine zs_icmp_eq C dL_law_854 (tgt := 1538) (by decide) ?_ ?_
  · exact j
  · exact zs_no
def xL_21 (L : Nat) (xs : Nat → Int32) (s_X11_trade : zq_Sp) (s_X12_trade : zq_Sp) (J : zq_P) (ls : zq_L) (st : List Value) (h : zq_H) : Prop := (zi_aload 1 (zi_aload 0 (zi_iload 4 (zi_push (.int 1) (zi_i2 (fun x y => x + y) (zi_sld L xs (zi_aload 0 (zi_iload 4 (zi_push (.int 2) (zi_i2 (fun x y => x + y) (zi_sld L xs (zi_callV 2 0 s_X11_trade (zi_aload 2 (zi_aload 0 (zi_iload 4 (zi_push (.int 1) (zi_i2 (fun x y => x + y) (zi_sld L xs (zi_aload 0 (zi_iload 4 (zi_push (.int 2) (zi_i2 (fun x y => x + y) (zi_sld L xs (zi_callV 2 56 s_X12_trade (zi_if2 (fun x y => x = y) (J) (zi_no)))))))))))))))))))))))))) ls st h
theorem kL_21 {X : zq_X} {d L : Nat} {xs : Nat → Int32} (C : zq_C X cL_law 8 RL d) (hX : zq_Xs X L xs) {d_X11_trade : Nat} {s_X11_trade : zq_Sp} (h_X11_trade : zq_M yX11_trade cX11_trade 8 (some .int) 1 d_X11_trade s_X11_trade) (g_X11_trade : d_X11_trade + 1 ≤ d) {d_X12_trade : Nat} {s_X12_trade : zq_Sp} (h_X12_trade : zq_M yX12_trade cX12_trade 11 (some .int) 1 d_X12_trade s_X12_trade) (g_X12_trade : d_X12_trade + 1 ≤ d) {J : zq_P} (j : zq_ok X 8 1538 J) : zq_ok X 8 859 (xL_21 L xs s_X11_trade s_X12_trade J) := by
  refine zs_aload_n C dL_law_859 rfl ?_
  refine zs_aload_n C dL_law_860 rfl ?_
  refine zs_iload C dL_law_861 ?_
  refine zs_iconst C dL_law_863 (by decide) ?_
  refine zs_iadd C dL_law_864 ?_
  refine zs_sld C hX dL_law_865 ?_
  refine zs_aload_n C dL_law_866 rfl ?_
  refine zs_iload C dL_law_867 ?_
  refine zs_iconst C dL_law_869 (by decide) ?_
  refine zs_iadd C dL_law_870 ?_
  refine zs_sld C hX dL_law_871 ?_
  refine zs_callV C h_X11_trade g_X11_trade zy_X11_trade zp_0 (show vwCl[11]? = some (RX11, TX11, 16) from rfl) zw_714 zw_715 zs9_X11_trade dL_law_872 ?_
  refine zs_aload_n C dL_law_875 rfl ?_
  refine zs_aload_n C dL_law_876 rfl ?_
  refine zs_iload C dL_law_877 ?_
  refine zs_iconst C dL_law_879 (by decide) ?_
  refine zs_iadd C dL_law_880 ?_
  refine zs_sld C hX dL_law_881 ?_
  refine zs_aload_n C dL_law_882 rfl ?_
  refine zs_iload C dL_law_883 ?_
  refine zs_iconst C dL_law_885 (by decide) ?_
  refine zs_iadd C dL_law_886 ?_
  refine zs_sld C hX dL_law_887 ?_
  refine zs_callV C h_X12_trade g_X12_trade zy_X12_trade zp_56 (show vwCl[12]? = some (RX12, TX12, 67) from rfl) zw_1602 zw_1603 zs9_X12_trade dL_law_888 ?_
  refine zs_icmp_eq C dL_law_891 (tgt := 1538) (by decide) ?_ ?_
  · exact j
  · exact zs_no
def xL_22 (L : Nat) (xs : Nat → Int32) (s_X11_slices : zq_Sp) (s_X12_slices : zq_Sp) (J : zq_P) (ls : zq_L) (st : List Value) (h : zq_H) : Prop := (zi_aload 1 (zi_aload 0 (zi_iload 4 (zi_push (.int 1) (zi_i2 (fun x y => x + y) (zi_sld L xs (zi_callV 1 0 s_X11_slices (zi_aload 2 (zi_aload 0 (zi_iload 4 (zi_push (.int 1) (zi_i2 (fun x y => x + y) (zi_sld L xs (zi_callV 1 56 s_X12_slices (zi_if2 (fun x y => x = y) (J) (zi_no)))))))))))))))) ls st h
theorem kL_22 {X : zq_X} {d L : Nat} {xs : Nat → Int32} (C : zq_C X cL_law 8 RL d) (hX : zq_Xs X L xs) {d_X11_slices : Nat} {s_X11_slices : zq_Sp} (h_X11_slices : zq_M yX11_slices cX11_slices 2 (some .int) 1 d_X11_slices s_X11_slices) (g_X11_slices : d_X11_slices + 1 ≤ d) {d_X12_slices : Nat} {s_X12_slices : zq_Sp} (h_X12_slices : zq_M yX12_slices cX12_slices 3 (some .int) 1 d_X12_slices s_X12_slices) (g_X12_slices : d_X12_slices + 1 ≤ d) {J : zq_P} (j : zq_ok X 8 1538 J) : zq_ok X 8 896 (xL_22 L xs s_X11_slices s_X12_slices J) := by
  refine zs_aload_n C dL_law_896 rfl ?_
  refine zs_aload_n C dL_law_897 rfl ?_
  refine zs_iload C dL_law_898 ?_
  refine zs_iconst C dL_law_900 (by decide) ?_
  refine zs_iadd C dL_law_901 ?_
  refine zs_sld C hX dL_law_902 ?_
  refine zs_callV C h_X11_slices g_X11_slices zy_X11_slices zp_0 (show vwCl[11]? = some (RX11, TX11, 16) from rfl) zw_722 zw_723 zs9_X11_slices dL_law_903 ?_
  refine zs_aload_n C dL_law_906 rfl ?_
  refine zs_aload_n C dL_law_907 rfl ?_
  refine zs_iload C dL_law_908 ?_
  refine zs_iconst C dL_law_910 (by decide) ?_
  refine zs_iadd C dL_law_911 ?_
  refine zs_sld C hX dL_law_912 ?_
  refine zs_callV C h_X12_slices g_X12_slices zy_X12_slices zp_56 (show vwCl[12]? = some (RX12, TX12, 67) from rfl) zw_1606 zw_1607 zs9_X12_slices dL_law_913 ?_
  refine zs_icmp_eq C dL_law_916 (tgt := 1538) (by decide) ?_ ?_
  · exact j
  · exact zs_no
def xL_23 (L : Nat) (xs : Nat → Int32) (s_X11_quarrel : zq_Sp) (s_X12_quarrel : zq_Sp) (J : zq_P) (ls : zq_L) (st : List Value) (h : zq_H) : Prop := (zi_aload 1 (zi_callV 0 0 s_X11_quarrel (zi_aload 2 (zi_callV 0 56 s_X12_quarrel (zi_if2 (fun x y => x = y) (J) (zi_no)))))) ls st h
theorem kL_23 {X : zq_X} {d L : Nat} {xs : Nat → Int32} (C : zq_C X cL_law 8 RL d) (hX : zq_Xs X L xs) {d_X11_quarrel : Nat} {s_X11_quarrel : zq_Sp} (h_X11_quarrel : zq_M yX11_quarrel cX11_quarrel 6 (some .int) 1 d_X11_quarrel s_X11_quarrel) (g_X11_quarrel : d_X11_quarrel + 1 ≤ d) {d_X12_quarrel : Nat} {s_X12_quarrel : zq_Sp} (h_X12_quarrel : zq_M yX12_quarrel cX12_quarrel 4 (some .int) 1 d_X12_quarrel s_X12_quarrel) (g_X12_quarrel : d_X12_quarrel + 1 ≤ d) {J : zq_P} (j : zq_ok X 8 1538 J) : zq_ok X 8 921 (xL_23 L xs s_X11_quarrel s_X12_quarrel J) := by
  refine zs_aload_n C dL_law_921 rfl ?_
  refine zs_callV C h_X11_quarrel g_X11_quarrel zy_X11_quarrel zp_0 (show vwCl[11]? = some (RX11, TX11, 16) from rfl) zw_776 zw_777 zs9_X11_quarrel dL_law_922 ?_
  refine zs_aload_n C dL_law_925 rfl ?_
  refine zs_callV C h_X12_quarrel g_X12_quarrel zy_X12_quarrel zp_56 (show vwCl[12]? = some (RX12, TX12, 67) from rfl) zw_1633 zw_1634 zs9_X12_quarrel dL_law_926 ?_
  refine zs_icmp_eq C dL_law_929 (tgt := 1538) (by decide) ?_ ?_
  · exact j
  · exact zs_no
def xL_24 (L : Nat) (xs : Nat → Int32) (s_X11_stretch : zq_Sp) (s_X12_stretch : zq_Sp) (J : zq_P) (ls : zq_L) (st : List Value) (h : zq_H) : Prop := (zi_aload 1 (zi_callV 0 0 s_X11_stretch (zi_aload 2 (zi_callV 0 56 s_X12_stretch (zi_if2 (fun x y => x = y) (J) (zi_no)))))) ls st h
theorem kL_24 {X : zq_X} {d L : Nat} {xs : Nat → Int32} (C : zq_C X cL_law 8 RL d) (hX : zq_Xs X L xs) {d_X11_stretch : Nat} {s_X11_stretch : zq_Sp} (h_X11_stretch : zq_M yX11_stretch cX11_stretch 5 (some .int) 1 d_X11_stretch s_X11_stretch) (g_X11_stretch : d_X11_stretch + 1 ≤ d) {d_X12_stretch : Nat} {s_X12_stretch : zq_Sp} (h_X12_stretch : zq_M yX12_stretch cX12_stretch 2 (some .int) 1 d_X12_stretch s_X12_stretch) (g_X12_stretch : d_X12_stretch + 1 ≤ d) {J : zq_P} (j : zq_ok X 8 1538 J) : zq_ok X 8 934 (xL_24 L xs s_X11_stretch s_X12_stretch J) := by
  refine zs_aload_n C dL_law_934 rfl ?_
  refine zs_callV C h_X11_stretch g_X11_stretch zy_X11_stretch zp_0 (show vwCl[11]? = some (RX11, TX11, 16) from rfl) zw_780 zw_781 zs9_X11_stretch dL_law_935 ?_
  refine zs_aload_n C dL_law_938 rfl ?_
  refine zs_callV C h_X12_stretch g_X12_stretch zy_X12_stretch zp_56 (show vwCl[12]? = some (RX12, TX12, 67) from rfl) zw_1637 zw_1638 zs9_X12_stretch dL_law_939 ?_
  refine zs_icmp_eq C dL_law_942 (tgt := 1538) (by decide) ?_ ?_
  · exact j
  · exact zs_no
def xL_25 (L : Nat) (xs : Nat → Int32) (s_X11_richest : zq_Sp) (s_X12_richest : zq_Sp) (J : zq_P) (ls : zq_L) (st : List Value) (h : zq_H) : Prop := (zi_aload 1 (zi_aload 0 (zi_iload 4 (zi_push (.int 1) (zi_i2 (fun x y => x + y) (zi_sld L xs (zi_aload 0 (zi_iload 4 (zi_push (.int 2) (zi_i2 (fun x y => x + y) (zi_sld L xs (zi_callV 2 0 s_X11_richest (zi_aload 2 (zi_aload 0 (zi_iload 4 (zi_push (.int 1) (zi_i2 (fun x y => x + y) (zi_sld L xs (zi_aload 0 (zi_iload 4 (zi_push (.int 2) (zi_i2 (fun x y => x + y) (zi_sld L xs (zi_callV 2 56 s_X12_richest (zi_if2 (fun x y => x = y) (J) (zi_no)))))))))))))))))))))))))) ls st h
theorem kL_25 {X : zq_X} {d L : Nat} {xs : Nat → Int32} (C : zq_C X cL_law 8 RL d) (hX : zq_Xs X L xs) {d_X11_richest : Nat} {s_X11_richest : zq_Sp} (h_X11_richest : zq_M yX11_richest cX11_richest 5 (some .int) 1 d_X11_richest s_X11_richest) (g_X11_richest : d_X11_richest + 1 ≤ d) {d_X12_richest : Nat} {s_X12_richest : zq_Sp} (h_X12_richest : zq_M yX12_richest cX12_richest 5 (some .int) 1 d_X12_richest s_X12_richest) (g_X12_richest : d_X12_richest + 1 ≤ d) {J : zq_P} (j : zq_ok X 8 1538 J) : zq_ok X 8 947 (xL_25 L xs s_X11_richest s_X12_richest J) := by
  refine zs_aload_n C dL_law_947 rfl ?_
  refine zs_aload_n C dL_law_948 rfl ?_
  refine zs_iload C dL_law_949 ?_
  refine zs_iconst C dL_law_951 (by decide) ?_
  refine zs_iadd C dL_law_952 ?_
  refine zs_sld C hX dL_law_953 ?_
  refine zs_aload_n C dL_law_954 rfl ?_
  refine zs_iload C dL_law_955 ?_
  refine zs_iconst C dL_law_957 (by decide) ?_
  refine zs_iadd C dL_law_958 ?_
  refine zs_sld C hX dL_law_959 ?_
  refine zs_callV C h_X11_richest g_X11_richest zy_X11_richest zp_0 (show vwCl[11]? = some (RX11, TX11, 16) from rfl) zw_784 zw_785 zs9_X11_richest dL_law_960 ?_
  refine zs_aload_n C dL_law_963 rfl ?_
  refine zs_aload_n C dL_law_964 rfl ?_
  refine zs_iload C dL_law_965 ?_
  refine zs_iconst C dL_law_967 (by decide) ?_
  refine zs_iadd C dL_law_968 ?_
  refine zs_sld C hX dL_law_969 ?_
  refine zs_aload_n C dL_law_970 rfl ?_
  refine zs_iload C dL_law_971 ?_
  refine zs_iconst C dL_law_973 (by decide) ?_
  refine zs_iadd C dL_law_974 ?_
  refine zs_sld C hX dL_law_975 ?_
  refine zs_callV C h_X12_richest g_X12_richest zy_X12_richest zp_56 (show vwCl[12]? = some (RX12, TX12, 67) from rfl) zw_1641 zw_1642 zs9_X12_richest dL_law_976 ?_
  refine zs_icmp_eq C dL_law_979 (tgt := 1538) (by decide) ?_ ?_
  · exact j
  · exact zs_no
def xL_26 (L : Nat) (xs : Nat → Int32) (s_X11_parts : zq_Sp) (s_X12_parts : zq_Sp) (J : zq_P) (ls : zq_L) (st : List Value) (h : zq_H) : Prop := (zi_aload 1 (zi_aload 0 (zi_iload 4 (zi_push (.int 1) (zi_i2 (fun x y => x + y) (zi_sld L xs (zi_aload 0 (zi_iload 4 (zi_push (.int 2) (zi_i2 (fun x y => x + y) (zi_sld L xs (zi_callV 2 0 s_X11_parts (zi_aload 2 (zi_aload 0 (zi_iload 4 (zi_push (.int 1) (zi_i2 (fun x y => x + y) (zi_sld L xs (zi_aload 0 (zi_iload 4 (zi_push (.int 2) (zi_i2 (fun x y => x + y) (zi_sld L xs (zi_callV 2 56 s_X12_parts (zi_if2 (fun x y => x = y) (J) (zi_no)))))))))))))))))))))))))) ls st h
theorem kL_26 {X : zq_X} {d L : Nat} {xs : Nat → Int32} (C : zq_C X cL_law 8 RL d) (hX : zq_Xs X L xs) {d_X11_parts : Nat} {s_X11_parts : zq_Sp} (h_X11_parts : zq_M yX11_parts cX11_parts 7 (some .int) 1 d_X11_parts s_X11_parts) (g_X11_parts : d_X11_parts + 1 ≤ d) {d_X12_parts : Nat} {s_X12_parts : zq_Sp} (h_X12_parts : zq_M yX12_parts cX12_parts 4 (some .int) 1 d_X12_parts s_X12_parts) (g_X12_parts : d_X12_parts + 1 ≤ d) {J : zq_P} (j : zq_ok X 8 1538 J) : zq_ok X 8 984 (xL_26 L xs s_X11_parts s_X12_parts J) := by
  refine zs_aload_n C dL_law_984 rfl ?_
  refine zs_aload_n C dL_law_985 rfl ?_
  refine zs_iload C dL_law_986 ?_
  refine zs_iconst C dL_law_988 (by decide) ?_
  refine zs_iadd C dL_law_989 ?_
  refine zs_sld C hX dL_law_990 ?_
  refine zs_aload_n C dL_law_991 rfl ?_
  refine zs_iload C dL_law_992 ?_
  refine zs_iconst C dL_law_994 (by decide) ?_
  refine zs_iadd C dL_law_995 ?_
  refine zs_sld C hX dL_law_996 ?_
  refine zs_callV C h_X11_parts g_X11_parts zy_X11_parts zp_0 (show vwCl[11]? = some (RX11, TX11, 16) from rfl) zw_788 zw_789 zs9_X11_parts dL_law_997 ?_
  refine zs_aload_n C dL_law_1000 rfl ?_
  refine zs_aload_n C dL_law_1001 rfl ?_
  refine zs_iload C dL_law_1002 ?_
  refine zs_iconst C dL_law_1004 (by decide) ?_
  refine zs_iadd C dL_law_1005 ?_
  refine zs_sld C hX dL_law_1006 ?_
  refine zs_aload_n C dL_law_1007 rfl ?_
  refine zs_iload C dL_law_1008 ?_
  refine zs_iconst C dL_law_1010 (by decide) ?_
  refine zs_iadd C dL_law_1011 ?_
  refine zs_sld C hX dL_law_1012 ?_
  refine zs_callV C h_X12_parts g_X12_parts zy_X12_parts zp_56 (show vwCl[12]? = some (RX12, TX12, 67) from rfl) zw_1649 zw_1650 zs9_X12_parts dL_law_1013 ?_
  refine zs_icmp_eq C dL_law_1016 (tgt := 1538) (by decide) ?_ ?_
  · exact j
  · exact zs_no
def xL_27 (L : Nat) (xs : Nat → Int32) (s_X11_calm : zq_Sp) (s_X12_calm : zq_Sp) (J : zq_P) (ls : zq_L) (st : List Value) (h : zq_H) : Prop := (zi_aload 1 (zi_callV 0 0 s_X11_calm (zi_aload 2 (zi_callV 0 56 s_X12_calm (zi_if2 (fun x y => x = y) (J) (zi_no)))))) ls st h
theorem kL_27 {X : zq_X} {d L : Nat} {xs : Nat → Int32} (C : zq_C X cL_law 8 RL d) (hX : zq_Xs X L xs) {d_X11_calm : Nat} {s_X11_calm : zq_Sp} (h_X11_calm : zq_M yX11_calm cX11_calm 1 (some .int) 1 d_X11_calm s_X11_calm) (g_X11_calm : d_X11_calm + 1 ≤ d) {d_X12_calm : Nat} {s_X12_calm : zq_Sp} (h_X12_calm : zq_M yX12_calm cX12_calm 2 (some .int) 1 d_X12_calm s_X12_calm) (g_X12_calm : d_X12_calm + 1 ≤ d) {J : zq_P} (j : zq_ok X 8 1538 J) : zq_ok X 8 1021 (xL_27 L xs s_X11_calm s_X12_calm J) := by
  refine zs_aload_n C dL_law_1021 rfl ?_
  refine zs_callV C h_X11_calm g_X11_calm zy_X11_calm zp_0 (show vwCl[11]? = some (RX11, TX11, 16) from rfl) zw_796 zw_797 zs9_X11_calm dL_law_1022 ?_
  refine zs_aload_n C dL_law_1025 rfl ?_
  refine zs_callV C h_X12_calm g_X12_calm zy_X12_calm zp_56 (show vwCl[12]? = some (RX12, TX12, 67) from rfl) zw_1659 zw_1660 zs9_X12_calm dL_law_1026 ?_
  refine zs_icmp_eq C dL_law_1029 (tgt := 1538) (by decide) ?_ ?_
  · exact j
  · exact zs_no
def xL_28 (L : Nat) (xs : Nat → Int32) (s_X11_cuts : zq_Sp) (s_X12_cuts : zq_Sp) (J : zq_P) (ls : zq_L) (st : List Value) (h : zq_H) : Prop := (zi_aload 1 (zi_aload 0 (zi_iload 4 (zi_push (.int 1) (zi_i2 (fun x y => x + y) (zi_sld L xs (zi_aload 0 (zi_iload 4 (zi_push (.int 2) (zi_i2 (fun x y => x + y) (zi_sld L xs (zi_callV 2 0 s_X11_cuts (zi_aload 2 (zi_aload 0 (zi_iload 4 (zi_push (.int 1) (zi_i2 (fun x y => x + y) (zi_sld L xs (zi_aload 0 (zi_iload 4 (zi_push (.int 2) (zi_i2 (fun x y => x + y) (zi_sld L xs (zi_callV 2 56 s_X12_cuts (zi_if2 (fun x y => x = y) (J) (zi_no)))))))))))))))))))))))))) ls st h
theorem kL_28 {X : zq_X} {d L : Nat} {xs : Nat → Int32} (C : zq_C X cL_law 8 RL d) (hX : zq_Xs X L xs) {d_X11_cuts : Nat} {s_X11_cuts : zq_Sp} (h_X11_cuts : zq_M yX11_cuts cX11_cuts 10 (some .int) 1 d_X11_cuts s_X11_cuts) (g_X11_cuts : d_X11_cuts + 1 ≤ d) {d_X12_cuts : Nat} {s_X12_cuts : zq_Sp} (h_X12_cuts : zq_M yX12_cuts cX12_cuts 9 (some .int) 1 d_X12_cuts s_X12_cuts) (g_X12_cuts : d_X12_cuts + 1 ≤ d) {J : zq_P} (j : zq_ok X 8 1538 J) : zq_ok X 8 1034 (xL_28 L xs s_X11_cuts s_X12_cuts J) := by
  refine zs_aload_n C dL_law_1034 rfl ?_
  refine zs_aload_n C dL_law_1035 rfl ?_
  refine zs_iload C dL_law_1036 ?_
  refine zs_iconst C dL_law_1038 (by decide) ?_
  refine zs_iadd C dL_law_1039 ?_
  refine zs_sld C hX dL_law_1040 ?_
  refine zs_aload_n C dL_law_1041 rfl ?_
  refine zs_iload C dL_law_1042 ?_
  refine zs_iconst C dL_law_1044 (by decide) ?_
  refine zs_iadd C dL_law_1045 ?_
  refine zs_sld C hX dL_law_1046 ?_
  refine zs_callV C h_X11_cuts g_X11_cuts zy_X11_cuts zp_0 (show vwCl[11]? = some (RX11, TX11, 16) from rfl) zw_833 zw_834 zs9_X11_cuts dL_law_1047 ?_
  refine zs_aload_n C dL_law_1050 rfl ?_
  refine zs_aload_n C dL_law_1051 rfl ?_
  refine zs_iload C dL_law_1052 ?_
  refine zs_iconst C dL_law_1054 (by decide) ?_
  refine zs_iadd C dL_law_1055 ?_
  refine zs_sld C hX dL_law_1056 ?_
  refine zs_aload_n C dL_law_1057 rfl ?_
  refine zs_iload C dL_law_1058 ?_
  refine zs_iconst C dL_law_1060 (by decide) ?_
  refine zs_iadd C dL_law_1061 ?_
  refine zs_sld C hX dL_law_1062 ?_
  refine zs_callV C h_X12_cuts g_X12_cuts zy_X12_cuts zp_56 (show vwCl[12]? = some (RX12, TX12, 67) from rfl) zw_1675 zw_1676 zs9_X12_cuts dL_law_1063 ?_
  refine zs_icmp_eq C dL_law_1066 (tgt := 1538) (by decide) ?_ ?_
  · exact j
  · exact zs_no
def xL_29 (L : Nat) (xs : Nat → Int32) (s_X11_byturns : zq_Sp) (s_X12_byturns : zq_Sp) (J : zq_P) (ls : zq_L) (st : List Value) (h : zq_H) : Prop := (zi_aload 1 (zi_callV 0 0 s_X11_byturns (zi_aload 2 (zi_callV 0 56 s_X12_byturns (zi_if2 (fun x y => x = y) (J) (zi_no)))))) ls st h
theorem kL_29 {X : zq_X} {d L : Nat} {xs : Nat → Int32} (C : zq_C X cL_law 8 RL d) (hX : zq_Xs X L xs) {d_X11_byturns : Nat} {s_X11_byturns : zq_Sp} (h_X11_byturns : zq_M yX11_byturns cX11_byturns 4 (some .int) 1 d_X11_byturns s_X11_byturns) (g_X11_byturns : d_X11_byturns + 1 ≤ d) {d_X12_byturns : Nat} {s_X12_byturns : zq_Sp} (h_X12_byturns : zq_M yX12_byturns cX12_byturns 3 (some .int) 1 d_X12_byturns s_X12_byturns) (g_X12_byturns : d_X12_byturns + 1 ≤ d) {J : zq_P} (j : zq_ok X 8 1538 J) : zq_ok X 8 1071 (xL_29 L xs s_X11_byturns s_X12_byturns J) := by
  refine zs_aload_n C dL_law_1071 rfl ?_
  refine zs_callV C h_X11_byturns g_X11_byturns zy_X11_byturns zp_0 (show vwCl[11]? = some (RX11, TX11, 16) from rfl) zw_840 zw_841 zs9_X11_byturns dL_law_1072 ?_
  refine zs_aload_n C dL_law_1075 rfl ?_
  refine zs_callV C h_X12_byturns g_X12_byturns zy_X12_byturns zp_56 (show vwCl[12]? = some (RX12, TX12, 67) from rfl) zw_1680 zw_1681 zs9_X12_byturns dL_law_1076 ?_
  refine zs_icmp_eq C dL_law_1079 (tgt := 1538) (by decide) ?_ ?_
  · exact j
  · exact zs_no
def xL_30 (L : Nat) (xs : Nat → Int32) (s_X11_lies : zq_Sp) (s_X12_lies : zq_Sp) (J : zq_P) (ls : zq_L) (st : List Value) (h : zq_H) : Prop := (zi_aload 1 (zi_aload 0 (zi_iload 4 (zi_push (.int 1) (zi_i2 (fun x y => x + y) (zi_sld L xs (zi_callV 1 0 s_X11_lies (zi_aload 2 (zi_aload 0 (zi_iload 4 (zi_push (.int 1) (zi_i2 (fun x y => x + y) (zi_sld L xs (zi_callV 1 56 s_X12_lies (zi_if2 (fun x y => x = y) (J) (zi_no)))))))))))))))) ls st h
theorem kL_30 {X : zq_X} {d L : Nat} {xs : Nat → Int32} (C : zq_C X cL_law 8 RL d) (hX : zq_Xs X L xs) {d_X11_lies : Nat} {s_X11_lies : zq_Sp} (h_X11_lies : zq_M yX11_lies cX11_lies 7 (some .int) 1 d_X11_lies s_X11_lies) (g_X11_lies : d_X11_lies + 1 ≤ d) {d_X12_lies : Nat} {s_X12_lies : zq_Sp} (h_X12_lies : zq_M yX12_lies cX12_lies 11 (some .int) 1 d_X12_lies s_X12_lies) (g_X12_lies : d_X12_lies + 1 ≤ d) {J : zq_P} (j : zq_ok X 8 1538 J) : zq_ok X 8 1084 (xL_30 L xs s_X11_lies s_X12_lies J) := by
  refine zs_aload_n C dL_law_1084 rfl ?_
  refine zs_aload_n C dL_law_1085 rfl ?_
  refine zs_iload C dL_law_1086 ?_
  refine zs_iconst C dL_law_1088 (by decide) ?_
  refine zs_iadd C dL_law_1089 ?_
  refine zs_sld C hX dL_law_1090 ?_
  refine zs_callV C h_X11_lies g_X11_lies zy_X11_lies zp_0 (show vwCl[11]? = some (RX11, TX11, 16) from rfl) zw_866 zw_867 zs9_X11_lies dL_law_1091 ?_
  refine zs_aload_n C dL_law_1094 rfl ?_
  refine zs_aload_n C dL_law_1095 rfl ?_
  refine zs_iload C dL_law_1096 ?_
  refine zs_iconst C dL_law_1098 (by decide) ?_
  refine zs_iadd C dL_law_1099 ?_
  refine zs_sld C hX dL_law_1100 ?_
  refine zs_callV C h_X12_lies g_X12_lies zy_X12_lies zp_56 (show vwCl[12]? = some (RX12, TX12, 67) from rfl) zw_1696 zw_1697 zs9_X12_lies dL_law_1101 ?_
  refine zs_icmp_eq C dL_law_1104 (tgt := 1538) (by decide) ?_ ?_
  · exact j
  · exact zs_no
def xL_31 (L : Nat) (xs : Nat → Int32) (s_X11_chose : zq_Sp) (s_X12_chose : zq_Sp) (J : zq_P) (ls : zq_L) (st : List Value) (h : zq_H) : Prop := (zi_aload 1 (zi_aload 0 (zi_iload 4 (zi_push (.int 1) (zi_i2 (fun x y => x + y) (zi_sld L xs (zi_aload 0 (zi_iload 4 (zi_push (.int 2) (zi_i2 (fun x y => x + y) (zi_sld L xs (zi_callV 2 0 s_X11_chose (zi_aload 2 (zi_aload 0 (zi_iload 4 (zi_push (.int 1) (zi_i2 (fun x y => x + y) (zi_sld L xs (zi_aload 0 (zi_iload 4 (zi_push (.int 2) (zi_i2 (fun x y => x + y) (zi_sld L xs (zi_callV 2 56 s_X12_chose (zi_if2 (fun x y => x = y) (J) (zi_no)))))))))))))))))))))))))) ls st h
theorem kL_31 {X : zq_X} {d L : Nat} {xs : Nat → Int32} (C : zq_C X cL_law 8 RL d) (hX : zq_Xs X L xs) {d_X11_chose : Nat} {s_X11_chose : zq_Sp} (h_X11_chose : zq_M yX11_chose cX11_chose 3 (some .int) 1 d_X11_chose s_X11_chose) (g_X11_chose : d_X11_chose + 1 ≤ d) {d_X12_chose : Nat} {s_X12_chose : zq_Sp} (h_X12_chose : zq_M yX12_chose cX12_chose 3 (some .int) 1 d_X12_chose s_X12_chose) (g_X12_chose : d_X12_chose + 1 ≤ d) {J : zq_P} (j : zq_ok X 8 1538 J) : zq_ok X 8 1109 (xL_31 L xs s_X11_chose s_X12_chose J) := by
  refine zs_aload_n C dL_law_1109 rfl ?_
  refine zs_aload_n C dL_law_1110 rfl ?_
  refine zs_iload C dL_law_1111 ?_
  refine zs_iconst C dL_law_1113 (by decide) ?_
  refine zs_iadd C dL_law_1114 ?_
  refine zs_sld C hX dL_law_1115 ?_
  refine zs_aload_n C dL_law_1116 rfl ?_
  refine zs_iload C dL_law_1117 ?_
  refine zs_iconst C dL_law_1119 (by decide) ?_
  refine zs_iadd C dL_law_1120 ?_
  refine zs_sld C hX dL_law_1121 ?_
  refine zs_callV C h_X11_chose g_X11_chose zy_X11_chose zp_0 (show vwCl[11]? = some (RX11, TX11, 16) from rfl) zw_875 zw_876 zs9_X11_chose dL_law_1122 ?_
  refine zs_aload_n C dL_law_1125 rfl ?_
  refine zs_aload_n C dL_law_1126 rfl ?_
  refine zs_iload C dL_law_1127 ?_
  refine zs_iconst C dL_law_1129 (by decide) ?_
  refine zs_iadd C dL_law_1130 ?_
  refine zs_sld C hX dL_law_1131 ?_
  refine zs_aload_n C dL_law_1132 rfl ?_
  refine zs_iload C dL_law_1133 ?_
  refine zs_iconst C dL_law_1135 (by decide) ?_
  refine zs_iadd C dL_law_1136 ?_
  refine zs_sld C hX dL_law_1137 ?_
  refine zs_callV C h_X12_chose g_X12_chose zy_X12_chose zp_56 (show vwCl[12]? = some (RX12, TX12, 67) from rfl) zw_1700 zw_1701 zs9_X12_chose dL_law_1138 ?_
  refine zs_icmp_eq C dL_law_1141 (tgt := 1538) (by decide) ?_ ?_
  · exact j
  · exact zs_no
def xL_32 (L : Nat) (xs : Nat → Int32) (s_X11_forget : zq_Sp) (s_X12_forget : zq_Sp) (J : zq_P) (ls : zq_L) (st : List Value) (h : zq_H) : Prop := (zi_aload 1 (zi_callV 0 0 s_X11_forget (zi_aload 2 (zi_callV 0 56 s_X12_forget (zi_if2 (fun x y => x = y) (J) (zi_no)))))) ls st h
theorem kL_32 {X : zq_X} {d L : Nat} {xs : Nat → Int32} (C : zq_C X cL_law 8 RL d) (hX : zq_Xs X L xs) {d_X11_forget : Nat} {s_X11_forget : zq_Sp} (h_X11_forget : zq_M yX11_forget cX11_forget 2 (some .int) 1 d_X11_forget s_X11_forget) (g_X11_forget : d_X11_forget + 1 ≤ d) {d_X12_forget : Nat} {s_X12_forget : zq_Sp} (h_X12_forget : zq_M yX12_forget cX12_forget 2 (some .int) 1 d_X12_forget s_X12_forget) (g_X12_forget : d_X12_forget + 1 ≤ d) {J : zq_P} (j : zq_ok X 8 1538 J) : zq_ok X 8 1146 (xL_32 L xs s_X11_forget s_X12_forget J) := by
  refine zs_aload_n C dL_law_1146 rfl ?_
  refine zs_callV C h_X11_forget g_X11_forget zy_X11_forget zp_0 (show vwCl[11]? = some (RX11, TX11, 16) from rfl) zw_883 zw_884 zs9_X11_forget dL_law_1147 ?_
  refine zs_aload_n C dL_law_1150 rfl ?_
  refine zs_callV C h_X12_forget g_X12_forget zy_X12_forget zp_56 (show vwCl[12]? = some (RX12, TX12, 67) from rfl) zw_1704 zw_1705 zs9_X12_forget dL_law_1151 ?_
  refine zs_icmp_eq C dL_law_1154 (tgt := 1538) (by decide) ?_ ?_
  · exact j
  · exact zs_no
def xL_33 (L : Nat) (xs : Nat → Int32) (s_X11_tastes : zq_Sp) (s_X12_tastes : zq_Sp) (J : zq_P) (ls : zq_L) (st : List Value) (h : zq_H) : Prop := (zi_aload 1 (zi_aload 0 (zi_iload 4 (zi_push (.int 1) (zi_i2 (fun x y => x + y) (zi_sld L xs (zi_callV 1 0 s_X11_tastes (zi_aload 2 (zi_aload 0 (zi_iload 4 (zi_push (.int 1) (zi_i2 (fun x y => x + y) (zi_sld L xs (zi_callV 1 56 s_X12_tastes (zi_if2 (fun x y => x = y) (J) (zi_no)))))))))))))))) ls st h
theorem kL_33 {X : zq_X} {d L : Nat} {xs : Nat → Int32} (C : zq_C X cL_law 8 RL d) (hX : zq_Xs X L xs) {d_X11_tastes : Nat} {s_X11_tastes : zq_Sp} (h_X11_tastes : zq_M yX11_tastes cX11_tastes 4 (some .int) 1 d_X11_tastes s_X11_tastes) (g_X11_tastes : d_X11_tastes + 1 ≤ d) {d_X12_tastes : Nat} {s_X12_tastes : zq_Sp} (h_X12_tastes : zq_M yX12_tastes cX12_tastes 7 (some .int) 1 d_X12_tastes s_X12_tastes) (g_X12_tastes : d_X12_tastes + 1 ≤ d) {J : zq_P} (j : zq_ok X 8 1538 J) : zq_ok X 8 1159 (xL_33 L xs s_X11_tastes s_X12_tastes J) := by
  refine zs_aload_n C dL_law_1159 rfl ?_
  refine zs_aload_n C dL_law_1160 rfl ?_
  refine zs_iload C dL_law_1161 ?_
  refine zs_iconst C dL_law_1163 (by decide) ?_
  refine zs_iadd C dL_law_1164 ?_
  refine zs_sld C hX dL_law_1165 ?_
  refine zs_callV C h_X11_tastes g_X11_tastes zy_X11_tastes zp_0 (show vwCl[11]? = some (RX11, TX11, 16) from rfl) zw_887 zw_888 zs9_X11_tastes dL_law_1166 ?_
  refine zs_aload_n C dL_law_1169 rfl ?_
  refine zs_aload_n C dL_law_1170 rfl ?_
  refine zs_iload C dL_law_1171 ?_
  refine zs_iconst C dL_law_1173 (by decide) ?_
  refine zs_iadd C dL_law_1174 ?_
  refine zs_sld C hX dL_law_1175 ?_
  refine zs_callV C h_X12_tastes g_X12_tastes zy_X12_tastes zp_56 (show vwCl[12]? = some (RX12, TX12, 67) from rfl) zw_1708 zw_1709 zs9_X12_tastes dL_law_1176 ?_
  refine zs_icmp_eq C dL_law_1179 (tgt := 1538) (by decide) ?_ ?_
  · exact j
  · exact zs_no
def xL_34 (L : Nat) (xs : Nat → Int32) (s_X11_offer : zq_Sp) (s_X12_offer : zq_Sp) (J : zq_P) (ls : zq_L) (st : List Value) (h : zq_H) : Prop := (zi_aload 1 (zi_aload 0 (zi_iload 4 (zi_push (.int 1) (zi_i2 (fun x y => x + y) (zi_sld L xs (zi_callV 1 0 s_X11_offer (zi_aload 2 (zi_aload 0 (zi_iload 4 (zi_push (.int 1) (zi_i2 (fun x y => x + y) (zi_sld L xs (zi_callV 1 56 s_X12_offer (zi_if2 (fun x y => x = y) (J) (zi_no)))))))))))))))) ls st h
theorem kL_34 {X : zq_X} {d L : Nat} {xs : Nat → Int32} (C : zq_C X cL_law 8 RL d) (hX : zq_Xs X L xs) {d_X11_offer : Nat} {s_X11_offer : zq_Sp} (h_X11_offer : zq_M yX11_offer cX11_offer 7 (some .int) 1 d_X11_offer s_X11_offer) (g_X11_offer : d_X11_offer + 1 ≤ d) {d_X12_offer : Nat} {s_X12_offer : zq_Sp} (h_X12_offer : zq_M yX12_offer cX12_offer 7 (some .int) 1 d_X12_offer s_X12_offer) (g_X12_offer : d_X12_offer + 1 ≤ d) {J : zq_P} (j : zq_ok X 8 1538 J) : zq_ok X 8 1184 (xL_34 L xs s_X11_offer s_X12_offer J) := by
  refine zs_aload_n C dL_law_1184 rfl ?_
  refine zs_aload_n C dL_law_1185 rfl ?_
  refine zs_iload C dL_law_1186 ?_
  refine zs_iconst C dL_law_1188 (by decide) ?_
  refine zs_iadd C dL_law_1189 ?_
  refine zs_sld C hX dL_law_1190 ?_
  refine zs_callV C h_X11_offer g_X11_offer zy_X11_offer zp_0 (show vwCl[11]? = some (RX11, TX11, 16) from rfl) zw_905 zw_906 zs9_X11_offer dL_law_1191 ?_
  refine zs_aload_n C dL_law_1194 rfl ?_
  refine zs_aload_n C dL_law_1195 rfl ?_
  refine zs_iload C dL_law_1196 ?_
  refine zs_iconst C dL_law_1198 (by decide) ?_
  refine zs_iadd C dL_law_1199 ?_
  refine zs_sld C hX dL_law_1200 ?_
  refine zs_callV C h_X12_offer g_X12_offer zy_X12_offer zp_56 (show vwCl[12]? = some (RX12, TX12, 67) from rfl) zw_1716 zw_1717 zs9_X12_offer dL_law_1201 ?_
  refine zs_icmp_eq C dL_law_1204 (tgt := 1538) (by decide) ?_ ?_
  · exact j
  · exact zs_no
def xL_35 (L : Nat) (xs : Nat → Int32) (s_X11_claims : zq_Sp) (s_X12_claims : zq_Sp) (J : zq_P) (ls : zq_L) (st : List Value) (h : zq_H) : Prop := (zi_aload 1 (zi_callV 0 0 s_X11_claims (zi_aload 2 (zi_callV 0 56 s_X12_claims (zi_if2 (fun x y => x = y) (J) (zi_no)))))) ls st h
theorem kL_35 {X : zq_X} {d L : Nat} {xs : Nat → Int32} (C : zq_C X cL_law 8 RL d) (hX : zq_Xs X L xs) {d_X11_claims : Nat} {s_X11_claims : zq_Sp} (h_X11_claims : zq_M yX11_claims cX11_claims 6 (some .int) 1 d_X11_claims s_X11_claims) (g_X11_claims : d_X11_claims + 1 ≤ d) {d_X12_claims : Nat} {s_X12_claims : zq_Sp} (h_X12_claims : zq_M yX12_claims cX12_claims 6 (some .int) 1 d_X12_claims s_X12_claims) (g_X12_claims : d_X12_claims + 1 ≤ d) {J : zq_P} (j : zq_ok X 8 1538 J) : zq_ok X 8 1209 (xL_35 L xs s_X11_claims s_X12_claims J) := by
  refine zs_aload_n C dL_law_1209 rfl ?_
  refine zs_callV C h_X11_claims g_X11_claims zy_X11_claims zp_0 (show vwCl[11]? = some (RX11, TX11, 16) from rfl) zw_923 zw_924 zs9_X11_claims dL_law_1210 ?_
  refine zs_aload_n C dL_law_1213 rfl ?_
  refine zs_callV C h_X12_claims g_X12_claims zy_X12_claims zp_56 (show vwCl[12]? = some (RX12, TX12, 67) from rfl) zw_1720 zw_1721 zs9_X12_claims dL_law_1214 ?_
  refine zs_icmp_eq C dL_law_1217 (tgt := 1538) (by decide) ?_ ?_
  · exact j
  · exact zs_no
def xL_36 (L : Nat) (xs : Nat → Int32) (s_X11_settle : zq_Sp) (s_X12_settle : zq_Sp) (J : zq_P) (ls : zq_L) (st : List Value) (h : zq_H) : Prop := (zi_aload 1 (zi_aload 0 (zi_iload 4 (zi_push (.int 1) (zi_i2 (fun x y => x + y) (zi_sld L xs (zi_aload 0 (zi_iload 4 (zi_push (.int 2) (zi_i2 (fun x y => x + y) (zi_sld L xs (zi_callV 2 0 s_X11_settle (zi_aload 2 (zi_aload 0 (zi_iload 4 (zi_push (.int 1) (zi_i2 (fun x y => x + y) (zi_sld L xs (zi_aload 0 (zi_iload 4 (zi_push (.int 2) (zi_i2 (fun x y => x + y) (zi_sld L xs (zi_callV 2 56 s_X12_settle (zi_if2 (fun x y => x = y) (J) (zi_no)))))))))))))))))))))))))) ls st h
theorem kL_36 {X : zq_X} {d L : Nat} {xs : Nat → Int32} (C : zq_C X cL_law 8 RL d) (hX : zq_Xs X L xs) {d_X11_settle : Nat} {s_X11_settle : zq_Sp} (h_X11_settle : zq_M yX11_settle cX11_settle 8 (some .int) 1 d_X11_settle s_X11_settle) (g_X11_settle : d_X11_settle + 1 ≤ d) {d_X12_settle : Nat} {s_X12_settle : zq_Sp} (h_X12_settle : zq_M yX12_settle cX12_settle 8 (some .int) 1 d_X12_settle s_X12_settle) (g_X12_settle : d_X12_settle + 1 ≤ d) {J : zq_P} (j : zq_ok X 8 1538 J) : zq_ok X 8 1222 (xL_36 L xs s_X11_settle s_X12_settle J) := by
  refine zs_aload_n C dL_law_1222 rfl ?_
  refine zs_aload_n C dL_law_1223 rfl ?_
  refine zs_iload C dL_law_1224 ?_
  refine zs_iconst C dL_law_1226 (by decide) ?_
  refine zs_iadd C dL_law_1227 ?_
  refine zs_sld C hX dL_law_1228 ?_
  refine zs_aload_n C dL_law_1229 rfl ?_
  refine zs_iload C dL_law_1230 ?_
  refine zs_iconst C dL_law_1232 (by decide) ?_
  refine zs_iadd C dL_law_1233 ?_
  refine zs_sld C hX dL_law_1234 ?_
  refine zs_callV C h_X11_settle g_X11_settle zy_X11_settle zp_0 (show vwCl[11]? = some (RX11, TX11, 16) from rfl) zw_937 zw_938 zs9_X11_settle dL_law_1235 ?_
  refine zs_aload_n C dL_law_1238 rfl ?_
  refine zs_aload_n C dL_law_1239 rfl ?_
  refine zs_iload C dL_law_1240 ?_
  refine zs_iconst C dL_law_1242 (by decide) ?_
  refine zs_iadd C dL_law_1243 ?_
  refine zs_sld C hX dL_law_1244 ?_
  refine zs_aload_n C dL_law_1245 rfl ?_
  refine zs_iload C dL_law_1246 ?_
  refine zs_iconst C dL_law_1248 (by decide) ?_
  refine zs_iadd C dL_law_1249 ?_
  refine zs_sld C hX dL_law_1250 ?_
  refine zs_callV C h_X12_settle g_X12_settle zy_X12_settle zp_56 (show vwCl[12]? = some (RX12, TX12, 67) from rfl) zw_1728 zw_1729 zs9_X12_settle dL_law_1251 ?_
  refine zs_icmp_eq C dL_law_1254 (tgt := 1538) (by decide) ?_ ?_
  · exact j
  · exact zs_no
def xL_37 (L : Nat) (xs : Nat → Int32) (s_X11_nothing : zq_Sp) (s_X12_nothing : zq_Sp) (J : zq_P) (ls : zq_L) (st : List Value) (h : zq_H) : Prop := (zi_aload 1 (zi_callV 0 0 s_X11_nothing (zi_aload 2 (zi_callV 0 56 s_X12_nothing (zi_if2 (fun x y => x = y) (J) (zi_no)))))) ls st h
theorem kL_37 {X : zq_X} {d L : Nat} {xs : Nat → Int32} (C : zq_C X cL_law 8 RL d) (hX : zq_Xs X L xs) {d_X11_nothing : Nat} {s_X11_nothing : zq_Sp} (h_X11_nothing : zq_M yX11_nothing cX11_nothing 5 (some .int) 1 d_X11_nothing s_X11_nothing) (g_X11_nothing : d_X11_nothing + 1 ≤ d) {d_X12_nothing : Nat} {s_X12_nothing : zq_Sp} (h_X12_nothing : zq_M yX12_nothing cX12_nothing 8 (some .int) 1 d_X12_nothing s_X12_nothing) (g_X12_nothing : d_X12_nothing + 1 ≤ d) {J : zq_P} (j : zq_ok X 8 1538 J) : zq_ok X 8 1259 (xL_37 L xs s_X11_nothing s_X12_nothing J) := by
  refine zs_aload_n C dL_law_1259 rfl ?_
  refine zs_callV C h_X11_nothing g_X11_nothing zy_X11_nothing zp_0 (show vwCl[11]? = some (RX11, TX11, 16) from rfl) zw_941 zw_942 zs9_X11_nothing dL_law_1260 ?_
  refine zs_aload_n C dL_law_1263 rfl ?_
  refine zs_callV C h_X12_nothing g_X12_nothing zy_X12_nothing zp_56 (show vwCl[12]? = some (RX12, TX12, 67) from rfl) zw_1733 zw_1734 zs9_X12_nothing dL_law_1264 ?_
  refine zs_icmp_eq C dL_law_1267 (tgt := 1538) (by decide) ?_ ?_
  · exact j
  · exact zs_no
def xL_38 (L : Nat) (xs : Nat → Int32) (s_X11_ate : zq_Sp) (s_X12_ate : zq_Sp) (J : zq_P) (ls : zq_L) (st : List Value) (h : zq_H) : Prop := (zi_aload 1 (zi_aload 0 (zi_iload 4 (zi_push (.int 1) (zi_i2 (fun x y => x + y) (zi_sld L xs (zi_callV 1 0 s_X11_ate (zi_aload 2 (zi_aload 0 (zi_iload 4 (zi_push (.int 1) (zi_i2 (fun x y => x + y) (zi_sld L xs (zi_callV 1 56 s_X12_ate (zi_if2 (fun x y => x = y) (J) (zi_no)))))))))))))))) ls st h
theorem kL_38 {X : zq_X} {d L : Nat} {xs : Nat → Int32} (C : zq_C X cL_law 8 RL d) (hX : zq_Xs X L xs) {d_X11_ate : Nat} {s_X11_ate : zq_Sp} (h_X11_ate : zq_M yX11_ate cX11_ate 7 (some .int) 1 d_X11_ate s_X11_ate) (g_X11_ate : d_X11_ate + 1 ≤ d) {d_X12_ate : Nat} {s_X12_ate : zq_Sp} (h_X12_ate : zq_M yX12_ate cX12_ate 6 (some .int) 1 d_X12_ate s_X12_ate) (g_X12_ate : d_X12_ate + 1 ≤ d) {J : zq_P} (j : zq_ok X 8 1538 J) : zq_ok X 8 1272 (xL_38 L xs s_X11_ate s_X12_ate J) := by
  refine zs_aload_n C dL_law_1272 rfl ?_
  refine zs_aload_n C dL_law_1273 rfl ?_
  refine zs_iload C dL_law_1274 ?_
  refine zs_iconst C dL_law_1276 (by decide) ?_
  refine zs_iadd C dL_law_1277 ?_
  refine zs_sld C hX dL_law_1278 ?_
  refine zs_callV C h_X11_ate g_X11_ate zy_X11_ate zp_0 (show vwCl[11]? = some (RX11, TX11, 16) from rfl) zw_953 zw_954 zs9_X11_ate dL_law_1279 ?_
  refine zs_aload_n C dL_law_1282 rfl ?_
  refine zs_aload_n C dL_law_1283 rfl ?_
  refine zs_iload C dL_law_1284 ?_
  refine zs_iconst C dL_law_1286 (by decide) ?_
  refine zs_iadd C dL_law_1287 ?_
  refine zs_sld C hX dL_law_1288 ?_
  refine zs_callV C h_X12_ate g_X12_ate zy_X12_ate zp_56 (show vwCl[12]? = some (RX12, TX12, 67) from rfl) zw_1741 zw_1742 zs9_X12_ate dL_law_1289 ?_
  refine zs_icmp_eq C dL_law_1292 (tgt := 1538) (by decide) ?_ ?_
  · exact j
  · exact zs_no
def xL_39 (L : Nat) (xs : Nat → Int32) (s_X11_enough : zq_Sp) (s_X12_enough : zq_Sp) (J : zq_P) (ls : zq_L) (st : List Value) (h : zq_H) : Prop := (zi_aload 1 (zi_aload 0 (zi_iload 4 (zi_push (.int 1) (zi_i2 (fun x y => x + y) (zi_sld L xs (zi_aload 0 (zi_iload 4 (zi_push (.int 2) (zi_i2 (fun x y => x + y) (zi_sld L xs (zi_callV 2 0 s_X11_enough (zi_aload 2 (zi_aload 0 (zi_iload 4 (zi_push (.int 1) (zi_i2 (fun x y => x + y) (zi_sld L xs (zi_aload 0 (zi_iload 4 (zi_push (.int 2) (zi_i2 (fun x y => x + y) (zi_sld L xs (zi_callV 2 56 s_X12_enough (zi_if2 (fun x y => x = y) (J) (zi_no)))))))))))))))))))))))))) ls st h
theorem kL_39 {X : zq_X} {d L : Nat} {xs : Nat → Int32} (C : zq_C X cL_law 8 RL d) (hX : zq_Xs X L xs) {d_X11_enough : Nat} {s_X11_enough : zq_Sp} (h_X11_enough : zq_M yX11_enough cX11_enough 3 (some .int) 1 d_X11_enough s_X11_enough) (g_X11_enough : d_X11_enough + 1 ≤ d) {d_X12_enough : Nat} {s_X12_enough : zq_Sp} (h_X12_enough : zq_M yX12_enough cX12_enough 5 (some .int) 1 d_X12_enough s_X12_enough) (g_X12_enough : d_X12_enough + 1 ≤ d) {J : zq_P} (j : zq_ok X 8 1538 J) : zq_ok X 8 1297 (xL_39 L xs s_X11_enough s_X12_enough J) := by
  refine zs_aload_n C dL_law_1297 rfl ?_
  refine zs_aload_n C dL_law_1298 rfl ?_
  refine zs_iload C dL_law_1299 ?_
  refine zs_iconst C dL_law_1301 (by decide) ?_
  refine zs_iadd C dL_law_1302 ?_
  refine zs_sld C hX dL_law_1303 ?_
  refine zs_aload_n C dL_law_1304 rfl ?_
  refine zs_iload C dL_law_1305 ?_
  refine zs_iconst C dL_law_1307 (by decide) ?_
  refine zs_iadd C dL_law_1308 ?_
  refine zs_sld C hX dL_law_1309 ?_
  refine zs_callV C h_X11_enough g_X11_enough zy_X11_enough zp_0 (show vwCl[11]? = some (RX11, TX11, 16) from rfl) zw_958 zw_959 zs9_X11_enough dL_law_1310 ?_
  refine zs_aload_n C dL_law_1313 rfl ?_
  refine zs_aload_n C dL_law_1314 rfl ?_
  refine zs_iload C dL_law_1315 ?_
  refine zs_iconst C dL_law_1317 (by decide) ?_
  refine zs_iadd C dL_law_1318 ?_
  refine zs_sld C hX dL_law_1319 ?_
  refine zs_aload_n C dL_law_1320 rfl ?_
  refine zs_iload C dL_law_1321 ?_
  refine zs_iconst C dL_law_1323 (by decide) ?_
  refine zs_iadd C dL_law_1324 ?_
  refine zs_sld C hX dL_law_1325 ?_
  refine zs_callV C h_X12_enough g_X12_enough zy_X12_enough zp_56 (show vwCl[12]? = some (RX12, TX12, 67) from rfl) zw_1750 zw_1751 zs9_X12_enough dL_law_1326 ?_
  refine zs_icmp_eq C dL_law_1329 (tgt := 1538) (by decide) ?_ ?_
  · exact j
  · exact zs_no
def xL_40 (L : Nat) (xs : Nat → Int32) (s_X11_wide : zq_Sp) (s_X12_wide : zq_Sp) (J : zq_P) (ls : zq_L) (st : List Value) (h : zq_H) : Prop := (zi_aload 1 (zi_aload 0 (zi_iload 4 (zi_push (.int 1) (zi_i2 (fun x y => x + y) (zi_sld L xs (zi_aload 0 (zi_iload 4 (zi_push (.int 2) (zi_i2 (fun x y => x + y) (zi_sld L xs (zi_callV 2 0 s_X11_wide (zi_aload 2 (zi_aload 0 (zi_iload 4 (zi_push (.int 1) (zi_i2 (fun x y => x + y) (zi_sld L xs (zi_aload 0 (zi_iload 4 (zi_push (.int 2) (zi_i2 (fun x y => x + y) (zi_sld L xs (zi_callV 2 56 s_X12_wide (zi_if2 (fun x y => x = y) (J) (zi_no)))))))))))))))))))))))))) ls st h
theorem kL_40 {X : zq_X} {d L : Nat} {xs : Nat → Int32} (C : zq_C X cL_law 8 RL d) (hX : zq_Xs X L xs) {d_X11_wide : Nat} {s_X11_wide : zq_Sp} (h_X11_wide : zq_M yX11_wide cX11_wide 7 (some .int) 1 d_X11_wide s_X11_wide) (g_X11_wide : d_X11_wide + 1 ≤ d) {d_X12_wide : Nat} {s_X12_wide : zq_Sp} (h_X12_wide : zq_M yX12_wide cX12_wide 7 (some .int) 1 d_X12_wide s_X12_wide) (g_X12_wide : d_X12_wide + 1 ≤ d) {J : zq_P} (j : zq_ok X 8 1538 J) : zq_ok X 8 1334 (xL_40 L xs s_X11_wide s_X12_wide J) := by
  refine zs_aload_n C dL_law_1334 rfl ?_
  refine zs_aload_n C dL_law_1335 rfl ?_
  refine zs_iload C dL_law_1336 ?_
  refine zs_iconst C dL_law_1338 (by decide) ?_
  refine zs_iadd C dL_law_1339 ?_
  refine zs_sld C hX dL_law_1340 ?_
  refine zs_aload_n C dL_law_1341 rfl ?_
  refine zs_iload C dL_law_1342 ?_
  refine zs_iconst C dL_law_1344 (by decide) ?_
  refine zs_iadd C dL_law_1345 ?_
  refine zs_sld C hX dL_law_1346 ?_
  refine zs_callV C h_X11_wide g_X11_wide zy_X11_wide zp_0 (show vwCl[11]? = some (RX11, TX11, 16) from rfl) zw_971 zw_972 zs9_X11_wide dL_law_1347 ?_
  refine zs_aload_n C dL_law_1350 rfl ?_
  refine zs_aload_n C dL_law_1351 rfl ?_
  refine zs_iload C dL_law_1352 ?_
  refine zs_iconst C dL_law_1354 (by decide) ?_
  refine zs_iadd C dL_law_1355 ?_
  refine zs_sld C hX dL_law_1356 ?_
  refine zs_aload_n C dL_law_1357 rfl ?_
  refine zs_iload C dL_law_1358 ?_
  refine zs_iconst C dL_law_1360 (by decide) ?_
  refine zs_iadd C dL_law_1361 ?_
  refine zs_sld C hX dL_law_1362 ?_
  refine zs_callV C h_X12_wide g_X12_wide zy_X12_wide zp_56 (show vwCl[12]? = some (RX12, TX12, 67) from rfl) zw_1759 zw_1760 zs9_X12_wide dL_law_1363 ?_
  refine zs_icmp_eq C dL_law_1366 (tgt := 1538) (by decide) ?_ ?_
  · exact j
  · exact zs_no
def xL_41 (L : Nat) (xs : Nat → Int32) (s_X11_suppers : zq_Sp) (s_X12_suppers : zq_Sp) (J : zq_P) (ls : zq_L) (st : List Value) (h : zq_H) : Prop := (zi_aload 1 (zi_aload 0 (zi_iload 4 (zi_push (.int 1) (zi_i2 (fun x y => x + y) (zi_sld L xs (zi_aload 0 (zi_iload 4 (zi_push (.int 2) (zi_i2 (fun x y => x + y) (zi_sld L xs (zi_callV 2 0 s_X11_suppers (zi_aload 2 (zi_aload 0 (zi_iload 4 (zi_push (.int 1) (zi_i2 (fun x y => x + y) (zi_sld L xs (zi_aload 0 (zi_iload 4 (zi_push (.int 2) (zi_i2 (fun x y => x + y) (zi_sld L xs (zi_callV 2 56 s_X12_suppers (zi_if2 (fun x y => x = y) (J) (zi_no)))))))))))))))))))))))))) ls st h
theorem kL_41 {X : zq_X} {d L : Nat} {xs : Nat → Int32} (C : zq_C X cL_law 8 RL d) (hX : zq_Xs X L xs) {d_X11_suppers : Nat} {s_X11_suppers : zq_Sp} (h_X11_suppers : zq_M yX11_suppers cX11_suppers 6 (some .int) 1 d_X11_suppers s_X11_suppers) (g_X11_suppers : d_X11_suppers + 1 ≤ d) {d_X12_suppers : Nat} {s_X12_suppers : zq_Sp} (h_X12_suppers : zq_M yX12_suppers cX12_suppers 6 (some .int) 1 d_X12_suppers s_X12_suppers) (g_X12_suppers : d_X12_suppers + 1 ≤ d) {J : zq_P} (j : zq_ok X 8 1538 J) : zq_ok X 8 1371 (xL_41 L xs s_X11_suppers s_X12_suppers J) := by
  refine zs_aload_n C dL_law_1371 rfl ?_
  refine zs_aload_n C dL_law_1372 rfl ?_
  refine zs_iload C dL_law_1373 ?_
  refine zs_iconst C dL_law_1375 (by decide) ?_
  refine zs_iadd C dL_law_1376 ?_
  refine zs_sld C hX dL_law_1377 ?_
  refine zs_aload_n C dL_law_1378 rfl ?_
  refine zs_iload C dL_law_1379 ?_
  refine zs_iconst C dL_law_1381 (by decide) ?_
  refine zs_iadd C dL_law_1382 ?_
  refine zs_sld C hX dL_law_1383 ?_
  refine zs_callV C h_X11_suppers g_X11_suppers zy_X11_suppers zp_0 (show vwCl[11]? = some (RX11, TX11, 16) from rfl) zw_975 zw_976 zs9_X11_suppers dL_law_1384 ?_
  refine zs_aload_n C dL_law_1387 rfl ?_
  refine zs_aload_n C dL_law_1388 rfl ?_
  refine zs_iload C dL_law_1389 ?_
  refine zs_iconst C dL_law_1391 (by decide) ?_
  refine zs_iadd C dL_law_1392 ?_
  refine zs_sld C hX dL_law_1393 ?_
  refine zs_aload_n C dL_law_1394 rfl ?_
  refine zs_iload C dL_law_1395 ?_
  refine zs_iconst C dL_law_1397 (by decide) ?_
  refine zs_iadd C dL_law_1398 ?_
  refine zs_sld C hX dL_law_1399 ?_
  refine zs_callV C h_X12_suppers g_X12_suppers zy_X12_suppers zp_56 (show vwCl[12]? = some (RX12, TX12, 67) from rfl) zw_1763 zw_1764 zs9_X12_suppers dL_law_1400 ?_
  refine zs_icmp_eq C dL_law_1403 (tgt := 1538) (by decide) ?_ ?_
  · exact j
  · exact zs_no
def xL_42 (L : Nat) (xs : Nat → Int32) (s_X11_keep : zq_Sp) (s_X12_keep : zq_Sp) (J : zq_P) (ls : zq_L) (st : List Value) (h : zq_H) : Prop := (zi_aload 1 (zi_aload 0 (zi_iload 4 (zi_push (.int 1) (zi_i2 (fun x y => x + y) (zi_sld L xs (zi_callV 1 0 s_X11_keep (zi_aload 2 (zi_aload 0 (zi_iload 4 (zi_push (.int 1) (zi_i2 (fun x y => x + y) (zi_sld L xs (zi_callV 1 56 s_X12_keep (zi_if2 (fun x y => x = y) (J) (zi_no)))))))))))))))) ls st h
theorem kL_42 {X : zq_X} {d L : Nat} {xs : Nat → Int32} (C : zq_C X cL_law 8 RL d) (hX : zq_Xs X L xs) {d_X11_keep : Nat} {s_X11_keep : zq_Sp} (h_X11_keep : zq_M yX11_keep cX11_keep 2 (some .boolean) 1 d_X11_keep s_X11_keep) (g_X11_keep : d_X11_keep + 1 ≤ d) {d_X12_keep : Nat} {s_X12_keep : zq_Sp} (h_X12_keep : zq_M yX12_keep cX12_keep 3 (some .boolean) 1 d_X12_keep s_X12_keep) (g_X12_keep : d_X12_keep + 1 ≤ d) {J : zq_P} (j : zq_ok X 8 1538 J) : zq_ok X 8 1408 (xL_42 L xs s_X11_keep s_X12_keep J) := by
  refine zs_aload_n C dL_law_1408 rfl ?_
  refine zs_aload_n C dL_law_1409 rfl ?_
  refine zs_iload C dL_law_1410 ?_
  refine zs_iconst C dL_law_1412 (by decide) ?_
  refine zs_iadd C dL_law_1413 ?_
  refine zs_sld C hX dL_law_1414 ?_
  refine zs_callV C h_X11_keep g_X11_keep zy_X11_keep zp_0 (show vwCl[11]? = some (RX11, TX11, 16) from rfl) zw_980 zw_981 zs9_X11_keep dL_law_1415 ?_
  refine zs_aload_n C dL_law_1418 rfl ?_
  refine zs_aload_n C dL_law_1419 rfl ?_
  refine zs_iload C dL_law_1420 ?_
  refine zs_iconst C dL_law_1422 (by decide) ?_
  refine zs_iadd C dL_law_1423 ?_
  refine zs_sld C hX dL_law_1424 ?_
  refine zs_callV C h_X12_keep g_X12_keep zy_X12_keep zp_56 (show vwCl[12]? = some (RX12, TX12, 67) from rfl) zw_1769 zw_1770 zs9_X12_keep dL_law_1425 ?_
  refine zs_icmp_eq C dL_law_1428 (tgt := 1538) (by decide) ?_ ?_
  · exact j
  · exact zs_no
def xL_43 (L : Nat) (xs : Nat → Int32) (s_X11_again : zq_Sp) (s_X12_again : zq_Sp) (J : zq_P) (ls : zq_L) (st : List Value) (h : zq_H) : Prop := (zi_aload 1 (zi_aload 0 (zi_iload 4 (zi_push (.int 1) (zi_i2 (fun x y => x + y) (zi_sld L xs (zi_callV 1 0 s_X11_again (zi_aload 2 (zi_aload 0 (zi_iload 4 (zi_push (.int 1) (zi_i2 (fun x y => x + y) (zi_sld L xs (zi_callV 1 56 s_X12_again (zi_if2 (fun x y => x = y) (J) (zi_no)))))))))))))))) ls st h
theorem kL_43 {X : zq_X} {d L : Nat} {xs : Nat → Int32} (C : zq_C X cL_law 8 RL d) (hX : zq_Xs X L xs) {d_X11_again : Nat} {s_X11_again : zq_Sp} (h_X11_again : zq_M yX11_again cX11_again 2 (some .boolean) 1 d_X11_again s_X11_again) (g_X11_again : d_X11_again + 1 ≤ d) {d_X12_again : Nat} {s_X12_again : zq_Sp} (h_X12_again : zq_M yX12_again cX12_again 3 (some .boolean) 1 d_X12_again s_X12_again) (g_X12_again : d_X12_again + 1 ≤ d) {J : zq_P} (j : zq_ok X 8 1538 J) : zq_ok X 8 1433 (xL_43 L xs s_X11_again s_X12_again J) := by
  refine zs_aload_n C dL_law_1433 rfl ?_
  refine zs_aload_n C dL_law_1434 rfl ?_
  refine zs_iload C dL_law_1435 ?_
  refine zs_iconst C dL_law_1437 (by decide) ?_
  refine zs_iadd C dL_law_1438 ?_
  refine zs_sld C hX dL_law_1439 ?_
  refine zs_callV C h_X11_again g_X11_again zy_X11_again zp_0 (show vwCl[11]? = some (RX11, TX11, 16) from rfl) zw_988 zw_989 zs9_X11_again dL_law_1440 ?_
  refine zs_aload_n C dL_law_1443 rfl ?_
  refine zs_aload_n C dL_law_1444 rfl ?_
  refine zs_iload C dL_law_1445 ?_
  refine zs_iconst C dL_law_1447 (by decide) ?_
  refine zs_iadd C dL_law_1448 ?_
  refine zs_sld C hX dL_law_1449 ?_
  refine zs_callV C h_X12_again g_X12_again zy_X12_again zp_56 (show vwCl[12]? = some (RX12, TX12, 67) from rfl) zw_1773 zw_1774 zs9_X12_again dL_law_1450 ?_
  refine zs_icmp_eq C dL_law_1453 (tgt := 1538) (by decide) ?_ ?_
  · exact j
  · exact zs_no
def xL_44 (L : Nat) (xs : Nat → Int32) (s_X11_count : zq_Sp) (s_X12_count : zq_Sp) (J : zq_P) (ls : zq_L) (st : List Value) (h : zq_H) : Prop := (zi_aload 1 (zi_aload 0 (zi_iload 4 (zi_push (.int 1) (zi_i2 (fun x y => x + y) (zi_sld L xs (zi_callV 1 0 s_X11_count (zi_aload 2 (zi_aload 0 (zi_iload 4 (zi_push (.int 1) (zi_i2 (fun x y => x + y) (zi_sld L xs (zi_callV 1 56 s_X12_count (zi_if2 (fun x y => x = y) (J) (zi_no)))))))))))))))) ls st h
theorem kL_44 {X : zq_X} {d L : Nat} {xs : Nat → Int32} (C : zq_C X cL_law 8 RL d) (hX : zq_Xs X L xs) {d_X11_count : Nat} {s_X11_count : zq_Sp} (h_X11_count : zq_M yX11_count cX11_count 2 (some .int) 1 d_X11_count s_X11_count) (g_X11_count : d_X11_count + 1 ≤ d) {d_X12_count : Nat} {s_X12_count : zq_Sp} (h_X12_count : zq_M yX12_count cX12_count 2 (some .int) 1 d_X12_count s_X12_count) (g_X12_count : d_X12_count + 1 ≤ d) {J : zq_P} (j : zq_ok X 8 1538 J) : zq_ok X 8 1458 (xL_44 L xs s_X11_count s_X12_count J) := by
  refine zs_aload_n C dL_law_1458 rfl ?_
  refine zs_aload_n C dL_law_1459 rfl ?_
  refine zs_iload C dL_law_1460 ?_
  refine zs_iconst C dL_law_1462 (by decide) ?_
  refine zs_iadd C dL_law_1463 ?_
  refine zs_sld C hX dL_law_1464 ?_
  refine zs_callV C h_X11_count g_X11_count zy_X11_count zp_0 (show vwCl[11]? = some (RX11, TX11, 16) from rfl) zw_996 zw_997 zs9_X11_count dL_law_1465 ?_
  refine zs_aload_n C dL_law_1468 rfl ?_
  refine zs_aload_n C dL_law_1469 rfl ?_
  refine zs_iload C dL_law_1470 ?_
  refine zs_iconst C dL_law_1472 (by decide) ?_
  refine zs_iadd C dL_law_1473 ?_
  refine zs_sld C hX dL_law_1474 ?_
  refine zs_callV C h_X12_count g_X12_count zy_X12_count zp_56 (show vwCl[12]? = some (RX12, TX12, 67) from rfl) zw_1777 zw_1778 zs9_X12_count dL_law_1475 ?_
  refine zs_icmp_eq C dL_law_1478 (tgt := 1538) (by decide) ?_ ?_
  · exact j
  · exact zs_no
def xL_45 (L : Nat) (xs : Nat → Int32) (s_X12_row : zq_Sp) (J : zq_P) (ls : zq_L) (st : List Value) (h : zq_H) : Prop := (zi_aload 1 (zi_aload 0 (zi_iload 4 (zi_push (.int 1) (zi_i2 (fun x y => x + y) (zi_sld L xs (zi_aload 3 (zi_callS 3 sp_LRow (zi_istore 5 (zi_aload 2 (zi_aload 0 (zi_iload 4 (zi_push (.int 1) (zi_i2 (fun x y => x + y) (zi_sld L xs (zi_callV 1 56 s_X12_row (zi_lstore 6 (zi_aload 2 (zi_callV 0 56 sp_thrown (zi_iload 5 (zi_if2 (fun x y => x = y) (zi_iload 5 (zi_if1 (fun x => x = 0) (zi_aload 3 (zi_push (.int 0) (zi_aldL 102 1 (zi_lload 6 (zi_lcmp (zi_if1 (fun x => x = 0) (J) (zi_no))))))) (J))) (zi_no)))))))))))))))))))))) ls st h
theorem kL_45 {X : zq_X} {d L : Nat} {xs : Nat → Int32} (C : zq_C X cL_law 8 RL d) (hX : zq_Xs X L xs) (hTX : zq_TX X) (hd9 : 30 ≤ d) {d_X12_row : Nat} {s_X12_row : zq_Sp} (h_X12_row : zq_M yX12_row cX12_row 2 (some .long) 2 d_X12_row s_X12_row) (g_X12_row : d_X12_row + 1 ≤ d) {J : zq_P} (j : zq_ok (zq_up X) 8 1538 J) : zq_ok X 8 1483 (xL_45 L xs s_X12_row J) := by
  have C1 := zq_C_up C hTX
  have hX1 := zq_Xs_up hX
  refine zs_aload_n C dL_law_1483 rfl ?_
  refine zs_aload_n C dL_law_1484 rfl ?_
  refine zs_iload C dL_law_1485 ?_
  refine zs_iconst C dL_law_1487 (by decide) ?_
  refine zs_iadd C dL_law_1488 ?_
  refine zs_sld C hX dL_law_1489 ?_
  refine zs_aload_n C dL_law_1490 rfl ?_
  refine zs_callH C hTX ok_LRow (by omega) zl_L_row zw_0 (by decide +kernel) (by decide) zw_1082 zw_1083 dL_law_1491 ?_
  refine zs_istore C1 dL_law_1494 (by decide) ?_
  refine zs_aload_n C1 dL_law_1496 rfl ?_
  refine zs_aload_n C1 dL_law_1497 rfl ?_
  refine zs_iload C1 dL_law_1498 ?_
  refine zs_iconst C1 dL_law_1500 (by decide) ?_
  refine zs_iadd C1 dL_law_1501 ?_
  refine zs_sld C1 hX1 dL_law_1502 ?_
  refine zs_callV C1 h_X12_row g_X12_row zy_X12_row zp_56 (show vwCl[12]? = some (RX12, TX12, 67) from rfl) zw_1781 zw_1782 zs9_X12_row dL_law_1503 ?_
  refine zs_lstore C1 dL_law_1506 (by decide) ?_
  refine zs_aload_n C1 dL_law_1508 rfl ?_
  refine zs_callV C1 ok_thrown (by omega) zy_X12_thrown zp_56 (show vwCl[12]? = some (RX12, TX12, 67) from rfl) zw_1299 zw_1300 zs9_X12_thrown dL_law_1509 ?_
  refine zs_iload C1 dL_law_1512 ?_
  refine zs_icmp_eq C1 dL_law_1514 (tgt := 1519) (by decide) ?_ ?_
  · refine zs_iload C1 dL_law_1519 ?_
    refine zs_if_ne C1 dL_law_1521 (tgt := 1535) (by decide) ?_ ?_
    · refine zs_goto (tgt := 1538) C1 dL_law_1535 (by decide) ?_
      exact j
    · refine zs_aload_n C1 dL_law_1524 rfl ?_
      refine zs_iconst C1 dL_law_1525 (by decide) ?_
      refine zs_laload C1 zp_102 dL_law_1526 ?_
      refine zs_lload C1 dL_law_1527 ?_
      refine zs_lcmp C1 dL_law_1529 ?_
      refine zs_if_eq C1 dL_law_1530 (tgt := 1535) (by decide) ?_ ?_
      · refine zs_goto (tgt := 1538) C1 dL_law_1535 (by decide) ?_
        exact j
      · exact zs_no
  · exact zs_no
def xL_head (L : Nat) (xs : Nat → Int32) (P : Nat → zq_P) (E N : zq_P) (ls : zq_L) (st : List Value) (h : zq_H) : Prop := (zi_iload 4 (zi_aload 0 (zi_slen L (zi_push (.int 5) (zi_i2 (fun x y => x - y) (zi_if2 (fun x y => y < x) E (zi_aload 0 (zi_iload 4 (zi_sld L xs (zi_push (.int 63) (zi_i2 (fun x y => x &&& y) (zi_sw [(0, P 0), (1, P 1), (2, P 2), (3, P 3), (4, P 4), (5, P 5), (6, P 6), (7, P 7), (8, P 8), (9, P 9), (10, P 10), (11, P 11), (12, P 12), (13, P 13), (14, P 14), (15, P 15), (16, P 16), (17, P 17), (18, P 18), (19, P 19), (20, P 20), (21, P 21), (22, P 22), (23, P 23), (24, P 24), (25, P 25), (26, P 26), (27, P 27), (28, P 28), (29, P 29), (30, P 30), (31, P 31), (32, P 32), (33, P 33), (34, P 34), (35, P 35), (36, P 36), (37, P 37), (38, P 38), (39, P 39), (40, P 40), (41, P 41), (42, P 42), (43, P 43), (44, P 44), (45, P 45)] N)))))))))))) ls st h
theorem kL_head {X : zq_X} {d L : Nat} {xs : Nat → Int32} (C : zq_C X cL_law 8 RL d) (hX : zq_Xs X L xs) {P : Nat → zq_P} {E N : zq_P} (jE : zq_ok X 8 1544 E) (jN : zq_ok X 8 1538 N) (j0 : zq_ok X 8 236 (P 0)) (j1 : zq_ok X 8 261 (P 1)) (j2 : zq_ok X 8 286 (P 2)) (j3 : zq_ok X 8 299 (P 3)) (j4 : zq_ok X 8 312 (P 4)) (j5 : zq_ok X 8 325 (P 5)) (j6 : zq_ok X 8 338 (P 6)) (j7 : zq_ok X 8 406 (P 7)) (j8 : zq_ok X 8 474 (P 8)) (j9 : zq_ok X 8 511 (P 9)) (j10 : zq_ok X 8 560 (P 10)) (j11 : zq_ok X 8 621 (P 11)) (j12 : zq_ok X 8 670 (P 12)) (j13 : zq_ok X 8 707 (P 13)) (j14 : zq_ok X 8 732 (P 14)) (j15 : zq_ok X 8 745 (P 15)) (j16 : zq_ok X 8 758 (P 16)) (j17 : zq_ok X 8 795 (P 17)) (j18 : zq_ok X 8 808 (P 18)) (j19 : zq_ok X 8 821 (P 19)) (j20 : zq_ok X 8 834 (P 20)) (j21 : zq_ok X 8 859 (P 21)) (j22 : zq_ok X 8 896 (P 22)) (j23 : zq_ok X 8 921 (P 23)) (j24 : zq_ok X 8 934 (P 24)) (j25 : zq_ok X 8 947 (P 25)) (j26 : zq_ok X 8 984 (P 26)) (j27 : zq_ok X 8 1021 (P 27)) (j28 : zq_ok X 8 1034 (P 28)) (j29 : zq_ok X 8 1071 (P 29)) (j30 : zq_ok X 8 1084 (P 30)) (j31 : zq_ok X 8 1109 (P 31)) (j32 : zq_ok X 8 1146 (P 32)) (j33 : zq_ok X 8 1159 (P 33)) (j34 : zq_ok X 8 1184 (P 34)) (j35 : zq_ok X 8 1209 (P 35)) (j36 : zq_ok X 8 1222 (P 36)) (j37 : zq_ok X 8 1259 (P 37)) (j38 : zq_ok X 8 1272 (P 38)) (j39 : zq_ok X 8 1297 (P 39)) (j40 : zq_ok X 8 1334 (P 40)) (j41 : zq_ok X 8 1371 (P 41)) (j42 : zq_ok X 8 1408 (P 42)) (j43 : zq_ok X 8 1433 (P 43)) (j44 : zq_ok X 8 1458 (P 44)) (j45 : zq_ok X 8 1483 (P 45)) : zq_ok X 8 23 (xL_head L xs P E N) := by
  refine zs_iload C dL_law_23 ?_
  refine zs_aload_n C dL_law_25 rfl ?_
  refine zs_slen C hX dL_law_26 ?_
  refine zs_iconst C dL_law_27 (by decide) ?_
  refine zs_isub C dL_law_28 ?_
  refine zs_icmp_gt C dL_law_29 (tgt := 1544) (by decide) jE ?_
  refine zs_aload_n C dL_law_32 rfl ?_
  refine zs_iload C dL_law_33 ?_
  refine zs_sld C hX dL_law_35 ?_
  refine zs_bipush C dL_law_36 (by decide) ?_
  refine zs_iand C dL_law_38 ?_
  exact zs_tsw C dL_law_39 (by rfl) ⟨⟨by decide, _, _, rfl, by decide, j0⟩, ⟨by decide, _, _, rfl, by decide, j1⟩, ⟨by decide, _, _, rfl, by decide, j2⟩, ⟨by decide, _, _, rfl, by decide, j3⟩, ⟨by decide, _, _, rfl, by decide, j4⟩, ⟨by decide, _, _, rfl, by decide, j5⟩, ⟨by decide, _, _, rfl, by decide, j6⟩, ⟨by decide, _, _, rfl, by decide, j7⟩, ⟨by decide, _, _, rfl, by decide, j8⟩, ⟨by decide, _, _, rfl, by decide, j9⟩, ⟨by decide, _, _, rfl, by decide, j10⟩, ⟨by decide, _, _, rfl, by decide, j11⟩, ⟨by decide, _, _, rfl, by decide, j12⟩, ⟨by decide, _, _, rfl, by decide, j13⟩, ⟨by decide, _, _, rfl, by decide, j14⟩, ⟨by decide, _, _, rfl, by decide, j15⟩, ⟨by decide, _, _, rfl, by decide, j16⟩, ⟨by decide, _, _, rfl, by decide, j17⟩, ⟨by decide, _, _, rfl, by decide, j18⟩, ⟨by decide, _, _, rfl, by decide, j19⟩, ⟨by decide, _, _, rfl, by decide, j20⟩, ⟨by decide, _, _, rfl, by decide, j21⟩, ⟨by decide, _, _, rfl, by decide, j22⟩, ⟨by decide, _, _, rfl, by decide, j23⟩, ⟨by decide, _, _, rfl, by decide, j24⟩, ⟨by decide, _, _, rfl, by decide, j25⟩, ⟨by decide, _, _, rfl, by decide, j26⟩, ⟨by decide, _, _, rfl, by decide, j27⟩, ⟨by decide, _, _, rfl, by decide, j28⟩, ⟨by decide, _, _, rfl, by decide, j29⟩, ⟨by decide, _, _, rfl, by decide, j30⟩, ⟨by decide, _, _, rfl, by decide, j31⟩, ⟨by decide, _, _, rfl, by decide, j32⟩, ⟨by decide, _, _, rfl, by decide, j33⟩, ⟨by decide, _, _, rfl, by decide, j34⟩, ⟨by decide, _, _, rfl, by decide, j35⟩, ⟨by decide, _, _, rfl, by decide, j36⟩, ⟨by decide, _, _, rfl, by decide, j37⟩, ⟨by decide, _, _, rfl, by decide, j38⟩, ⟨by decide, _, _, rfl, by decide, j39⟩, ⟨by decide, _, _, rfl, by decide, j40⟩, ⟨by decide, _, _, rfl, by decide, j41⟩, ⟨by decide, _, _, rfl, by decide, j42⟩, ⟨by decide, _, _, rfl, by decide, j43⟩, ⟨by decide, _, _, rfl, by decide, j44⟩, ⟨by decide, _, _, rfl, by decide, j45⟩, trivial⟩ (by decide) jN
def xL_next (J : zq_P) (ls : zq_L) (st : List Value) (h : zq_H) : Prop := (zi_iinc 4 5 J) ls st h
theorem kL_next {X : zq_X} {d : Nat} (C : zq_C X cL_law 8 RL d) {J : zq_P} (j : zq_ok X 8 23 J) : zq_ok X 8 1538 (xL_next J) := by
  refine zs_iinc C dL_law_1538 (by decide) (by decide) ?_
  exact zs_goto (tgt := 23) C dL_law_1541 (by decide) j
