/-! Printed by wip/vi/gen6.py: the cases. -/
set_option maxRecDepth 100000 in
theorem zc_L0 : zcasB zNf 0 = true := by decide +kernel
set_option maxRecDepth 100000 in
theorem zc_L1 : zcasB zNf 1 = true := by decide +kernel
set_option maxRecDepth 100000 in
theorem zc_L2 : zcasB zNf 2 = true := by decide +kernel
set_option maxRecDepth 100000 in
theorem zc_L3 : zcasB zNf 3 = true := by decide +kernel
set_option maxRecDepth 100000 in
theorem zc_L4 : zcasB zNf 4 = true := by decide +kernel
set_option maxRecDepth 100000 in
theorem zc_L5 : zcasB zNf 5 = true := by decide +kernel
set_option maxRecDepth 100000 in
theorem zc_0_0 : zcasB (zNc 0 0 4294967295) 6 = true := by decide +kernel
set_option maxRecDepth 100000 in
theorem zc_1_0 : zcasB (zNc 1 0 2147483647) 6 = true := by decide +kernel
set_option maxRecDepth 100000 in
theorem zc_1_1 : zcasB (zNc 1 2147483648 2147483648) 6 = true := by decide +kernel
set_option maxRecDepth 100000 in
theorem zc_1_2 : zcasB (zNc 1 2147483649 4294967295) 6 = true := by decide +kernel
set_option maxRecDepth 100000 in
theorem zc_2_0 : zcasB (zNc 2 0 4294967295) 6 = true := by decide +kernel
set_option maxRecDepth 100000 in
theorem zc_3_0 : zcasB (zNc 3 0 4294967295) 6 = true := by decide +kernel
set_option maxRecDepth 100000 in
theorem zc_4_0 : zcasB (zNc 4 0 4294967295) 6 = true := by decide +kernel
set_option maxRecDepth 100000 in
theorem zc_5_0 : zcasB (zNc 5 0 0) 6 = true := by decide +kernel
set_option maxRecDepth 100000 in
theorem zc_5_1 : zcasB (zNc 5 1 4294967295) 6 = true := by decide +kernel
set_option maxRecDepth 100000 in
theorem zc_6_0 : zcasB (zNc 6 0 2147483647) 6 = true := by decide +kernel
set_option maxRecDepth 100000 in
theorem zc_6_1 : zcasB (zNc 6 2147483648 2147503648) 6 = true := by decide +kernel
set_option maxRecDepth 100000 in
theorem zc_6_2 : zcasB (zNc 6 2147503649 4294967295) 6 = true := by decide +kernel
set_option maxRecDepth 100000 in
theorem zc_7_0 : zcasB (zNc 7 0 2147483647) 6 = true := by decide +kernel
set_option maxRecDepth 100000 in
theorem zc_7_1 : zcasB (zNc 7 2147483648 2147483648) 6 = true := by decide +kernel
set_option maxRecDepth 100000 in
theorem zc_7_2 : zcasB (zNc 7 2147483649 2147483649) 6 = true := by decide +kernel
set_option maxRecDepth 100000 in
theorem zc_7_3 : zcasB (zNc 7 2147483650 2147483650) 6 = true := by decide +kernel
set_option maxRecDepth 100000 in
theorem zc_7_4 : zcasB (zNc 7 2147483651 2147483651) 6 = true := by decide +kernel
set_option maxRecDepth 100000 in
theorem zc_7_5 : zcasB (zNc 7 2147483652 2147483652) 6 = true := by decide +kernel
set_option maxRecDepth 100000 in
theorem zc_7_6 : zcasB (zNc 7 2147483653 2147483653) 6 = true := by decide +kernel
set_option maxRecDepth 100000 in
theorem zc_7_7 : zcasB (zNc 7 2147483654 2147483654) 6 = true := by decide +kernel
set_option maxRecDepth 100000 in
theorem zc_7_8 : zcasB (zNc 7 2147483655 2147483655) 6 = true := by decide +kernel
set_option maxRecDepth 100000 in
theorem zc_7_9 : zcasB (zNc 7 2147483656 2147483656) 6 = true := by decide +kernel
set_option maxRecDepth 100000 in
theorem zc_7_10 : zcasB (zNc 7 2147483657 2147483657) 6 = true := by decide +kernel
set_option maxRecDepth 100000 in
theorem zc_7_11 : zcasB (zNc 7 2147483658 2147483658) 6 = true := by decide +kernel
set_option maxRecDepth 100000 in
theorem zc_7_12 : zcasB (zNc 7 2147483659 2147483659) 6 = true := by decide +kernel
set_option maxRecDepth 100000 in
theorem zc_7_13 : zcasB (zNc 7 2147483660 4294967295) 6 = true := by decide +kernel
set_option maxRecDepth 100000 in
theorem zc_8_0 : zcasB (zNc 8 0 2147483647) 6 = true := by decide +kernel
set_option maxRecDepth 100000 in
theorem zc_8_1 : zcasB (zNc 8 2147483648 4294967295) 6 = true := by decide +kernel
set_option maxRecDepth 100000 in
theorem zc_9_0 : zcasB (zNc 9 0 2147483647) 6 = true := by decide +kernel
set_option maxRecDepth 100000 in
theorem zc_9_1 : zcasB (zNc 9 2147483648 4294967295) 6 = true := by decide +kernel
set_option maxRecDepth 100000 in
theorem zc_10_0 : zcasB (zNc 10 0 2147483647) 6 = true := by decide +kernel
set_option maxRecDepth 100000 in
theorem zc_10_1 : zcasB (zNc 10 2147483648 4294967295) 6 = true := by decide +kernel
set_option maxRecDepth 100000 in
theorem zc_11_0 : zcasB (zNc 11 0 2147483648) 6 = true := by decide +kernel
set_option maxRecDepth 100000 in
theorem zc_11_1 : zcasB (zNc 11 2147483649 4294967295) 6 = true := by decide +kernel
set_option maxRecDepth 100000 in
theorem zc_12_0 : zcasB (zNc 12 0 2147483648) 6 = true := by decide +kernel
set_option maxRecDepth 100000 in
theorem zc_12_1 : zcasB (zNc 12 2147483649 4294967295) 6 = true := by decide +kernel
set_option maxRecDepth 100000 in
theorem zc_13_0 : zcasB (zNc 13 0 2147483647) 6 = true := by decide +kernel
set_option maxRecDepth 100000 in
theorem zc_13_1 : zcasB (zNc 13 2147483648 2147483648) 6 = true := by decide +kernel
set_option maxRecDepth 100000 in
theorem zc_13_2 : zcasB (zNc 13 2147483649 2147503647) 6 = true := by decide +kernel
set_option maxRecDepth 100000 in
theorem zc_13_3 : zcasB (zNc 13 2147503648 4294967295) 6 = true := by decide +kernel
set_option maxRecDepth 100000 in
theorem zc_14_0 : zcasB (zNc 14 0 4294967295) 6 = true := by decide +kernel
set_option maxRecDepth 100000 in
theorem zc_15_0 : zcasB (zNc 15 0 4294967295) 6 = true := by decide +kernel
