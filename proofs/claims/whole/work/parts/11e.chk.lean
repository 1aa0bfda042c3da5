theorem am_t70_0 : (((am_r70.drop 0).take 24).all fun q => decide (decode (am_by 70) q.1 = .ok (q.2.1, q.2.2.1)) && am_ok 70 q.1 q.2) = true := by decide +kernel
theorem am_t70_1 : (((am_r70.drop 24).take 24).all fun q => decide (decode (am_by 70) q.1 = .ok (q.2.1, q.2.2.1)) && am_ok 70 q.1 q.2) = true := by decide +kernel
theorem am_t70_2 : (((am_r70.drop 48).take 24).all fun q => decide (decode (am_by 70) q.1 = .ok (q.2.1, q.2.2.1)) && am_ok 70 q.1 q.2) = true := by decide +kernel
theorem am_t70_3 : (((am_r70.drop 72).take 24).all fun q => decide (decode (am_by 70) q.1 = .ok (q.2.1, q.2.2.1)) && am_ok 70 q.1 q.2) = true := by decide +kernel
theorem am_t70_4 : (((am_r70.drop 96).take 24).all fun q => decide (decode (am_by 70) q.1 = .ok (q.2.1, q.2.2.1)) && am_ok 70 q.1 q.2) = true := by decide +kernel
theorem am_t70_5 : ((am_r70.drop 120).all fun q => decide (decode (am_by 70) q.1 = .ok (q.2.1, q.2.2.1)) && am_ok 70 q.1 q.2) = true := by decide +kernel
theorem am_u70_4 : ((am_r70.drop 96).all fun q => decide (decode (am_by 70) q.1 = .ok (q.2.1, q.2.2.1)) && am_ok 70 q.1 q.2) = true := am_alltd 24 am_t70_4 (by rw [List.drop_drop]; exact am_t70_5)
theorem am_u70_3 : ((am_r70.drop 72).all fun q => decide (decode (am_by 70) q.1 = .ok (q.2.1, q.2.2.1)) && am_ok 70 q.1 q.2) = true := am_alltd 24 am_t70_3 (by rw [List.drop_drop]; exact am_u70_4)
theorem am_u70_2 : ((am_r70.drop 48).all fun q => decide (decode (am_by 70) q.1 = .ok (q.2.1, q.2.2.1)) && am_ok 70 q.1 q.2) = true := am_alltd 24 am_t70_2 (by rw [List.drop_drop]; exact am_u70_3)
theorem am_u70_1 : ((am_r70.drop 24).all fun q => decide (decode (am_by 70) q.1 = .ok (q.2.1, q.2.2.1)) && am_ok 70 q.1 q.2) = true := am_alltd 24 am_t70_1 (by rw [List.drop_drop]; exact am_u70_2)
theorem am_u70_0 : ((am_r70.drop 0).all fun q => decide (decode (am_by 70) q.1 = .ok (q.2.1, q.2.2.1)) && am_ok 70 q.1 q.2) = true := am_alltd 24 am_t70_0 (by rw [List.drop_drop]; exact am_u70_1)
theorem am_t70 : (am_r70.all fun q => decide (decode (am_by 70) q.1 = .ok (q.2.1, q.2.2.1)) && am_ok 70 q.1 q.2) = true := am_u70_0
theorem am_t71_0 : (((am_r71.drop 0).take 24).all fun q => decide (decode (am_by 71) q.1 = .ok (q.2.1, q.2.2.1)) && am_ok 71 q.1 q.2) = true := by decide +kernel
theorem am_t71_1 : ((am_r71.drop 24).all fun q => decide (decode (am_by 71) q.1 = .ok (q.2.1, q.2.2.1)) && am_ok 71 q.1 q.2) = true := by decide +kernel
theorem am_u71_0 : ((am_r71.drop 0).all fun q => decide (decode (am_by 71) q.1 = .ok (q.2.1, q.2.2.1)) && am_ok 71 q.1 q.2) = true := am_alltd 24 am_t71_0 (by rw [List.drop_drop]; exact am_t71_1)
theorem am_t71 : (am_r71.all fun q => decide (decode (am_by 71) q.1 = .ok (q.2.1, q.2.2.1)) && am_ok 71 q.1 q.2) = true := am_u71_0
theorem am_t72 : (am_r72.all fun q => decide (decode (am_by 72) q.1 = .ok (q.2.1, q.2.2.1)) && am_ok 72 q.1 q.2) = true := by decide +kernel
theorem am_t73_0 : (((am_r73.drop 0).take 24).all fun q => decide (decode (am_by 73) q.1 = .ok (q.2.1, q.2.2.1)) && am_ok 73 q.1 q.2) = true := by decide +kernel
theorem am_t73_1 : ((am_r73.drop 24).all fun q => decide (decode (am_by 73) q.1 = .ok (q.2.1, q.2.2.1)) && am_ok 73 q.1 q.2) = true := by decide +kernel
theorem am_u73_0 : ((am_r73.drop 0).all fun q => decide (decode (am_by 73) q.1 = .ok (q.2.1, q.2.2.1)) && am_ok 73 q.1 q.2) = true := am_alltd 24 am_t73_0 (by rw [List.drop_drop]; exact am_t73_1)
theorem am_t73 : (am_r73.all fun q => decide (decode (am_by 73) q.1 = .ok (q.2.1, q.2.2.1)) && am_ok 73 q.1 q.2) = true := am_u73_0
theorem am_t74_0 : (((am_r74.drop 0).take 24).all fun q => decide (decode (am_by 74) q.1 = .ok (q.2.1, q.2.2.1)) && am_ok 74 q.1 q.2) = true := by decide +kernel
theorem am_t74_1 : ((am_r74.drop 24).all fun q => decide (decode (am_by 74) q.1 = .ok (q.2.1, q.2.2.1)) && am_ok 74 q.1 q.2) = true := by decide +kernel
theorem am_u74_0 : ((am_r74.drop 0).all fun q => decide (decode (am_by 74) q.1 = .ok (q.2.1, q.2.2.1)) && am_ok 74 q.1 q.2) = true := am_alltd 24 am_t74_0 (by rw [List.drop_drop]; exact am_t74_1)
theorem am_t74 : (am_r74.all fun q => decide (decode (am_by 74) q.1 = .ok (q.2.1, q.2.2.1)) && am_ok 74 q.1 q.2) = true := am_u74_0
theorem am_t75_0 : (((am_r75.drop 0).take 24).all fun q => decide (decode (am_by 75) q.1 = .ok (q.2.1, q.2.2.1)) && am_ok 75 q.1 q.2) = true := by decide +kernel
theorem am_t75_1 : ((am_r75.drop 24).all fun q => decide (decode (am_by 75) q.1 = .ok (q.2.1, q.2.2.1)) && am_ok 75 q.1 q.2) = true := by decide +kernel
theorem am_u75_0 : ((am_r75.drop 0).all fun q => decide (decode (am_by 75) q.1 = .ok (q.2.1, q.2.2.1)) && am_ok 75 q.1 q.2) = true := am_alltd 24 am_t75_0 (by rw [List.drop_drop]; exact am_t75_1)
theorem am_t75 : (am_r75.all fun q => decide (decode (am_by 75) q.1 = .ok (q.2.1, q.2.2.1)) && am_ok 75 q.1 q.2) = true := am_u75_0
theorem am_t76_0 : (((am_r76.drop 0).take 24).all fun q => decide (decode (am_by 76) q.1 = .ok (q.2.1, q.2.2.1)) && am_ok 76 q.1 q.2) = true := by decide +kernel
theorem am_t76_1 : (((am_r76.drop 24).take 24).all fun q => decide (decode (am_by 76) q.1 = .ok (q.2.1, q.2.2.1)) && am_ok 76 q.1 q.2) = true := by decide +kernel
theorem am_t76_2 : (((am_r76.drop 48).take 24).all fun q => decide (decode (am_by 76) q.1 = .ok (q.2.1, q.2.2.1)) && am_ok 76 q.1 q.2) = true := by decide +kernel
theorem am_t76_3 : (((am_r76.drop 72).take 24).all fun q => decide (decode (am_by 76) q.1 = .ok (q.2.1, q.2.2.1)) && am_ok 76 q.1 q.2) = true := by decide +kernel
theorem am_t76_4 : (((am_r76.drop 96).take 24).all fun q => decide (decode (am_by 76) q.1 = .ok (q.2.1, q.2.2.1)) && am_ok 76 q.1 q.2) = true := by decide +kernel
theorem am_t76_5 : (((am_r76.drop 120).take 24).all fun q => decide (decode (am_by 76) q.1 = .ok (q.2.1, q.2.2.1)) && am_ok 76 q.1 q.2) = true := by decide +kernel
theorem am_t76_6 : ((am_r76.drop 144).all fun q => decide (decode (am_by 76) q.1 = .ok (q.2.1, q.2.2.1)) && am_ok 76 q.1 q.2) = true := by decide +kernel
theorem am_u76_5 : ((am_r76.drop 120).all fun q => decide (decode (am_by 76) q.1 = .ok (q.2.1, q.2.2.1)) && am_ok 76 q.1 q.2) = true := am_alltd 24 am_t76_5 (by rw [List.drop_drop]; exact am_t76_6)
theorem am_u76_4 : ((am_r76.drop 96).all fun q => decide (decode (am_by 76) q.1 = .ok (q.2.1, q.2.2.1)) && am_ok 76 q.1 q.2) = true := am_alltd 24 am_t76_4 (by rw [List.drop_drop]; exact am_u76_5)
theorem am_u76_3 : ((am_r76.drop 72).all fun q => decide (decode (am_by 76) q.1 = .ok (q.2.1, q.2.2.1)) && am_ok 76 q.1 q.2) = true := am_alltd 24 am_t76_3 (by rw [List.drop_drop]; exact am_u76_4)
theorem am_u76_2 : ((am_r76.drop 48).all fun q => decide (decode (am_by 76) q.1 = .ok (q.2.1, q.2.2.1)) && am_ok 76 q.1 q.2) = true := am_alltd 24 am_t76_2 (by rw [List.drop_drop]; exact am_u76_3)
theorem am_u76_1 : ((am_r76.drop 24).all fun q => decide (decode (am_by 76) q.1 = .ok (q.2.1, q.2.2.1)) && am_ok 76 q.1 q.2) = true := am_alltd 24 am_t76_1 (by rw [List.drop_drop]; exact am_u76_2)
theorem am_u76_0 : ((am_r76.drop 0).all fun q => decide (decode (am_by 76) q.1 = .ok (q.2.1, q.2.2.1)) && am_ok 76 q.1 q.2) = true := am_alltd 24 am_t76_0 (by rw [List.drop_drop]; exact am_u76_1)
theorem am_t76 : (am_r76.all fun q => decide (decode (am_by 76) q.1 = .ok (q.2.1, q.2.2.1)) && am_ok 76 q.1 q.2) = true := am_u76_0
theorem am_t77 : (am_r77.all fun q => decide (decode (am_by 77) q.1 = .ok (q.2.1, q.2.2.1)) && am_ok 77 q.1 q.2) = true := by decide +kernel
theorem am_t78_0 : (((am_r78.drop 0).take 24).all fun q => decide (decode (am_by 78) q.1 = .ok (q.2.1, q.2.2.1)) && am_ok 78 q.1 q.2) = true := by decide +kernel
theorem am_t78_1 : (((am_r78.drop 24).take 24).all fun q => decide (decode (am_by 78) q.1 = .ok (q.2.1, q.2.2.1)) && am_ok 78 q.1 q.2) = true := by decide +kernel
theorem am_t78_2 : (((am_r78.drop 48).take 24).all fun q => decide (decode (am_by 78) q.1 = .ok (q.2.1, q.2.2.1)) && am_ok 78 q.1 q.2) = true := by decide +kernel
theorem am_t78_3 : (((am_r78.drop 72).take 24).all fun q => decide (decode (am_by 78) q.1 = .ok (q.2.1, q.2.2.1)) && am_ok 78 q.1 q.2) = true := by decide +kernel
theorem am_t78_4 : (((am_r78.drop 96).take 24).all fun q => decide (decode (am_by 78) q.1 = .ok (q.2.1, q.2.2.1)) && am_ok 78 q.1 q.2) = true := by decide +kernel
theorem am_t78_5 : (((am_r78.drop 120).take 24).all fun q => decide (decode (am_by 78) q.1 = .ok (q.2.1, q.2.2.1)) && am_ok 78 q.1 q.2) = true := by decide +kernel
theorem am_t78_6 : (((am_r78.drop 144).take 24).all fun q => decide (decode (am_by 78) q.1 = .ok (q.2.1, q.2.2.1)) && am_ok 78 q.1 q.2) = true := by decide +kernel
theorem am_t78_7 : ((am_r78.drop 168).all fun q => decide (decode (am_by 78) q.1 = .ok (q.2.1, q.2.2.1)) && am_ok 78 q.1 q.2) = true := by decide +kernel
theorem am_u78_6 : ((am_r78.drop 144).all fun q => decide (decode (am_by 78) q.1 = .ok (q.2.1, q.2.2.1)) && am_ok 78 q.1 q.2) = true := am_alltd 24 am_t78_6 (by rw [List.drop_drop]; exact am_t78_7)
theorem am_u78_5 : ((am_r78.drop 120).all fun q => decide (decode (am_by 78) q.1 = .ok (q.2.1, q.2.2.1)) && am_ok 78 q.1 q.2) = true := am_alltd 24 am_t78_5 (by rw [List.drop_drop]; exact am_u78_6)
theorem am_u78_4 : ((am_r78.drop 96).all fun q => decide (decode (am_by 78) q.1 = .ok (q.2.1, q.2.2.1)) && am_ok 78 q.1 q.2) = true := am_alltd 24 am_t78_4 (by rw [List.drop_drop]; exact am_u78_5)
theorem am_u78_3 : ((am_r78.drop 72).all fun q => decide (decode (am_by 78) q.1 = .ok (q.2.1, q.2.2.1)) && am_ok 78 q.1 q.2) = true := am_alltd 24 am_t78_3 (by rw [List.drop_drop]; exact am_u78_4)
theorem am_u78_2 : ((am_r78.drop 48).all fun q => decide (decode (am_by 78) q.1 = .ok (q.2.1, q.2.2.1)) && am_ok 78 q.1 q.2) = true := am_alltd 24 am_t78_2 (by rw [List.drop_drop]; exact am_u78_3)
theorem am_u78_1 : ((am_r78.drop 24).all fun q => decide (decode (am_by 78) q.1 = .ok (q.2.1, q.2.2.1)) && am_ok 78 q.1 q.2) = true := am_alltd 24 am_t78_1 (by rw [List.drop_drop]; exact am_u78_2)
theorem am_u78_0 : ((am_r78.drop 0).all fun q => decide (decode (am_by 78) q.1 = .ok (q.2.1, q.2.2.1)) && am_ok 78 q.1 q.2) = true := am_alltd 24 am_t78_0 (by rw [List.drop_drop]; exact am_u78_1)
theorem am_t78 : (am_r78.all fun q => decide (decode (am_by 78) q.1 = .ok (q.2.1, q.2.2.1)) && am_ok 78 q.1 q.2) = true := am_u78_0
theorem am_t79_0 : (((am_r79.drop 0).take 24).all fun q => decide (decode (am_by 79) q.1 = .ok (q.2.1, q.2.2.1)) && am_ok 79 q.1 q.2) = true := by decide +kernel
theorem am_t79_1 : (((am_r79.drop 24).take 24).all fun q => decide (decode (am_by 79) q.1 = .ok (q.2.1, q.2.2.1)) && am_ok 79 q.1 q.2) = true := by decide +kernel
theorem am_t79_2 : (((am_r79.drop 48).take 24).all fun q => decide (decode (am_by 79) q.1 = .ok (q.2.1, q.2.2.1)) && am_ok 79 q.1 q.2) = true := by decide +kernel
theorem am_t79_3 : (((am_r79.drop 72).take 24).all fun q => decide (decode (am_by 79) q.1 = .ok (q.2.1, q.2.2.1)) && am_ok 79 q.1 q.2) = true := by decide +kernel
theorem am_t79_4 : (((am_r79.drop 96).take 24).all fun q => decide (decode (am_by 79) q.1 = .ok (q.2.1, q.2.2.1)) && am_ok 79 q.1 q.2) = true := by decide +kernel
theorem am_t79_5 : ((am_r79.drop 120).all fun q => decide (decode (am_by 79) q.1 = .ok (q.2.1, q.2.2.1)) && am_ok 79 q.1 q.2) = true := by decide +kernel
theorem am_u79_4 : ((am_r79.drop 96).all fun q => decide (decode (am_by 79) q.1 = .ok (q.2.1, q.2.2.1)) && am_ok 79 q.1 q.2) = true := am_alltd 24 am_t79_4 (by rw [List.drop_drop]; exact am_t79_5)
theorem am_u79_3 : ((am_r79.drop 72).all fun q => decide (decode (am_by 79) q.1 = .ok (q.2.1, q.2.2.1)) && am_ok 79 q.1 q.2) = true := am_alltd 24 am_t79_3 (by rw [List.drop_drop]; exact am_u79_4)
theorem am_u79_2 : ((am_r79.drop 48).all fun q => decide (decode (am_by 79) q.1 = .ok (q.2.1, q.2.2.1)) && am_ok 79 q.1 q.2) = true := am_alltd 24 am_t79_2 (by rw [List.drop_drop]; exact am_u79_3)
theorem am_u79_1 : ((am_r79.drop 24).all fun q => decide (decode (am_by 79) q.1 = .ok (q.2.1, q.2.2.1)) && am_ok 79 q.1 q.2) = true := am_alltd 24 am_t79_1 (by rw [List.drop_drop]; exact am_u79_2)
theorem am_u79_0 : ((am_r79.drop 0).all fun q => decide (decode (am_by 79) q.1 = .ok (q.2.1, q.2.2.1)) && am_ok 79 q.1 q.2) = true := am_alltd 24 am_t79_0 (by rw [List.drop_drop]; exact am_u79_1)
theorem am_t79 : (am_r79.all fun q => decide (decode (am_by 79) q.1 = .ok (q.2.1, q.2.2.1)) && am_ok 79 q.1 q.2) = true := am_u79_0
theorem am_t80_0 : (((am_r80.drop 0).take 24).all fun q => decide (decode (am_by 80) q.1 = .ok (q.2.1, q.2.2.1)) && am_ok 80 q.1 q.2) = true := by decide +kernel
theorem am_t80_1 : ((am_r80.drop 24).all fun q => decide (decode (am_by 80) q.1 = .ok (q.2.1, q.2.2.1)) && am_ok 80 q.1 q.2) = true := by decide +kernel
theorem am_u80_0 : ((am_r80.drop 0).all fun q => decide (decode (am_by 80) q.1 = .ok (q.2.1, q.2.2.1)) && am_ok 80 q.1 q.2) = true := am_alltd 24 am_t80_0 (by rw [List.drop_drop]; exact am_t80_1)
theorem am_t80 : (am_r80.all fun q => decide (decode (am_by 80) q.1 = .ok (q.2.1, q.2.2.1)) && am_ok 80 q.1 q.2) = true := am_u80_0
theorem am_t81_0 : (((am_r81.drop 0).take 24).all fun q => decide (decode (am_by 81) q.1 = .ok (q.2.1, q.2.2.1)) && am_ok 81 q.1 q.2) = true := by decide +kernel
theorem am_t81_1 : ((am_r81.drop 24).all fun q => decide (decode (am_by 81) q.1 = .ok (q.2.1, q.2.2.1)) && am_ok 81 q.1 q.2) = true := by decide +kernel
theorem am_u81_0 : ((am_r81.drop 0).all fun q => decide (decode (am_by 81) q.1 = .ok (q.2.1, q.2.2.1)) && am_ok 81 q.1 q.2) = true := am_alltd 24 am_t81_0 (by rw [List.drop_drop]; exact am_t81_1)
theorem am_t81 : (am_r81.all fun q => decide (decode (am_by 81) q.1 = .ok (q.2.1, q.2.2.1)) && am_ok 81 q.1 q.2) = true := am_u81_0
theorem am_t82_0 : (((am_r82.drop 0).take 24).all fun q => decide (decode (am_by 82) q.1 = .ok (q.2.1, q.2.2.1)) && am_ok 82 q.1 q.2) = true := by decide +kernel
theorem am_t82_1 : ((am_r82.drop 24).all fun q => decide (decode (am_by 82) q.1 = .ok (q.2.1, q.2.2.1)) && am_ok 82 q.1 q.2) = true := by decide +kernel
theorem am_u82_0 : ((am_r82.drop 0).all fun q => decide (decode (am_by 82) q.1 = .ok (q.2.1, q.2.2.1)) && am_ok 82 q.1 q.2) = true := am_alltd 24 am_t82_0 (by rw [List.drop_drop]; exact am_t82_1)
theorem am_t82 : (am_r82.all fun q => decide (decode (am_by 82) q.1 = .ok (q.2.1, q.2.2.1)) && am_ok 82 q.1 q.2) = true := am_u82_0
theorem am_t83_0 : (((am_r83.drop 0).take 24).all fun q => decide (decode (am_by 83) q.1 = .ok (q.2.1, q.2.2.1)) && am_ok 83 q.1 q.2) = true := by decide +kernel
theorem am_t83_1 : (((am_r83.drop 24).take 24).all fun q => decide (decode (am_by 83) q.1 = .ok (q.2.1, q.2.2.1)) && am_ok 83 q.1 q.2) = true := by decide +kernel
theorem am_t83_2 : (((am_r83.drop 48).take 24).all fun q => decide (decode (am_by 83) q.1 = .ok (q.2.1, q.2.2.1)) && am_ok 83 q.1 q.2) = true := by decide +kernel
theorem am_t83_3 : (((am_r83.drop 72).take 24).all fun q => decide (decode (am_by 83) q.1 = .ok (q.2.1, q.2.2.1)) && am_ok 83 q.1 q.2) = true := by decide +kernel
theorem am_t83_4 : ((am_r83.drop 96).all fun q => decide (decode (am_by 83) q.1 = .ok (q.2.1, q.2.2.1)) && am_ok 83 q.1 q.2) = true := by decide +kernel
theorem am_u83_3 : ((am_r83.drop 72).all fun q => decide (decode (am_by 83) q.1 = .ok (q.2.1, q.2.2.1)) && am_ok 83 q.1 q.2) = true := am_alltd 24 am_t83_3 (by rw [List.drop_drop]; exact am_t83_4)
theorem am_u83_2 : ((am_r83.drop 48).all fun q => decide (decode (am_by 83) q.1 = .ok (q.2.1, q.2.2.1)) && am_ok 83 q.1 q.2) = true := am_alltd 24 am_t83_2 (by rw [List.drop_drop]; exact am_u83_3)
theorem am_u83_1 : ((am_r83.drop 24).all fun q => decide (decode (am_by 83) q.1 = .ok (q.2.1, q.2.2.1)) && am_ok 83 q.1 q.2) = true := am_alltd 24 am_t83_1 (by rw [List.drop_drop]; exact am_u83_2)
theorem am_u83_0 : ((am_r83.drop 0).all fun q => decide (decode (am_by 83) q.1 = .ok (q.2.1, q.2.2.1)) && am_ok 83 q.1 q.2) = true := am_alltd 24 am_t83_0 (by rw [List.drop_drop]; exact am_u83_1)
theorem am_t83 : (am_r83.all fun q => decide (decode (am_by 83) q.1 = .ok (q.2.1, q.2.2.1)) && am_ok 83 q.1 q.2) = true := am_u83_0
