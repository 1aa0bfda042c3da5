theorem am_t40 : (am_r40.all fun q => decide (decode (am_by 40) q.1 = .ok (q.2.1, q.2.2.1)) && am_ok 40 q.1 q.2) = true := by decide +kernel
theorem am_t41 : (am_r41.all fun q => decide (decode (am_by 41) q.1 = .ok (q.2.1, q.2.2.1)) && am_ok 41 q.1 q.2) = true := by decide +kernel
theorem am_t42 : (am_r42.all fun q => decide (decode (am_by 42) q.1 = .ok (q.2.1, q.2.2.1)) && am_ok 42 q.1 q.2) = true := by decide +kernel
theorem am_t43_0 : (((am_r43.drop 0).take 24).all fun q => decide (decode (am_by 43) q.1 = .ok (q.2.1, q.2.2.1)) && am_ok 43 q.1 q.2) = true := by decide +kernel
theorem am_t43_1 : ((am_r43.drop 24).all fun q => decide (decode (am_by 43) q.1 = .ok (q.2.1, q.2.2.1)) && am_ok 43 q.1 q.2) = true := by decide +kernel
theorem am_u43_0 : ((am_r43.drop 0).all fun q => decide (decode (am_by 43) q.1 = .ok (q.2.1, q.2.2.1)) && am_ok 43 q.1 q.2) = true := am_alltd 24 am_t43_0 (by rw [List.drop_drop]; exact am_t43_1)
theorem am_t43 : (am_r43.all fun q => decide (decode (am_by 43) q.1 = .ok (q.2.1, q.2.2.1)) && am_ok 43 q.1 q.2) = true := am_u43_0
theorem am_t44 : (am_r44.all fun q => decide (decode (am_by 44) q.1 = .ok (q.2.1, q.2.2.1)) && am_ok 44 q.1 q.2) = true := by decide +kernel
theorem am_t45 : (am_r45.all fun q => decide (decode (am_by 45) q.1 = .ok (q.2.1, q.2.2.1)) && am_ok 45 q.1 q.2) = true := by decide +kernel
theorem am_t46 : (am_r46.all fun q => decide (decode (am_by 46) q.1 = .ok (q.2.1, q.2.2.1)) && am_ok 46 q.1 q.2) = true := by decide +kernel
theorem am_t47 : (am_r47.all fun q => decide (decode (am_by 47) q.1 = .ok (q.2.1, q.2.2.1)) && am_ok 47 q.1 q.2) = true := by decide +kernel
theorem am_t48 : (am_r48.all fun q => decide (decode (am_by 48) q.1 = .ok (q.2.1, q.2.2.1)) && am_ok 48 q.1 q.2) = true := by decide +kernel
theorem am_t49 : (am_r49.all fun q => decide (decode (am_by 49) q.1 = .ok (q.2.1, q.2.2.1)) && am_ok 49 q.1 q.2) = true := by decide +kernel
theorem am_t50 : (am_r50.all fun q => decide (decode (am_by 50) q.1 = .ok (q.2.1, q.2.2.1)) && am_ok 50 q.1 q.2) = true := by decide +kernel
theorem am_t51_0 : (((am_r51.drop 0).take 24).all fun q => decide (decode (am_by 51) q.1 = .ok (q.2.1, q.2.2.1)) && am_ok 51 q.1 q.2) = true := by decide +kernel
theorem am_t51_1 : ((am_r51.drop 24).all fun q => decide (decode (am_by 51) q.1 = .ok (q.2.1, q.2.2.1)) && am_ok 51 q.1 q.2) = true := by decide +kernel
theorem am_u51_0 : ((am_r51.drop 0).all fun q => decide (decode (am_by 51) q.1 = .ok (q.2.1, q.2.2.1)) && am_ok 51 q.1 q.2) = true := am_alltd 24 am_t51_0 (by rw [List.drop_drop]; exact am_t51_1)
theorem am_t51 : (am_r51.all fun q => decide (decode (am_by 51) q.1 = .ok (q.2.1, q.2.2.1)) && am_ok 51 q.1 q.2) = true := am_u51_0
theorem am_t52_0 : (((am_r52.drop 0).take 24).all fun q => decide (decode (am_by 52) q.1 = .ok (q.2.1, q.2.2.1)) && am_ok 52 q.1 q.2) = true := by decide +kernel
theorem am_t52_1 : (((am_r52.drop 24).take 24).all fun q => decide (decode (am_by 52) q.1 = .ok (q.2.1, q.2.2.1)) && am_ok 52 q.1 q.2) = true := by decide +kernel
theorem am_t52_2 : (((am_r52.drop 48).take 24).all fun q => decide (decode (am_by 52) q.1 = .ok (q.2.1, q.2.2.1)) && am_ok 52 q.1 q.2) = true := by decide +kernel
theorem am_t52_3 : (((am_r52.drop 72).take 24).all fun q => decide (decode (am_by 52) q.1 = .ok (q.2.1, q.2.2.1)) && am_ok 52 q.1 q.2) = true := by decide +kernel
theorem am_t52_4 : ((am_r52.drop 96).all fun q => decide (decode (am_by 52) q.1 = .ok (q.2.1, q.2.2.1)) && am_ok 52 q.1 q.2) = true := by decide +kernel
theorem am_u52_3 : ((am_r52.drop 72).all fun q => decide (decode (am_by 52) q.1 = .ok (q.2.1, q.2.2.1)) && am_ok 52 q.1 q.2) = true := am_alltd 24 am_t52_3 (by rw [List.drop_drop]; exact am_t52_4)
theorem am_u52_2 : ((am_r52.drop 48).all fun q => decide (decode (am_by 52) q.1 = .ok (q.2.1, q.2.2.1)) && am_ok 52 q.1 q.2) = true := am_alltd 24 am_t52_2 (by rw [List.drop_drop]; exact am_u52_3)
theorem am_u52_1 : ((am_r52.drop 24).all fun q => decide (decode (am_by 52) q.1 = .ok (q.2.1, q.2.2.1)) && am_ok 52 q.1 q.2) = true := am_alltd 24 am_t52_1 (by rw [List.drop_drop]; exact am_u52_2)
theorem am_u52_0 : ((am_r52.drop 0).all fun q => decide (decode (am_by 52) q.1 = .ok (q.2.1, q.2.2.1)) && am_ok 52 q.1 q.2) = true := am_alltd 24 am_t52_0 (by rw [List.drop_drop]; exact am_u52_1)
theorem am_t52 : (am_r52.all fun q => decide (decode (am_by 52) q.1 = .ok (q.2.1, q.2.2.1)) && am_ok 52 q.1 q.2) = true := am_u52_0
theorem am_t53 : (am_r53.all fun q => decide (decode (am_by 53) q.1 = .ok (q.2.1, q.2.2.1)) && am_ok 53 q.1 q.2) = true := by decide +kernel
theorem am_t54 : (am_r54.all fun q => decide (decode (am_by 54) q.1 = .ok (q.2.1, q.2.2.1)) && am_ok 54 q.1 q.2) = true := by decide +kernel
theorem am_t55 : (am_r55.all fun q => decide (decode (am_by 55) q.1 = .ok (q.2.1, q.2.2.1)) && am_ok 55 q.1 q.2) = true := by decide +kernel
theorem am_t56_0 : (((am_r56.drop 0).take 24).all fun q => decide (decode (am_by 56) q.1 = .ok (q.2.1, q.2.2.1)) && am_ok 56 q.1 q.2) = true := by decide +kernel
theorem am_t56_1 : ((am_r56.drop 24).all fun q => decide (decode (am_by 56) q.1 = .ok (q.2.1, q.2.2.1)) && am_ok 56 q.1 q.2) = true := by decide +kernel
theorem am_u56_0 : ((am_r56.drop 0).all fun q => decide (decode (am_by 56) q.1 = .ok (q.2.1, q.2.2.1)) && am_ok 56 q.1 q.2) = true := am_alltd 24 am_t56_0 (by rw [List.drop_drop]; exact am_t56_1)
theorem am_t56 : (am_r56.all fun q => decide (decode (am_by 56) q.1 = .ok (q.2.1, q.2.2.1)) && am_ok 56 q.1 q.2) = true := am_u56_0
theorem am_t57_0 : (((am_r57.drop 0).take 24).all fun q => decide (decode (am_by 57) q.1 = .ok (q.2.1, q.2.2.1)) && am_ok 57 q.1 q.2) = true := by decide +kernel
theorem am_t57_1 : ((am_r57.drop 24).all fun q => decide (decode (am_by 57) q.1 = .ok (q.2.1, q.2.2.1)) && am_ok 57 q.1 q.2) = true := by decide +kernel
theorem am_u57_0 : ((am_r57.drop 0).all fun q => decide (decode (am_by 57) q.1 = .ok (q.2.1, q.2.2.1)) && am_ok 57 q.1 q.2) = true := am_alltd 24 am_t57_0 (by rw [List.drop_drop]; exact am_t57_1)
theorem am_t57 : (am_r57.all fun q => decide (decode (am_by 57) q.1 = .ok (q.2.1, q.2.2.1)) && am_ok 57 q.1 q.2) = true := am_u57_0
