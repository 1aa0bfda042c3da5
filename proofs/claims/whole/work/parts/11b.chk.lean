theorem am_t20 : (am_r20.all fun q => decide (decode (am_by 20) q.1 = .ok (q.2.1, q.2.2.1)) && am_ok 20 q.1 q.2) = true := by decide +kernel
theorem am_t21_0 : (((am_r21.drop 0).take 24).all fun q => decide (decode (am_by 21) q.1 = .ok (q.2.1, q.2.2.1)) && am_ok 21 q.1 q.2) = true := by decide +kernel
theorem am_t21_1 : (((am_r21.drop 24).take 24).all fun q => decide (decode (am_by 21) q.1 = .ok (q.2.1, q.2.2.1)) && am_ok 21 q.1 q.2) = true := by decide +kernel
theorem am_t21_2 : ((am_r21.drop 48).all fun q => decide (decode (am_by 21) q.1 = .ok (q.2.1, q.2.2.1)) && am_ok 21 q.1 q.2) = true := by decide +kernel
theorem am_u21_1 : ((am_r21.drop 24).all fun q => decide (decode (am_by 21) q.1 = .ok (q.2.1, q.2.2.1)) && am_ok 21 q.1 q.2) = true := am_alltd 24 am_t21_1 (by rw [List.drop_drop]; exact am_t21_2)
theorem am_u21_0 : ((am_r21.drop 0).all fun q => decide (decode (am_by 21) q.1 = .ok (q.2.1, q.2.2.1)) && am_ok 21 q.1 q.2) = true := am_alltd 24 am_t21_0 (by rw [List.drop_drop]; exact am_u21_1)
theorem am_t21 : (am_r21.all fun q => decide (decode (am_by 21) q.1 = .ok (q.2.1, q.2.2.1)) && am_ok 21 q.1 q.2) = true := am_u21_0
theorem am_t22 : (am_r22.all fun q => decide (decode (am_by 22) q.1 = .ok (q.2.1, q.2.2.1)) && am_ok 22 q.1 q.2) = true := by decide +kernel
theorem am_t23 : (am_r23.all fun q => decide (decode (am_by 23) q.1 = .ok (q.2.1, q.2.2.1)) && am_ok 23 q.1 q.2) = true := by decide +kernel
theorem am_t24_0 : (((am_r24.drop 0).take 24).all fun q => decide (decode (am_by 24) q.1 = .ok (q.2.1, q.2.2.1)) && am_ok 24 q.1 q.2) = true := by decide +kernel
theorem am_t24_1 : ((am_r24.drop 24).all fun q => decide (decode (am_by 24) q.1 = .ok (q.2.1, q.2.2.1)) && am_ok 24 q.1 q.2) = true := by decide +kernel
theorem am_u24_0 : ((am_r24.drop 0).all fun q => decide (decode (am_by 24) q.1 = .ok (q.2.1, q.2.2.1)) && am_ok 24 q.1 q.2) = true := am_alltd 24 am_t24_0 (by rw [List.drop_drop]; exact am_t24_1)
theorem am_t24 : (am_r24.all fun q => decide (decode (am_by 24) q.1 = .ok (q.2.1, q.2.2.1)) && am_ok 24 q.1 q.2) = true := am_u24_0
theorem am_t25 : (am_r25.all fun q => decide (decode (am_by 25) q.1 = .ok (q.2.1, q.2.2.1)) && am_ok 25 q.1 q.2) = true := by decide +kernel
theorem am_t26_0 : (((am_r26.drop 0).take 24).all fun q => decide (decode (am_by 26) q.1 = .ok (q.2.1, q.2.2.1)) && am_ok 26 q.1 q.2) = true := by decide +kernel
theorem am_t26_1 : ((am_r26.drop 24).all fun q => decide (decode (am_by 26) q.1 = .ok (q.2.1, q.2.2.1)) && am_ok 26 q.1 q.2) = true := by decide +kernel
theorem am_u26_0 : ((am_r26.drop 0).all fun q => decide (decode (am_by 26) q.1 = .ok (q.2.1, q.2.2.1)) && am_ok 26 q.1 q.2) = true := am_alltd 24 am_t26_0 (by rw [List.drop_drop]; exact am_t26_1)
theorem am_t26 : (am_r26.all fun q => decide (decode (am_by 26) q.1 = .ok (q.2.1, q.2.2.1)) && am_ok 26 q.1 q.2) = true := am_u26_0
theorem am_t27 : (am_r27.all fun q => decide (decode (am_by 27) q.1 = .ok (q.2.1, q.2.2.1)) && am_ok 27 q.1 q.2) = true := by decide +kernel
theorem am_t28 : (am_r28.all fun q => decide (decode (am_by 28) q.1 = .ok (q.2.1, q.2.2.1)) && am_ok 28 q.1 q.2) = true := by decide +kernel
theorem am_t29_0 : (((am_r29.drop 0).take 24).all fun q => decide (decode (am_by 29) q.1 = .ok (q.2.1, q.2.2.1)) && am_ok 29 q.1 q.2) = true := by decide +kernel
theorem am_t29_1 : (((am_r29.drop 24).take 24).all fun q => decide (decode (am_by 29) q.1 = .ok (q.2.1, q.2.2.1)) && am_ok 29 q.1 q.2) = true := by decide +kernel
theorem am_t29_2 : ((am_r29.drop 48).all fun q => decide (decode (am_by 29) q.1 = .ok (q.2.1, q.2.2.1)) && am_ok 29 q.1 q.2) = true := by decide +kernel
theorem am_u29_1 : ((am_r29.drop 24).all fun q => decide (decode (am_by 29) q.1 = .ok (q.2.1, q.2.2.1)) && am_ok 29 q.1 q.2) = true := am_alltd 24 am_t29_1 (by rw [List.drop_drop]; exact am_t29_2)
theorem am_u29_0 : ((am_r29.drop 0).all fun q => decide (decode (am_by 29) q.1 = .ok (q.2.1, q.2.2.1)) && am_ok 29 q.1 q.2) = true := am_alltd 24 am_t29_0 (by rw [List.drop_drop]; exact am_u29_1)
theorem am_t29 : (am_r29.all fun q => decide (decode (am_by 29) q.1 = .ok (q.2.1, q.2.2.1)) && am_ok 29 q.1 q.2) = true := am_u29_0
theorem am_t30 : (am_r30.all fun q => decide (decode (am_by 30) q.1 = .ok (q.2.1, q.2.2.1)) && am_ok 30 q.1 q.2) = true := by decide +kernel
theorem am_t31 : (am_r31.all fun q => decide (decode (am_by 31) q.1 = .ok (q.2.1, q.2.2.1)) && am_ok 31 q.1 q.2) = true := by decide +kernel
theorem am_t32_0 : (((am_r32.drop 0).take 24).all fun q => decide (decode (am_by 32) q.1 = .ok (q.2.1, q.2.2.1)) && am_ok 32 q.1 q.2) = true := by decide +kernel
theorem am_t32_1 : ((am_r32.drop 24).all fun q => decide (decode (am_by 32) q.1 = .ok (q.2.1, q.2.2.1)) && am_ok 32 q.1 q.2) = true := by decide +kernel
theorem am_u32_0 : ((am_r32.drop 0).all fun q => decide (decode (am_by 32) q.1 = .ok (q.2.1, q.2.2.1)) && am_ok 32 q.1 q.2) = true := am_alltd 24 am_t32_0 (by rw [List.drop_drop]; exact am_t32_1)
theorem am_t32 : (am_r32.all fun q => decide (decode (am_by 32) q.1 = .ok (q.2.1, q.2.2.1)) && am_ok 32 q.1 q.2) = true := am_u32_0
theorem am_t33 : (am_r33.all fun q => decide (decode (am_by 33) q.1 = .ok (q.2.1, q.2.2.1)) && am_ok 33 q.1 q.2) = true := by decide +kernel
theorem am_t34_0 : (((am_r34.drop 0).take 24).all fun q => decide (decode (am_by 34) q.1 = .ok (q.2.1, q.2.2.1)) && am_ok 34 q.1 q.2) = true := by decide +kernel
theorem am_t34_1 : ((am_r34.drop 24).all fun q => decide (decode (am_by 34) q.1 = .ok (q.2.1, q.2.2.1)) && am_ok 34 q.1 q.2) = true := by decide +kernel
theorem am_u34_0 : ((am_r34.drop 0).all fun q => decide (decode (am_by 34) q.1 = .ok (q.2.1, q.2.2.1)) && am_ok 34 q.1 q.2) = true := am_alltd 24 am_t34_0 (by rw [List.drop_drop]; exact am_t34_1)
theorem am_t34 : (am_r34.all fun q => decide (decode (am_by 34) q.1 = .ok (q.2.1, q.2.2.1)) && am_ok 34 q.1 q.2) = true := am_u34_0
theorem am_t35_0 : (((am_r35.drop 0).take 24).all fun q => decide (decode (am_by 35) q.1 = .ok (q.2.1, q.2.2.1)) && am_ok 35 q.1 q.2) = true := by decide +kernel
theorem am_t35_1 : ((am_r35.drop 24).all fun q => decide (decode (am_by 35) q.1 = .ok (q.2.1, q.2.2.1)) && am_ok 35 q.1 q.2) = true := by decide +kernel
theorem am_u35_0 : ((am_r35.drop 0).all fun q => decide (decode (am_by 35) q.1 = .ok (q.2.1, q.2.2.1)) && am_ok 35 q.1 q.2) = true := am_alltd 24 am_t35_0 (by rw [List.drop_drop]; exact am_t35_1)
theorem am_t35 : (am_r35.all fun q => decide (decode (am_by 35) q.1 = .ok (q.2.1, q.2.2.1)) && am_ok 35 q.1 q.2) = true := am_u35_0
theorem am_t36 : (am_r36.all fun q => decide (decode (am_by 36) q.1 = .ok (q.2.1, q.2.2.1)) && am_ok 36 q.1 q.2) = true := by decide +kernel
theorem am_t37 : (am_r37.all fun q => decide (decode (am_by 37) q.1 = .ok (q.2.1, q.2.2.1)) && am_ok 37 q.1 q.2) = true := by decide +kernel
theorem am_t38 : (am_r38.all fun q => decide (decode (am_by 38) q.1 = .ok (q.2.1, q.2.2.1)) && am_ok 38 q.1 q.2) = true := by decide +kernel
theorem am_t39 : (am_r39.all fun q => decide (decode (am_by 39) q.1 = .ok (q.2.1, q.2.2.1)) && am_ok 39 q.1 q.2) = true := by decide +kernel
