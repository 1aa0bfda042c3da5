theorem am_t0_0 : (((am_r0.drop 0).take 24).all fun q => decide (decode (am_by 0) q.1 = .ok (q.2.1, q.2.2.1)) && am_ok 0 q.1 q.2) = true := by decide +kernel
theorem am_t0_1 : (((am_r0.drop 24).take 24).all fun q => decide (decode (am_by 0) q.1 = .ok (q.2.1, q.2.2.1)) && am_ok 0 q.1 q.2) = true := by decide +kernel
theorem am_t0_2 : (((am_r0.drop 48).take 24).all fun q => decide (decode (am_by 0) q.1 = .ok (q.2.1, q.2.2.1)) && am_ok 0 q.1 q.2) = true := by decide +kernel
theorem am_t0_3 : (((am_r0.drop 72).take 24).all fun q => decide (decode (am_by 0) q.1 = .ok (q.2.1, q.2.2.1)) && am_ok 0 q.1 q.2) = true := by decide +kernel
theorem am_t0_4 : (((am_r0.drop 96).take 24).all fun q => decide (decode (am_by 0) q.1 = .ok (q.2.1, q.2.2.1)) && am_ok 0 q.1 q.2) = true := by decide +kernel
theorem am_t0_5 : (((am_r0.drop 120).take 24).all fun q => decide (decode (am_by 0) q.1 = .ok (q.2.1, q.2.2.1)) && am_ok 0 q.1 q.2) = true := by decide +kernel
theorem am_t0_6 : (((am_r0.drop 144).take 24).all fun q => decide (decode (am_by 0) q.1 = .ok (q.2.1, q.2.2.1)) && am_ok 0 q.1 q.2) = true := by decide +kernel
theorem am_t0_7 : (((am_r0.drop 168).take 24).all fun q => decide (decode (am_by 0) q.1 = .ok (q.2.1, q.2.2.1)) && am_ok 0 q.1 q.2) = true := by decide +kernel
theorem am_t0_8 : (((am_r0.drop 192).take 24).all fun q => decide (decode (am_by 0) q.1 = .ok (q.2.1, q.2.2.1)) && am_ok 0 q.1 q.2) = true := by decide +kernel
theorem am_t0_9 : (((am_r0.drop 216).take 24).all fun q => decide (decode (am_by 0) q.1 = .ok (q.2.1, q.2.2.1)) && am_ok 0 q.1 q.2) = true := by decide +kernel
theorem am_t0_10 : (((am_r0.drop 240).take 24).all fun q => decide (decode (am_by 0) q.1 = .ok (q.2.1, q.2.2.1)) && am_ok 0 q.1 q.2) = true := by decide +kernel
theorem am_t0_11 : (((am_r0.drop 264).take 24).all fun q => decide (decode (am_by 0) q.1 = .ok (q.2.1, q.2.2.1)) && am_ok 0 q.1 q.2) = true := by decide +kernel
theorem am_t0_12 : (((am_r0.drop 288).take 24).all fun q => decide (decode (am_by 0) q.1 = .ok (q.2.1, q.2.2.1)) && am_ok 0 q.1 q.2) = true := by decide +kernel
theorem am_t0_13 : (((am_r0.drop 312).take 24).all fun q => decide (decode (am_by 0) q.1 = .ok (q.2.1, q.2.2.1)) && am_ok 0 q.1 q.2) = true := by decide +kernel
theorem am_t0_14 : (((am_r0.drop 336).take 24).all fun q => decide (decode (am_by 0) q.1 = .ok (q.2.1, q.2.2.1)) && am_ok 0 q.1 q.2) = true := by decide +kernel
theorem am_t0_15 : ((am_r0.drop 360).all fun q => decide (decode (am_by 0) q.1 = .ok (q.2.1, q.2.2.1)) && am_ok 0 q.1 q.2) = true := by decide +kernel
theorem am_u0_14 : ((am_r0.drop 336).all fun q => decide (decode (am_by 0) q.1 = .ok (q.2.1, q.2.2.1)) && am_ok 0 q.1 q.2) = true := am_alltd 24 am_t0_14 (by rw [List.drop_drop]; exact am_t0_15)
theorem am_u0_13 : ((am_r0.drop 312).all fun q => decide (decode (am_by 0) q.1 = .ok (q.2.1, q.2.2.1)) && am_ok 0 q.1 q.2) = true := am_alltd 24 am_t0_13 (by rw [List.drop_drop]; exact am_u0_14)
theorem am_u0_12 : ((am_r0.drop 288).all fun q => decide (decode (am_by 0) q.1 = .ok (q.2.1, q.2.2.1)) && am_ok 0 q.1 q.2) = true := am_alltd 24 am_t0_12 (by rw [List.drop_drop]; exact am_u0_13)
theorem am_u0_11 : ((am_r0.drop 264).all fun q => decide (decode (am_by 0) q.1 = .ok (q.2.1, q.2.2.1)) && am_ok 0 q.1 q.2) = true := am_alltd 24 am_t0_11 (by rw [List.drop_drop]; exact am_u0_12)
theorem am_u0_10 : ((am_r0.drop 240).all fun q => decide (decode (am_by 0) q.1 = .ok (q.2.1, q.2.2.1)) && am_ok 0 q.1 q.2) = true := am_alltd 24 am_t0_10 (by rw [List.drop_drop]; exact am_u0_11)
theorem am_u0_9 : ((am_r0.drop 216).all fun q => decide (decode (am_by 0) q.1 = .ok (q.2.1, q.2.2.1)) && am_ok 0 q.1 q.2) = true := am_alltd 24 am_t0_9 (by rw [List.drop_drop]; exact am_u0_10)
theorem am_u0_8 : ((am_r0.drop 192).all fun q => decide (decode (am_by 0) q.1 = .ok (q.2.1, q.2.2.1)) && am_ok 0 q.1 q.2) = true := am_alltd 24 am_t0_8 (by rw [List.drop_drop]; exact am_u0_9)
theorem am_u0_7 : ((am_r0.drop 168).all fun q => decide (decode (am_by 0) q.1 = .ok (q.2.1, q.2.2.1)) && am_ok 0 q.1 q.2) = true := am_alltd 24 am_t0_7 (by rw [List.drop_drop]; exact am_u0_8)
theorem am_u0_6 : ((am_r0.drop 144).all fun q => decide (decode (am_by 0) q.1 = .ok (q.2.1, q.2.2.1)) && am_ok 0 q.1 q.2) = true := am_alltd 24 am_t0_6 (by rw [List.drop_drop]; exact am_u0_7)
theorem am_u0_5 : ((am_r0.drop 120).all fun q => decide (decode (am_by 0) q.1 = .ok (q.2.1, q.2.2.1)) && am_ok 0 q.1 q.2) = true := am_alltd 24 am_t0_5 (by rw [List.drop_drop]; exact am_u0_6)
theorem am_u0_4 : ((am_r0.drop 96).all fun q => decide (decode (am_by 0) q.1 = .ok (q.2.1, q.2.2.1)) && am_ok 0 q.1 q.2) = true := am_alltd 24 am_t0_4 (by rw [List.drop_drop]; exact am_u0_5)
theorem am_u0_3 : ((am_r0.drop 72).all fun q => decide (decode (am_by 0) q.1 = .ok (q.2.1, q.2.2.1)) && am_ok 0 q.1 q.2) = true := am_alltd 24 am_t0_3 (by rw [List.drop_drop]; exact am_u0_4)
theorem am_u0_2 : ((am_r0.drop 48).all fun q => decide (decode (am_by 0) q.1 = .ok (q.2.1, q.2.2.1)) && am_ok 0 q.1 q.2) = true := am_alltd 24 am_t0_2 (by rw [List.drop_drop]; exact am_u0_3)
theorem am_u0_1 : ((am_r0.drop 24).all fun q => decide (decode (am_by 0) q.1 = .ok (q.2.1, q.2.2.1)) && am_ok 0 q.1 q.2) = true := am_alltd 24 am_t0_1 (by rw [List.drop_drop]; exact am_u0_2)
theorem am_u0_0 : ((am_r0.drop 0).all fun q => decide (decode (am_by 0) q.1 = .ok (q.2.1, q.2.2.1)) && am_ok 0 q.1 q.2) = true := am_alltd 24 am_t0_0 (by rw [List.drop_drop]; exact am_u0_1)
theorem am_t0 : (am_r0.all fun q => decide (decode (am_by 0) q.1 = .ok (q.2.1, q.2.2.1)) && am_ok 0 q.1 q.2) = true := am_u0_0
