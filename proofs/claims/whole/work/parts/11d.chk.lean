theorem am_t58_0 : (((am_r58.drop 0).take 24).all fun q => decide (decode (am_by 58) q.1 = .ok (q.2.1, q.2.2.1)) && am_ok 58 q.1 q.2) = true := by decide +kernel
theorem am_t58_1 : (((am_r58.drop 24).take 24).all fun q => decide (decode (am_by 58) q.1 = .ok (q.2.1, q.2.2.1)) && am_ok 58 q.1 q.2) = true := by decide +kernel
theorem am_t58_2 : (((am_r58.drop 48).take 24).all fun q => decide (decode (am_by 58) q.1 = .ok (q.2.1, q.2.2.1)) && am_ok 58 q.1 q.2) = true := by decide +kernel
theorem am_t58_3 : ((am_r58.drop 72).all fun q => decide (decode (am_by 58) q.1 = .ok (q.2.1, q.2.2.1)) && am_ok 58 q.1 q.2) = true := by decide +kernel
theorem am_u58_2 : ((am_r58.drop 48).all fun q => decide (decode (am_by 58) q.1 = .ok (q.2.1, q.2.2.1)) && am_ok 58 q.1 q.2) = true := am_alltd 24 am_t58_2 (by rw [List.drop_drop]; exact am_t58_3)
theorem am_u58_1 : ((am_r58.drop 24).all fun q => decide (decode (am_by 58) q.1 = .ok (q.2.1, q.2.2.1)) && am_ok 58 q.1 q.2) = true := am_alltd 24 am_t58_1 (by rw [List.drop_drop]; exact am_u58_2)
theorem am_u58_0 : ((am_r58.drop 0).all fun q => decide (decode (am_by 58) q.1 = .ok (q.2.1, q.2.2.1)) && am_ok 58 q.1 q.2) = true := am_alltd 24 am_t58_0 (by rw [List.drop_drop]; exact am_u58_1)
theorem am_t58 : (am_r58.all fun q => decide (decode (am_by 58) q.1 = .ok (q.2.1, q.2.2.1)) && am_ok 58 q.1 q.2) = true := am_u58_0
theorem am_t59 : (am_r59.all fun q => decide (decode (am_by 59) q.1 = .ok (q.2.1, q.2.2.1)) && am_ok 59 q.1 q.2) = true := by decide +kernel
theorem am_t60 : (am_r60.all fun q => decide (decode (am_by 60) q.1 = .ok (q.2.1, q.2.2.1)) && am_ok 60 q.1 q.2) = true := by decide +kernel
theorem am_t61_0 : (((am_r61.drop 0).take 24).all fun q => decide (decode (am_by 61) q.1 = .ok (q.2.1, q.2.2.1)) && am_ok 61 q.1 q.2) = true := by decide +kernel
theorem am_t61_1 : ((am_r61.drop 24).all fun q => decide (decode (am_by 61) q.1 = .ok (q.2.1, q.2.2.1)) && am_ok 61 q.1 q.2) = true := by decide +kernel
theorem am_u61_0 : ((am_r61.drop 0).all fun q => decide (decode (am_by 61) q.1 = .ok (q.2.1, q.2.2.1)) && am_ok 61 q.1 q.2) = true := am_alltd 24 am_t61_0 (by rw [List.drop_drop]; exact am_t61_1)
theorem am_t61 : (am_r61.all fun q => decide (decode (am_by 61) q.1 = .ok (q.2.1, q.2.2.1)) && am_ok 61 q.1 q.2) = true := am_u61_0
theorem am_t62 : (am_r62.all fun q => decide (decode (am_by 62) q.1 = .ok (q.2.1, q.2.2.1)) && am_ok 62 q.1 q.2) = true := by decide +kernel
theorem am_t63_0 : (((am_r63.drop 0).take 24).all fun q => decide (decode (am_by 63) q.1 = .ok (q.2.1, q.2.2.1)) && am_ok 63 q.1 q.2) = true := by decide +kernel
theorem am_t63_1 : (((am_r63.drop 24).take 24).all fun q => decide (decode (am_by 63) q.1 = .ok (q.2.1, q.2.2.1)) && am_ok 63 q.1 q.2) = true := by decide +kernel
theorem am_t63_2 : ((am_r63.drop 48).all fun q => decide (decode (am_by 63) q.1 = .ok (q.2.1, q.2.2.1)) && am_ok 63 q.1 q.2) = true := by decide +kernel
theorem am_u63_1 : ((am_r63.drop 24).all fun q => decide (decode (am_by 63) q.1 = .ok (q.2.1, q.2.2.1)) && am_ok 63 q.1 q.2) = true := am_alltd 24 am_t63_1 (by rw [List.drop_drop]; exact am_t63_2)
theorem am_u63_0 : ((am_r63.drop 0).all fun q => decide (decode (am_by 63) q.1 = .ok (q.2.1, q.2.2.1)) && am_ok 63 q.1 q.2) = true := am_alltd 24 am_t63_0 (by rw [List.drop_drop]; exact am_u63_1)
theorem am_t63 : (am_r63.all fun q => decide (decode (am_by 63) q.1 = .ok (q.2.1, q.2.2.1)) && am_ok 63 q.1 q.2) = true := am_u63_0
theorem am_t64 : (am_r64.all fun q => decide (decode (am_by 64) q.1 = .ok (q.2.1, q.2.2.1)) && am_ok 64 q.1 q.2) = true := by decide +kernel
theorem am_t65 : (am_r65.all fun q => decide (decode (am_by 65) q.1 = .ok (q.2.1, q.2.2.1)) && am_ok 65 q.1 q.2) = true := by decide +kernel
theorem am_t66_0 : (((am_r66.drop 0).take 24).all fun q => decide (decode (am_by 66) q.1 = .ok (q.2.1, q.2.2.1)) && am_ok 66 q.1 q.2) = true := by decide +kernel
theorem am_t66_1 : (((am_r66.drop 24).take 24).all fun q => decide (decode (am_by 66) q.1 = .ok (q.2.1, q.2.2.1)) && am_ok 66 q.1 q.2) = true := by decide +kernel
theorem am_t66_2 : ((am_r66.drop 48).all fun q => decide (decode (am_by 66) q.1 = .ok (q.2.1, q.2.2.1)) && am_ok 66 q.1 q.2) = true := by decide +kernel
theorem am_u66_1 : ((am_r66.drop 24).all fun q => decide (decode (am_by 66) q.1 = .ok (q.2.1, q.2.2.1)) && am_ok 66 q.1 q.2) = true := am_alltd 24 am_t66_1 (by rw [List.drop_drop]; exact am_t66_2)
theorem am_u66_0 : ((am_r66.drop 0).all fun q => decide (decode (am_by 66) q.1 = .ok (q.2.1, q.2.2.1)) && am_ok 66 q.1 q.2) = true := am_alltd 24 am_t66_0 (by rw [List.drop_drop]; exact am_u66_1)
theorem am_t66 : (am_r66.all fun q => decide (decode (am_by 66) q.1 = .ok (q.2.1, q.2.2.1)) && am_ok 66 q.1 q.2) = true := am_u66_0
theorem am_t67_0 : (((am_r67.drop 0).take 24).all fun q => decide (decode (am_by 67) q.1 = .ok (q.2.1, q.2.2.1)) && am_ok 67 q.1 q.2) = true := by decide +kernel
theorem am_t67_1 : (((am_r67.drop 24).take 24).all fun q => decide (decode (am_by 67) q.1 = .ok (q.2.1, q.2.2.1)) && am_ok 67 q.1 q.2) = true := by decide +kernel
theorem am_t67_2 : (((am_r67.drop 48).take 24).all fun q => decide (decode (am_by 67) q.1 = .ok (q.2.1, q.2.2.1)) && am_ok 67 q.1 q.2) = true := by decide +kernel
theorem am_t67_3 : (((am_r67.drop 72).take 24).all fun q => decide (decode (am_by 67) q.1 = .ok (q.2.1, q.2.2.1)) && am_ok 67 q.1 q.2) = true := by decide +kernel
theorem am_t67_4 : (((am_r67.drop 96).take 24).all fun q => decide (decode (am_by 67) q.1 = .ok (q.2.1, q.2.2.1)) && am_ok 67 q.1 q.2) = true := by decide +kernel
theorem am_t67_5 : (((am_r67.drop 120).take 24).all fun q => decide (decode (am_by 67) q.1 = .ok (q.2.1, q.2.2.1)) && am_ok 67 q.1 q.2) = true := by decide +kernel
theorem am_t67_6 : (((am_r67.drop 144).take 24).all fun q => decide (decode (am_by 67) q.1 = .ok (q.2.1, q.2.2.1)) && am_ok 67 q.1 q.2) = true := by decide +kernel
theorem am_t67_7 : ((am_r67.drop 168).all fun q => decide (decode (am_by 67) q.1 = .ok (q.2.1, q.2.2.1)) && am_ok 67 q.1 q.2) = true := by decide +kernel
theorem am_u67_6 : ((am_r67.drop 144).all fun q => decide (decode (am_by 67) q.1 = .ok (q.2.1, q.2.2.1)) && am_ok 67 q.1 q.2) = true := am_alltd 24 am_t67_6 (by rw [List.drop_drop]; exact am_t67_7)
theorem am_u67_5 : ((am_r67.drop 120).all fun q => decide (decode (am_by 67) q.1 = .ok (q.2.1, q.2.2.1)) && am_ok 67 q.1 q.2) = true := am_alltd 24 am_t67_5 (by rw [List.drop_drop]; exact am_u67_6)
theorem am_u67_4 : ((am_r67.drop 96).all fun q => decide (decode (am_by 67) q.1 = .ok (q.2.1, q.2.2.1)) && am_ok 67 q.1 q.2) = true := am_alltd 24 am_t67_4 (by rw [List.drop_drop]; exact am_u67_5)
theorem am_u67_3 : ((am_r67.drop 72).all fun q => decide (decode (am_by 67) q.1 = .ok (q.2.1, q.2.2.1)) && am_ok 67 q.1 q.2) = true := am_alltd 24 am_t67_3 (by rw [List.drop_drop]; exact am_u67_4)
theorem am_u67_2 : ((am_r67.drop 48).all fun q => decide (decode (am_by 67) q.1 = .ok (q.2.1, q.2.2.1)) && am_ok 67 q.1 q.2) = true := am_alltd 24 am_t67_2 (by rw [List.drop_drop]; exact am_u67_3)
theorem am_u67_1 : ((am_r67.drop 24).all fun q => decide (decode (am_by 67) q.1 = .ok (q.2.1, q.2.2.1)) && am_ok 67 q.1 q.2) = true := am_alltd 24 am_t67_1 (by rw [List.drop_drop]; exact am_u67_2)
theorem am_u67_0 : ((am_r67.drop 0).all fun q => decide (decode (am_by 67) q.1 = .ok (q.2.1, q.2.2.1)) && am_ok 67 q.1 q.2) = true := am_alltd 24 am_t67_0 (by rw [List.drop_drop]; exact am_u67_1)
theorem am_t67 : (am_r67.all fun q => decide (decode (am_by 67) q.1 = .ok (q.2.1, q.2.2.1)) && am_ok 67 q.1 q.2) = true := am_u67_0
theorem am_t68 : (am_r68.all fun q => decide (decode (am_by 68) q.1 = .ok (q.2.1, q.2.2.1)) && am_ok 68 q.1 q.2) = true := by decide +kernel
theorem am_t69 : (am_r69.all fun q => decide (decode (am_by 69) q.1 = .ok (q.2.1, q.2.2.1)) && am_ok 69 q.1 q.2) = true := by decide +kernel
