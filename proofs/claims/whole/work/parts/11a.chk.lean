theorem am_alltd {α : Type} {f : α → Bool} {l : List α} (n : Nat) (h1 : (l.take n).all f = true) (h2 : (l.drop n).all f = true) : l.all f = true := by
  rw [← List.take_append_drop n l, List.all_append, h1, h2]
  rfl
theorem am_t1_0 : (((am_r1.drop 0).take 24).all fun q => decide (decode (am_by 1) q.1 = .ok (q.2.1, q.2.2.1)) && am_ok 1 q.1 q.2) = true := by decide +kernel
theorem am_t1_1 : (((am_r1.drop 24).take 24).all fun q => decide (decode (am_by 1) q.1 = .ok (q.2.1, q.2.2.1)) && am_ok 1 q.1 q.2) = true := by decide +kernel
theorem am_t1_2 : ((am_r1.drop 48).all fun q => decide (decode (am_by 1) q.1 = .ok (q.2.1, q.2.2.1)) && am_ok 1 q.1 q.2) = true := by decide +kernel
theorem am_u1_1 : ((am_r1.drop 24).all fun q => decide (decode (am_by 1) q.1 = .ok (q.2.1, q.2.2.1)) && am_ok 1 q.1 q.2) = true := am_alltd 24 am_t1_1 (by rw [List.drop_drop]; exact am_t1_2)
theorem am_u1_0 : ((am_r1.drop 0).all fun q => decide (decode (am_by 1) q.1 = .ok (q.2.1, q.2.2.1)) && am_ok 1 q.1 q.2) = true := am_alltd 24 am_t1_0 (by rw [List.drop_drop]; exact am_u1_1)
theorem am_t1 : (am_r1.all fun q => decide (decode (am_by 1) q.1 = .ok (q.2.1, q.2.2.1)) && am_ok 1 q.1 q.2) = true := am_u1_0
theorem am_t2 : (am_r2.all fun q => decide (decode (am_by 2) q.1 = .ok (q.2.1, q.2.2.1)) && am_ok 2 q.1 q.2) = true := by decide +kernel
theorem am_t3 : (am_r3.all fun q => decide (decode (am_by 3) q.1 = .ok (q.2.1, q.2.2.1)) && am_ok 3 q.1 q.2) = true := by decide +kernel
theorem am_t4 : (am_r4.all fun q => decide (decode (am_by 4) q.1 = .ok (q.2.1, q.2.2.1)) && am_ok 4 q.1 q.2) = true := by decide +kernel
theorem am_t5 : (am_r5.all fun q => decide (decode (am_by 5) q.1 = .ok (q.2.1, q.2.2.1)) && am_ok 5 q.1 q.2) = true := by decide +kernel
theorem am_t6_0 : (((am_r6.drop 0).take 24).all fun q => decide (decode (am_by 6) q.1 = .ok (q.2.1, q.2.2.1)) && am_ok 6 q.1 q.2) = true := by decide +kernel
theorem am_t6_1 : ((am_r6.drop 24).all fun q => decide (decode (am_by 6) q.1 = .ok (q.2.1, q.2.2.1)) && am_ok 6 q.1 q.2) = true := by decide +kernel
theorem am_u6_0 : ((am_r6.drop 0).all fun q => decide (decode (am_by 6) q.1 = .ok (q.2.1, q.2.2.1)) && am_ok 6 q.1 q.2) = true := am_alltd 24 am_t6_0 (by rw [List.drop_drop]; exact am_t6_1)
theorem am_t6 : (am_r6.all fun q => decide (decode (am_by 6) q.1 = .ok (q.2.1, q.2.2.1)) && am_ok 6 q.1 q.2) = true := am_u6_0
theorem am_t7 : (am_r7.all fun q => decide (decode (am_by 7) q.1 = .ok (q.2.1, q.2.2.1)) && am_ok 7 q.1 q.2) = true := by decide +kernel
theorem am_t8 : (am_r8.all fun q => decide (decode (am_by 8) q.1 = .ok (q.2.1, q.2.2.1)) && am_ok 8 q.1 q.2) = true := by decide +kernel
theorem am_t9 : (am_r9.all fun q => decide (decode (am_by 9) q.1 = .ok (q.2.1, q.2.2.1)) && am_ok 9 q.1 q.2) = true := by decide +kernel
theorem am_t10 : (am_r10.all fun q => decide (decode (am_by 10) q.1 = .ok (q.2.1, q.2.2.1)) && am_ok 10 q.1 q.2) = true := by decide +kernel
theorem am_t11_0 : (((am_r11.drop 0).take 24).all fun q => decide (decode (am_by 11) q.1 = .ok (q.2.1, q.2.2.1)) && am_ok 11 q.1 q.2) = true := by decide +kernel
theorem am_t11_1 : (((am_r11.drop 24).take 24).all fun q => decide (decode (am_by 11) q.1 = .ok (q.2.1, q.2.2.1)) && am_ok 11 q.1 q.2) = true := by decide +kernel
theorem am_t11_2 : (((am_r11.drop 48).take 24).all fun q => decide (decode (am_by 11) q.1 = .ok (q.2.1, q.2.2.1)) && am_ok 11 q.1 q.2) = true := by decide +kernel
theorem am_t11_3 : ((am_r11.drop 72).all fun q => decide (decode (am_by 11) q.1 = .ok (q.2.1, q.2.2.1)) && am_ok 11 q.1 q.2) = true := by decide +kernel
theorem am_u11_2 : ((am_r11.drop 48).all fun q => decide (decode (am_by 11) q.1 = .ok (q.2.1, q.2.2.1)) && am_ok 11 q.1 q.2) = true := am_alltd 24 am_t11_2 (by rw [List.drop_drop]; exact am_t11_3)
theorem am_u11_1 : ((am_r11.drop 24).all fun q => decide (decode (am_by 11) q.1 = .ok (q.2.1, q.2.2.1)) && am_ok 11 q.1 q.2) = true := am_alltd 24 am_t11_1 (by rw [List.drop_drop]; exact am_u11_2)
theorem am_u11_0 : ((am_r11.drop 0).all fun q => decide (decode (am_by 11) q.1 = .ok (q.2.1, q.2.2.1)) && am_ok 11 q.1 q.2) = true := am_alltd 24 am_t11_0 (by rw [List.drop_drop]; exact am_u11_1)
theorem am_t11 : (am_r11.all fun q => decide (decode (am_by 11) q.1 = .ok (q.2.1, q.2.2.1)) && am_ok 11 q.1 q.2) = true := am_u11_0
theorem am_t12 : (am_r12.all fun q => decide (decode (am_by 12) q.1 = .ok (q.2.1, q.2.2.1)) && am_ok 12 q.1 q.2) = true := by decide +kernel
theorem am_t13_0 : (((am_r13.drop 0).take 24).all fun q => decide (decode (am_by 13) q.1 = .ok (q.2.1, q.2.2.1)) && am_ok 13 q.1 q.2) = true := by decide +kernel
theorem am_t13_1 : ((am_r13.drop 24).all fun q => decide (decode (am_by 13) q.1 = .ok (q.2.1, q.2.2.1)) && am_ok 13 q.1 q.2) = true := by decide +kernel
theorem am_u13_0 : ((am_r13.drop 0).all fun q => decide (decode (am_by 13) q.1 = .ok (q.2.1, q.2.2.1)) && am_ok 13 q.1 q.2) = true := am_alltd 24 am_t13_0 (by rw [List.drop_drop]; exact am_t13_1)
theorem am_t13 : (am_r13.all fun q => decide (decode (am_by 13) q.1 = .ok (q.2.1, q.2.2.1)) && am_ok 13 q.1 q.2) = true := am_u13_0
theorem am_t14_0 : (((am_r14.drop 0).take 24).all fun q => decide (decode (am_by 14) q.1 = .ok (q.2.1, q.2.2.1)) && am_ok 14 q.1 q.2) = true := by decide +kernel
theorem am_t14_1 : (((am_r14.drop 24).take 24).all fun q => decide (decode (am_by 14) q.1 = .ok (q.2.1, q.2.2.1)) && am_ok 14 q.1 q.2) = true := by decide +kernel
theorem am_t14_2 : (((am_r14.drop 48).take 24).all fun q => decide (decode (am_by 14) q.1 = .ok (q.2.1, q.2.2.1)) && am_ok 14 q.1 q.2) = true := by decide +kernel
theorem am_t14_3 : ((am_r14.drop 72).all fun q => decide (decode (am_by 14) q.1 = .ok (q.2.1, q.2.2.1)) && am_ok 14 q.1 q.2) = true := by decide +kernel
theorem am_u14_2 : ((am_r14.drop 48).all fun q => decide (decode (am_by 14) q.1 = .ok (q.2.1, q.2.2.1)) && am_ok 14 q.1 q.2) = true := am_alltd 24 am_t14_2 (by rw [List.drop_drop]; exact am_t14_3)
theorem am_u14_1 : ((am_r14.drop 24).all fun q => decide (decode (am_by 14) q.1 = .ok (q.2.1, q.2.2.1)) && am_ok 14 q.1 q.2) = true := am_alltd 24 am_t14_1 (by rw [List.drop_drop]; exact am_u14_2)
theorem am_u14_0 : ((am_r14.drop 0).all fun q => decide (decode (am_by 14) q.1 = .ok (q.2.1, q.2.2.1)) && am_ok 14 q.1 q.2) = true := am_alltd 24 am_t14_0 (by rw [List.drop_drop]; exact am_u14_1)
theorem am_t14 : (am_r14.all fun q => decide (decode (am_by 14) q.1 = .ok (q.2.1, q.2.2.1)) && am_ok 14 q.1 q.2) = true := am_u14_0
theorem am_t15_0 : (((am_r15.drop 0).take 24).all fun q => decide (decode (am_by 15) q.1 = .ok (q.2.1, q.2.2.1)) && am_ok 15 q.1 q.2) = true := by decide +kernel
theorem am_t15_1 : ((am_r15.drop 24).all fun q => decide (decode (am_by 15) q.1 = .ok (q.2.1, q.2.2.1)) && am_ok 15 q.1 q.2) = true := by decide +kernel
theorem am_u15_0 : ((am_r15.drop 0).all fun q => decide (decode (am_by 15) q.1 = .ok (q.2.1, q.2.2.1)) && am_ok 15 q.1 q.2) = true := am_alltd 24 am_t15_0 (by rw [List.drop_drop]; exact am_t15_1)
theorem am_t15 : (am_r15.all fun q => decide (decode (am_by 15) q.1 = .ok (q.2.1, q.2.2.1)) && am_ok 15 q.1 q.2) = true := am_u15_0
theorem am_t16_0 : (((am_r16.drop 0).take 24).all fun q => decide (decode (am_by 16) q.1 = .ok (q.2.1, q.2.2.1)) && am_ok 16 q.1 q.2) = true := by decide +kernel
theorem am_t16_1 : ((am_r16.drop 24).all fun q => decide (decode (am_by 16) q.1 = .ok (q.2.1, q.2.2.1)) && am_ok 16 q.1 q.2) = true := by decide +kernel
theorem am_u16_0 : ((am_r16.drop 0).all fun q => decide (decode (am_by 16) q.1 = .ok (q.2.1, q.2.2.1)) && am_ok 16 q.1 q.2) = true := am_alltd 24 am_t16_0 (by rw [List.drop_drop]; exact am_t16_1)
theorem am_t16 : (am_r16.all fun q => decide (decode (am_by 16) q.1 = .ok (q.2.1, q.2.2.1)) && am_ok 16 q.1 q.2) = true := am_u16_0
theorem am_t17 : (am_r17.all fun q => decide (decode (am_by 17) q.1 = .ok (q.2.1, q.2.2.1)) && am_ok 17 q.1 q.2) = true := by decide +kernel
theorem am_t18_0 : (((am_r18.drop 0).take 24).all fun q => decide (decode (am_by 18) q.1 = .ok (q.2.1, q.2.2.1)) && am_ok 18 q.1 q.2) = true := by decide +kernel
theorem am_t18_1 : (((am_r18.drop 24).take 24).all fun q => decide (decode (am_by 18) q.1 = .ok (q.2.1, q.2.2.1)) && am_ok 18 q.1 q.2) = true := by decide +kernel
theorem am_t18_2 : (((am_r18.drop 48).take 24).all fun q => decide (decode (am_by 18) q.1 = .ok (q.2.1, q.2.2.1)) && am_ok 18 q.1 q.2) = true := by decide +kernel
theorem am_t18_3 : ((am_r18.drop 72).all fun q => decide (decode (am_by 18) q.1 = .ok (q.2.1, q.2.2.1)) && am_ok 18 q.1 q.2) = true := by decide +kernel
theorem am_u18_2 : ((am_r18.drop 48).all fun q => decide (decode (am_by 18) q.1 = .ok (q.2.1, q.2.2.1)) && am_ok 18 q.1 q.2) = true := am_alltd 24 am_t18_2 (by rw [List.drop_drop]; exact am_t18_3)
theorem am_u18_1 : ((am_r18.drop 24).all fun q => decide (decode (am_by 18) q.1 = .ok (q.2.1, q.2.2.1)) && am_ok 18 q.1 q.2) = true := am_alltd 24 am_t18_1 (by rw [List.drop_drop]; exact am_u18_2)
theorem am_u18_0 : ((am_r18.drop 0).all fun q => decide (decode (am_by 18) q.1 = .ok (q.2.1, q.2.2.1)) && am_ok 18 q.1 q.2) = true := am_alltd 24 am_t18_0 (by rw [List.drop_drop]; exact am_u18_1)
theorem am_t18 : (am_r18.all fun q => decide (decode (am_by 18) q.1 = .ok (q.2.1, q.2.2.1)) && am_ok 18 q.1 q.2) = true := am_u18_0
theorem am_t19 : (am_r19.all fun q => decide (decode (am_by 19) q.1 = .ok (q.2.1, q.2.2.1)) && am_ok 19 q.1 q.2) = true := by decide +kernel
