theorem am_t84_0 : (((am_r84.drop 0).take 24).all fun q => decide (decode (am_by 84) q.1 = .ok (q.2.1, q.2.2.1)) && am_ok 84 q.1 q.2) = true := by decide +kernel
theorem am_t84_1 : (((am_r84.drop 24).take 24).all fun q => decide (decode (am_by 84) q.1 = .ok (q.2.1, q.2.2.1)) && am_ok 84 q.1 q.2) = true := by decide +kernel
theorem am_t84_2 : (((am_r84.drop 48).take 24).all fun q => decide (decode (am_by 84) q.1 = .ok (q.2.1, q.2.2.1)) && am_ok 84 q.1 q.2) = true := by decide +kernel
theorem am_t84_3 : (((am_r84.drop 72).take 24).all fun q => decide (decode (am_by 84) q.1 = .ok (q.2.1, q.2.2.1)) && am_ok 84 q.1 q.2) = true := by decide +kernel
theorem am_t84_4 : ((am_r84.drop 96).all fun q => decide (decode (am_by 84) q.1 = .ok (q.2.1, q.2.2.1)) && am_ok 84 q.1 q.2) = true := by decide +kernel
theorem am_u84_3 : ((am_r84.drop 72).all fun q => decide (decode (am_by 84) q.1 = .ok (q.2.1, q.2.2.1)) && am_ok 84 q.1 q.2) = true := am_alltd 24 am_t84_3 (by rw [List.drop_drop]; exact am_t84_4)
theorem am_u84_2 : ((am_r84.drop 48).all fun q => decide (decode (am_by 84) q.1 = .ok (q.2.1, q.2.2.1)) && am_ok 84 q.1 q.2) = true := am_alltd 24 am_t84_2 (by rw [List.drop_drop]; exact am_u84_3)
theorem am_u84_1 : ((am_r84.drop 24).all fun q => decide (decode (am_by 84) q.1 = .ok (q.2.1, q.2.2.1)) && am_ok 84 q.1 q.2) = true := am_alltd 24 am_t84_1 (by rw [List.drop_drop]; exact am_u84_2)
theorem am_u84_0 : ((am_r84.drop 0).all fun q => decide (decode (am_by 84) q.1 = .ok (q.2.1, q.2.2.1)) && am_ok 84 q.1 q.2) = true := am_alltd 24 am_t84_0 (by rw [List.drop_drop]; exact am_u84_1)
theorem am_t84 : (am_r84.all fun q => decide (decode (am_by 84) q.1 = .ok (q.2.1, q.2.2.1)) && am_ok 84 q.1 q.2) = true := am_u84_0
theorem am_t85 : (am_r85.all fun q => decide (decode (am_by 85) q.1 = .ok (q.2.1, q.2.2.1)) && am_ok 85 q.1 q.2) = true := by decide +kernel
theorem am_t86_0 : (((am_r86.drop 0).take 24).all fun q => decide (decode (am_by 86) q.1 = .ok (q.2.1, q.2.2.1)) && am_ok 86 q.1 q.2) = true := by decide +kernel
theorem am_t86_1 : ((am_r86.drop 24).all fun q => decide (decode (am_by 86) q.1 = .ok (q.2.1, q.2.2.1)) && am_ok 86 q.1 q.2) = true := by decide +kernel
theorem am_u86_0 : ((am_r86.drop 0).all fun q => decide (decode (am_by 86) q.1 = .ok (q.2.1, q.2.2.1)) && am_ok 86 q.1 q.2) = true := am_alltd 24 am_t86_0 (by rw [List.drop_drop]; exact am_t86_1)
theorem am_t86 : (am_r86.all fun q => decide (decode (am_by 86) q.1 = .ok (q.2.1, q.2.2.1)) && am_ok 86 q.1 q.2) = true := am_u86_0
theorem am_t87 : (am_r87.all fun q => decide (decode (am_by 87) q.1 = .ok (q.2.1, q.2.2.1)) && am_ok 87 q.1 q.2) = true := by decide +kernel
theorem am_t88_0 : (((am_r88.drop 0).take 24).all fun q => decide (decode (am_by 88) q.1 = .ok (q.2.1, q.2.2.1)) && am_ok 88 q.1 q.2) = true := by decide +kernel
theorem am_t88_1 : ((am_r88.drop 24).all fun q => decide (decode (am_by 88) q.1 = .ok (q.2.1, q.2.2.1)) && am_ok 88 q.1 q.2) = true := by decide +kernel
theorem am_u88_0 : ((am_r88.drop 0).all fun q => decide (decode (am_by 88) q.1 = .ok (q.2.1, q.2.2.1)) && am_ok 88 q.1 q.2) = true := am_alltd 24 am_t88_0 (by rw [List.drop_drop]; exact am_t88_1)
theorem am_t88 : (am_r88.all fun q => decide (decode (am_by 88) q.1 = .ok (q.2.1, q.2.2.1)) && am_ok 88 q.1 q.2) = true := am_u88_0
theorem am_t89_0 : (((am_r89.drop 0).take 24).all fun q => decide (decode (am_by 89) q.1 = .ok (q.2.1, q.2.2.1)) && am_ok 89 q.1 q.2) = true := by decide +kernel
theorem am_t89_1 : ((am_r89.drop 24).all fun q => decide (decode (am_by 89) q.1 = .ok (q.2.1, q.2.2.1)) && am_ok 89 q.1 q.2) = true := by decide +kernel
theorem am_u89_0 : ((am_r89.drop 0).all fun q => decide (decode (am_by 89) q.1 = .ok (q.2.1, q.2.2.1)) && am_ok 89 q.1 q.2) = true := am_alltd 24 am_t89_0 (by rw [List.drop_drop]; exact am_t89_1)
theorem am_t89 : (am_r89.all fun q => decide (decode (am_by 89) q.1 = .ok (q.2.1, q.2.2.1)) && am_ok 89 q.1 q.2) = true := am_u89_0
theorem am_t90_0 : (((am_r90.drop 0).take 24).all fun q => decide (decode (am_by 90) q.1 = .ok (q.2.1, q.2.2.1)) && am_ok 90 q.1 q.2) = true := by decide +kernel
theorem am_t90_1 : (((am_r90.drop 24).take 24).all fun q => decide (decode (am_by 90) q.1 = .ok (q.2.1, q.2.2.1)) && am_ok 90 q.1 q.2) = true := by decide +kernel
theorem am_t90_2 : (((am_r90.drop 48).take 24).all fun q => decide (decode (am_by 90) q.1 = .ok (q.2.1, q.2.2.1)) && am_ok 90 q.1 q.2) = true := by decide +kernel
theorem am_t90_3 : ((am_r90.drop 72).all fun q => decide (decode (am_by 90) q.1 = .ok (q.2.1, q.2.2.1)) && am_ok 90 q.1 q.2) = true := by decide +kernel
theorem am_u90_2 : ((am_r90.drop 48).all fun q => decide (decode (am_by 90) q.1 = .ok (q.2.1, q.2.2.1)) && am_ok 90 q.1 q.2) = true := am_alltd 24 am_t90_2 (by rw [List.drop_drop]; exact am_t90_3)
theorem am_u90_1 : ((am_r90.drop 24).all fun q => decide (decode (am_by 90) q.1 = .ok (q.2.1, q.2.2.1)) && am_ok 90 q.1 q.2) = true := am_alltd 24 am_t90_1 (by rw [List.drop_drop]; exact am_u90_2)
theorem am_u90_0 : ((am_r90.drop 0).all fun q => decide (decode (am_by 90) q.1 = .ok (q.2.1, q.2.2.1)) && am_ok 90 q.1 q.2) = true := am_alltd 24 am_t90_0 (by rw [List.drop_drop]; exact am_u90_1)
theorem am_t90 : (am_r90.all fun q => decide (decode (am_by 90) q.1 = .ok (q.2.1, q.2.2.1)) && am_ok 90 q.1 q.2) = true := am_u90_0
theorem am_t91_0 : (((am_r91.drop 0).take 24).all fun q => decide (decode (am_by 91) q.1 = .ok (q.2.1, q.2.2.1)) && am_ok 91 q.1 q.2) = true := by decide +kernel
theorem am_t91_1 : (((am_r91.drop 24).take 24).all fun q => decide (decode (am_by 91) q.1 = .ok (q.2.1, q.2.2.1)) && am_ok 91 q.1 q.2) = true := by decide +kernel
theorem am_t91_2 : (((am_r91.drop 48).take 24).all fun q => decide (decode (am_by 91) q.1 = .ok (q.2.1, q.2.2.1)) && am_ok 91 q.1 q.2) = true := by decide +kernel
theorem am_t91_3 : ((am_r91.drop 72).all fun q => decide (decode (am_by 91) q.1 = .ok (q.2.1, q.2.2.1)) && am_ok 91 q.1 q.2) = true := by decide +kernel
theorem am_u91_2 : ((am_r91.drop 48).all fun q => decide (decode (am_by 91) q.1 = .ok (q.2.1, q.2.2.1)) && am_ok 91 q.1 q.2) = true := am_alltd 24 am_t91_2 (by rw [List.drop_drop]; exact am_t91_3)
theorem am_u91_1 : ((am_r91.drop 24).all fun q => decide (decode (am_by 91) q.1 = .ok (q.2.1, q.2.2.1)) && am_ok 91 q.1 q.2) = true := am_alltd 24 am_t91_1 (by rw [List.drop_drop]; exact am_u91_2)
theorem am_u91_0 : ((am_r91.drop 0).all fun q => decide (decode (am_by 91) q.1 = .ok (q.2.1, q.2.2.1)) && am_ok 91 q.1 q.2) = true := am_alltd 24 am_t91_0 (by rw [List.drop_drop]; exact am_u91_1)
theorem am_t91 : (am_r91.all fun q => decide (decode (am_by 91) q.1 = .ok (q.2.1, q.2.2.1)) && am_ok 91 q.1 q.2) = true := am_u91_0
theorem am_t92 : (am_r92.all fun q => decide (decode (am_by 92) q.1 = .ok (q.2.1, q.2.2.1)) && am_ok 92 q.1 q.2) = true := by decide +kernel
theorem am_t93_0 : (((am_r93.drop 0).take 24).all fun q => decide (decode (am_by 93) q.1 = .ok (q.2.1, q.2.2.1)) && am_ok 93 q.1 q.2) = true := by decide +kernel
theorem am_t93_1 : ((am_r93.drop 24).all fun q => decide (decode (am_by 93) q.1 = .ok (q.2.1, q.2.2.1)) && am_ok 93 q.1 q.2) = true := by decide +kernel
theorem am_u93_0 : ((am_r93.drop 0).all fun q => decide (decode (am_by 93) q.1 = .ok (q.2.1, q.2.2.1)) && am_ok 93 q.1 q.2) = true := am_alltd 24 am_t93_0 (by rw [List.drop_drop]; exact am_t93_1)
theorem am_t93 : (am_r93.all fun q => decide (decode (am_by 93) q.1 = .ok (q.2.1, q.2.2.1)) && am_ok 93 q.1 q.2) = true := am_u93_0
theorem am_t94_0 : (((am_r94.drop 0).take 24).all fun q => decide (decode (am_by 94) q.1 = .ok (q.2.1, q.2.2.1)) && am_ok 94 q.1 q.2) = true := by decide +kernel
theorem am_t94_1 : ((am_r94.drop 24).all fun q => decide (decode (am_by 94) q.1 = .ok (q.2.1, q.2.2.1)) && am_ok 94 q.1 q.2) = true := by decide +kernel
theorem am_u94_0 : ((am_r94.drop 0).all fun q => decide (decode (am_by 94) q.1 = .ok (q.2.1, q.2.2.1)) && am_ok 94 q.1 q.2) = true := am_alltd 24 am_t94_0 (by rw [List.drop_drop]; exact am_t94_1)
theorem am_t94 : (am_r94.all fun q => decide (decode (am_by 94) q.1 = .ok (q.2.1, q.2.2.1)) && am_ok 94 q.1 q.2) = true := am_u94_0
theorem am_t95_0 : (((am_r95.drop 0).take 24).all fun q => decide (decode (am_by 95) q.1 = .ok (q.2.1, q.2.2.1)) && am_ok 95 q.1 q.2) = true := by decide +kernel
theorem am_t95_1 : ((am_r95.drop 24).all fun q => decide (decode (am_by 95) q.1 = .ok (q.2.1, q.2.2.1)) && am_ok 95 q.1 q.2) = true := by decide +kernel
theorem am_u95_0 : ((am_r95.drop 0).all fun q => decide (decode (am_by 95) q.1 = .ok (q.2.1, q.2.2.1)) && am_ok 95 q.1 q.2) = true := am_alltd 24 am_t95_0 (by rw [List.drop_drop]; exact am_t95_1)
theorem am_t95 : (am_r95.all fun q => decide (decode (am_by 95) q.1 = .ok (q.2.1, q.2.2.1)) && am_ok 95 q.1 q.2) = true := am_u95_0
theorem am_t96_0 : (((am_r96.drop 0).take 24).all fun q => decide (decode (am_by 96) q.1 = .ok (q.2.1, q.2.2.1)) && am_ok 96 q.1 q.2) = true := by decide +kernel
theorem am_t96_1 : (((am_r96.drop 24).take 24).all fun q => decide (decode (am_by 96) q.1 = .ok (q.2.1, q.2.2.1)) && am_ok 96 q.1 q.2) = true := by decide +kernel
theorem am_t96_2 : (((am_r96.drop 48).take 24).all fun q => decide (decode (am_by 96) q.1 = .ok (q.2.1, q.2.2.1)) && am_ok 96 q.1 q.2) = true := by decide +kernel
theorem am_t96_3 : (((am_r96.drop 72).take 24).all fun q => decide (decode (am_by 96) q.1 = .ok (q.2.1, q.2.2.1)) && am_ok 96 q.1 q.2) = true := by decide +kernel
theorem am_t96_4 : (((am_r96.drop 96).take 24).all fun q => decide (decode (am_by 96) q.1 = .ok (q.2.1, q.2.2.1)) && am_ok 96 q.1 q.2) = true := by decide +kernel
theorem am_t96_5 : (((am_r96.drop 120).take 24).all fun q => decide (decode (am_by 96) q.1 = .ok (q.2.1, q.2.2.1)) && am_ok 96 q.1 q.2) = true := by decide +kernel
theorem am_t96_6 : (((am_r96.drop 144).take 24).all fun q => decide (decode (am_by 96) q.1 = .ok (q.2.1, q.2.2.1)) && am_ok 96 q.1 q.2) = true := by decide +kernel
theorem am_t96_7 : ((am_r96.drop 168).all fun q => decide (decode (am_by 96) q.1 = .ok (q.2.1, q.2.2.1)) && am_ok 96 q.1 q.2) = true := by decide +kernel
theorem am_u96_6 : ((am_r96.drop 144).all fun q => decide (decode (am_by 96) q.1 = .ok (q.2.1, q.2.2.1)) && am_ok 96 q.1 q.2) = true := am_alltd 24 am_t96_6 (by rw [List.drop_drop]; exact am_t96_7)
theorem am_u96_5 : ((am_r96.drop 120).all fun q => decide (decode (am_by 96) q.1 = .ok (q.2.1, q.2.2.1)) && am_ok 96 q.1 q.2) = true := am_alltd 24 am_t96_5 (by rw [List.drop_drop]; exact am_u96_6)
theorem am_u96_4 : ((am_r96.drop 96).all fun q => decide (decode (am_by 96) q.1 = .ok (q.2.1, q.2.2.1)) && am_ok 96 q.1 q.2) = true := am_alltd 24 am_t96_4 (by rw [List.drop_drop]; exact am_u96_5)
theorem am_u96_3 : ((am_r96.drop 72).all fun q => decide (decode (am_by 96) q.1 = .ok (q.2.1, q.2.2.1)) && am_ok 96 q.1 q.2) = true := am_alltd 24 am_t96_3 (by rw [List.drop_drop]; exact am_u96_4)
theorem am_u96_2 : ((am_r96.drop 48).all fun q => decide (decode (am_by 96) q.1 = .ok (q.2.1, q.2.2.1)) && am_ok 96 q.1 q.2) = true := am_alltd 24 am_t96_2 (by rw [List.drop_drop]; exact am_u96_3)
theorem am_u96_1 : ((am_r96.drop 24).all fun q => decide (decode (am_by 96) q.1 = .ok (q.2.1, q.2.2.1)) && am_ok 96 q.1 q.2) = true := am_alltd 24 am_t96_1 (by rw [List.drop_drop]; exact am_u96_2)
theorem am_u96_0 : ((am_r96.drop 0).all fun q => decide (decode (am_by 96) q.1 = .ok (q.2.1, q.2.2.1)) && am_ok 96 q.1 q.2) = true := am_alltd 24 am_t96_0 (by rw [List.drop_drop]; exact am_u96_1)
theorem am_t96 : (am_r96.all fun q => decide (decode (am_by 96) q.1 = .ok (q.2.1, q.2.2.1)) && am_ok 96 q.1 q.2) = true := am_u96_0
theorem am_t97 : (am_r97.all fun q => decide (decode (am_by 97) q.1 = .ok (q.2.1, q.2.2.1)) && am_ok 97 q.1 q.2) = true := by decide +kernel
theorem am_t98_0 : (((am_r98.drop 0).take 24).all fun q => decide (decode (am_by 98) q.1 = .ok (q.2.1, q.2.2.1)) && am_ok 98 q.1 q.2) = true := by decide +kernel
theorem am_t98_1 : (((am_r98.drop 24).take 24).all fun q => decide (decode (am_by 98) q.1 = .ok (q.2.1, q.2.2.1)) && am_ok 98 q.1 q.2) = true := by decide +kernel
theorem am_t98_2 : ((am_r98.drop 48).all fun q => decide (decode (am_by 98) q.1 = .ok (q.2.1, q.2.2.1)) && am_ok 98 q.1 q.2) = true := by decide +kernel
theorem am_u98_1 : ((am_r98.drop 24).all fun q => decide (decode (am_by 98) q.1 = .ok (q.2.1, q.2.2.1)) && am_ok 98 q.1 q.2) = true := am_alltd 24 am_t98_1 (by rw [List.drop_drop]; exact am_t98_2)
theorem am_u98_0 : ((am_r98.drop 0).all fun q => decide (decode (am_by 98) q.1 = .ok (q.2.1, q.2.2.1)) && am_ok 98 q.1 q.2) = true := am_alltd 24 am_t98_0 (by rw [List.drop_drop]; exact am_u98_1)
theorem am_t98 : (am_r98.all fun q => decide (decode (am_by 98) q.1 = .ok (q.2.1, q.2.2.1)) && am_ok 98 q.1 q.2) = true := am_u98_0
theorem am_t99 : (am_r99.all fun q => decide (decode (am_by 99) q.1 = .ok (q.2.1, q.2.2.1)) && am_ok 99 q.1 q.2) = true := by decide +kernel
theorem am_t100 : (am_r100.all fun q => decide (decode (am_by 100) q.1 = .ok (q.2.1, q.2.2.1)) && am_ok 100 q.1 q.2) = true := by decide +kernel
theorem am_t101 : (am_r101.all fun q => decide (decode (am_by 101) q.1 = .ok (q.2.1, q.2.2.1)) && am_ok 101 q.1 q.2) = true := by decide +kernel
theorem am_t102 : (am_r102.all fun q => decide (decode (am_by 102) q.1 = .ok (q.2.1, q.2.2.1)) && am_ok 102 q.1 q.2) = true := by decide +kernel
theorem am_t103 : (am_r103.all fun q => decide (decode (am_by 103) q.1 = .ok (q.2.1, q.2.2.1)) && am_ok 103 q.1 q.2) = true := by decide +kernel
theorem am_t104 : (am_r104.all fun q => decide (decode (am_by 104) q.1 = .ok (q.2.1, q.2.2.1)) && am_ok 104 q.1 q.2) = true := by decide +kernel
