theorem am_find_mem : ∀ {l : List (Nat × am_R)} {pc : Nat} {r : am_R}, am_find l pc = some r → (pc, r) ∈ l
  | [], _, _, h => by cases h
  | q :: l, pc, r, h => by
    unfold am_find at h
    split at h
    · rename_i hb
      cases h
      have e : q.1 = pc := Nat.eq_of_beq_eq_true hb
      rw [← e]
      exact List.mem_cons_self
    · exact List.mem_cons_of_mem _ (am_find_mem h)
def am_good1 (y : Nat) : Prop := ((am_code y).all fun q => decide (decode (am_by y) q.1 = .ok (q.2.1, q.2.2.1)) && am_ok y q.1 q.2) = true
theorem am_split {P : Nat → Prop} {a b : Nat} (c : Nat) (h1 : ∀ y, a ≤ y → y < c → P y) (h2 : ∀ y, c ≤ y → y < b → P y) : ∀ y, a ≤ y → y < b → P y := fun y h h' => if q : y < c then h1 y h q else h2 y (Nat.le_of_not_lt q) h'
theorem am_sone {P : Nat → Prop} {a : Nat} (h : P a) : ∀ y, a ≤ y → y < a + 1 → P y := fun y h1 h2 => by
  have e : y = a := by omega
  subst e
  exact h
theorem am_allg : ∀ y, 0 ≤ y → y < 105 → am_good1 y := (am_split 52 (am_split 26 (am_split 13 (am_split 6 (am_split 3 (am_split 1 (am_sone (a := 0) am_t0) (am_split 2 (am_sone (a := 1) am_t1) (am_sone (a := 2) am_t2))) (am_split 4 (am_sone (a := 3) am_t3) (am_split 5 (am_sone (a := 4) am_t4) (am_sone (a := 5) am_t5)))) (am_split 9 (am_split 7 (am_sone (a := 6) am_t6) (am_split 8 (am_sone (a := 7) am_t7) (am_sone (a := 8) am_t8))) (am_split 11 (am_split 10 (am_sone (a := 9) am_t9) (am_sone (a := 10) am_t10)) (am_split 12 (am_sone (a := 11) am_t11) (am_sone (a := 12) am_t12))))) (am_split 19 (am_split 16 (am_split 14 (am_sone (a := 13) am_t13) (am_split 15 (am_sone (a := 14) am_t14) (am_sone (a := 15) am_t15))) (am_split 17 (am_sone (a := 16) am_t16) (am_split 18 (am_sone (a := 17) am_t17) (am_sone (a := 18) am_t18)))) (am_split 22 (am_split 20 (am_sone (a := 19) am_t19) (am_split 21 (am_sone (a := 20) am_t20) (am_sone (a := 21) am_t21))) (am_split 24 (am_split 23 (am_sone (a := 22) am_t22) (am_sone (a := 23) am_t23)) (am_split 25 (am_sone (a := 24) am_t24) (am_sone (a := 25) am_t25)))))) (am_split 39 (am_split 32 (am_split 29 (am_split 27 (am_sone (a := 26) am_t26) (am_split 28 (am_sone (a := 27) am_t27) (am_sone (a := 28) am_t28))) (am_split 30 (am_sone (a := 29) am_t29) (am_split 31 (am_sone (a := 30) am_t30) (am_sone (a := 31) am_t31)))) (am_split 35 (am_split 33 (am_sone (a := 32) am_t32) (am_split 34 (am_sone (a := 33) am_t33) (am_sone (a := 34) am_t34))) (am_split 37 (am_split 36 (am_sone (a := 35) am_t35) (am_sone (a := 36) am_t36)) (am_split 38 (am_sone (a := 37) am_t37) (am_sone (a := 38) am_t38))))) (am_split 45 (am_split 42 (am_split 40 (am_sone (a := 39) am_t39) (am_split 41 (am_sone (a := 40) am_t40) (am_sone (a := 41) am_t41))) (am_split 43 (am_sone (a := 42) am_t42) (am_split 44 (am_sone (a := 43) am_t43) (am_sone (a := 44) am_t44)))) (am_split 48 (am_split 46 (am_sone (a := 45) am_t45) (am_split 47 (am_sone (a := 46) am_t46) (am_sone (a := 47) am_t47))) (am_split 50 (am_split 49 (am_sone (a := 48) am_t48) (am_sone (a := 49) am_t49)) (am_split 51 (am_sone (a := 50) am_t50) (am_sone (a := 51) am_t51))))))) (am_split 78 (am_split 65 (am_split 58 (am_split 55 (am_split 53 (am_sone (a := 52) am_t52) (am_split 54 (am_sone (a := 53) am_t53) (am_sone (a := 54) am_t54))) (am_split 56 (am_sone (a := 55) am_t55) (am_split 57 (am_sone (a := 56) am_t56) (am_sone (a := 57) am_t57)))) (am_split 61 (am_split 59 (am_sone (a := 58) am_t58) (am_split 60 (am_sone (a := 59) am_t59) (am_sone (a := 60) am_t60))) (am_split 63 (am_split 62 (am_sone (a := 61) am_t61) (am_sone (a := 62) am_t62)) (am_split 64 (am_sone (a := 63) am_t63) (am_sone (a := 64) am_t64))))) (am_split 71 (am_split 68 (am_split 66 (am_sone (a := 65) am_t65) (am_split 67 (am_sone (a := 66) am_t66) (am_sone (a := 67) am_t67))) (am_split 69 (am_sone (a := 68) am_t68) (am_split 70 (am_sone (a := 69) am_t69) (am_sone (a := 70) am_t70)))) (am_split 74 (am_split 72 (am_sone (a := 71) am_t71) (am_split 73 (am_sone (a := 72) am_t72) (am_sone (a := 73) am_t73))) (am_split 76 (am_split 75 (am_sone (a := 74) am_t74) (am_sone (a := 75) am_t75)) (am_split 77 (am_sone (a := 76) am_t76) (am_sone (a := 77) am_t77)))))) (am_split 91 (am_split 84 (am_split 81 (am_split 79 (am_sone (a := 78) am_t78) (am_split 80 (am_sone (a := 79) am_t79) (am_sone (a := 80) am_t80))) (am_split 82 (am_sone (a := 81) am_t81) (am_split 83 (am_sone (a := 82) am_t82) (am_sone (a := 83) am_t83)))) (am_split 87 (am_split 85 (am_sone (a := 84) am_t84) (am_split 86 (am_sone (a := 85) am_t85) (am_sone (a := 86) am_t86))) (am_split 89 (am_split 88 (am_sone (a := 87) am_t87) (am_sone (a := 88) am_t88)) (am_split 90 (am_sone (a := 89) am_t89) (am_sone (a := 90) am_t90))))) (am_split 98 (am_split 94 (am_split 92 (am_sone (a := 91) am_t91) (am_split 93 (am_sone (a := 92) am_t92) (am_sone (a := 93) am_t93))) (am_split 96 (am_split 95 (am_sone (a := 94) am_t94) (am_sone (a := 95) am_t95)) (am_split 97 (am_sone (a := 96) am_t96) (am_sone (a := 97) am_t97)))) (am_split 101 (am_split 99 (am_sone (a := 98) am_t98) (am_split 100 (am_sone (a := 99) am_t99) (am_sone (a := 100) am_t100))) (am_split 103 (am_split 102 (am_sone (a := 101) am_t101) (am_sone (a := 102) am_t102)) (am_split 104 (am_sone (a := 103) am_t103) (am_sone (a := 104) am_t104))))))))
theorem am_rows {y pc : Nat} {r : am_R} (h : am_find (am_code y) pc = some r) : decode (am_by y) pc = .ok (r.1, r.2.1) ∧ am_ok y pc r = true := by
  have hm := am_find_mem h
  have hy : y < 105 := by
    refine Nat.lt_of_not_le (fun q => ?_)
    have e : am_code y = [] := by
      unfold am_code
      rw [List.getD_eq_getElem?_getD, List.getElem?_eq_none (show am_tab.length ≤ y from q)]
      rfl
    rw [e] at hm
    cases hm
  have h1 := List.all_eq_true.mp (am_allg y (Nat.zero_le _) hy) _ hm
  rw [Bool.and_eq_true] at h1
  exact ⟨of_decide_eq_true h1.1, h1.2⟩
