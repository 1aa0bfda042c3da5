section P63
variable {g : Nat × Nat} {d b R : Nat} {σ : am_H} {S : sp_S} {Q : Option Value → am_H → Prop}
/-- a list more, put into a field -/
theorem c_ini4 {k : Nat} {σ0 : am_H} (hg : g.1 ≤ b) (hb : b < σ.2.1) (hwf : wf σ) {fs : List Value} (hk : k = σ.2.1) (hcell : σ.1 b = some (.inr (0, fs))) (hQ : ∀ σ' : am_H, (∀ a, a < σ.2.1 → σ'.1 a = σ.1 a) → (∀ Z, lsx Z σ'.1 k []) → σ'.2.1 = k + 5 → σ'.2.2 = σ.2.2 + 2006 → wf σ' → AW g (d + 2) 1 (116, [some (.ref b), some (.int (nI 2))], [.ref k, .ref b]) σ' Q) : AW g (d + 2) 1 (109, [some (.ref b), some (.int (nI 2))], [.ref b]) σ Q := by
  subst hk
  refine aw_new rfl ?_
  have hc1 := am_psh_same σ (.inr (2, am_def 2)) (am_nf 2)
  have e1 : ∀ a, a < σ.2.1 → (am_psh σ (.inr (2, am_def 2)) (am_nf 2)).1 a = σ.1 a := fun a ha => am_psh_ne _ _ _ (by omega)
  have e2 : (am_psh σ (.inr (2, am_def 2)) (am_nf 2)).2.1 = σ.2.1 + 1 := rfl
  have e3 : (am_psh σ (.inr (2, am_def 2)) (am_nf 2)).2.2 = σ.2.2 + 6 := rfl
  have e4 : wf (am_psh σ (.inr (2, am_def 2)) (am_nf 2)) := hwf.psh
  generalize am_psh σ (.inr (2, am_def 2)) (am_nf 2) = σ1 at hc1 e1 e2 e3 e4 ⊢
  refine aw_run 1 (F' := (113, [some (.ref b), some (.int (nI 2))], [.ref σ.2.1, .ref σ.2.1, .ref b])) rfl ?_
  refine aw_i [.ref σ.2.1] [.ref σ.2.1, .ref b] rfl (by decide) rfl rfl rfl (Nat.le_of_ble_eq_true rfl) (Nat.le_of_ble_eq_true rfl) ?_
  refine c_lnew (d := d) (by omega) hc1 (by omega) e4 (fun σ2 q1 q2 q3 q4 q5 => ?_)
  exact hQ σ2 (fun a ha => (q1 a ha).trans (e1 a ha)) q5 q2 (by rw [q3, e3]) q4
theorem vlz_new {Z : Nat → Prop} {h : Nat → Option am_C} {x k : Nat} (hk : kd k) (hx : h x = some (cVd g k)) (hnb : bya h g.2 []) (zx : Z x) (zg : Z g.2) : vlz Z h x ((k, [], 0, []), .leaf) :=
  ⟨zx, none, none, none, ⟨hk, (by show 0 < 65536; omega), g.2, g.2, 0, zg, zg, hx, rfl, hnb, hnb⟩, rfl⟩
/-- the constructor -/
theorem c_init (hg : g.1 ≤ b) (hg2 : g.2 < g.1) (hnb : bya σ.1 g.2 []) (ho : σ.1 b = some (.inr (0, am_def 0))) (hn : σ.2.1 = b + 1) (hwf : wf σ) (hQ : ∀ σ' : am_H, (∀ a, a < b → σ'.1 a = σ.1 a) → CS g b 29 σ' sp_S0 → σ'.2.1 = b + 29 → σ'.2.2 = σ.2.2 + 10070 → Q none σ') : AW g (d + 2) 1 (0, [some (.ref b), none], []) σ Q := by
  refine c_iniA hg hg2 hnb ho hn hwf (fun σ1 σ2 hk hl => ?_)
  obtain ⟨k1, k2, k3, ⟨fs, k4, k5⟩, k6, k7, k8, k9⟩ := hk
  obtain ⟨l1, l2, ⟨fl, l3, l4⟩, l5, l6, l7, l8⟩ := hl
  refine aw_run 1 (F' := (98, [some (.ref b), some (.int (nI 2))], [.ref b])) rfl ?_
  refine c_ini3 (σ0 := σ) (k := b + 18) hg (by omega) l8 (by omega) l2 (fun σ3 m1 m2 m3 m4 m5 => ?_)
  have ho3 := (m1 b (by omega)).trans l2
  refine aw_put rfl hg ho3 (Nat.le_of_ble_eq_true rfl) rfl rfl ?_
  have w4 := m5.set (c := .inr (0, [.ref (b + 1), .int 0, .ref (b + 2), .ref (b + 7), .ref (b + 18), .null, .null, .null])) ho3
  have o4 := am_set_same σ3 b (.inr (0, [.ref (b + 1), .int 0, .ref (b + 2), .ref (b + 7), .ref (b + 18), .null, .null, .null]))
  have e4 : ∀ a, a ≠ b → (am_set σ3 b (.inr (0, [.ref (b + 1), .int 0, .ref (b + 2), .ref (b + 7), .ref (b + 18), .null, .null, .null]))).1 a = σ3.1 a := fun a ha => am_set_ne _ _ ha
  have n4 : (am_set σ3 b (.inr (0, [.ref (b + 1), .int 0, .ref (b + 2), .ref (b + 7), .ref (b + 18), .null, .null, .null]))).2 = σ3.2 := rfl
  show AW g (d + 2) 1 (108, [some (.ref b), some (.int (nI 2))], []) (am_set σ3 b (.inr (0, [.ref (b + 1), .int 0, .ref (b + 2), .ref (b + 7), .ref (b + 18), .null, .null, .null]))) Q
  generalize am_set σ3 b (.inr (0, [.ref (b + 1), .int 0, .ref (b + 2), .ref (b + 7), .ref (b + 18), .null, .null, .null])) = σ4 at w4 o4 e4 n4 ⊢
  have n41 : σ4.2.1 = b + 23 := by rw [n4]; omega
  have n42 : σ4.2.2 = σ3.2.2 := by rw [n4]
  refine aw_run 1 (F' := (109, [some (.ref b), some (.int (nI 2))], [.ref b])) rfl ?_
  refine c_ini4 (σ0 := σ) (k := b + 23) hg (by omega) w4 (by omega) o4 (fun σ5 p1 p2 p3 p4 p5 => ?_)
  have ho5 := (p1 b (by omega)).trans o4
  refine aw_put rfl hg ho5 (Nat.le_of_ble_eq_true rfl) rfl rfl ?_
  have w6 := p5.set (c := .inr (0, [.ref (b + 1), .int 0, .ref (b + 2), .ref (b + 7), .ref (b + 18), .ref (b + 23), .null, .null])) ho5
  have o6 := am_set_same σ5 b (.inr (0, [.ref (b + 1), .int 0, .ref (b + 2), .ref (b + 7), .ref (b + 18), .ref (b + 23), .null, .null]))
  have e6 : ∀ a, a ≠ b → (am_set σ5 b (.inr (0, [.ref (b + 1), .int 0, .ref (b + 2), .ref (b + 7), .ref (b + 18), .ref (b + 23), .null, .null]))).1 a = σ5.1 a := fun a ha => am_set_ne _ _ ha
  have n6 : (am_set σ5 b (.inr (0, [.ref (b + 1), .int 0, .ref (b + 2), .ref (b + 7), .ref (b + 18), .ref (b + 23), .null, .null]))).2 = σ5.2 := rfl
  show AW g (d + 2) 1 (119, [some (.ref b), some (.int (nI 2))], []) (am_set σ5 b (.inr (0, [.ref (b + 1), .int 0, .ref (b + 2), .ref (b + 7), .ref (b + 18), .ref (b + 23), .null, .null]))) Q
  generalize am_set σ5 b (.inr (0, [.ref (b + 1), .int 0, .ref (b + 2), .ref (b + 7), .ref (b + 18), .ref (b + 23), .null, .null])) = σ6 at w6 o6 e6 n6 ⊢
  have n61 : σ6.2.1 = b + 28 := by rw [n6]; omega
  have n62 : σ6.2.2 = σ5.2.2 := by rw [n6]
  have up6 : ∀ a, a < b + 18 → a ≠ b → σ6.1 a = σ2.1 a := fun a h1 h2 => (e6 a h2).trans ((p1 a (by omega)).trans ((e4 a h2).trans (m1 a (by omega))))
  have nb6 : bya σ6.1 g.2 [] := hnb.kept ((up6 _ (by omega) (by omega)).trans ((l1 _ (by omega) (by omega)).trans (k1 _ (by omega))))
  refine aw_run 1 (F' := (120, [some (.ref b), some (.int (nI 2))], [.ref b])) rfl ?_
  refine aw_new rfl ?_
  have hc1 := am_psh_same σ6 (.inr (1, am_def 1)) (am_nf 1)
  have hnb1 : bya (am_psh σ6 (.inr (1, am_def 1)) (am_nf 1)).1 g.2 [] := nb6.kept (am_psh_ne _ _ _ (by omega))
  refine aw_run 2 (F' := (125, [some (.ref b), some (.int (nI 2))], [.int (nI 0), .ref σ6.2.1, .ref σ6.2.1, .ref b])) rfl ?_
  refine aw_sta rfl ?_
  refine aw_run 1 (F' := (129, [some (.ref b), some (.int (nI 2))], [.long 0, .ref g.2, .int (nI 0), .ref σ6.2.1, .ref σ6.2.1, .ref b])) rfl ?_
  refine aw_sta rfl ?_
  refine aw_i [.ref σ6.2.1, .int (nI 0), .ref g.2, .long 0, .ref g.2] [.ref σ6.2.1, .ref b] rfl (by decide) rfl rfl rfl (Nat.le_of_ble_eq_true rfl) (Nat.le_of_ble_eq_true rfl) ?_
  refine c_mk1 (d := d) (by omega) hg2 hc1 hnb1 ?_
  rw [am_set_psh]
  have q0 := am_psh_same σ6 (cVd g 0) (am_nf 1)
  have q1 : ∀ a, a < σ6.2.1 → (am_psh σ6 (cVd g 0) (am_nf 1)).1 a = σ6.1 a := fun a ha => am_psh_ne _ _ _ (by omega)
  have q2 : (am_psh σ6 (cVd g 0) (am_nf 1)).2.1 = σ6.2.1 + 1 := rfl
  have q3 : (am_psh σ6 (cVd g 0) (am_nf 1)).2.2 = σ6.2.2 + 8 := rfl
  have q4 : wf (am_psh σ6 (cVd g 0) (am_nf 1)) := w6.psh
  show AW g (d + 2) 1 (135, [some (.ref b), some (.int (nI 2))], [.ref σ6.2.1, .ref b]) (am_psh σ6 (cVd g 0) (am_nf 1)) Q
  generalize am_psh σ6 (cVd g 0) (am_nf 1) = σ7 at q0 q1 q2 q3 q4 ⊢
  rw [n61] at q0 ⊢
  have ho7 := (q1 b (by omega)).trans o6
  refine aw_put rfl hg ho7 (Nat.le_of_ble_eq_true rfl) rfl rfl ?_
  have w8 := q4.set (c := .inr (0, [.ref (b + 1), .int 0, .ref (b + 2), .ref (b + 7), .ref (b + 18), .ref (b + 23), .ref (b + 28), .null])) ho7
  have o8 := am_set_same σ7 b (.inr (0, [.ref (b + 1), .int 0, .ref (b + 2), .ref (b + 7), .ref (b + 18), .ref (b + 23), .ref (b + 28), .null]))
  have e8 : ∀ a, a ≠ b → (am_set σ7 b (.inr (0, [.ref (b + 1), .int 0, .ref (b + 2), .ref (b + 7), .ref (b + 18), .ref (b + 23), .ref (b + 28), .null]))).1 a = σ7.1 a := fun a ha => am_set_ne _ _ ha
  have n8 : (am_set σ7 b (.inr (0, [.ref (b + 1), .int 0, .ref (b + 2), .ref (b + 7), .ref (b + 18), .ref (b + 23), .ref (b + 28), .null]))).2 = σ7.2 := rfl
  show AW g (d + 2) 1 (138, [some (.ref b), some (.int (nI 2))], []) (am_set σ7 b (.inr (0, [.ref (b + 1), .int 0, .ref (b + 2), .ref (b + 7), .ref (b + 18), .ref (b + 23), .ref (b + 28), .null]))) Q
  generalize am_set σ7 b (.inr (0, [.ref (b + 1), .int 0, .ref (b + 2), .ref (b + 7), .ref (b + 18), .ref (b + 23), .ref (b + 28), .null])) = σ8 at w8 o8 e8 n8 ⊢
  have n81 : σ8.2.1 = b + 29 := by rw [n8]; omega
  have n82 : σ8.2.2 = σ.2.2 + 10070 := by rw [n8]; omega
  have up8 : ∀ a, a < b + 18 → a ≠ b → σ8.1 a = σ2.1 a := fun a h1 h2 => (e8 a h2).trans ((q1 a (by omega)).trans (up6 a h1 h2))
  have up1 : ∀ a, a < b + 7 → a ≠ b → σ8.1 a = σ1.1 a := fun a h1 h2 => (up8 a (by omega) h2).trans (l1 a h1 h2)
  have nb8 : bya σ8.1 g.2 [] := hnb.kept ((up1 _ (by omega) (by omega)).trans (k1 _ (by omega)))
  have m28 : σ8.1 (b + 28) = some (cVd g 0) := (e8 _ (by omega)).trans q0
  refine aw_vret rfl rfl (hQ σ8 (fun a ha => (up1 a (by omega) (by omega)).trans (k1 a ha)) ⟨hg, hg2, Nat.le_refl _, by omega, w8, nb8, by show 0 ≤ 2000; omega, ⟨by omega, _, (up1 _ (by omega) (by omega)).trans k3, fun i hi => ⟨by show 0 < 256; omega, by show (0 : Int32) = sb_b 0; decide⟩⟩, ⟨none, o8, rfl⟩, ⟨fs, (up1 _ (by omega) (by omega)).trans k4, fun i hi => ⟨Nat.zero_le _, _, k5 i hi, vlz_new (by unfold kd; omega) ((up1 _ (by omega) (by omega)).trans (k6 i hi)) nb8 (by unfold Zc; omega) (Or.inl rfl)⟩⟩, ⟨fl, (up8 _ (by omega) (by omega)).trans l3, l4⟩, fun i hi => lsx_nil_kept (l5 i hi) (fun a h1 h2 => up8 a (by omega) (by omega)) _, ⟨[], lsx_nil_kept m2 (fun a h1 h2 => (e8 a (by omega)).trans ((q1 a (by omega)).trans ((e6 a (by omega)).trans ((p1 a (by omega)).trans (e4 a (by omega)))))) _⟩, ⟨[], lsx_nil_kept p2 (fun a h1 h2 => (e8 a (by omega)).trans ((q1 a (by omega)).trans (e6 a (by omega)))) _⟩, vlz_new (by unfold kd; omega) m28 nb8 (by unfold Zc; omega) (Or.inl rfl)⟩ n81 n82)
end P63
