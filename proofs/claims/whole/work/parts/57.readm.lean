section P57
variable {g : Nat × Nat} {d b R : Nat} {σ : am_H} {S : sp_S} {Q : Option Value → am_H → Prop}
set_option maxHeartbeats 2000000 in
/-- read -/
theorem c_read (hD : decOK) (hC : CS g b R σ S) (slot n : Int32) (hQ : ∀ σ' : am_H, CS g b R σ' (sp_read S slot n).1 → cfr b R σ σ' (1 + 2 * (S.2.1 - (sp_read S slot n).1.2.1)) (2 + 10 * (S.2.1 - (sp_read S slot n).1.2.1)) → Q (some (.int (sp_read S slot n).2)) σ') : AW g (d + 40) 6 (0, [some (.ref b), some (.int slot), some (.int n), none], []) σ Q := by
  have hC' := hC
  obtain ⟨c1, c2, c3, c4, c5, c6, c7, c8, ⟨st, ho, hst⟩, ⟨fs, hs, hsl⟩, ⟨fl, c13, c14⟩, c15, ⟨X2, c16⟩, ⟨X3, c17⟩, c18⟩ := hC'
  have no : sp_read S slot n = (S, -2) → AW g (d + 40) 6 (16, [some (.ref b), some (.int slot), some (.int n), none], []) σ Q := by
    intro q
    rw [q] at hQ
    refine aw_run 1 (F' := (18, [some (.ref b), some (.int slot), some (.int n), none], [.int (-2)])) rfl ?_
    exact aw_iret rfl ⟨_, rfl, rfl⟩ (hQ σ hC ⟨fun _ _ => rfl, by omega, by omega, by omega, by omega⟩)
  refine aw_run 2 (F' := (2, [some (.ref b), some (.int slot), some (.int n), none], [.int slot, .ref b])) rfl ?_
  refine aw_v [.ref b, .int slot] [] rfl (by decide) rfl ho rfl rfl (Nat.le_of_ble_eq_true rfl) (Nat.le_of_ble_eq_true rfl) ?_
  refine c_slot hC slot (fun i hi er ei => ?_) (fun e => ?_)
  rotate_left
  · exact aw_zeq rfl (fun _ => no (by unfold sp_read; rw [e])) (fun z => absurd rfl z)
  refine aw_zeq rfl (fun z => absurd z (by decide)) (fun _ => ?_)
  refine aw_run 2 (F' := (10, [some (.ref b), some (.int slot), some (.int n), none], [.int n, .ref b])) rfl ?_
  refine aw_v [.ref b, .int n] [] rfl (by decide) rfl ho rfl rfl (Nat.le_of_ble_eq_true rfl) (Nat.le_of_ble_eq_true rfl) ?_
  refine c_tap hC n (fun k hk es ek => ?_) (fun e => ?_)
  rotate_left
  · exact aw_zne rfl (fun z => absurd rfl z) (fun _ => no (by unfold sp_read; rw [e, ei]))
  refine aw_zne rfl (fun _ => ?_) (fun z => absurd (by decide) z)
  have hr : sp_read S slot n = (match sp_doc S.1 k with
    | none => ((S.1, 0, S.2.2), -1)
    | some c => ((S.1, 0, sets S.2.2.1 i c, S.2.2.2), nI (sp_len c))) := by unfold sp_read; rw [ei, ek]; rfl
  subst er
  subst es
  refine aw_run 2 (F' := (21, [some (.ref b), some (.int (nI i)), some (.int (nI k)), none], [.int (nI 0), .ref b])) rfl ?_
  refine aw_put rfl c1 ho (Nat.le_of_ble_eq_true rfl) rfl rfl ?_
  have ho1 : (am_set σ b (.inr (0, [.ref (b + 1), .int (nI 0), .ref (b + 2), .ref (b + 7), .ref (b + 18), .ref (b + 23), .ref (b + 28), va_rf st]))).1 b = _ := am_set_same _ _ _
  have k1 : ∀ a, a ≠ b → (am_set σ b (.inr (0, [.ref (b + 1), .int (nI 0), .ref (b + 2), .ref (b + 7), .ref (b + 18), .ref (b + 23), .ref (b + 28), va_rf st]))).1 a = σ.1 a := fun a ha => am_set_ne _ _ ha
  have w1 : wf (am_set σ b (.inr (0, [.ref (b + 1), .int (nI 0), .ref (b + 2), .ref (b + 7), .ref (b + 18), .ref (b + 23), .ref (b + 28), va_rf st]))) := c5.set ho
  have n1 : (am_set σ b (.inr (0, [.ref (b + 1), .int (nI 0), .ref (b + 2), .ref (b + 7), .ref (b + 18), .ref (b + 23), .ref (b + 28), va_rf st]))).2 = σ.2 := rfl
  show AW g (d + 40) 6 (24, [some (.ref b), some (.int (nI i)), some (.int (nI k)), none], []) (am_set σ b (.inr (0, [.ref (b + 1), .int (nI 0), .ref (b + 2), .ref (b + 7), .ref (b + 18), .ref (b + 23), .ref (b + 28), va_rf st]))) Q
  generalize am_set σ b (.inr (0, [.ref (b + 1), .int (nI 0), .ref (b + 2), .ref (b + 7), .ref (b + 18), .ref (b + 23), .ref (b + 28), va_rf st])) = σ1 at ho1 k1 w1 n1 ⊢
  have n11 : σ1.2.1 = σ.2.1 := by rw [n1]
  have n12 : σ1.2.2 = σ.2.2 := by rw [n1]
  refine aw_new rfl ?_
  have hk2 := am_psh_same σ1 (.inr (3, am_def 3)) (am_nf 3)
  have ho2' : (am_psh σ1 (.inr (3, am_def 3)) (am_nf 3)).1 b = _ := (am_psh_ne _ _ _ (by omega)).trans ho1
  refine aw_run 2 (F' := (29, [some (.ref b), some (.int (nI i)), some (.int (nI k)), none], [.ref b, .ref σ1.2.1, .ref σ1.2.1])) rfl ?_
  refine aw_get rfl ho2' rfl ?_
  refine aw_i [.ref σ1.2.1, .ref (b + 1)] [.ref σ1.2.1] rfl (by decide) rfl rfl rfl (Nat.le_of_ble_eq_true rfl) (Nat.le_of_ble_eq_true rfl) ?_
  refine c_rnew (d := d + 38) (by omega) hk2 ?_
  rw [am_set_psh, n11]
  have hk3 := am_psh_same σ1 (.inr (3, [.ref (b + 1), .int 0])) (am_nf 3)
  have kp3 : ∀ a, a < σ.2.1 → (am_psh σ1 (.inr (3, [.ref (b + 1), .int 0])) (am_nf 3)).1 a = σ1.1 a := fun a ha => am_psh_ne _ _ _ (by omega)
  have w3 : wf (am_psh σ1 (.inr (3, [.ref (b + 1), .int 0])) (am_nf 3)) := w1.psh
  have n31 : (am_psh σ1 (.inr (3, [.ref (b + 1), .int 0])) (am_nf 3)).2.1 = σ.2.1 + 1 := by show σ1.2.1 + 1 = _; omega
  have n32 : (am_psh σ1 (.inr (3, [.ref (b + 1), .int 0])) (am_nf 3)).2.2 = σ.2.2 + 2 := by show σ1.2.2 + 2 = _; omega
  rw [n11] at hk3
  show AW g (d + 40) 6 (35, [some (.ref b), some (.int (nI i)), some (.int (nI k)), none], [.ref σ.2.1]) (am_psh σ1 (.inr (3, [.ref (b + 1), .int 0])) (am_nf 3)) Q
  generalize am_psh σ1 (.inr (3, [.ref (b + 1), .int 0])) (am_nf 3) = σ3 at hk3 kp3 w3 n31 n32 ⊢
  have hok : rok g σ3 σ.2.1 (b + 1) 2000 0 S.1 := ⟨by omega, by omega, by omega, c2, w3, hk3, c8.kept ((kp3 _ (by omega)).trans (k1 _ (by omega))), c6.kept ((kp3 _ (by omega)).trans (k1 _ (by omega)))⟩
  refine aw_run 1 (F' := (36, [some (.ref b), some (.int (nI i)), some (.int (nI k)), none], [.int (nI k), .ref σ.2.1])) rfl ?_
  refine aw_v [.ref σ.2.1, .int (nI k)] [] rfl (by decide) rfl hk3 rfl rfl (Nat.le_of_ble_eq_true rfl) (Nat.le_of_ble_eq_true rfl) ?_
  refine c_whd (d := d) hD (Nat.le_refl _) hok (by omega) (fun e4 σ4 p' h4 => ?_) (fun c σ4 x e4 h4 hel => ?_)
  · rw [hr, e4] at hQ
    dsimp only at hQ
    obtain ⟨q1, q2, q3, q4, q5, q6, q7⟩ := h4
    have kk : ∀ a, a < σ.2.1 → a ≠ b → σ4.1 a = σ.1 a := fun a h1 h2 => (q2 a (by omega) (by omega)).trans ((kp3 a h1).trans (k1 a h2))
    have ho4 := (q2 b (by omega) (by omega)).trans ((kp3 b (by omega)).trans ho1)
    have hst4 : stc (Zc g b R σ4.2.1) σ4.1 S.2.2.2.2 st := hst.kept (fun a ha => by
      unfold Zc at ha
      exact kk a (by omega) (by omega)) (Zc.mono (by omega))
    refine aw_run 2 (F' := (41, [some (.ref b), some (.int (nI i)), some (.int (nI k)), some .null], [.null])) rfl ?_
    refine aw_ifnon_n rfl ?_
    refine aw_run 1 (F' := (45, [some (.ref b), some (.int (nI i)), some (.int (nI k)), some .null], [.int (-1)])) rfl ?_
    refine aw_iret rfl ⟨_, rfl, rfl⟩ (hQ σ4 (cs_tape (T := (S.1, 0)) hC (fun a q1 q2 q3 => kk a q1 q2) (by omega) q7 (by show 0 ≤ 2000; omega) ho4 (c8.kept (kk _ (by omega) (by omega))) hst4) ⟨fun a ha => kk a (by omega) (by omega), by omega, ?_, by omega, ?_⟩)
    · show σ4.2.1 ≤ σ.2.1 + (1 + 2 * (S.2.1 - 0))
      omega
    · show σ4.2.2 ≤ σ.2.2 + (2 + 10 * (S.2.1 - 0))
      omega
  · rw [hr, e4] at hQ
    dsimp only at hQ
    obtain ⟨q1, q2, q3, q4, q5, q6, q7⟩ := h4
    have kk : ∀ a, a < σ.2.1 → a ≠ b → σ4.1 a = σ.1 a := fun a h1 h2 => (q2 a (by omega) (by omega)).trans ((kp3 a h1).trans (k1 a h2))
    have ho4 := (q2 b (by omega) (by omega)).trans ((kp3 b (by omega)).trans ho1)
    have hs4 := (kk (b + 2) (by omega) (by omega)).trans hs
    have hvx := hel.vlz
    obtain ⟨zx0, fi, la, nx, ⟨kd0, cn0, na, ba, num, -, -, hxc, -⟩, -⟩ := id hvx
    dsimp only at hxc
    refine aw_run 2 (F' := (41, [some (.ref b), some (.int (nI i)), some (.int (nI k)), some (.ref x)], [.ref x])) rfl ?_
    refine aw_ifnon_r rfl ?_
    refine aw_run 1 (F' := (47, [some (.ref b), some (.int (nI i)), some (.int (nI k)), some (.ref x)], [.ref b])) rfl ?_
    refine aw_get rfl ho4 rfl ?_
    refine aw_run 2 (F' := (52, [some (.ref b), some (.int (nI i)), some (.int (nI k)), some (.ref x)], [.ref x, .int (nI i), .ref (b + 2)])) rfl ?_
    refine aw_aast rfl (by omega) hs4 rfl hxc (vp_in_nI hi (by omega)) ?_
    rw [nI_clamp (by omega)]
    have hs5 := am_set_same σ4 (b + 2) (.inl (3, 4, .inr (.inr (.inr (.inr (va_up fs i (some x)))))))
    have k5 : ∀ a, a ≠ b + 2 → (am_set σ4 (b + 2) (.inl (3, 4, .inr (.inr (.inr (.inr (va_up fs i (some x)))))))).1 a = σ4.1 a := fun a ha => am_set_ne _ _ ha
    have w5 : wf (am_set σ4 (b + 2) (.inl (3, 4, .inr (.inr (.inr (.inr (va_up fs i (some x)))))))) := q7.set hs4
    have n5 : (am_set σ4 (b + 2) (.inl (3, 4, .inr (.inr (.inr (.inr (va_up fs i (some x)))))))).2 = σ4.2 := rfl
    generalize am_set σ4 (b + 2) (.inl (3, 4, .inr (.inr (.inr (.inr (va_up fs i (some x))))))) = σ5 at hs5 k5 w5 n5 ⊢
    have n51 : σ5.2.1 = σ4.2.1 := by rw [n5]
    have n52 : σ5.2.2 = σ4.2.2 := by rw [n5]
    have xlo : σ3.2.1 ≤ x := hel.1
    have kk5 : ∀ a, a < σ.2.1 → a ≠ b → a ≠ b + 2 → σ5.1 a = σ.1 a := fun a h1 h2 h3 => (k5 a h3).trans (kk a h1 h2)
    have hz5 : ∀ a, Zc g b R σ.2.1 a → σ5.1 a = σ.1 a := by
      intro a ha
      unfold Zc at ha
      exact kk5 a (by omega) (by omega) (by omega)
    have hm5 := Zc.mono (g := g) (b := b) (R := R) (show σ.2.1 ≤ σ5.2.1 by omega)
    have hv5 : vlz (Zc g b R σ5.2.1) σ5.1 x (sp_dv c) := hvx.kept (fun a ha => by
      refine k5 a ?_
      rcases ha with ⟨z1, z2⟩ | z <;> omega) (fun a ha => by
      unfold Zc
      rcases ha with ⟨z1, z2⟩ | z
      · omega
      · exact Or.inl z)
    have hCn : CS g b R σ5 (S.1, 0, sets S.2.2.1 i c, S.2.2.2) := by
      refine ⟨c1, c2, c3, by omega, w5, c6.kept (kk5 _ (by omega) (by omega) (by omega)), by show 0 ≤ 2000; omega, c8.kept (kk5 _ (by omega) (by omega) (by omega)), ⟨st, (k5 b (by omega)).trans ho4, hst.kept hz5 hm5⟩, ⟨va_up fs i (some x), hs5, fun j hj => ?_⟩, ⟨fl, (kk5 _ (by omega) (by omega) (by omega)).trans c13, c14⟩, fun j hj => (c15 j hj).kept hz5 (fun a q1 q2 => kk5 a (by omega) (by omega) (by omega)) hm5, ⟨X2, c16.kept hz5 (fun a q1 q2 => kk5 a (by omega) (by omega) (by omega)) hm5⟩, ⟨X3, c17.kept hz5 (fun a q1 q2 => kk5 a (by omega) (by omega) (by omega)) hm5⟩, c18.kept hz5 hm5⟩
      show sp_hgt (sets S.2.2.1 i c j) ≤ 16 ∧ ∃ a, va_up fs i (some x) j = some a ∧ vlz (Zc g b R σ5.2.1) σ5.1 a (sp_dv (sets S.2.2.1 i c j))
      unfold sets
      by_cases q : j = i
      · rw [if_pos q, q]
        exact ⟨sp_doc_hgt e4, x, va_up_s, hv5⟩
      · rw [if_neg q, va_up_n q]
        obtain ⟨r1, a, r2, r3⟩ := hsl j hj
        exact ⟨r1, a, r2, r3.kept hz5 hm5⟩
    refine aw_run 1 (F' := (54, [some (.ref b), some (.int (nI i)), some (.int (nI k)), some (.ref x)], [.ref x])) rfl ?_
    refine aw_get rfl ((k5 x (by omega)).trans hxc) rfl ?_
    have hcnt : (([] : List Nat).length + sp_len c) = sp_len c := Nat.zero_add _
    rw [hcnt]
    refine aw_iret rfl ⟨_, rfl, rfl⟩ (hQ σ5 hCn ⟨fun a ha => kk5 a (by omega) (by omega) (by omega), by omega, ?_, by omega, ?_⟩)
    · show σ5.2.1 ≤ σ.2.1 + (1 + 2 * (S.2.1 - 0))
      omega
    · show σ5.2.2 ≤ σ.2.2 + (2 + 10 * (S.2.1 - 0))
      omega
end P57
