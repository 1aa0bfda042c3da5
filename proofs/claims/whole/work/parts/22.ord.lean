/-! the order of values -/
def ordL (c : sp_F) : Prop := ∀ (g : Nat × Nat) (d : Nat) (σ : am_H) (Q : Option Value → am_H → Prop) (a a2 : Nat) (b b2 : sp_B) (cnt cnt2 : Nat) (fi la nx fi2 la2 nx2 : Option Nat) (c' : sp_F) (o o2 : Option Nat) (k dep : Nat) (x5 : Option Value),
  nd σ.1 a b cnt fi la nx → nd σ.1 a2 b2 cnt2 fi2 la2 nx2 → fr σ.1 c o → fr σ.1 c' o2 → cnt = k + sp_len c → cnt2 = k + sp_len c' → dep + sp_hgt c ≤ 17 → 3 * sp_hgt c + 3 ≤ d → Q (some (.int (sp_fc c c'))) σ →
  AW g d 34 (11, [some (.ref a), some (.ref a2), some (.int (nI dep)), some (va_rf o), some (va_rf o2), x5], []) σ Q
section P22
variable {g : Nat × Nat} {d : Nat} {σ : am_H} {Q : Option Value → am_H → Prop}
/-- the end of ofElements: the counts -/
theorem c_ofEend {a a2 : Nat} {b b2 : sp_B} {cnt cnt2 : Nat} {fi la nx fi2 la2 nx2 : Option Nat} {L3 L4 L5 : Option Value} {dp : Option Value} (h1 : nd σ.1 a b cnt fi la nx) (h2 : nd σ.1 a2 b2 cnt2 fi2 la2 nx2) (hQ : Q (some (.int (sp_nc cnt cnt2))) σ) : AW g (d + 1) 34 (92, [some (.ref a), some (.ref a2), dp, L3, L4, L5], []) σ Q := by
  obtain ⟨-, n1, na, ba, num, ha, -⟩ := h1
  obtain ⟨-, n2, na2, ba2, num2, ha2, -⟩ := h2
  refine aw_run 1 (F' := (93, [some (.ref a), some (.ref a2), dp, L3, L4, L5], [.ref a])) rfl ?_
  refine aw_get rfl ha rfl ?_
  refine aw_run 1 (F' := (97, [some (.ref a), some (.ref a2), dp, L3, L4, L5], [.ref a2, .int (nI cnt)])) rfl ?_
  refine aw_get rfl ha2 rfl ?_
  refine aw_s [.int (nI cnt), .int (nI cnt2)] [] rfl ⟨by decide, by decide⟩ rfl rfl (Nat.le_of_ble_eq_true rfl) (Nat.le_of_ble_eq_true rfl) ?_
  refine c_icmpN (by omega) (by omega) ?_
  exact aw_iret rfl ⟨_, rfl, rfl⟩ hQ
/-- ofElements, entered -/
theorem c_ofElements {c c' : sp_F} (hL : ordL c) {a a2 : Nat} {b b2 : sp_B} {cnt cnt2 : Nat} {fi la nx fi2 la2 nx2 : Option Nat} {k dep : Nat} (h1 : nd σ.1 a b cnt fi la nx) (h2 : nd σ.1 a2 b2 cnt2 fi2 la2 nx2) (hc : fr σ.1 c fi) (hc2 : fr σ.1 c' fi2) (e1 : cnt = k + sp_len c) (e2 : cnt2 = k + sp_len c') (hdep : dep + sp_hgt c ≤ 17) (hd : 3 * sp_hgt c + 3 ≤ d) (hQ : Q (some (.int (sp_fc c c'))) σ) : AW g d 34 (0, [some (.ref a), some (.ref a2), some (.int (nI dep)), none, none, none], []) σ Q := by
  have key := hL g d σ Q a a2 b b2 cnt cnt2 fi la nx fi2 la2 nx2 c' fi fi2 k dep none h1 h2 hc hc2 e1 e2 hdep hd hQ
  obtain ⟨-, n1, na, ba, num, ha, -⟩ := h1
  obtain ⟨-, n2, na2, ba2, num2, ha2, -⟩ := h2
  refine aw_run 1 (F' := (1, [some (.ref (a)), some (.ref (a2)), some (.int (nI dep)), none, none, none], [.ref (a)])) rfl ?_
  refine aw_get rfl ha rfl ?_
  rcases fi with _ | x
  · refine aw_run 2 (F' := (6, [some (.ref (a)), some (.ref (a2)), some (.int (nI dep)), some .null, none, none], [.ref (a2)])) rfl ?_
    refine aw_get rfl ha2 rfl ?_
    rcases fi2 with _ | x2
    · refine aw_run 1 (F' := (11, [some (.ref (a)), some (.ref (a2)), some (.int (nI dep)), some .null, some .null, none], [])) rfl ?_
      exact key
    · refine aw_run 1 (F' := (11, [some (.ref (a)), some (.ref (a2)), some (.int (nI dep)), some .null, some (.ref x2), none], [])) rfl ?_
      exact key
  · refine aw_run 2 (F' := (6, [some (.ref (a)), some (.ref (a2)), some (.int (nI dep)), some (.ref x), none, none], [.ref (a2)])) rfl ?_
    refine aw_get rfl ha2 rfl ?_
    rcases fi2 with _ | x2
    · refine aw_run 1 (F' := (11, [some (.ref (a)), some (.ref (a2)), some (.int (nI dep)), some (.ref x), some .null, none], [])) rfl ?_
      exact key
    · refine aw_run 1 (F' := (11, [some (.ref (a)), some (.ref (a2)), some (.int (nI dep)), some (.ref x), some (.ref x2), none], [])) rfl ?_
      exact key
theorem sp_bc_0len : ∀ {l l' : List Nat}, sp_bc l l' = 0 → l.length = l'.length
  | [], [], _ => rfl
  | [], _ :: _, h => by simp only [sp_bc] at h; exact absurd h (by decide)
  | _ :: _, [], h => by simp only [sp_bc] at h; exact absurd h (by decide)
  | a :: x, b :: y, h => by
    simp only [sp_bc] at h
    by_cases q : sp_nc a b = 0
    · rw [q, sp_or_0] at h
      simp [sp_bc_0len h]
    · rw [sp_or_n q] at h
      exact absurd h q
/-- ofValues, where its elements' loop is known -/
theorem c_ofValuesL {c c' : sp_F} (hL : ordL c) {a a2 : Nat} {b b2 : sp_B} {cnt cnt2 : Nat} {fi la nx fi2 la2 nx2 : Option Nat} {dep : Nat} (h1 : nd σ.1 a b cnt fi la nx) (h2 : nd σ.1 a2 b2 cnt2 fi2 la2 nx2) (hc : fr σ.1 c fi) (hc2 : fr σ.1 c' fi2) (e1 : cnt = b.2.2.2.length + sp_len c) (e2 : cnt2 = b2.2.2.2.length + sp_len c') (hdep : dep + sp_hgt c ≤ 17) (hd : 3 * sp_hgt c + 5 ≤ d) (hQ : Q (some (.int (sp_vc (b, c) (b2, c')))) σ) : AW g d 32 (0, [some (.ref a), some (.ref a2), some (.int (nI dep)), none], []) σ Q := by
  obtain ⟨d, rfl⟩ : ∃ d', d = d' + 2 := ⟨d - 2, by omega⟩
  have h1' := h1
  have h2' := h2
  obtain ⟨k1, n1, na, ba, num, ha, hnum, hna, hba⟩ := h1'
  obtain ⟨k2, n2, na2, ba2, num2, ha2, hnum2, hna2, hba2⟩ := h2'
  refine aw_run 1 (F' := (1, [some (.ref (a)), some (.ref (a2)), some (.int (nI dep)), none], [.ref (a)])) rfl ?_
  refine aw_ifnull_r rfl ?_
  refine aw_run 1 (F' := (5, [some (.ref (a)), some (.ref (a2)), some (.int (nI dep)), none], [.ref (a2)])) rfl ?_
  refine aw_ifnull_r rfl ?_
  refine aw_run 2 (F' := (11, [some (.ref (a)), some (.ref (a2)), some (.int (nI dep)), none], [.int (17), .int (nI dep)])) rfl ?_
  refine aw_cle rfl (fun _ => ?_) (fun hq => absurd ((nI_leI (b := 17) (by omega) (by omega)).mpr (by omega)) hq)
  have fin : ∀ r : Int32, Q (some (.int r)) σ → r ≠ 0 → AW g (d + 2) 32 (60, [some (.ref (a)), some (.ref (a2)), some (.int (nI dep)), some (.int r)], []) σ Q := by
    intro r hr hr0
    refine aw_run 1 (F' := (61, [some (.ref (a)), some (.ref (a2)), some (.int (nI dep)), some (.int (r))], [.int (r)])) rfl ?_
    refine aw_zne rfl (fun h4 => ?_) (fun h4 => absurd hr0 h4)
    refine aw_run 1 (F' := (74, [some (.ref (a)), some (.ref (a2)), some (.int (nI dep)), some (.int (r))], [.int (r)])) rfl ?_
    exact aw_iret rfl ⟨_, rfl, rfl⟩ hr
  have fin2 : ∀ r : Int32, Q (some (.int r)) σ → r ≠ 0 → AW g (d + 2) 32 (44, [some (.ref (a)), some (.ref (a2)), some (.int (nI dep)), some (.int r)], []) σ Q := by
    intro r hr hr0
    refine aw_run 1 (F' := (45, [some (.ref (a)), some (.ref (a2)), some (.int (nI dep)), some (.int (r))], [.int (r)])) rfl ?_
    refine aw_zne rfl (fun h4 => ?_) (fun h4 => absurd hr0 h4)
    exact fin r hr hr0
  refine aw_run 1 (F' := (17, [some (.ref (a)), some (.ref (a2)), some (.int (nI dep)), none], [.ref (a)])) rfl ?_
  refine aw_v [.ref (a)] [] rfl (by decide) rfl ha rfl rfl (Nat.le_of_ble_eq_true rfl) (Nat.le_of_ble_eq_true rfl) ?_
  refine c_rank h1 ?_
  refine aw_run 1 (F' := (21, [some (.ref (a)), some (.ref (a2)), some (.int (nI dep)), none], [.ref (a2), .int (nI (sp_cls b.1))])) rfl ?_
  refine aw_v [.ref (a2)] [.int (nI (sp_cls b.1))] rfl (by decide) rfl ha2 rfl rfl (Nat.le_of_ble_eq_true rfl) (Nat.le_of_ble_eq_true rfl) ?_
  refine c_rank h2 ?_
  refine aw_s [.int (nI (sp_cls b.1)), .int (nI (sp_cls b2.1))] [] rfl ⟨by decide, by decide⟩ rfl rfl (Nat.le_of_ble_eq_true rfl) (Nat.le_of_ble_eq_true rfl) ?_
  refine c_icmpN (sp_cls_lt _) (sp_cls_lt _) ?_
  refine aw_run 2 (F' := (29, [some (.ref (a)), some (.ref (a2)), some (.int (nI dep)), some (.int (sp_nc (sp_cls b.1) (sp_cls b2.1)))], [.int (sp_nc (sp_cls b.1) (sp_cls b2.1))])) rfl ?_
  unfold sp_vc at hQ
  dsimp only at hQ
  generalize sp_nc (sp_cls b.1) (sp_cls b2.1) = r0 at hQ ⊢
  refine aw_zne rfl (fun q0 => ?_) (fun q0 => ?_)
  · rw [sp_or_n q0] at hQ
    exact fin2 r0 hQ q0
  · have q0 : r0 = 0 := Decidable.of_not_not q0
    subst q0
    rw [sp_or_0] at hQ
    refine aw_run 1 (F' := (33, [some (.ref (a)), some (.ref (a2)), some (.int (nI dep)), some (.int (0))], [.ref (a)])) rfl ?_
    refine aw_get rfl ha rfl ?_
    refine aw_run 1 (F' := (37, [some (.ref (a)), some (.ref (a2)), some (.int (nI dep)), some (.int (0))], [.ref (a2), .long (num)])) rfl ?_
    refine aw_get rfl ha2 rfl ?_
    refine aw_s [.long (num), .long (num2)] [] rfl ⟨by decide, by decide⟩ rfl rfl (Nat.le_of_ble_eq_true rfl) (Nat.le_of_ble_eq_true rfl) ?_
    refine c_lcmp _ _ ?_
    rw [hnum, hnum2]
    refine aw_run 2 (F' := (45, [some (.ref (a)), some (.ref (a2)), some (.int (nI dep)), some (.int (sp_ic b.2.2.1 b2.2.2.1))], [.int (sp_ic b.2.2.1 b2.2.2.1)])) rfl ?_
    generalize sp_ic b.2.2.1 b2.2.2.1 = r1 at hQ ⊢
    refine aw_zne rfl (fun q1 => ?_) (fun q1 => ?_)
    · rw [sp_or_n q1] at hQ
      exact fin r1 hQ q1
    · have q1 : r1 = 0 := Decidable.of_not_not q1
      subst q1
      rw [sp_or_0] at hQ
      refine aw_run 1 (F' := (49, [some (.ref (a)), some (.ref (a2)), some (.int (nI dep)), some (.int (0))], [.ref (a)])) rfl ?_
      refine aw_get rfl ha rfl ?_
      refine aw_run 1 (F' := (53, [some (.ref (a)), some (.ref (a2)), some (.int (nI dep)), some (.int (0))], [.ref (a2), .ref (ba)])) rfl ?_
      refine aw_get rfl ha2 rfl ?_
      refine aw_s [.ref (ba), .ref (ba2)] [] rfl ⟨by decide, by decide⟩ rfl rfl (Nat.le_of_ble_eq_true rfl) (Nat.le_of_ble_eq_true rfl) ?_
      refine c_ofBytes hba hba2 ?_
      refine aw_run 2 (F' := (61, [some (.ref (a)), some (.ref (a2)), some (.int (nI dep)), some (.int (sp_bc b.2.2.2 b2.2.2.2))], [.int (sp_bc b.2.2.2 b2.2.2.2)])) rfl ?_
      have hln : sp_bc b.2.2.2 b2.2.2.2 = 0 → b.2.2.2.length = b2.2.2.2.length := sp_bc_0len
      generalize sp_bc b.2.2.2 b2.2.2.2 = r2 at hQ hln ⊢
      refine aw_zne rfl (fun q2 => ?_) (fun q2 => ?_)
      · rw [sp_or_n q2] at hQ
        refine aw_run 1 (F' := (74, [some (.ref (a)), some (.ref (a2)), some (.int (nI dep)), some (.int (r2))], [.int (r2)])) rfl ?_
        exact aw_iret rfl ⟨_, rfl, rfl⟩ hQ
      · have q2 : r2 = 0 := Decidable.of_not_not q2
        subst q2
        rw [sp_or_0] at hQ
        refine aw_run 3 (F' := (67, [some (.ref (a)), some (.ref (a2)), some (.int (nI dep)), some (.int (0))], [.int (nI dep), .ref (a2), .ref (a)])) rfl ?_
        refine aw_s [.ref (a), .ref (a2), .int (nI dep)] [] rfl ⟨by decide, by decide⟩ rfl rfl (Nat.le_of_ble_eq_true rfl) (Nat.le_of_ble_eq_true rfl) ?_
        refine c_ofElements hL h1 h2 hc hc2 e1 (by rw [e2, hln rfl]) hdep (by omega) ?_
        refine aw_run 1 (F' := (74, [some (.ref (a)), some (.ref (a2)), some (.int (nI dep)), some (.int (0))], [.int (sp_fc c c')])) rfl ?_
        exact aw_iret rfl ⟨_, rfl, rfl⟩ hQ
end P22
