/-! a path's steps, from the front -/
def pcnt (β : Nat → Nat) : Nat → Nat
  | 0 => 0
  | k + 1 => pcnt β k + (if β k = 46 then 1 else 0)
def sgs (β : Nat → Nat) : Nat → Nat → List (List Nat)
  | 0, e => [sp_sub β 0 e]
  | j + 1, e => if β j = 46 then sgs β j j ++ [sp_sub β (j + 1) e] else sgs β j e
def pcnd (β : Nat → Nat) (n k : Nat) : Prop := β k ≠ 0 ∧ ¬ (β k = 46 ∧ (k = 0 ∨ k + 1 = n ∨ β (k - 1) = 46))
def okp (β : Nat → Nat) : Nat → Nat → Prop
  | 0, e => e ≠ 0
  | j + 1, e => β j ≠ 0 ∧ (if β j = 46 then j + 1 ≠ e ∧ okp β j j else okp β j e)
theorem pl_eq (β : Nat → Nat) : ∀ (j e : Nat) (acc : List (List Nat)), acc.length ≤ 8 → (okp β j e ∧ acc.length + pcnt β j + 1 ≤ 8 → sp_pl β j e acc = some (sgs β j e ++ acc)) ∧ (¬ (okp β j e ∧ acc.length + pcnt β j + 1 ≤ 8) → sp_pl β j e acc = none)
  | 0, e, acc, ha => by
    simp only [sp_pl, okp, sgs, pcnt]
    refine ⟨fun h => ?_, fun h => ?_⟩
    · rw [if_neg (by omega)]
      rfl
    · rw [if_pos (by omega)]
  | j + 1, e, acc, ha => by
    simp only [sp_pl, okp, sgs, pcnt]
    by_cases h0 : β j = 0
    · rw [if_pos h0]
      exact ⟨fun h => absurd h0 h.1.1, fun _ => rfl⟩
    · rw [if_neg h0]
      by_cases h1 : β j = 46
      · simp only [if_pos h1]
        by_cases h2 : j + 1 = e ∨ acc.length = 8
        · rw [if_pos h2]
          refine ⟨fun h => ?_, fun _ => rfl⟩
          omega
        · rw [if_neg h2]
          have ih := pl_eq β j j (sp_sub β (j + 1) e :: acc) (by simp; omega)
          have hl : (sp_sub β (j + 1) e :: acc).length = acc.length + 1 := rfl
          refine ⟨fun h => ?_, fun h => ?_⟩
          · rw [ih.1 ⟨h.1.2.2, by omega⟩, List.append_assoc]
            rfl
          · refine ih.2 (fun z => h ⟨⟨h0, by omega, z.1⟩, by omega⟩)
      · simp only [if_neg h1]
        have ih := pl_eq β j e acc ha
        exact ⟨fun h => ih.1 ⟨h.1.2, by omega⟩, fun h => ih.2 (fun z => h ⟨⟨h0, z.1⟩, by omega⟩)⟩
theorem okp_iff (β : Nat → Nat) : ∀ (j e : Nat), j ≤ e → (okp β j e ↔ e ≠ 0 ∧ ∀ k, k < j → pcnd β e k)
  | 0, e, _ => ⟨fun h => ⟨h, fun k hk => by omega⟩, fun h => h.1⟩
  | j + 1, e, hje => by
    simp only [okp]
    by_cases h1 : β j = 46
    · simp only [if_pos h1]
      rw [okp_iff β j j (Nat.le_refl _)]
      refine ⟨fun ⟨a1, a2, a3, a4⟩ => ⟨by omega, fun k hk => ?_⟩, fun ⟨a1, a2⟩ => ?_⟩
      · by_cases e1 : k = j
        · subst e1
          refine ⟨a1, fun z => ?_⟩
          rcases z.2 with z2 | z2 | z2
          · exact a3 z2
          · exact a2 z2
          · have := (a4 (k - 1) (by omega)).2 ⟨z2, Or.inr (Or.inl (by omega))⟩
            exact this
        · have := a4 k (by omega)
          refine ⟨this.1, fun z => this.2 ⟨z.1, ?_⟩⟩
          rcases z.2 with z2 | z2 | z2
          · exact Or.inl z2
          · omega
          · exact Or.inr (Or.inr z2)
      · have aj := a2 j (by omega)
        refine ⟨aj.1, fun z => aj.2 ⟨h1, Or.inr (Or.inl z)⟩, fun z => aj.2 ⟨h1, Or.inl z⟩, fun k hk => ?_⟩
        have ak := a2 k (by omega)
        refine ⟨ak.1, fun z => ?_⟩
        rcases z.2 with z2 | z2 | z2
        · exact ak.2 ⟨z.1, Or.inl z2⟩
        · refine aj.2 ⟨h1, Or.inr (Or.inr ?_)⟩
          rw [show j - 1 = k by omega]
          exact z.1
        · exact ak.2 ⟨z.1, Or.inr (Or.inr z2)⟩
    · simp only [if_neg h1]
      rw [okp_iff β j e (by omega)]
      refine ⟨fun ⟨a1, a2, a3⟩ => ⟨a2, fun k hk => ?_⟩, fun ⟨a1, a2⟩ => ⟨(a2 j (by omega)).1, a1, fun k hk => a2 k (by omega)⟩⟩
      by_cases e1 : k = j
      · subst e1
        exact ⟨a1, fun z => h1 z.1⟩
      · exact a3 k (by omega)
theorem pth_eq (β : Nat → Nat) (n : Nat) : ((n ≠ 0 ∧ sp_tx β n 0 n = true) ∧ (∀ k, k < n → pcnd β n k) ∧ pcnt β n + 1 ≤ 8 → sp_pth β n = some (sgs β n n)) ∧ (¬ ((n ≠ 0 ∧ sp_tx β n 0 n = true) ∧ (∀ k, k < n → pcnd β n k) ∧ pcnt β n + 1 ≤ 8) → sp_pth β n = none) := by
  have h := pl_eq β n n [] (by simp)
  have hk := okp_iff β n n (Nat.le_refl _)
  have hl : ([] : List (List Nat)).length = 0 := rfl
  unfold sp_pth
  refine ⟨fun z => ?_, fun z => ?_⟩
  · rw [if_pos z.1.2, h.1 ⟨hk.mpr ⟨z.1.1, z.2.1⟩, by omega⟩, List.append_nil]
  · by_cases ht : sp_tx β n 0 n = true
    · rw [if_pos ht]
      refine h.2 (fun w => z ⟨⟨(hk.mp w.1).1, ht⟩, (hk.mp w.1).2, by omega⟩)
    · rw [if_neg ht]
theorem sgs_len (β : Nat → Nat) : ∀ j e, (sgs β j e).length = pcnt β j + 1
  | 0, _ => rfl
  | j + 1, e => by
    simp only [sgs, pcnt]
    by_cases h : β j = 46
    · rw [if_pos h, if_pos h, List.length_append, sgs_len β j j]
      rfl
    · rw [if_neg h, if_neg h, sgs_len β j e]
theorem sgs_at (β : Nat → Nat) : ∀ (j e : Nat), j ≤ e → (∀ y, j ≤ y → y < e → β y ≠ 46) → ∀ i nm, (sgs β j e)[i]? = some nm → ∃ a x, (a = 0 ∨ (0 < a ∧ β (a - 1) = 46)) ∧ a ≤ j ∧ pcnt β a = i ∧ nm = sp_sub β a x ∧ a ≤ x ∧ x ≤ e ∧ (∀ y, a ≤ y → y < x → β y ≠ 46) ∧ (x = e ∨ β x = 46)
  | 0, e, hje, hn, i, nm, h => by
    simp only [sgs] at h
    cases i with
    | zero =>
      simp at h
      exact ⟨0, e, Or.inl rfl, Nat.le_refl _, rfl, h.symm, Nat.zero_le _, Nat.le_refl _, fun y _ h2 => hn y (Nat.zero_le _) h2, Or.inl rfl⟩
    | succ i => simp at h
  | j + 1, e, hje, hn, i, nm, h => by
    simp only [sgs] at h
    by_cases h1 : β j = 46
    · rw [if_pos h1] at h
      by_cases hi : i < (sgs β j j).length
      · rw [List.getElem?_append_left hi] at h
        obtain ⟨a, x, b1, b2, b3, b4, b5, b6, b7, b8⟩ := sgs_at β j j (Nat.le_refl _) (fun y h1 h2 => by omega) i nm h
        refine ⟨a, x, b1, by omega, b3, b4, b5, by omega, b7, Or.inr ?_⟩
        rcases b8 with z | z
        · rw [z]; exact h1
        · exact z
      · rw [List.getElem?_append_right (by omega)] at h
        have hi2 : i - (sgs β j j).length = 0 := by
          cases hq : i - (sgs β j j).length with
          | zero => rfl
          | succ q => rw [hq] at h; simp at h
        rw [hi2] at h
        simp at h
        rw [sgs_len] at hi hi2
        refine ⟨j + 1, e, Or.inr ⟨by omega, h1⟩, Nat.le_refl _, ?_, h.symm, hje, Nat.le_refl _, fun y h1 h2 => hn y h1 h2, Or.inl rfl⟩
        simp only [pcnt, if_pos h1]
        omega
    · rw [if_neg h1] at h
      obtain ⟨a, x, b1, b2, b3, b4, b5, b6, b7, b8⟩ := sgs_at β j e (by omega) (fun y h2 h3 => by
        by_cases e1 : y = j
        · rw [e1]; exact h1
        · exact hn y (by omega) h3) i nm h
      exact ⟨a, x, b1, by omega, b3, b4, b5, b6, b7, b8⟩
theorem pcnt_mono (β : Nat → Nat) {a : Nat} : ∀ {b : Nat}, a ≤ b → pcnt β a ≤ pcnt β b
  | 0, h => by rw [show a = 0 by omega]; exact Nat.le_refl _
  | b + 1, h => by
    by_cases e : a = b + 1
    · rw [e]; exact Nat.le_refl _
    · have := pcnt_mono β (a := a) (b := b) (by omega)
      simp only [pcnt]
      omega
section P77
variable {g : Nat × Nat} {d : Nat} {σ0 σ : am_H} {Q : Option Value → am_H → Prop} {m : Nat} {μ : sp_M}
theorem m_pL1 (hM : MS g m σ0 σ μ) {β : Nat → Nat} (hT : ∀ i, μ 1 (12000 + i) = β i) {n : Nat} {G0 : Prop} (hn : n ≤ 2000) (hS : ∀ (gd : Nat) (x5 : Option Value), gd ≤ 1 → (gd = 1 ↔ G0 ∧ ∀ i, i < n → pcnd β n i) → AW g (d + 1) 76 (156, [some (.ref m), some (.int (nI n)), some (.int (nI gd)), some (.int (nI (1 + pcnt β n))), some (.int (nI n)), x5], []) σ Q) : ∀ (r k gd : Nat) (x5 : Option Value), k + r = n → gd ≤ 1 → (gd = 1 ↔ G0 ∧ ∀ i, i < k → pcnd β n i) → pcnt β k ≤ k → AW g (d + 1) 76 (50, [some (.ref m), some (.int (nI n)), some (.int (nI gd)), some (.int (nI (1 + pcnt β k))), some (.int (nI k)), x5], []) σ Q := by
  intro r
  induction r with
  | zero =>
    intro k gd x5 hk hg hgd hpk
    have hk' : k = n := by omega
    subst hk'
    refine aw_run 2 (F' := (53, [some (.ref m), some (.int (nI k)), some (.int (nI gd)), some (.int (nI (1 + pcnt β k))), some (.int (nI k)), x5], [.int (nI k), .int (nI k)])) rfl ?_
    refine an_cge rfl (by omega) (by omega) (fun h1 => ?_) (fun h1 => ?_)
    · exact hS gd x5 hg hgd
    · omega
  | succ r ih =>
    intro k gd x5 hk hg hgd hpk
    refine aw_run 2 (F' := (53, [some (.ref m), some (.int (nI n)), some (.int (nI gd)), some (.int (nI (1 + pcnt β k))), some (.int (nI k)), x5], [.int (nI n), .int (nI k)])) rfl ?_
    refine an_cge rfl (by omega) (by omega) (fun h1 => ?_) (fun h1 => ?_)
    · omega
    · refine aw_run 4 (F' := (63, [some (.ref m), some (.int (nI n)), some (.int (nI gd)), some (.int (nI (1 + pcnt β k))), some (.int (nI k)), x5], [.int (nI 12000 + nI k), .ref m])) rfl ?_
      rw [nI_add]
      refine aw_v [.ref m, .int (nI (12000 + k))] [] rfl (by decide) rfl hM.o rfl rfl (Nat.le_of_ble_eq_true rfl) (Nat.le_of_ble_eq_true rfl) ?_
      have hB1 := hM.by (i := 12000 + k) (by omega)
      rw [show μ 1 (12000 + k) = β k from hT k] at hB1
      refine m_at hM (by omega) ?_
      rw [show μ 1 (12000 + k) = β k from hT k]
      show AW g _ 76 (66, [some (.ref m), some (.int (nI n)), some (.int (nI gd)), some (.int (nI (1 + pcnt β k))), some (.int (nI k)), x5], [.int (nI (β k))]) σ _
      refine aw_run 1 (F' := (68, [some (.ref m), some (.int (nI n)), some (.int (nI gd)), some (.int (nI (1 + pcnt β k))), some (.int (nI k)), x5], [.int (nI 46), .int (nI (β k))])) rfl ?_
      refine an_cne rfl (by omega) (by omega) (fun h2 => ?_) (fun h2 => ?_)
      · refine aw_run 3 (F' := (79, [some (.ref m), some (.int (nI n)), some (.int (nI gd)), some (.int (nI (1 + pcnt β k))), some (.int (nI k)), some (.int (nI 0))], [.int (nI gd)])) rfl ?_
        refine an_zeq rfl (by omega) (fun h3 => ?_) (fun h3 => ?_)
        · refine aw_run 4 (F' := (140, [some (.ref m), some (.int (nI n)), some (.int (nI 0)), some (.int (nI (1 + pcnt β k))), some (.int (nI k)), some (.int (nI 0))], [.int (nI 0), .int (nI (1 + pcnt β k))])) rfl ?_
          refine an_zeq rfl (by omega) (fun _ => ?_) (fun z => absurd z (by omega))
          refine aw_run 2 (F' := (149, [some (.ref m), some (.int (nI n)), some (.int (nI 0)), some (.int (nI (1 + pcnt β k))), some (.int (nI k)), some (.int (nI 0))], [.int (nI (1 + pcnt β k) + nI 0)])) rfl ?_
          rw [nI_add]
          refine aw_run 2 (F' := (153, [some (.ref m), some (.int (nI n)), some (.int (nI 0)), some (.int (nI ((1 + pcnt β k) + 0))), some (.int (nI k + nI 1)), some (.int (nI 0))], [])) rfl ?_
          rw [nI_add]
          refine aw_run 1 (F' := (50, [some (.ref m), some (.int (nI n)), some (.int (nI 0)), some (.int (nI ((1 + pcnt β k) + 0))), some (.int (nI (k + 1))), some (.int (nI 0))], [])) rfl ?_
          have hp : pcnt β (k + 1) = pcnt β k + 0 := by simp only [pcnt]; rw [if_neg (by assumption)]
          rw [show (1 + pcnt β k) + 0 = 1 + pcnt β (k + 1) by omega]
          refine ih (k + 1) 0 _ (by omega) (by omega) ⟨fun z => by omega, fun z => ?_⟩ (by omega)
          have z1 := z.2 k (by omega)
          unfold pcnd at z1
          have z2 := hgd.mpr ⟨z.1, fun i hi => z.2 i (by omega)⟩
          omega
        · refine aw_run 1 (F' := (83, [some (.ref m), some (.int (nI n)), some (.int (nI gd)), some (.int (nI (1 + pcnt β k))), some (.int (nI k)), some (.int (nI 0))], [.ref m])) rfl ?_
          refine aw_get rfl hM.o rfl ?_
          refine aw_run 3 (F' := (92, [some (.ref m), some (.int (nI n)), some (.int (nI gd)), some (.int (nI (1 + pcnt β k))), some (.int (nI k)), some (.int (nI 0))], [.int (nI 12000 + nI k), .ref (m + 1)])) rfl ?_
          rw [nI_add]
          refine ms_bld hM rfl (k := 1) (n := 14000) (by decide) (by omega) ?_
          rw [show μ 1 (12000 + k) = β k from hT k]
          refine ab_zeq rfl (by omega) (fun h5 => ?_) (fun h5 => ?_)
          · refine aw_run 4 (F' := (140, [some (.ref m), some (.int (nI n)), some (.int (nI 0)), some (.int (nI (1 + pcnt β k))), some (.int (nI k)), some (.int (nI 0))], [.int (nI 0), .int (nI (1 + pcnt β k))])) rfl ?_
            refine an_zeq rfl (by omega) (fun _ => ?_) (fun z => absurd z (by omega))
            refine aw_run 2 (F' := (149, [some (.ref m), some (.int (nI n)), some (.int (nI 0)), some (.int (nI (1 + pcnt β k))), some (.int (nI k)), some (.int (nI 0))], [.int (nI (1 + pcnt β k) + nI 0)])) rfl ?_
            rw [nI_add]
            refine aw_run 2 (F' := (153, [some (.ref m), some (.int (nI n)), some (.int (nI 0)), some (.int (nI ((1 + pcnt β k) + 0))), some (.int (nI k + nI 1)), some (.int (nI 0))], [])) rfl ?_
            rw [nI_add]
            refine aw_run 1 (F' := (50, [some (.ref m), some (.int (nI n)), some (.int (nI 0)), some (.int (nI ((1 + pcnt β k) + 0))), some (.int (nI (k + 1))), some (.int (nI 0))], [])) rfl ?_
            have hp : pcnt β (k + 1) = pcnt β k + 0 := by simp only [pcnt]; rw [if_neg (by assumption)]
            rw [show (1 + pcnt β k) + 0 = 1 + pcnt β (k + 1) by omega]
            refine ih (k + 1) 0 _ (by omega) (by omega) ⟨fun z => by omega, fun z => ?_⟩ (by omega)
            have z1 := z.2 k (by omega)
            unfold pcnd at z1
            have z2 := hgd.mpr ⟨z.1, fun i hi => z.2 i (by omega)⟩
            omega
          · refine aw_run 1 (F' := (98, [some (.ref m), some (.int (nI n)), some (.int (nI gd)), some (.int (nI (1 + pcnt β k))), some (.int (nI k)), some (.int (nI 0))], [.int (nI 0)])) rfl ?_
            refine an_zeq rfl (by omega) (fun _ => ?_) (fun z => absurd z (by omega))
            refine aw_run 5 (F' := (140, [some (.ref m), some (.int (nI n)), some (.int (nI 1)), some (.int (nI (1 + pcnt β k))), some (.int (nI k)), some (.int (nI 0))], [.int (nI 0), .int (nI (1 + pcnt β k))])) rfl ?_
            refine an_zeq rfl (by omega) (fun _ => ?_) (fun z => absurd z (by omega))
            refine aw_run 2 (F' := (149, [some (.ref m), some (.int (nI n)), some (.int (nI 1)), some (.int (nI (1 + pcnt β k))), some (.int (nI k)), some (.int (nI 0))], [.int (nI (1 + pcnt β k) + nI 0)])) rfl ?_
            rw [nI_add]
            refine aw_run 2 (F' := (153, [some (.ref m), some (.int (nI n)), some (.int (nI 1)), some (.int (nI ((1 + pcnt β k) + 0))), some (.int (nI k + nI 1)), some (.int (nI 0))], [])) rfl ?_
            rw [nI_add]
            refine aw_run 1 (F' := (50, [some (.ref m), some (.int (nI n)), some (.int (nI 1)), some (.int (nI ((1 + pcnt β k) + 0))), some (.int (nI (k + 1))), some (.int (nI 0))], [])) rfl ?_
            have hp : pcnt β (k + 1) = pcnt β k + 0 := by simp only [pcnt]; rw [if_neg (by assumption)]
            rw [show (1 + pcnt β k) + 0 = 1 + pcnt β (k + 1) by omega]
            refine ih (k + 1) 1 _ (by omega) (by omega) ⟨fun _ => ⟨(hgd.mp (by omega)).1, fun i hi => ?_⟩, fun _ => rfl⟩ (by omega)
            by_cases e1 : i = k
            · subst e1
              exact ⟨by assumption, fun z => by omega⟩
            · exact (hgd.mp (by omega)).2 i (by omega)
      · refine aw_run 4 (F' := (79, [some (.ref m), some (.int (nI n)), some (.int (nI gd)), some (.int (nI (1 + pcnt β k))), some (.int (nI k)), some (.int (nI 1))], [.int (nI gd)])) rfl ?_
        refine an_zeq rfl (by omega) (fun h9 => ?_) (fun h9 => ?_)
        · refine aw_run 4 (F' := (140, [some (.ref m), some (.int (nI n)), some (.int (nI 0)), some (.int (nI (1 + pcnt β k))), some (.int (nI k)), some (.int (nI 1))], [.int (nI 1), .int (nI (1 + pcnt β k))])) rfl ?_
          refine an_zeq rfl (by omega) (fun z => absurd z (by omega)) (fun _ => ?_)
          refine aw_run 3 (F' := (149, [some (.ref m), some (.int (nI n)), some (.int (nI 0)), some (.int (nI (1 + pcnt β k))), some (.int (nI k)), some (.int (nI 1))], [.int (nI (1 + pcnt β k) + nI 1)])) rfl ?_
          rw [nI_add]
          refine aw_run 2 (F' := (153, [some (.ref m), some (.int (nI n)), some (.int (nI 0)), some (.int (nI ((1 + pcnt β k) + 1))), some (.int (nI k + nI 1)), some (.int (nI 1))], [])) rfl ?_
          rw [nI_add]
          refine aw_run 1 (F' := (50, [some (.ref m), some (.int (nI n)), some (.int (nI 0)), some (.int (nI ((1 + pcnt β k) + 1))), some (.int (nI (k + 1))), some (.int (nI 1))], [])) rfl ?_
          have hp : pcnt β (k + 1) = pcnt β k + 1 := by simp only [pcnt]; rw [if_pos (by assumption)]
          rw [show (1 + pcnt β k) + 1 = 1 + pcnt β (k + 1) by omega]
          refine ih (k + 1) 0 _ (by omega) (by omega) ⟨fun z => by omega, fun z => ?_⟩ (by omega)
          have z1 := z.2 k (by omega)
          unfold pcnd at z1
          have z2 := hgd.mpr ⟨z.1, fun i hi => z.2 i (by omega)⟩
          omega
        · refine aw_run 1 (F' := (83, [some (.ref m), some (.int (nI n)), some (.int (nI gd)), some (.int (nI (1 + pcnt β k))), some (.int (nI k)), some (.int (nI 1))], [.ref m])) rfl ?_
          refine aw_get rfl hM.o rfl ?_
          refine aw_run 3 (F' := (92, [some (.ref m), some (.int (nI n)), some (.int (nI gd)), some (.int (nI (1 + pcnt β k))), some (.int (nI k)), some (.int (nI 1))], [.int (nI 12000 + nI k), .ref (m + 1)])) rfl ?_
          rw [nI_add]
          refine ms_bld hM rfl (k := 1) (n := 14000) (by decide) (by omega) ?_
          rw [show μ 1 (12000 + k) = β k from hT k]
          refine ab_zeq rfl (by omega) (fun h11 => ?_) (fun h11 => ?_)
          · refine aw_run 4 (F' := (140, [some (.ref m), some (.int (nI n)), some (.int (nI 0)), some (.int (nI (1 + pcnt β k))), some (.int (nI k)), some (.int (nI 1))], [.int (nI 1), .int (nI (1 + pcnt β k))])) rfl ?_
            refine an_zeq rfl (by omega) (fun z => absurd z (by omega)) (fun _ => ?_)
            refine aw_run 3 (F' := (149, [some (.ref m), some (.int (nI n)), some (.int (nI 0)), some (.int (nI (1 + pcnt β k))), some (.int (nI k)), some (.int (nI 1))], [.int (nI (1 + pcnt β k) + nI 1)])) rfl ?_
            rw [nI_add]
            refine aw_run 2 (F' := (153, [some (.ref m), some (.int (nI n)), some (.int (nI 0)), some (.int (nI ((1 + pcnt β k) + 1))), some (.int (nI k + nI 1)), some (.int (nI 1))], [])) rfl ?_
            rw [nI_add]
            refine aw_run 1 (F' := (50, [some (.ref m), some (.int (nI n)), some (.int (nI 0)), some (.int (nI ((1 + pcnt β k) + 1))), some (.int (nI (k + 1))), some (.int (nI 1))], [])) rfl ?_
            have hp : pcnt β (k + 1) = pcnt β k + 1 := by simp only [pcnt]; rw [if_pos (by assumption)]
            rw [show (1 + pcnt β k) + 1 = 1 + pcnt β (k + 1) by omega]
            refine ih (k + 1) 0 _ (by omega) (by omega) ⟨fun z => by omega, fun z => ?_⟩ (by omega)
            have z1 := z.2 k (by omega)
            unfold pcnd at z1
            have z2 := hgd.mpr ⟨z.1, fun i hi => z.2 i (by omega)⟩
            omega
          · refine aw_run 1 (F' := (98, [some (.ref m), some (.int (nI n)), some (.int (nI gd)), some (.int (nI (1 + pcnt β k))), some (.int (nI k)), some (.int (nI 1))], [.int (nI 1)])) rfl ?_
            refine an_zeq rfl (by omega) (fun z => absurd z (by omega)) (fun _ => ?_)
            refine aw_run 1 (F' := (103, [some (.ref m), some (.int (nI n)), some (.int (nI gd)), some (.int (nI (1 + pcnt β k))), some (.int (nI k)), some (.int (nI 1))], [.int (nI k)])) rfl ?_
            refine an_zeq rfl (by omega) (fun h14 => ?_) (fun h14 => ?_)
            · refine aw_run 4 (F' := (140, [some (.ref m), some (.int (nI n)), some (.int (nI 0)), some (.int (nI (1 + pcnt β k))), some (.int (nI k)), some (.int (nI 1))], [.int (nI 1), .int (nI (1 + pcnt β k))])) rfl ?_
              refine an_zeq rfl (by omega) (fun z => absurd z (by omega)) (fun _ => ?_)
              refine aw_run 3 (F' := (149, [some (.ref m), some (.int (nI n)), some (.int (nI 0)), some (.int (nI (1 + pcnt β k))), some (.int (nI k)), some (.int (nI 1))], [.int (nI (1 + pcnt β k) + nI 1)])) rfl ?_
              rw [nI_add]
              refine aw_run 2 (F' := (153, [some (.ref m), some (.int (nI n)), some (.int (nI 0)), some (.int (nI ((1 + pcnt β k) + 1))), some (.int (nI k + nI 1)), some (.int (nI 1))], [])) rfl ?_
              rw [nI_add]
              refine aw_run 1 (F' := (50, [some (.ref m), some (.int (nI n)), some (.int (nI 0)), some (.int (nI ((1 + pcnt β k) + 1))), some (.int (nI (k + 1))), some (.int (nI 1))], [])) rfl ?_
              have hp : pcnt β (k + 1) = pcnt β k + 1 := by simp only [pcnt]; rw [if_pos (by assumption)]
              rw [show (1 + pcnt β k) + 1 = 1 + pcnt β (k + 1) by omega]
              refine ih (k + 1) 0 _ (by omega) (by omega) ⟨fun z => by omega, fun z => ?_⟩ (by omega)
              have z1 := z.2 k (by omega)
              unfold pcnd at z1
              have z2 := hgd.mpr ⟨z.1, fun i hi => z.2 i (by omega)⟩
              omega
            · refine aw_run 4 (F' := (111, [some (.ref m), some (.int (nI n)), some (.int (nI gd)), some (.int (nI (1 + pcnt β k))), some (.int (nI k)), some (.int (nI 1))], [.int (nI n - nI 1), .int (nI k)])) rfl ?_
              rw [nI_sub (by omega)]
              refine an_ceq rfl (by omega) (by omega) (fun h16 => ?_) (fun h16 => ?_)
              · refine aw_run 4 (F' := (140, [some (.ref m), some (.int (nI n)), some (.int (nI 0)), some (.int (nI (1 + pcnt β k))), some (.int (nI k)), some (.int (nI 1))], [.int (nI 1), .int (nI (1 + pcnt β k))])) rfl ?_
                refine an_zeq rfl (by omega) (fun z => absurd z (by omega)) (fun _ => ?_)
                refine aw_run 3 (F' := (149, [some (.ref m), some (.int (nI n)), some (.int (nI 0)), some (.int (nI (1 + pcnt β k))), some (.int (nI k)), some (.int (nI 1))], [.int (nI (1 + pcnt β k) + nI 1)])) rfl ?_
                rw [nI_add]
                refine aw_run 2 (F' := (153, [some (.ref m), some (.int (nI n)), some (.int (nI 0)), some (.int (nI ((1 + pcnt β k) + 1))), some (.int (nI k + nI 1)), some (.int (nI 1))], [])) rfl ?_
                rw [nI_add]
                refine aw_run 1 (F' := (50, [some (.ref m), some (.int (nI n)), some (.int (nI 0)), some (.int (nI ((1 + pcnt β k) + 1))), some (.int (nI (k + 1))), some (.int (nI 1))], [])) rfl ?_
                have hp : pcnt β (k + 1) = pcnt β k + 1 := by simp only [pcnt]; rw [if_pos (by assumption)]
                rw [show (1 + pcnt β k) + 1 = 1 + pcnt β (k + 1) by omega]
                refine ih (k + 1) 0 _ (by omega) (by omega) ⟨fun z => by omega, fun z => ?_⟩ (by omega)
                have z1 := z.2 k (by omega)
                unfold pcnd at z1
                have z2 := hgd.mpr ⟨z.1, fun i hi => z.2 i (by omega)⟩
                omega
              · refine aw_run 4 (F' := (121, [some (.ref m), some (.int (nI n)), some (.int (nI gd)), some (.int (nI (1 + pcnt β k))), some (.int (nI k)), some (.int (nI 1))], [.int (nI 12000 + nI k), .ref m])) rfl ?_
                rw [nI_add]
                refine aw_run 2 (F' := (123, [some (.ref m), some (.int (nI n)), some (.int (nI gd)), some (.int (nI (1 + pcnt β k))), some (.int (nI k)), some (.int (nI 1))], [.int (nI (12000 + k) - nI 1), .ref m])) rfl ?_
                rw [nI_sub (by omega)]
                refine aw_v [.ref m, .int (nI ((12000 + k) - 1))] [] rfl (by decide) rfl hM.o rfl rfl (Nat.le_of_ble_eq_true rfl) (Nat.le_of_ble_eq_true rfl) ?_
                have hB2 := hM.by (i := (12000 + k) - 1) (by omega)
                rw [show μ 1 ((12000 + k) - 1) = β (k - 1) from (by rw [show 12000 + k - 1 = 12000 + (k - 1) by omega]; exact hT _)] at hB2
                refine m_at hM (by omega) ?_
                rw [show μ 1 ((12000 + k) - 1) = β (k - 1) from (by rw [show 12000 + k - 1 = 12000 + (k - 1) by omega]; exact hT _)]
                show AW g _ 76 (126, [some (.ref m), some (.int (nI n)), some (.int (nI gd)), some (.int (nI (1 + pcnt β k))), some (.int (nI k)), some (.int (nI 1))], [.int (nI (β (k - 1)))]) σ _
                refine aw_run 1 (F' := (128, [some (.ref m), some (.int (nI n)), some (.int (nI gd)), some (.int (nI (1 + pcnt β k))), some (.int (nI k)), some (.int (nI 1))], [.int (nI 46), .int (nI (β (k - 1)))])) rfl ?_
                refine an_ceq rfl (by omega) (by omega) (fun h18 => ?_) (fun h18 => ?_)
                · refine aw_run 4 (F' := (140, [some (.ref m), some (.int (nI n)), some (.int (nI 0)), some (.int (nI (1 + pcnt β k))), some (.int (nI k)), some (.int (nI 1))], [.int (nI 1), .int (nI (1 + pcnt β k))])) rfl ?_
                  refine an_zeq rfl (by omega) (fun z => absurd z (by omega)) (fun _ => ?_)
                  refine aw_run 3 (F' := (149, [some (.ref m), some (.int (nI n)), some (.int (nI 0)), some (.int (nI (1 + pcnt β k))), some (.int (nI k)), some (.int (nI 1))], [.int (nI (1 + pcnt β k) + nI 1)])) rfl ?_
                  rw [nI_add]
                  refine aw_run 2 (F' := (153, [some (.ref m), some (.int (nI n)), some (.int (nI 0)), some (.int (nI ((1 + pcnt β k) + 1))), some (.int (nI k + nI 1)), some (.int (nI 1))], [])) rfl ?_
                  rw [nI_add]
                  refine aw_run 1 (F' := (50, [some (.ref m), some (.int (nI n)), some (.int (nI 0)), some (.int (nI ((1 + pcnt β k) + 1))), some (.int (nI (k + 1))), some (.int (nI 1))], [])) rfl ?_
                  have hp : pcnt β (k + 1) = pcnt β k + 1 := by simp only [pcnt]; rw [if_pos (by assumption)]
                  rw [show (1 + pcnt β k) + 1 = 1 + pcnt β (k + 1) by omega]
                  refine ih (k + 1) 0 _ (by omega) (by omega) ⟨fun z => by omega, fun z => ?_⟩ (by omega)
                  have z1 := z.2 k (by omega)
                  unfold pcnd at z1
                  have z2 := hgd.mpr ⟨z.1, fun i hi => z.2 i (by omega)⟩
                  omega
                · refine aw_run 5 (F' := (140, [some (.ref m), some (.int (nI n)), some (.int (nI 1)), some (.int (nI (1 + pcnt β k))), some (.int (nI k)), some (.int (nI 1))], [.int (nI 1), .int (nI (1 + pcnt β k))])) rfl ?_
                  refine an_zeq rfl (by omega) (fun z => absurd z (by omega)) (fun _ => ?_)
                  refine aw_run 3 (F' := (149, [some (.ref m), some (.int (nI n)), some (.int (nI 1)), some (.int (nI (1 + pcnt β k))), some (.int (nI k)), some (.int (nI 1))], [.int (nI (1 + pcnt β k) + nI 1)])) rfl ?_
                  rw [nI_add]
                  refine aw_run 2 (F' := (153, [some (.ref m), some (.int (nI n)), some (.int (nI 1)), some (.int (nI ((1 + pcnt β k) + 1))), some (.int (nI k + nI 1)), some (.int (nI 1))], [])) rfl ?_
                  rw [nI_add]
                  refine aw_run 1 (F' := (50, [some (.ref m), some (.int (nI n)), some (.int (nI 1)), some (.int (nI ((1 + pcnt β k) + 1))), some (.int (nI (k + 1))), some (.int (nI 1))], [])) rfl ?_
                  have hp : pcnt β (k + 1) = pcnt β k + 1 := by simp only [pcnt]; rw [if_pos (by assumption)]
                  rw [show (1 + pcnt β k) + 1 = 1 + pcnt β (k + 1) by omega]
                  refine ih (k + 1) 1 _ (by omega) (by omega) ⟨fun _ => ⟨(hgd.mp (by omega)).1, fun i hi => ?_⟩, fun _ => rfl⟩ (by omega)
                  by_cases e1 : i = k
                  · subst e1
                    exact ⟨by assumption, fun z => by omega⟩
                  · exact (hgd.mp (by omega)).2 i (by omega)
end P77
