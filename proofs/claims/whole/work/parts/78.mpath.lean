theorem pcnt_le (β : Nat → Nat) : ∀ k, pcnt β k ≤ k
  | 0 => Nat.le_refl _
  | k + 1 => by
    have := pcnt_le β k
    simp only [pcnt]
    split <;> omega
def stp (β : Nat → Nat) (k : Nat) : Nat := if k = 0 then 0 else 1 + pcnt β (k - 1)
def pby (β : Nat → Nat) (y : Nat) : Nat := if β y = 46 then 0 else β y
def pI2 (β : Nat → Nat) (μ μ' : sp_M) (k : Nat) : Prop := (∀ f, f ≠ 3 → f ≠ 4 → f ≠ 5 → μ' f = μ f) ∧ μ' 3 0 = stp β k ∧ (∀ a, a < k → (a = 0 ∨ (0 < a ∧ β (a - 1) = 46)) → μ' 4 (pcnt β a) = a) ∧ ∀ y, y < k → μ' 5 y = pby β y
theorem stp_y {β : Nat → Nat} {k : Nat} (h : k = 0 ∨ (0 < k ∧ β (k - 1) = 46)) : stp β k = pcnt β k := by
  unfold stp
  rcases h with h | ⟨h1, h2⟩
  · subst h; rfl
  · obtain ⟨j, rfl⟩ : ∃ j, k = j + 1 := ⟨k - 1, by omega⟩
    rw [if_neg (by omega)]
    simp only [pcnt, Nat.add_sub_cancel] at h2 ⊢
    rw [if_pos h2]
    omega
theorem stp_n {β : Nat → Nat} {k : Nat} (h1 : 0 < k) (h2 : ¬ β (k - 1) = 46) : stp β k = pcnt β k + 1 := by
  obtain ⟨j, rfl⟩ : ∃ j, k = j + 1 := ⟨k - 1, by omega⟩
  unfold stp
  rw [if_neg (by omega)]
  simp only [pcnt, Nat.add_sub_cancel] at h2 ⊢
  rw [if_neg h2]
  omega
theorem stp_s (β : Nat → Nat) (k : Nat) : stp β (k + 1) = pcnt β k + 1 := by
  unfold stp
  rw [if_neg (by omega), Nat.add_sub_cancel]
  omega
theorem pcnt_st {β : Nat → Nat} {a k : Nat} (h : a < k) (hk : β (k - 1) = 46) : pcnt β a < pcnt β k := by
  obtain ⟨j, rfl⟩ : ∃ j, k = j + 1 := ⟨k - 1, by omega⟩
  have := pcnt_mono β (a := a) (b := j) (by omega)
  simp only [pcnt, Nat.add_sub_cancel] at hk ⊢
  rw [if_pos hk]
  omega
theorem pI2_y {β : Nat → Nat} {μ μ' : sp_M} {k b : Nat} (h : pI2 β μ μ' k) (hs : k = 0 ∨ (0 < k ∧ β (k - 1) = 46)) (hb : b = pby β k) : pI2 β μ (mup (mup (mup μ' 4 (pcnt β k) k) 3 0 (pcnt β k + 1)) 5 k b) (k + 1) := by
  obtain ⟨a1, a2, a3, a4⟩ := h
  refine ⟨fun f h1 h2 h3 => ?_, ?_, fun a ha hst => ?_, fun y hy => ?_⟩
  · rw [mup_k _ _ _ h3, mup_k _ _ _ h1, mup_k _ _ _ h2]
    exact a1 f h1 h2 h3
  · rw [mup_k _ _ _ (by decide), mup_s, stp_s]
  · rw [mup_k _ _ _ (by decide), mup_k _ _ _ (by decide)]
    by_cases e : a = k
    · rw [e, mup_s]
    · rw [mup_i]
      · exact a3 a (by omega) hst
      · rcases hs with z | ⟨z1, z2⟩
        · omega
        · have := pcnt_st (β := β) (a := a) (k := k) (by omega) z2
          omega
  · by_cases e : y = k
    · rw [e, mup_s, hb]
    · rw [mup_i _ _ _ e, mup_k _ _ _ (by decide), mup_k _ _ _ (by decide)]
      exact a4 y (by omega)
theorem pI2_n {β : Nat → Nat} {μ μ' : sp_M} {k b : Nat} (h : pI2 β μ μ' k) (h1 : 0 < k) (h2 : ¬ β (k - 1) = 46) (hb : b = pby β k) : pI2 β μ (mup μ' 5 k b) (k + 1) := by
  obtain ⟨a1, a2, a3, a4⟩ := h
  refine ⟨fun f h1 h2 h3 => ?_, ?_, fun a ha hst => ?_, fun y hy => ?_⟩
  · rw [mup_k _ _ _ h3]
    exact a1 f h1 h2 h3
  · rw [mup_k _ _ _ (by decide), a2, stp_n h1 h2, stp_s]
  · rw [mup_k _ _ _ (by decide)]
    by_cases e : a = k
    · subst e
      rcases hst with z | ⟨z1, z2⟩
      · omega
      · exact absurd z2 h2
    · exact a3 a (by omega) hst
  · by_cases e : y = k
    · rw [e, mup_s, hb]
    · rw [mup_i _ _ _ e]
      exact a4 y (by omega)
/-- the path's steps as they lie behind the second loop -/
theorem pI2_end {β : Nat → Nat} {μ μ' : sp_M} {n : Nat} (h : pI2 β μ μ' n) (hn : n ≤ 2000) (h0 : n ≠ 0) (hc : ∀ k, k < n → pcnd β n k) : ∀ i nm, (sgs β n n)[i]? = some nm → ∃ e, nmd (mup μ' 5 n 0 5) (mup μ' 5 n 0 4 i) e ∧ e < 2010 ∧ sp_sub (mup μ' 5 n 0 5) (mup μ' 5 n 0 4 i) e = nm := by
  obtain ⟨a1, a2, a3, a4⟩ := h
  intro i nm hi
  obtain ⟨a, x, b1, b2, b3, b4, b5, b6, b7, b8⟩ := sgs_at β n n (Nat.le_refl _) (fun y h1 h2 => by omega) i nm hi
  have han : a < n := by
    by_cases e : a = n
    · rcases b1 with z | ⟨z1, z2⟩
      · omega
      · exact absurd ⟨z2, Or.inr (Or.inl (by omega))⟩ (hc (a - 1) (by omega)).2
    · omega
  have e4 : mup μ' 5 n 0 4 i = a := by
    rw [mup_k _ _ _ (by decide), ← b3]
    exact a3 a han b1
  have e5 : ∀ y, y < n → mup μ' 5 n 0 5 y = pby β y := by
    intro y hy
    rw [mup_i _ _ _ (by omega)]
    exact a4 y hy
  have e6 : ∀ y, a ≤ y → y < x → mup μ' 5 n 0 5 y = β y := by
    intro y h1 h2
    rw [e5 y (by omega)]
    exact if_neg (b7 y h1 h2)
  rw [e4]
  refine ⟨x, ⟨b5, ?_, fun y h1 h2 => ?_⟩, by omega, ?_⟩
  · by_cases e : x = n
    · rw [e, mup_s]
    · rw [e5 x (by omega)]
      exact if_pos (b8.resolve_left e)
  · rw [e6 y h1 h2]
    exact (hc y (by omega)).1
  · rw [b4]
    unfold sp_sub
    apply List.map_congr_left
    intro j hj
    have hj' := List.mem_range.mp hj
    exact e6 _ (by omega) (by omega)
section P78
variable {g : Nat × Nat} {d : Nat} {σ0 σ : am_H} {Q : Option Value → am_H → Prop} {m : Nat} {μ : sp_M}
theorem m_pL2 {β : Nat → Nat} (hT : ∀ i, μ 1 (12000 + i) = β i) {n gd fd : Nat} (hn : n ≤ 2000) (hb : ∀ i, i < 2000 → β i < 256) (hp8 : pcnt β n + 1 ≤ 8) (hS : ∀ (σ' : am_H) (μ' : sp_M) (x5 : Option Value), MS g m σ0 σ' μ' → pI2 β μ μ' n → AW g (d + 1) 76 (280, [some (.ref m), some (.int (nI n)), some (.int (nI gd)), some (.int (nI fd)), some (.int (nI n)), x5], []) σ' Q) : ∀ (r k : Nat) (σ : am_H) (μ' : sp_M) (x5 : Option Value), k + r = n → MS g m σ0 σ μ' → pI2 β μ μ' k → AW g (d + 1) 76 (176, [some (.ref m), some (.int (nI n)), some (.int (nI gd)), some (.int (nI fd)), some (.int (nI k)), x5], []) σ Q := by
  intro r
  induction r with
  | zero =>
    intro k σ μ' x5 hk hM hI
    have hk' : k = n := by omega
    subst hk'
    refine aw_run 2 (F' := (179, [some (.ref m), some (.int (nI k)), some (.int (nI gd)), some (.int (nI fd)), some (.int (nI k)), x5], [.int (nI k), .int (nI k)])) rfl ?_
    refine an_cge rfl (by omega) (by omega) (fun h1 => ?_) (fun h1 => ?_)
    · exact hS σ _ x5 hM hI
    · omega
  | succ r ih =>
    intro k σ μ' x5 hk hM hI
    have i1 := hI.1
    have i2 := hI.2.1
    have hT' : ∀ i, μ' 1 (12000 + i) = β i := by
      intro i
      rw [i1 1 (by decide) (by decide) (by decide)]
      exact hT i
    have hbk := hb k (by omega)
    have hpm := pcnt_mono β (a := k) (b := n) (by omega)
    refine aw_run 2 (F' := (179, [some (.ref m), some (.int (nI n)), some (.int (nI gd)), some (.int (nI fd)), some (.int (nI k)), x5], [.int (nI n), .int (nI k)])) rfl ?_
    refine an_cge rfl (by omega) (by omega) (fun h1 => ?_) (fun h1 => ?_)
    · omega
    · refine aw_run 4 (F' := (189, [some (.ref m), some (.int (nI n)), some (.int (nI gd)), some (.int (nI fd)), some (.int (nI k)), x5], [.int (nI 12000 + nI k), .ref m])) rfl ?_
      rw [nI_add]
      refine aw_v [.ref m, .int (nI (12000 + k))] [] rfl (by decide) rfl hM.o rfl rfl (Nat.le_of_ble_eq_true rfl) (Nat.le_of_ble_eq_true rfl) ?_
      have hB1 := hM.by (i := 12000 + k) (by omega)
      rw [show μ' 1 (12000 + k) = β k from hT' k] at hB1
      refine m_at hM (by omega) ?_
      rw [show μ' 1 (12000 + k) = β k from hT' k]
      show AW g _ 76 (192, [some (.ref m), some (.int (nI n)), some (.int (nI gd)), some (.int (nI fd)), some (.int (nI k)), x5], [.int (nI (β k))]) σ _
      refine aw_run 1 (F' := (194, [some (.ref m), some (.int (nI n)), some (.int (nI gd)), some (.int (nI fd)), some (.int (nI k)), x5], [.int (nI 46), .int (nI (β k))])) rfl ?_
      refine an_cne rfl (by omega) (by omega) (fun h2 => ?_) (fun h2 => ?_)
      · refine aw_run 3 (F' := (206, [some (.ref m), some (.int (nI n)), some (.int (nI gd)), some (.int (nI fd)), some (.int (nI k)), some (.int (nI 0))], [.int (nI k)])) rfl ?_
        refine an_zeq rfl (by omega) (fun h3 => ?_) (fun h3 => ?_)
        · refine aw_run 1 (F' := (227, [some (.ref m), some (.int (nI n)), some (.int (nI gd)), some (.int (nI fd)), some (.int (nI k)), some (.int (nI 0))], [.ref m])) rfl ?_
          refine aw_get rfl hM.o rfl ?_
          refine aw_run 1 (F' := (231, [some (.ref m), some (.int (nI n)), some (.int (nI gd)), some (.int (nI fd)), some (.int (nI k)), some (.int (nI 0))], [.ref m, .ref (m + 2)])) rfl ?_
          refine aw_get rfl hM.o rfl ?_
          rw [show μ' 3 0 = pcnt β k from i2.trans (stp_y (by omega))]
          refine aw_run 1 (F' := (236, [some (.ref m), some (.int (nI n)), some (.int (nI gd)), some (.int (nI fd)), some (.int (nI k)), some (.int (nI 0))], [.int (nI k), .int (nI (pcnt β k)), .ref (m + 2)])) rfl ?_
          refine ms_ist hM rfl (k := 4) (n := 10) (by decide) (by omega) (fun s1 hM1 => ?_)
          refine aw_run 2 (F' := (239, [some (.ref m), some (.int (nI n)), some (.int (nI gd)), some (.int (nI fd)), some (.int (nI k)), some (.int (nI 0))], [.ref m, .ref m])) rfl ?_
          refine aw_get rfl hM1.o rfl ?_
          rw [show (mup μ' 4 (pcnt β k) k) 3 0 = pcnt β k from i2.trans (stp_y (by omega))]
          refine aw_run 2 (F' := (244, [some (.ref m), some (.int (nI n)), some (.int (nI gd)), some (.int (nI fd)), some (.int (nI k)), some (.int (nI 0))], [.int (nI (pcnt β k) + nI 1), .ref m])) rfl ?_
          rw [nI_add]
          refine ms_put hM1 rfl (by decide) (fun s2 hM2 => ?_)
          refine aw_run 1 (F' := (248, [some (.ref m), some (.int (nI n)), some (.int (nI gd)), some (.int (nI fd)), some (.int (nI k)), some (.int (nI 0))], [.ref m])) rfl ?_
          refine aw_get rfl hM2.o rfl ?_
          refine aw_run 2 (F' := (255, [some (.ref m), some (.int (nI n)), some (.int (nI gd)), some (.int (nI fd)), some (.int (nI k)), some (.int (nI 0))], [.int (nI 0), .int (nI k), .ref (m + 3)])) rfl ?_
          refine an_zeq rfl (by omega) (fun _ => ?_) (fun z => absurd z (by omega))
          refine aw_run 1 (F' := (263, [some (.ref m), some (.int (nI n)), some (.int (nI gd)), some (.int (nI fd)), some (.int (nI k)), some (.int (nI 0))], [.ref m, .int (nI k), .ref (m + 3)])) rfl ?_
          refine aw_get rfl hM2.o rfl ?_
          refine aw_run 3 (F' := (272, [some (.ref m), some (.int (nI n)), some (.int (nI gd)), some (.int (nI fd)), some (.int (nI k)), some (.int (nI 0))], [.int (nI 12000 + nI k), .ref (m + 1), .int (nI k), .ref (m + 3)])) rfl ?_
          rw [nI_add]
          refine ms_bld hM2 rfl (k := 1) (n := 14000) (by decide) (by omega) ?_
          rw [show (mup (mup μ' 4 (pcnt β k) k) 3 0 ((pcnt β k) + 1)) 1 (12000 + k) = β k from hT' k]
          refine ms_bst hM2 rfl (k := 5) (n := 2010) (by decide) (by omega) (sb_nar0 _ (by omega)) (by omega) (fun s3 hM3 => ?_)
          refine aw_run 1 (F' := (277, [some (.ref m), some (.int (nI n)), some (.int (nI gd)), some (.int (nI fd)), some (.int (nI k + nI 1)), some (.int (nI 0))], [])) rfl ?_
          rw [nI_add]
          refine aw_run 1 (F' := (176, [some (.ref m), some (.int (nI n)), some (.int (nI gd)), some (.int (nI fd)), some (.int (nI (k + 1))), some (.int (nI 0))], [])) rfl ?_
          exact ih (k + 1) _ _ _ (by omega) hM3 (pI2_y hI (by omega) (by unfold pby; rw [if_neg (by assumption)]))
        · refine aw_run 4 (F' := (216, [some (.ref m), some (.int (nI n)), some (.int (nI gd)), some (.int (nI fd)), some (.int (nI k)), some (.int (nI 0))], [.int (nI 12000 + nI k), .ref m])) rfl ?_
          rw [nI_add]
          refine aw_run 2 (F' := (218, [some (.ref m), some (.int (nI n)), some (.int (nI gd)), some (.int (nI fd)), some (.int (nI k)), some (.int (nI 0))], [.int (nI (12000 + k) - nI 1), .ref m])) rfl ?_
          rw [nI_sub (by omega)]
          refine aw_v [.ref m, .int (nI ((12000 + k) - 1))] [] rfl (by decide) rfl hM.o rfl rfl (Nat.le_of_ble_eq_true rfl) (Nat.le_of_ble_eq_true rfl) ?_
          have hB2 := hM.by (i := (12000 + k) - 1) (by omega)
          rw [show μ' 1 ((12000 + k) - 1) = β (k - 1) from (by rw [show 12000 + k - 1 = 12000 + (k - 1) by omega]; exact hT' _)] at hB2
          refine m_at hM (by omega) ?_
          rw [show μ' 1 ((12000 + k) - 1) = β (k - 1) from (by rw [show 12000 + k - 1 = 12000 + (k - 1) by omega]; exact hT' _)]
          show AW g _ 76 (221, [some (.ref m), some (.int (nI n)), some (.int (nI gd)), some (.int (nI fd)), some (.int (nI k)), some (.int (nI 0))], [.int (nI (β (k - 1)))]) σ _
          refine aw_run 1 (F' := (223, [some (.ref m), some (.int (nI n)), some (.int (nI gd)), some (.int (nI fd)), some (.int (nI k)), some (.int (nI 0))], [.int (nI 46), .int (nI (β (k - 1)))])) rfl ?_
          refine an_cne rfl (by omega) (by omega) (fun h5 => ?_) (fun h5 => ?_)
          · refine aw_run 1 (F' := (248, [some (.ref m), some (.int (nI n)), some (.int (nI gd)), some (.int (nI fd)), some (.int (nI k)), some (.int (nI 0))], [.ref m])) rfl ?_
            refine aw_get rfl hM.o rfl ?_
            refine aw_run 2 (F' := (255, [some (.ref m), some (.int (nI n)), some (.int (nI gd)), some (.int (nI fd)), some (.int (nI k)), some (.int (nI 0))], [.int (nI 0), .int (nI k), .ref (m + 3)])) rfl ?_
            refine an_zeq rfl (by omega) (fun _ => ?_) (fun z => absurd z (by omega))
            refine aw_run 1 (F' := (263, [some (.ref m), some (.int (nI n)), some (.int (nI gd)), some (.int (nI fd)), some (.int (nI k)), some (.int (nI 0))], [.ref m, .int (nI k), .ref (m + 3)])) rfl ?_
            refine aw_get rfl hM.o rfl ?_
            refine aw_run 3 (F' := (272, [some (.ref m), some (.int (nI n)), some (.int (nI gd)), some (.int (nI fd)), some (.int (nI k)), some (.int (nI 0))], [.int (nI 12000 + nI k), .ref (m + 1), .int (nI k), .ref (m + 3)])) rfl ?_
            rw [nI_add]
            refine ms_bld hM rfl (k := 1) (n := 14000) (by decide) (by omega) ?_
            rw [show μ' 1 (12000 + k) = β k from hT' k]
            refine ms_bst hM rfl (k := 5) (n := 2010) (by decide) (by omega) (sb_nar0 _ (by omega)) (by omega) (fun s4 hM4 => ?_)
            refine aw_run 1 (F' := (277, [some (.ref m), some (.int (nI n)), some (.int (nI gd)), some (.int (nI fd)), some (.int (nI k + nI 1)), some (.int (nI 0))], [])) rfl ?_
            rw [nI_add]
            refine aw_run 1 (F' := (176, [some (.ref m), some (.int (nI n)), some (.int (nI gd)), some (.int (nI fd)), some (.int (nI (k + 1))), some (.int (nI 0))], [])) rfl ?_
            exact ih (k + 1) _ _ _ (by omega) hM4 (pI2_n hI (by omega) (by assumption) (by unfold pby; rw [if_neg (by assumption)]))
          · refine aw_run 1 (F' := (227, [some (.ref m), some (.int (nI n)), some (.int (nI gd)), some (.int (nI fd)), some (.int (nI k)), some (.int (nI 0))], [.ref m])) rfl ?_
            refine aw_get rfl hM.o rfl ?_
            refine aw_run 1 (F' := (231, [some (.ref m), some (.int (nI n)), some (.int (nI gd)), some (.int (nI fd)), some (.int (nI k)), some (.int (nI 0))], [.ref m, .ref (m + 2)])) rfl ?_
            refine aw_get rfl hM.o rfl ?_
            rw [show μ' 3 0 = pcnt β k from i2.trans (stp_y (by omega))]
            refine aw_run 1 (F' := (236, [some (.ref m), some (.int (nI n)), some (.int (nI gd)), some (.int (nI fd)), some (.int (nI k)), some (.int (nI 0))], [.int (nI k), .int (nI (pcnt β k)), .ref (m + 2)])) rfl ?_
            refine ms_ist hM rfl (k := 4) (n := 10) (by decide) (by omega) (fun s5 hM5 => ?_)
            refine aw_run 2 (F' := (239, [some (.ref m), some (.int (nI n)), some (.int (nI gd)), some (.int (nI fd)), some (.int (nI k)), some (.int (nI 0))], [.ref m, .ref m])) rfl ?_
            refine aw_get rfl hM5.o rfl ?_
            rw [show (mup μ' 4 (pcnt β k) k) 3 0 = pcnt β k from i2.trans (stp_y (by omega))]
            refine aw_run 2 (F' := (244, [some (.ref m), some (.int (nI n)), some (.int (nI gd)), some (.int (nI fd)), some (.int (nI k)), some (.int (nI 0))], [.int (nI (pcnt β k) + nI 1), .ref m])) rfl ?_
            rw [nI_add]
            refine ms_put hM5 rfl (by decide) (fun s6 hM6 => ?_)
            refine aw_run 1 (F' := (248, [some (.ref m), some (.int (nI n)), some (.int (nI gd)), some (.int (nI fd)), some (.int (nI k)), some (.int (nI 0))], [.ref m])) rfl ?_
            refine aw_get rfl hM6.o rfl ?_
            refine aw_run 2 (F' := (255, [some (.ref m), some (.int (nI n)), some (.int (nI gd)), some (.int (nI fd)), some (.int (nI k)), some (.int (nI 0))], [.int (nI 0), .int (nI k), .ref (m + 3)])) rfl ?_
            refine an_zeq rfl (by omega) (fun _ => ?_) (fun z => absurd z (by omega))
            refine aw_run 1 (F' := (263, [some (.ref m), some (.int (nI n)), some (.int (nI gd)), some (.int (nI fd)), some (.int (nI k)), some (.int (nI 0))], [.ref m, .int (nI k), .ref (m + 3)])) rfl ?_
            refine aw_get rfl hM6.o rfl ?_
            refine aw_run 3 (F' := (272, [some (.ref m), some (.int (nI n)), some (.int (nI gd)), some (.int (nI fd)), some (.int (nI k)), some (.int (nI 0))], [.int (nI 12000 + nI k), .ref (m + 1), .int (nI k), .ref (m + 3)])) rfl ?_
            rw [nI_add]
            refine ms_bld hM6 rfl (k := 1) (n := 14000) (by decide) (by omega) ?_
            rw [show (mup (mup μ' 4 (pcnt β k) k) 3 0 ((pcnt β k) + 1)) 1 (12000 + k) = β k from hT' k]
            refine ms_bst hM6 rfl (k := 5) (n := 2010) (by decide) (by omega) (sb_nar0 _ (by omega)) (by omega) (fun s7 hM7 => ?_)
            refine aw_run 1 (F' := (277, [some (.ref m), some (.int (nI n)), some (.int (nI gd)), some (.int (nI fd)), some (.int (nI k + nI 1)), some (.int (nI 0))], [])) rfl ?_
            rw [nI_add]
            refine aw_run 1 (F' := (176, [some (.ref m), some (.int (nI n)), some (.int (nI gd)), some (.int (nI fd)), some (.int (nI (k + 1))), some (.int (nI 0))], [])) rfl ?_
            exact ih (k + 1) _ _ _ (by omega) hM7 (pI2_y hI (by omega) (by unfold pby; rw [if_neg (by assumption)]))
      · refine aw_run 4 (F' := (206, [some (.ref m), some (.int (nI n)), some (.int (nI gd)), some (.int (nI fd)), some (.int (nI k)), some (.int (nI 1))], [.int (nI k)])) rfl ?_
        refine an_zeq rfl (by omega) (fun h8 => ?_) (fun h8 => ?_)
        · refine aw_run 1 (F' := (227, [some (.ref m), some (.int (nI n)), some (.int (nI gd)), some (.int (nI fd)), some (.int (nI k)), some (.int (nI 1))], [.ref m])) rfl ?_
          refine aw_get rfl hM.o rfl ?_
          refine aw_run 1 (F' := (231, [some (.ref m), some (.int (nI n)), some (.int (nI gd)), some (.int (nI fd)), some (.int (nI k)), some (.int (nI 1))], [.ref m, .ref (m + 2)])) rfl ?_
          refine aw_get rfl hM.o rfl ?_
          rw [show μ' 3 0 = pcnt β k from i2.trans (stp_y (by omega))]
          refine aw_run 1 (F' := (236, [some (.ref m), some (.int (nI n)), some (.int (nI gd)), some (.int (nI fd)), some (.int (nI k)), some (.int (nI 1))], [.int (nI k), .int (nI (pcnt β k)), .ref (m + 2)])) rfl ?_
          refine ms_ist hM rfl (k := 4) (n := 10) (by decide) (by omega) (fun s8 hM8 => ?_)
          refine aw_run 2 (F' := (239, [some (.ref m), some (.int (nI n)), some (.int (nI gd)), some (.int (nI fd)), some (.int (nI k)), some (.int (nI 1))], [.ref m, .ref m])) rfl ?_
          refine aw_get rfl hM8.o rfl ?_
          rw [show (mup μ' 4 (pcnt β k) k) 3 0 = pcnt β k from i2.trans (stp_y (by omega))]
          refine aw_run 2 (F' := (244, [some (.ref m), some (.int (nI n)), some (.int (nI gd)), some (.int (nI fd)), some (.int (nI k)), some (.int (nI 1))], [.int (nI (pcnt β k) + nI 1), .ref m])) rfl ?_
          rw [nI_add]
          refine ms_put hM8 rfl (by decide) (fun s9 hM9 => ?_)
          refine aw_run 1 (F' := (248, [some (.ref m), some (.int (nI n)), some (.int (nI gd)), some (.int (nI fd)), some (.int (nI k)), some (.int (nI 1))], [.ref m])) rfl ?_
          refine aw_get rfl hM9.o rfl ?_
          refine aw_run 2 (F' := (255, [some (.ref m), some (.int (nI n)), some (.int (nI gd)), some (.int (nI fd)), some (.int (nI k)), some (.int (nI 1))], [.int (nI 1), .int (nI k), .ref (m + 3)])) rfl ?_
          refine an_zeq rfl (by omega) (fun z => absurd z (by omega)) (fun _ => ?_)
          refine aw_run 2 (F' := (273, [some (.ref m), some (.int (nI n)), some (.int (nI gd)), some (.int (nI fd)), some (.int (nI k)), some (.int (nI 1))], [.int (nI 0), .int (nI k), .ref (m + 3)])) rfl ?_
          refine ms_bst hM9 rfl (k := 5) (n := 2010) (by decide) (by omega) sb_nar00 (by decide) (fun s10 hM10 => ?_)
          refine aw_run 1 (F' := (277, [some (.ref m), some (.int (nI n)), some (.int (nI gd)), some (.int (nI fd)), some (.int (nI k + nI 1)), some (.int (nI 1))], [])) rfl ?_
          rw [nI_add]
          refine aw_run 1 (F' := (176, [some (.ref m), some (.int (nI n)), some (.int (nI gd)), some (.int (nI fd)), some (.int (nI (k + 1))), some (.int (nI 1))], [])) rfl ?_
          exact ih (k + 1) _ _ _ (by omega) hM10 (pI2_y hI (by omega) (by unfold pby; rw [if_pos (by assumption)]))
        · refine aw_run 4 (F' := (216, [some (.ref m), some (.int (nI n)), some (.int (nI gd)), some (.int (nI fd)), some (.int (nI k)), some (.int (nI 1))], [.int (nI 12000 + nI k), .ref m])) rfl ?_
          rw [nI_add]
          refine aw_run 2 (F' := (218, [some (.ref m), some (.int (nI n)), some (.int (nI gd)), some (.int (nI fd)), some (.int (nI k)), some (.int (nI 1))], [.int (nI (12000 + k) - nI 1), .ref m])) rfl ?_
          rw [nI_sub (by omega)]
          refine aw_v [.ref m, .int (nI ((12000 + k) - 1))] [] rfl (by decide) rfl hM.o rfl rfl (Nat.le_of_ble_eq_true rfl) (Nat.le_of_ble_eq_true rfl) ?_
          have hB3 := hM.by (i := (12000 + k) - 1) (by omega)
          rw [show μ' 1 ((12000 + k) - 1) = β (k - 1) from (by rw [show 12000 + k - 1 = 12000 + (k - 1) by omega]; exact hT' _)] at hB3
          refine m_at hM (by omega) ?_
          rw [show μ' 1 ((12000 + k) - 1) = β (k - 1) from (by rw [show 12000 + k - 1 = 12000 + (k - 1) by omega]; exact hT' _)]
          show AW g _ 76 (221, [some (.ref m), some (.int (nI n)), some (.int (nI gd)), some (.int (nI fd)), some (.int (nI k)), some (.int (nI 1))], [.int (nI (β (k - 1)))]) σ _
          refine aw_run 1 (F' := (223, [some (.ref m), some (.int (nI n)), some (.int (nI gd)), some (.int (nI fd)), some (.int (nI k)), some (.int (nI 1))], [.int (nI 46), .int (nI (β (k - 1)))])) rfl ?_
          refine an_cne rfl (by omega) (by omega) (fun h10 => ?_) (fun h10 => ?_)
          · refine aw_run 1 (F' := (248, [some (.ref m), some (.int (nI n)), some (.int (nI gd)), some (.int (nI fd)), some (.int (nI k)), some (.int (nI 1))], [.ref m])) rfl ?_
            refine aw_get rfl hM.o rfl ?_
            refine aw_run 2 (F' := (255, [some (.ref m), some (.int (nI n)), some (.int (nI gd)), some (.int (nI fd)), some (.int (nI k)), some (.int (nI 1))], [.int (nI 1), .int (nI k), .ref (m + 3)])) rfl ?_
            refine an_zeq rfl (by omega) (fun z => absurd z (by omega)) (fun _ => ?_)
            refine aw_run 2 (F' := (273, [some (.ref m), some (.int (nI n)), some (.int (nI gd)), some (.int (nI fd)), some (.int (nI k)), some (.int (nI 1))], [.int (nI 0), .int (nI k), .ref (m + 3)])) rfl ?_
            refine ms_bst hM rfl (k := 5) (n := 2010) (by decide) (by omega) sb_nar00 (by decide) (fun s11 hM11 => ?_)
            refine aw_run 1 (F' := (277, [some (.ref m), some (.int (nI n)), some (.int (nI gd)), some (.int (nI fd)), some (.int (nI k + nI 1)), some (.int (nI 1))], [])) rfl ?_
            rw [nI_add]
            refine aw_run 1 (F' := (176, [some (.ref m), some (.int (nI n)), some (.int (nI gd)), some (.int (nI fd)), some (.int (nI (k + 1))), some (.int (nI 1))], [])) rfl ?_
            exact ih (k + 1) _ _ _ (by omega) hM11 (pI2_n hI (by omega) (by assumption) (by unfold pby; rw [if_pos (by assumption)]))
          · refine aw_run 1 (F' := (227, [some (.ref m), some (.int (nI n)), some (.int (nI gd)), some (.int (nI fd)), some (.int (nI k)), some (.int (nI 1))], [.ref m])) rfl ?_
            refine aw_get rfl hM.o rfl ?_
            refine aw_run 1 (F' := (231, [some (.ref m), some (.int (nI n)), some (.int (nI gd)), some (.int (nI fd)), some (.int (nI k)), some (.int (nI 1))], [.ref m, .ref (m + 2)])) rfl ?_
            refine aw_get rfl hM.o rfl ?_
            rw [show μ' 3 0 = pcnt β k from i2.trans (stp_y (by omega))]
            refine aw_run 1 (F' := (236, [some (.ref m), some (.int (nI n)), some (.int (nI gd)), some (.int (nI fd)), some (.int (nI k)), some (.int (nI 1))], [.int (nI k), .int (nI (pcnt β k)), .ref (m + 2)])) rfl ?_
            refine ms_ist hM rfl (k := 4) (n := 10) (by decide) (by omega) (fun s12 hM12 => ?_)
            refine aw_run 2 (F' := (239, [some (.ref m), some (.int (nI n)), some (.int (nI gd)), some (.int (nI fd)), some (.int (nI k)), some (.int (nI 1))], [.ref m, .ref m])) rfl ?_
            refine aw_get rfl hM12.o rfl ?_
            rw [show (mup μ' 4 (pcnt β k) k) 3 0 = pcnt β k from i2.trans (stp_y (by omega))]
            refine aw_run 2 (F' := (244, [some (.ref m), some (.int (nI n)), some (.int (nI gd)), some (.int (nI fd)), some (.int (nI k)), some (.int (nI 1))], [.int (nI (pcnt β k) + nI 1), .ref m])) rfl ?_
            rw [nI_add]
            refine ms_put hM12 rfl (by decide) (fun s13 hM13 => ?_)
            refine aw_run 1 (F' := (248, [some (.ref m), some (.int (nI n)), some (.int (nI gd)), some (.int (nI fd)), some (.int (nI k)), some (.int (nI 1))], [.ref m])) rfl ?_
            refine aw_get rfl hM13.o rfl ?_
            refine aw_run 2 (F' := (255, [some (.ref m), some (.int (nI n)), some (.int (nI gd)), some (.int (nI fd)), some (.int (nI k)), some (.int (nI 1))], [.int (nI 1), .int (nI k), .ref (m + 3)])) rfl ?_
            refine an_zeq rfl (by omega) (fun z => absurd z (by omega)) (fun _ => ?_)
            refine aw_run 2 (F' := (273, [some (.ref m), some (.int (nI n)), some (.int (nI gd)), some (.int (nI fd)), some (.int (nI k)), some (.int (nI 1))], [.int (nI 0), .int (nI k), .ref (m + 3)])) rfl ?_
            refine ms_bst hM13 rfl (k := 5) (n := 2010) (by decide) (by omega) sb_nar00 (by decide) (fun s14 hM14 => ?_)
            refine aw_run 1 (F' := (277, [some (.ref m), some (.int (nI n)), some (.int (nI gd)), some (.int (nI fd)), some (.int (nI k + nI 1)), some (.int (nI 1))], [])) rfl ?_
            rw [nI_add]
            refine aw_run 1 (F' := (176, [some (.ref m), some (.int (nI n)), some (.int (nI gd)), some (.int (nI fd)), some (.int (nI (k + 1))), some (.int (nI 1))], [])) rfl ?_
            exact ih (k + 1) _ _ _ (by omega) hM14 (pI2_y hI (by omega) (by unfold pby; rw [if_pos (by assumption)]))
/-- path -/
theorem m_path (hM : MS g m σ0 σ μ) {S : sp_S} (hR : RS S μ) (n : Int32) (hQ : ∀ σ' μ', MS g m σ0 σ' μ' → RS (sp_path S n).1 μ' → Q (some (.int (sp_path S n).2)) σ') : AW g (d + 3) 76 (0, [some (.ref m), some (.int n), none, none, none, none], []) σ Q := by
  have hR' := hR
  obtain ⟨r1, r2, r3, r4, r5, r6⟩ := hR'
  rcases ix_c3 n (N := S.2.1) (by omega) with ⟨hz, hi2⟩ | ⟨k, hk1, hk2, rfl, hi2⟩ | ⟨k, hk, rfl, hi2⟩
  · have e1 : sp_path S n = (S, -2) := by unfold sp_path; rw [hi2]
    rw [e1] at hQ
    refine aw_run 1 (F' := (1, [some (.ref m), some (.int (n)), none, none, none, none], [.int (n)])) rfl ?_
    refine aw_zlt rfl (fun h1 => ?_) (fun h1 => ?_)
    · refine aw_run 1 (F' := (14, [some (.ref m), some (.int (n)), none, none, none, none], [.int ((-2))])) rfl ?_
      exact aw_iret rfl ⟨_, rfl, rfl⟩ (hQ σ μ hM hR)
    · exact absurd hz h1
  · have e1 : sp_path S (nI k) = (S, -2) := by unfold sp_path; rw [hi2]
    rw [e1] at hQ
    refine aw_run 1 (F' := (1, [some (.ref m), some (.int (nI k)), none, none, none, none], [.int (nI k)])) rfl ?_
    refine an_zlt rfl (by omega) ?_
    refine aw_run 2 (F' := (6, [some (.ref m), some (.int (nI k)), none, none, none, none], [.ref m, .int (nI k)])) rfl ?_
    refine aw_get rfl hM.o rfl ?_
    rw [show μ 2 0 = S.2.1 from r2]
    refine an_cle rfl (by omega) (by omega) (fun h2 => ?_) (fun h2 => ?_)
    · omega
    · refine aw_run 1 (F' := (14, [some (.ref m), some (.int (nI k)), none, none, none, none], [.int ((-2))])) rfl ?_
      exact aw_iret rfl ⟨_, rfl, rfl⟩ (hQ σ μ hM hR)
  · have hpq := pth_eq S.1 k
    have hbS : ∀ i, i < 2000 → S.1 i < 256 := by
      intro i hi
      rw [← r3 i]
      exact hM.by (by omega)
    have hRS0 : ∀ μ', (∀ f, f ≠ 3 → f ≠ 4 → f ≠ 5 → μ' f = mup μ 2 0 0 f) → ∀ P : List (List Nat), (P.length ≤ 8 ∧ μ' 3 0 = P.length ∧ ∀ i nm, P[i]? = some nm → ∃ e, nmd (μ' 5) (μ' 4 i) e ∧ e < 2010 ∧ sp_sub (μ' 5) (μ' 4 i) e = nm) → RS (S.1, 0, S.2.2.1, S.2.2.2.1, P) μ' := by
      intro μ' hf P hP
      refine ⟨Nat.zero_le _, ?_, ?_, ?_, hP, ?_⟩
      · rw [hf 2 (by decide) (by decide) (by decide), mup_s]
      · rw [hf 1 (by decide) (by decide) (by decide), mup_k _ _ _ (by decide)]
        exact r3
      · rw [hf 1 (by decide) (by decide) (by decide), mup_k _ _ _ (by decide)]
        exact r4
      · rw [hf 1 (by decide) (by decide) (by decide), hf 6 (by decide) (by decide) (by decide), hf 7 (by decide) (by decide) (by decide), hf 8 (by decide) (by decide) (by decide), hf 9 (by decide) (by decide) (by decide), mup_k _ _ _ (by decide), mup_k _ _ _ (by decide), mup_k _ _ _ (by decide), mup_k _ _ _ (by decide), mup_k _ _ _ (by decide)]
        exact r6
    have hT : ∀ i, mup μ 2 0 0 1 (12000 + i) = S.1 i := r3
    have fin : ∀ (G : Nat) (s1 : am_H), MS g m σ0 s1 (mup μ 2 0 0) → G ≤ 1 → (G = 1 ↔ k ≠ 0 ∧ sp_tx S.1 k 0 k = true) → AW g (d + 3) 76 (44, [some (.ref m), some (.int (nI k)), none, none, none, none], [.int (nI G)]) s1 Q := by
      intro G s1 hM1 hG hGi
      have hpl := pcnt_le S.1 k
      refine aw_run 5 (F' := (50, [some (.ref m), some (.int (nI k)), some (.int (nI G)), some (.int (nI (1 + pcnt S.1 0))), some (.int (nI 0)), none], [])) rfl ?_
      refine m_pL1 hM1 hT (G0 := k ≠ 0 ∧ sp_tx S.1 k 0 k = true) (by omega) (fun gd x5 hg hgd => ?_) k 0 G none (by omega) hG ⟨fun z => ⟨hGi.mp z, fun i hi => by omega⟩, fun z => hGi.mpr z.1⟩ (Nat.le_refl _)
      refine aw_run 1 (F' := (157, [some (.ref m), some (.int (nI k)), some (.int (nI gd)), some (.int (nI (1 + pcnt S.1 k))), some (.int (nI k)), x5], [.int (nI gd)])) rfl ?_
      refine an_zeq rfl (by omega) (fun h1 => ?_) (fun h1 => ?_)
      · refine aw_run 1 (F' := (167, [some (.ref m), some (.int (nI k)), some (.int (nI gd)), some (.int (nI (1 + pcnt S.1 k))), some (.int (nI k)), x5], [.int ((-1))])) rfl ?_
        have e1 : sp_path S (nI k) = ((S.1, 0, S.2.2), -1) := by
          unfold sp_path
          rw [hi2]
          simp only []
          rw [hpq.2 (fun z => by have := hgd.mpr ⟨z.1, z.2.1⟩; omega)]
        rw [e1] at hQ
        exact aw_iret rfl ⟨_, rfl, rfl⟩ (hQ _ _ hM1 (hRS0 _ (fun _ _ _ _ => rfl) S.2.2.2.2 r5))
      · refine aw_run 2 (F' := (163, [some (.ref m), some (.int (nI k)), some (.int (nI gd)), some (.int (nI (1 + pcnt S.1 k))), some (.int (nI k)), x5], [.int (nI 8), .int (nI (1 + pcnt S.1 k))])) rfl ?_
        refine an_cle rfl (by omega) (by omega) (fun h2 => ?_) (fun h2 => ?_)
        · refine aw_run 2 (F' := (170, [some (.ref m), some (.int (nI k)), some (.int (nI gd)), some (.int (nI (1 + pcnt S.1 k))), some (.int (nI k)), x5], [.int (nI 0), .ref m])) rfl ?_
          refine ms_put hM1 rfl (by decide) (fun s1 hM1 => ?_)
          refine aw_run 2 (F' := (176, [some (.ref m), some (.int (nI k)), some (.int (nI gd)), some (.int (nI (1 + pcnt S.1 k))), some (.int (nI 0)), x5], [])) rfl ?_
          refine m_pL2 (β := S.1) (μ := mup μ 2 0 0) hT (by omega) hbS (by omega) (fun σ2 μ2 x5 hM2 hI => ?_) k 0 s1 _ _ (by omega) hM1 ⟨fun f h1 _ _ => mup_k _ _ _ h1, mup_s _ _ _ _, fun a ha => by omega, fun y hy => by omega⟩
          have hall := hgd.mp (by omega)
          have e1 : sp_path S (nI k) = ((S.1, 0, S.2.2.1, S.2.2.2.1, sgs S.1 k k), nI (sgs S.1 k k).length) := by
            unfold sp_path
            rw [hi2]
            simp only []
            rw [hpq.1 ⟨hall.1, hall.2, by omega⟩]
          rw [e1] at hQ
          have hst : μ2 3 0 = (sgs S.1 k k).length := by
            have hk0 := hall.1.1
            rw [hI.2.1, sgs_len, stp_n (by omega) (fun z => (hall.2 (k - 1) (by omega)).2 ⟨z, Or.inr (Or.inl (by omega))⟩)]
          refine aw_run 1 (F' := (281, [some (.ref m), some (.int (nI k)), some (.int (nI gd)), some (.int (nI (1 + pcnt S.1 k))), some (.int (nI k)), x5], [.ref m])) rfl ?_
          refine aw_get rfl hM2.o rfl ?_
          refine aw_run 2 (F' := (286, [some (.ref m), some (.int (nI k)), some (.int (nI gd)), some (.int (nI (1 + pcnt S.1 k))), some (.int (nI k)), x5], [.int (nI 0), .int (nI k), .ref (m + 3)])) rfl ?_
          refine ms_bst hM2 rfl (k := 5) (n := 2010) (by decide) (by omega) sb_nar00 (by decide) (fun σ3 hM3 => ?_)
          refine aw_run 1 (F' := (288, [some (.ref m), some (.int (nI k)), some (.int (nI gd)), some (.int (nI (1 + pcnt S.1 k))), some (.int (nI k)), x5], [.ref m])) rfl ?_
          refine aw_get rfl hM3.o rfl ?_
          rw [show mup μ2 5 k 0 3 0 = (sgs S.1 k k).length from hst]
          refine aw_iret rfl ⟨_, rfl, rfl⟩ (hQ _ _ hM3 (hRS0 _ (fun f h1 h2 h3 => (mup_k _ _ _ h3).trans (hI.1 f h1 h2 h3)) _ ⟨by rw [sgs_len]; omega, hst, ?_⟩))
          exact pI2_end hI (by omega) hall.1.1 hall.2
        · refine aw_run 1 (F' := (167, [some (.ref m), some (.int (nI k)), some (.int (nI gd)), some (.int (nI (1 + pcnt S.1 k))), some (.int (nI k)), x5], [.int ((-1))])) rfl ?_
          have e1 : sp_path S (nI k) = ((S.1, 0, S.2.2), -1) := by
            unfold sp_path
            rw [hi2]
            simp only []
            rw [hpq.2 (fun z => by have := hgd.mpr ⟨z.1, z.2.1⟩; omega)]
          rw [e1] at hQ
          exact aw_iret rfl ⟨_, rfl, rfl⟩ (hQ _ _ hM1 (hRS0 _ (fun _ _ _ _ => rfl) S.2.2.2.2 r5))
    refine aw_run 1 (F' := (1, [some (.ref m), some (.int (nI k)), none, none, none, none], [.int (nI k)])) rfl ?_
    refine an_zlt rfl (by omega) ?_
    refine aw_run 2 (F' := (6, [some (.ref m), some (.int (nI k)), none, none, none, none], [.ref m, .int (nI k)])) rfl ?_
    refine aw_get rfl hM.o rfl ?_
    rw [show μ 2 0 = S.2.1 from r2]
    refine an_cle rfl (by omega) (by omega) (fun h2 => ?_) (fun h2 => ?_)
    · refine aw_run 2 (F' := (17, [some (.ref m), some (.int (nI k)), none, none, none, none], [.int (nI 0), .ref m])) rfl ?_
      refine ms_put hM rfl (by decide) (fun s1 hM1 => ?_)
      refine aw_run 1 (F' := (21, [some (.ref m), some (.int (nI k)), none, none, none, none], [.int (nI k)])) rfl ?_
      refine an_zle rfl (by omega) (fun h3 => ?_) (fun h3 => ?_)
      · refine aw_run 1 (F' := (44, [some (.ref m), some (.int (nI k)), none, none, none, none], [.int (nI 0)])) rfl ?_
        exact fin 0 s1 hM1 (by omega) ⟨fun z => by omega, fun z => absurd (by omega) z.1⟩
      · refine aw_run 5 (F' := (33, [some (.ref m), some (.int (nI k)), none, none, none, none], [.int (nI 12000 + nI k), .int (nI 12000), .ref m])) rfl ?_
        rw [nI_add]
        refine aw_v [.ref m, .int (nI 12000), .int (nI (12000 + k))] [] rfl (by decide) rfl hM1.o rfl rfl (Nat.le_of_ble_eq_true rfl) (Nat.le_of_ble_eq_true rfl) ?_
        refine m_txt hM1 (by omega) (by omega) ?_
        by_cases ht : sp_tx S.1 k 0 k = true
        · rw [if_pos (show sp_tx (mup μ 2 0 0 1) (12000 + k - 12000) 12000 (12000 + k) = true by rw [Nat.add_sub_cancel_left, show (12000 : Nat) = 12000 + 0 from rfl, tx_sf, show (fun i => mup μ 2 0 0 1 (12000 + 0 + i)) = S.1 from funext r3]; exact ht)]
          show AW g _ 76 (36, [some (.ref m), some (.int (nI k)), none, none, none, none], [.int (nI 1)]) s1 _
          refine an_zeq rfl (by omega) (fun z => absurd z (by omega)) (fun _ => ?_)
          refine aw_run 2 (F' := (44, [some (.ref m), some (.int (nI k)), none, none, none, none], [.int (nI 1)])) rfl ?_
          exact fin 1 s1 hM1 (by omega) ⟨fun _ => ⟨by omega, ht⟩, fun _ => rfl⟩
        · rw [if_neg (show ¬ sp_tx (mup μ 2 0 0 1) (12000 + k - 12000) 12000 (12000 + k) = true by rw [Nat.add_sub_cancel_left, show (12000 : Nat) = 12000 + 0 from rfl, tx_sf, show (fun i => mup μ 2 0 0 1 (12000 + 0 + i)) = S.1 from funext r3]; exact ht)]
          show AW g _ 76 (36, [some (.ref m), some (.int (nI k)), none, none, none, none], [.int (nI 0)]) s1 _
          refine an_zeq rfl (by omega) (fun _ => ?_) (fun z => absurd z (by omega))
          refine aw_run 1 (F' := (44, [some (.ref m), some (.int (nI k)), none, none, none, none], [.int (nI 0)])) rfl ?_
          exact fin 0 s1 hM1 (by omega) ⟨fun z => by omega, fun z => absurd z.2 ht⟩
    · omega
end P78
