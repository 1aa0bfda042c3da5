theorem ll_le (b : Nat) : sp_ll b ≤ 4 := by
  unfold sp_ll
  repeat' split
  all_goals omega
theorem chr_le (β : Nat → Nat) (k e : Nat) : sp_chr β k e ≤ 4 ∧ (sp_chr β k e ≠ 0 → k + sp_chr β k e ≤ e) := by
  unfold sp_chr
  have := ll_le (β k)
  by_cases h : k + sp_ll (β k) ≤ e ∧ sp_isc β k (sp_ll (β k))
  · rw [if_pos h]
    exact ⟨this, fun _ => h.1⟩
  · rw [if_neg h]
    exact ⟨by omega, fun z => absurd rfl z⟩
theorem isc_0 {β : Nat → Nat} {k : Nat} (h : sp_isc β k 0) : False := by
  rcases h with h | ⟨h, _⟩ | ⟨h, _⟩ | ⟨h, _⟩ <;> cases h
theorem isc_2 {β : Nat → Nat} {k : Nat} (h : sp_isc β k 2) : sp_cb (β (k + 1)) ∧ sp_rng 128 ((β k - 192) * 64 + (β (k + 1) - 128)) := by
  rcases h with h | ⟨_, h⟩ | ⟨h, _⟩ | ⟨h, _⟩
  · cases h
  · exact h
  · cases h
  · cases h
theorem isc_3 {β : Nat → Nat} {k : Nat} (h : sp_isc β k 3) : sp_cb (β (k + 1)) ∧ sp_cb (β (k + 2)) ∧ sp_rng 2048 (((β k - 224) * 64 + (β (k + 1) - 128)) * 64 + (β (k + 2) - 128)) := by
  rcases h with h | ⟨h, _⟩ | ⟨_, h⟩ | ⟨h, _⟩
  · cases h
  · cases h
  · exact h
  · cases h
theorem isc_4 {β : Nat → Nat} {k : Nat} (h : sp_isc β k 4) : sp_cb (β (k + 1)) ∧ sp_cb (β (k + 2)) ∧ sp_cb (β (k + 3)) ∧ sp_rng 65536 ((((β k - 240) * 64 + (β (k + 1) - 128)) * 64 + (β (k + 2) - 128)) * 64 + (β (k + 3) - 128)) := by
  rcases h with h | ⟨h, _⟩ | ⟨h, _⟩ | ⟨_, h⟩
  · cases h
  · cases h
  · cases h
  · exact h
section P69
variable {g : Nat × Nat} {d : Nat} {σ0 σ : am_H} {Q : Option Value → am_H → Prop} {m : Nat} {μ : sp_M}
/-- character: one more byte -/
theorem m_chit (hM : MS g m σ0 σ μ) {k e b n v i : Nat} {x7 : Option Value} (hi : i < n) (hn : n ≤ 4) (hk : k + n ≤ 14000) (hv : v < 2 ^ 18) (g1 : sp_cb (μ 1 (k + i)) → ∀ x7 : Option Value, AW g (d + 1) 70 (115, [some (.ref m), some (.int (nI k)), some (.int (nI e)), some (.int (nI b)), some (.int (nI n)), some (.int (nI (v * 64 + (μ 1 (k + i) - 128)))), some (.int (nI (i + 1))), x7], []) σ Q) (g0 : ¬ sp_cb (μ 1 (k + i)) → Q (some (.int 0)) σ) : AW g (d + 1) 70 (115, [some (.ref m), some (.int (nI k)), some (.int (nI e)), some (.int (nI b)), some (.int (nI n)), some (.int (nI v)), some (.int (nI i)), x7], []) σ Q := by
  refine aw_run 2 (F' := (119, [some (.ref m), some (.int (nI k)), some (.int (nI e)), some (.int (nI b)), some (.int (nI n)), some (.int (nI v)), some (.int (nI i)), x7], [.int (nI n), .int (nI i)])) rfl ?_
  refine an_cge rfl (by omega) (by omega) (fun h1 => ?_) (fun h1 => ?_)
  · omega
  · refine aw_run 4 (F' := (127, [some (.ref m), some (.int (nI k)), some (.int (nI e)), some (.int (nI b)), some (.int (nI n)), some (.int (nI v)), some (.int (nI i)), x7], [.int (nI k + nI i), .ref m])) rfl ?_
    rw [nI_add]
    refine aw_v [.ref m, .int (nI (k + i))] [] rfl (by decide) rfl hM.o rfl rfl (Nat.le_of_ble_eq_true rfl) (Nat.le_of_ble_eq_true rfl) ?_
    have hB1 := hM.by (i := k + i) (by omega)
    refine m_at hM (by omega) ?_
    show AW g _ 70 (130, [some (.ref m), some (.int (nI k)), some (.int (nI e)), some (.int (nI b)), some (.int (nI n)), some (.int (nI v)), some (.int (nI i)), x7], [.int (nI (μ 1 (k + i)))]) σ _
    refine aw_run 3 (F' := (137, [some (.ref m), some (.int (nI k)), some (.int (nI e)), some (.int (nI b)), some (.int (nI n)), some (.int (nI v)), some (.int (nI i)), some (.int (nI (μ 1 (k + i))))], [.int (nI 128), .int (nI (μ 1 (k + i)))])) rfl ?_
    refine an_clt rfl (by omega) (by omega) (fun h2 => ?_) (fun h2 => ?_)
    · refine aw_run 1 (F' := (149, [some (.ref m), some (.int (nI k)), some (.int (nI e)), some (.int (nI b)), some (.int (nI n)), some (.int (nI v)), some (.int (nI i)), some (.int (nI (μ 1 (k + i))))], [.int (nI 0)])) rfl ?_
      exact aw_iret rfl ⟨_, rfl, rfl⟩ (g0 (by unfold sp_cb; omega))
    · refine aw_run 2 (F' := (145, [some (.ref m), some (.int (nI k)), some (.int (nI e)), some (.int (nI b)), some (.int (nI n)), some (.int (nI v)), some (.int (nI i)), some (.int (nI (μ 1 (k + i))))], [.int (nI 191), .int (nI (μ 1 (k + i)))])) rfl ?_
      refine an_cle rfl (by omega) (by omega) (fun h3 => ?_) (fun h3 => ?_)
      · refine aw_run 3 (F' := (155, [some (.ref m), some (.int (nI k)), some (.int (nI e)), some (.int (nI b)), some (.int (nI n)), some (.int (nI v)), some (.int (nI i)), some (.int (nI (μ 1 (k + i))))], [.int (nI 64 * nI v)])) rfl ?_
        rw [nI_mul]
        refine aw_run 2 (F' := (158, [some (.ref m), some (.int (nI k)), some (.int (nI e)), some (.int (nI b)), some (.int (nI n)), some (.int (nI v)), some (.int (nI i)), some (.int (nI (μ 1 (k + i))))], [.int (nI (64 * v) + nI (μ 1 (k + i)))])) rfl ?_
        rw [nI_add]
        refine aw_run 2 (F' := (162, [some (.ref m), some (.int (nI k)), some (.int (nI e)), some (.int (nI b)), some (.int (nI n)), some (.int (nI v)), some (.int (nI i)), some (.int (nI (μ 1 (k + i))))], [.int (nI ((64 * v) + (μ 1 (k + i))) - nI 128)])) rfl ?_
        rw [nI_sub (by omega)]
        refine aw_run 2 (F' := (167, [some (.ref m), some (.int (nI k)), some (.int (nI e)), some (.int (nI b)), some (.int (nI n)), some (.int (nI (((64 * v) + (μ 1 (k + i))) - 128))), some (.int (nI i + nI 1)), some (.int (nI (μ 1 (k + i))))], [])) rfl ?_
        rw [nI_add]
        refine aw_run 1 (F' := (115, [some (.ref m), some (.int (nI k)), some (.int (nI e)), some (.int (nI b)), some (.int (nI n)), some (.int (nI (((64 * v) + (μ 1 (k + i))) - 128))), some (.int (nI (i + 1))), some (.int (nI (μ 1 (k + i))))], [])) rfl ?_
        have e1 : 64 * v + μ 1 (k + i) - 128 = v * 64 + (μ 1 (k + i) - 128) := by omega
        rw [e1]
        exact g1 (by unfold sp_cb; omega) _
      · refine aw_run 1 (F' := (149, [some (.ref m), some (.int (nI k)), some (.int (nI e)), some (.int (nI b)), some (.int (nI n)), some (.int (nI v)), some (.int (nI i)), some (.int (nI (μ 1 (k + i))))], [.int (nI 0)])) rfl ?_
        exact aw_iret rfl ⟨_, rfl, rfl⟩ (g0 (by unfold sp_cb; omega))
theorem m_che2 (hM : MS g m σ0 σ μ) {k e b v : Nat} {x7 : Option Value} (hv : v < 2 ^ 30) (g1 : sp_rng 128 v → Q (some (.int (nI 2))) σ) (g0 : ¬ sp_rng 128 v → Q (some (.int 0)) σ) : AW g (d + 1) 70 (115, [some (.ref m), some (.int (nI k)), some (.int (nI e)), some (.int (nI b)), some (.int (nI 2)), some (.int (nI v)), some (.int (nI 2)), x7], []) σ Q := by
  refine aw_run 2 (F' := (119, [some (.ref m), some (.int (nI k)), some (.int (nI e)), some (.int (nI b)), some (.int (nI 2)), some (.int (nI v)), some (.int (nI 2)), x7], [.int (nI 2), .int (nI 2)])) rfl ?_
  refine an_cge rfl (by omega) (by omega) (fun _ => ?_) (fun z => absurd z (by omega))
  refine aw_run 2 (F' := (173, [some (.ref m), some (.int (nI k)), some (.int (nI e)), some (.int (nI b)), some (.int (nI 2)), some (.int (nI v)), some (.int (nI 2)), x7], [.int (nI 2), .int (nI 2)])) rfl ?_
  refine an_cne rfl (by omega) (by omega) (fun z => absurd z (by omega)) (fun _ => ?_)
  refine aw_run 2 (F' := (180, [some (.ref m), some (.int (nI k)), some (.int (nI e)), some (.int (nI b)), some (.int (nI 2)), some (.int (nI v)), some (.int (nI 2)), x7], [.int (nI 127), .int (nI v)])) rfl ?_
  refine an_cle rfl (by omega) (by omega) (fun h3 => ?_) (fun h3 => ?_)
  · refine aw_run 4 (F' := (229, [some (.ref m), some (.int (nI k)), some (.int (nI e)), some (.int (nI b)), some (.int (nI 2)), some (.int (nI v)), some (.int (nI 0)), x7], [.int (nI 0)])) rfl ?_
    refine an_zeq rfl (by omega) (fun _ => ?_) (fun z => absurd z (by omega))
    refine aw_run 1 (F' := (259, [some (.ref m), some (.int (nI k)), some (.int (nI e)), some (.int (nI b)), some (.int (nI 2)), some (.int (nI v)), some (.int (nI 0)), x7], [.int (nI 0)])) rfl ?_
    exact aw_iret rfl ⟨_, rfl, rfl⟩ (g0 (by unfold sp_rng; omega))
  · refine aw_run 4 (F' := (229, [some (.ref m), some (.int (nI k)), some (.int (nI e)), some (.int (nI b)), some (.int (nI 2)), some (.int (nI v)), some (.int (nI 1)), x7], [.int (nI 1)])) rfl ?_
    refine an_zeq rfl (by omega) (fun z => absurd z (by omega)) (fun _ => ?_)
    refine aw_run 2 (F' := (236, [some (.ref m), some (.int (nI k)), some (.int (nI e)), some (.int (nI b)), some (.int (nI 2)), some (.int (nI v)), some (.int (nI 1)), x7], [.int (nI 1114112), .int (nI v)])) rfl ?_
    refine an_cge rfl (by omega) (by omega) (fun h6 => ?_) (fun h6 => ?_)
    · refine aw_run 1 (F' := (259, [some (.ref m), some (.int (nI k)), some (.int (nI e)), some (.int (nI b)), some (.int (nI 2)), some (.int (nI v)), some (.int (nI 1)), x7], [.int (nI 0)])) rfl ?_
      exact aw_iret rfl ⟨_, rfl, rfl⟩ (g0 (by unfold sp_rng; omega))
    · refine aw_run 2 (F' := (243, [some (.ref m), some (.int (nI k)), some (.int (nI e)), some (.int (nI b)), some (.int (nI 2)), some (.int (nI v)), some (.int (nI 1)), x7], [.int (nI 55296), .int (nI v)])) rfl ?_
      refine an_clt rfl (by omega) (by omega) (fun h7 => ?_) (fun h7 => ?_)
      · refine aw_run 2 (F' := (259, [some (.ref m), some (.int (nI k)), some (.int (nI e)), some (.int (nI b)), some (.int (nI 2)), some (.int (nI v)), some (.int (nI 1)), x7], [.int (nI 2)])) rfl ?_
        exact aw_iret rfl ⟨_, rfl, rfl⟩ (g1 (by unfold sp_rng; omega))
      · refine aw_run 2 (F' := (250, [some (.ref m), some (.int (nI k)), some (.int (nI e)), some (.int (nI b)), some (.int (nI 2)), some (.int (nI v)), some (.int (nI 1)), x7], [.int (nI 57343), .int (nI v)])) rfl ?_
        refine an_cle rfl (by omega) (by omega) (fun h8 => ?_) (fun h8 => ?_)
        · refine aw_run 1 (F' := (259, [some (.ref m), some (.int (nI k)), some (.int (nI e)), some (.int (nI b)), some (.int (nI 2)), some (.int (nI v)), some (.int (nI 1)), x7], [.int (nI 0)])) rfl ?_
          exact aw_iret rfl ⟨_, rfl, rfl⟩ (g0 (by unfold sp_rng; omega))
        · refine aw_run 2 (F' := (259, [some (.ref m), some (.int (nI k)), some (.int (nI e)), some (.int (nI b)), some (.int (nI 2)), some (.int (nI v)), some (.int (nI 1)), x7], [.int (nI 2)])) rfl ?_
          exact aw_iret rfl ⟨_, rfl, rfl⟩ (g1 (by unfold sp_rng; omega))
theorem m_che3 (hM : MS g m σ0 σ μ) {k e b v : Nat} {x7 : Option Value} (hv : v < 2 ^ 30) (g1 : sp_rng 2048 v → Q (some (.int (nI 3))) σ) (g0 : ¬ sp_rng 2048 v → Q (some (.int 0)) σ) : AW g (d + 1) 70 (115, [some (.ref m), some (.int (nI k)), some (.int (nI e)), some (.int (nI b)), some (.int (nI 3)), some (.int (nI v)), some (.int (nI 3)), x7], []) σ Q := by
  refine aw_run 2 (F' := (119, [some (.ref m), some (.int (nI k)), some (.int (nI e)), some (.int (nI b)), some (.int (nI 3)), some (.int (nI v)), some (.int (nI 3)), x7], [.int (nI 3), .int (nI 3)])) rfl ?_
  refine an_cge rfl (by omega) (by omega) (fun _ => ?_) (fun z => absurd z (by omega))
  refine aw_run 2 (F' := (173, [some (.ref m), some (.int (nI k)), some (.int (nI e)), some (.int (nI b)), some (.int (nI 3)), some (.int (nI v)), some (.int (nI 3)), x7], [.int (nI 2), .int (nI 3)])) rfl ?_
  refine an_cne rfl (by omega) (by omega) (fun _ => ?_) (fun z => absurd z (by omega))
  refine aw_run 2 (F' := (194, [some (.ref m), some (.int (nI k)), some (.int (nI e)), some (.int (nI b)), some (.int (nI 3)), some (.int (nI v)), some (.int (nI 3)), x7], [.int (nI 3), .int (nI 3)])) rfl ?_
  refine an_cne rfl (by omega) (by omega) (fun z => absurd z (by omega)) (fun _ => ?_)
  refine aw_run 2 (F' := (202, [some (.ref m), some (.int (nI k)), some (.int (nI e)), some (.int (nI b)), some (.int (nI 3)), some (.int (nI v)), some (.int (nI 3)), x7], [.int (nI 2047), .int (nI v)])) rfl ?_
  refine an_cle rfl (by omega) (by omega) (fun h4 => ?_) (fun h4 => ?_)
  · refine aw_run 4 (F' := (229, [some (.ref m), some (.int (nI k)), some (.int (nI e)), some (.int (nI b)), some (.int (nI 3)), some (.int (nI v)), some (.int (nI 0)), x7], [.int (nI 0)])) rfl ?_
    refine an_zeq rfl (by omega) (fun _ => ?_) (fun z => absurd z (by omega))
    refine aw_run 1 (F' := (259, [some (.ref m), some (.int (nI k)), some (.int (nI e)), some (.int (nI b)), some (.int (nI 3)), some (.int (nI v)), some (.int (nI 0)), x7], [.int (nI 0)])) rfl ?_
    exact aw_iret rfl ⟨_, rfl, rfl⟩ (g0 (by unfold sp_rng; omega))
  · refine aw_run 4 (F' := (229, [some (.ref m), some (.int (nI k)), some (.int (nI e)), some (.int (nI b)), some (.int (nI 3)), some (.int (nI v)), some (.int (nI 1)), x7], [.int (nI 1)])) rfl ?_
    refine an_zeq rfl (by omega) (fun z => absurd z (by omega)) (fun _ => ?_)
    refine aw_run 2 (F' := (236, [some (.ref m), some (.int (nI k)), some (.int (nI e)), some (.int (nI b)), some (.int (nI 3)), some (.int (nI v)), some (.int (nI 1)), x7], [.int (nI 1114112), .int (nI v)])) rfl ?_
    refine an_cge rfl (by omega) (by omega) (fun h7 => ?_) (fun h7 => ?_)
    · refine aw_run 1 (F' := (259, [some (.ref m), some (.int (nI k)), some (.int (nI e)), some (.int (nI b)), some (.int (nI 3)), some (.int (nI v)), some (.int (nI 1)), x7], [.int (nI 0)])) rfl ?_
      exact aw_iret rfl ⟨_, rfl, rfl⟩ (g0 (by unfold sp_rng; omega))
    · refine aw_run 2 (F' := (243, [some (.ref m), some (.int (nI k)), some (.int (nI e)), some (.int (nI b)), some (.int (nI 3)), some (.int (nI v)), some (.int (nI 1)), x7], [.int (nI 55296), .int (nI v)])) rfl ?_
      refine an_clt rfl (by omega) (by omega) (fun h8 => ?_) (fun h8 => ?_)
      · refine aw_run 2 (F' := (259, [some (.ref m), some (.int (nI k)), some (.int (nI e)), some (.int (nI b)), some (.int (nI 3)), some (.int (nI v)), some (.int (nI 1)), x7], [.int (nI 3)])) rfl ?_
        exact aw_iret rfl ⟨_, rfl, rfl⟩ (g1 (by unfold sp_rng; omega))
      · refine aw_run 2 (F' := (250, [some (.ref m), some (.int (nI k)), some (.int (nI e)), some (.int (nI b)), some (.int (nI 3)), some (.int (nI v)), some (.int (nI 1)), x7], [.int (nI 57343), .int (nI v)])) rfl ?_
        refine an_cle rfl (by omega) (by omega) (fun h9 => ?_) (fun h9 => ?_)
        · refine aw_run 1 (F' := (259, [some (.ref m), some (.int (nI k)), some (.int (nI e)), some (.int (nI b)), some (.int (nI 3)), some (.int (nI v)), some (.int (nI 1)), x7], [.int (nI 0)])) rfl ?_
          exact aw_iret rfl ⟨_, rfl, rfl⟩ (g0 (by unfold sp_rng; omega))
        · refine aw_run 2 (F' := (259, [some (.ref m), some (.int (nI k)), some (.int (nI e)), some (.int (nI b)), some (.int (nI 3)), some (.int (nI v)), some (.int (nI 1)), x7], [.int (nI 3)])) rfl ?_
          exact aw_iret rfl ⟨_, rfl, rfl⟩ (g1 (by unfold sp_rng; omega))
theorem m_che4 (hM : MS g m σ0 σ μ) {k e b v : Nat} {x7 : Option Value} (hv : v < 2 ^ 30) (g1 : sp_rng 65536 v → Q (some (.int (nI 4))) σ) (g0 : ¬ sp_rng 65536 v → Q (some (.int 0)) σ) : AW g (d + 1) 70 (115, [some (.ref m), some (.int (nI k)), some (.int (nI e)), some (.int (nI b)), some (.int (nI 4)), some (.int (nI v)), some (.int (nI 4)), x7], []) σ Q := by
  refine aw_run 2 (F' := (119, [some (.ref m), some (.int (nI k)), some (.int (nI e)), some (.int (nI b)), some (.int (nI 4)), some (.int (nI v)), some (.int (nI 4)), x7], [.int (nI 4), .int (nI 4)])) rfl ?_
  refine an_cge rfl (by omega) (by omega) (fun _ => ?_) (fun z => absurd z (by omega))
  refine aw_run 2 (F' := (173, [some (.ref m), some (.int (nI k)), some (.int (nI e)), some (.int (nI b)), some (.int (nI 4)), some (.int (nI v)), some (.int (nI 4)), x7], [.int (nI 2), .int (nI 4)])) rfl ?_
  refine an_cne rfl (by omega) (by omega) (fun _ => ?_) (fun z => absurd z (by omega))
  refine aw_run 2 (F' := (194, [some (.ref m), some (.int (nI k)), some (.int (nI e)), some (.int (nI b)), some (.int (nI 4)), some (.int (nI v)), some (.int (nI 4)), x7], [.int (nI 3), .int (nI 4)])) rfl ?_
  refine an_cne rfl (by omega) (by omega) (fun _ => ?_) (fun z => absurd z (by omega))
  refine aw_run 2 (F' := (217, [some (.ref m), some (.int (nI k)), some (.int (nI e)), some (.int (nI b)), some (.int (nI 4)), some (.int (nI v)), some (.int (nI 4)), x7], [.int (nI 65535), .int (nI v)])) rfl ?_
  refine an_cle rfl (by omega) (by omega) (fun h4 => ?_) (fun h4 => ?_)
  · refine aw_run 3 (F' := (229, [some (.ref m), some (.int (nI k)), some (.int (nI e)), some (.int (nI b)), some (.int (nI 4)), some (.int (nI v)), some (.int (nI 0)), x7], [.int (nI 0)])) rfl ?_
    refine an_zeq rfl (by omega) (fun _ => ?_) (fun z => absurd z (by omega))
    refine aw_run 1 (F' := (259, [some (.ref m), some (.int (nI k)), some (.int (nI e)), some (.int (nI b)), some (.int (nI 4)), some (.int (nI v)), some (.int (nI 0)), x7], [.int (nI 0)])) rfl ?_
    exact aw_iret rfl ⟨_, rfl, rfl⟩ (g0 (by unfold sp_rng; omega))
  · refine aw_run 4 (F' := (229, [some (.ref m), some (.int (nI k)), some (.int (nI e)), some (.int (nI b)), some (.int (nI 4)), some (.int (nI v)), some (.int (nI 1)), x7], [.int (nI 1)])) rfl ?_
    refine an_zeq rfl (by omega) (fun z => absurd z (by omega)) (fun _ => ?_)
    refine aw_run 2 (F' := (236, [some (.ref m), some (.int (nI k)), some (.int (nI e)), some (.int (nI b)), some (.int (nI 4)), some (.int (nI v)), some (.int (nI 1)), x7], [.int (nI 1114112), .int (nI v)])) rfl ?_
    refine an_cge rfl (by omega) (by omega) (fun h7 => ?_) (fun h7 => ?_)
    · refine aw_run 1 (F' := (259, [some (.ref m), some (.int (nI k)), some (.int (nI e)), some (.int (nI b)), some (.int (nI 4)), some (.int (nI v)), some (.int (nI 1)), x7], [.int (nI 0)])) rfl ?_
      exact aw_iret rfl ⟨_, rfl, rfl⟩ (g0 (by unfold sp_rng; omega))
    · refine aw_run 2 (F' := (243, [some (.ref m), some (.int (nI k)), some (.int (nI e)), some (.int (nI b)), some (.int (nI 4)), some (.int (nI v)), some (.int (nI 1)), x7], [.int (nI 55296), .int (nI v)])) rfl ?_
      refine an_clt rfl (by omega) (by omega) (fun h8 => ?_) (fun h8 => ?_)
      · refine aw_run 2 (F' := (259, [some (.ref m), some (.int (nI k)), some (.int (nI e)), some (.int (nI b)), some (.int (nI 4)), some (.int (nI v)), some (.int (nI 1)), x7], [.int (nI 4)])) rfl ?_
        exact aw_iret rfl ⟨_, rfl, rfl⟩ (g1 (by unfold sp_rng; omega))
      · refine aw_run 2 (F' := (250, [some (.ref m), some (.int (nI k)), some (.int (nI e)), some (.int (nI b)), some (.int (nI 4)), some (.int (nI v)), some (.int (nI 1)), x7], [.int (nI 57343), .int (nI v)])) rfl ?_
        refine an_cle rfl (by omega) (by omega) (fun h9 => ?_) (fun h9 => ?_)
        · refine aw_run 1 (F' := (259, [some (.ref m), some (.int (nI k)), some (.int (nI e)), some (.int (nI b)), some (.int (nI 4)), some (.int (nI v)), some (.int (nI 1)), x7], [.int (nI 0)])) rfl ?_
          exact aw_iret rfl ⟨_, rfl, rfl⟩ (g0 (by unfold sp_rng; omega))
        · refine aw_run 2 (F' := (259, [some (.ref m), some (.int (nI k)), some (.int (nI e)), some (.int (nI b)), some (.int (nI 4)), some (.int (nI v)), some (.int (nI 1)), x7], [.int (nI 4)])) rfl ?_
          exact aw_iret rfl ⟨_, rfl, rfl⟩ (g1 (by unfold sp_rng; omega))
theorem m_chn2 (hM : MS g m σ0 σ μ) {k e : Nat} (he : e ≤ 14000) (hke : k + 2 ≤ e) (hl : sp_ll (μ 1 k) = 2) (hr : μ 1 k < 224) (hQ : Q (some (.int (nI (sp_chr (μ 1) k e)))) σ) : AW g (d + 1) 70 (115, [some (.ref m), some (.int (nI k)), some (.int (nI e)), some (.int (nI (μ 1 k))), some (.int (nI 2)), some (.int (nI (μ 1 k - 192))), some (.int (nI 1)), none], []) σ Q := by
  have no : ¬ sp_isc (μ 1) k 2 → Q (some (.int 0)) σ := by
    intro z
    have e1 : sp_chr (μ 1) k e = 0 := if_neg (fun y => z (by have y2 := y.2; rw [hl] at y2; exact y2))
    rw [e1] at hQ
    exact hQ
  have ya : sp_isc (μ 1) k 2 → Q (some (.int (nI 2))) σ := by
    intro z
    have e1 : sp_chr (μ 1) k e = 2 := by
      unfold sp_chr
      rw [hl]
      exact if_pos ⟨hke, z⟩
    rw [e1] at hQ
    exact hQ
  clear hQ
  have hb1 := hM.by (i := k + 1) (by omega)
  refine m_chit hM (by omega) (by omega) (by omega) (by omega) (fun c1 x1 => ?_) (fun z => no (fun y => z (isc_2 y).1))
  exact m_che2 hM (by omega) (fun z => ya (Or.inr (Or.inl ⟨rfl, c1, z⟩))) (fun z => no (fun y => z (isc_2 y).2))
theorem m_chn3 (hM : MS g m σ0 σ μ) {k e : Nat} (he : e ≤ 14000) (hke : k + 3 ≤ e) (hl : sp_ll (μ 1 k) = 3) (hr : μ 1 k < 240) (hQ : Q (some (.int (nI (sp_chr (μ 1) k e)))) σ) : AW g (d + 1) 70 (115, [some (.ref m), some (.int (nI k)), some (.int (nI e)), some (.int (nI (μ 1 k))), some (.int (nI 3)), some (.int (nI (μ 1 k - 224))), some (.int (nI 1)), none], []) σ Q := by
  have no : ¬ sp_isc (μ 1) k 3 → Q (some (.int 0)) σ := by
    intro z
    have e1 : sp_chr (μ 1) k e = 0 := if_neg (fun y => z (by have y2 := y.2; rw [hl] at y2; exact y2))
    rw [e1] at hQ
    exact hQ
  have ya : sp_isc (μ 1) k 3 → Q (some (.int (nI 3))) σ := by
    intro z
    have e1 : sp_chr (μ 1) k e = 3 := by
      unfold sp_chr
      rw [hl]
      exact if_pos ⟨hke, z⟩
    rw [e1] at hQ
    exact hQ
  clear hQ
  have hb1 := hM.by (i := k + 1) (by omega)
  have hb2 := hM.by (i := k + 2) (by omega)
  refine m_chit hM (by omega) (by omega) (by omega) (by omega) (fun c1 x1 => ?_) (fun z => no (fun y => z (isc_3 y).1))
  refine m_chit hM (by omega) (by omega) (by omega) (by omega) (fun c2 x2 => ?_) (fun z => no (fun y => z (isc_3 y).2.1))
  exact m_che3 hM (by omega) (fun z => ya (Or.inr (Or.inr (Or.inl ⟨rfl, c1, c2, z⟩)))) (fun z => no (fun y => z (isc_3 y).2.2))
theorem m_chn4 (hM : MS g m σ0 σ μ) {k e : Nat} (he : e ≤ 14000) (hke : k + 4 ≤ e) (hl : sp_ll (μ 1 k) = 4) (hr : μ 1 k < 256) (hQ : Q (some (.int (nI (sp_chr (μ 1) k e)))) σ) : AW g (d + 1) 70 (115, [some (.ref m), some (.int (nI k)), some (.int (nI e)), some (.int (nI (μ 1 k))), some (.int (nI 4)), some (.int (nI (μ 1 k - 240))), some (.int (nI 1)), none], []) σ Q := by
  have no : ¬ sp_isc (μ 1) k 4 → Q (some (.int 0)) σ := by
    intro z
    have e1 : sp_chr (μ 1) k e = 0 := if_neg (fun y => z (by have y2 := y.2; rw [hl] at y2; exact y2))
    rw [e1] at hQ
    exact hQ
  have ya : sp_isc (μ 1) k 4 → Q (some (.int (nI 4))) σ := by
    intro z
    have e1 : sp_chr (μ 1) k e = 4 := by
      unfold sp_chr
      rw [hl]
      exact if_pos ⟨hke, z⟩
    rw [e1] at hQ
    exact hQ
  clear hQ
  have hb1 := hM.by (i := k + 1) (by omega)
  have hb2 := hM.by (i := k + 2) (by omega)
  have hb3 := hM.by (i := k + 3) (by omega)
  refine m_chit hM (by omega) (by omega) (by omega) (by omega) (fun c1 x1 => ?_) (fun z => no (fun y => z (isc_4 y).1))
  refine m_chit hM (by omega) (by omega) (by omega) (by omega) (fun c2 x2 => ?_) (fun z => no (fun y => z (isc_4 y).2.1))
  refine m_chit hM (by omega) (by omega) (by omega) (by omega) (fun c3 x3 => ?_) (fun z => no (fun y => z (isc_4 y).2.2.1))
  exact m_che4 hM (by omega) (fun z => ya (Or.inr (Or.inr (Or.inr ⟨rfl, c1, c2, c3, z⟩)))) (fun z => no (fun y => z (isc_4 y).2.2.2))
/-- character -/
theorem m_chr (hM : MS g m σ0 σ μ) {k e : Nat} (hk : k < e) (he : e ≤ 14000) (hQ : Q (some (.int (nI (sp_chr (μ 1) k e)))) σ) : AW g (d + 1) 70 (0, [some (.ref m), some (.int (nI k)), some (.int (nI e)), none, none, none, none, none], []) σ Q := by
  have hl := sp_ll_cases (hM.by (i := k) (by omega))
  refine aw_run 2 (F' := (2, [some (.ref m), some (.int (nI k)), some (.int (nI e)), none, none, none, none, none], [.int (nI k), .ref m])) rfl ?_
  refine aw_v [.ref m, .int (nI k)] [] rfl (by decide) rfl hM.o rfl rfl (Nat.le_of_ble_eq_true rfl) (Nat.le_of_ble_eq_true rfl) ?_
  have hB2 := hM.by (i := k) (by omega)
  refine m_at hM (by omega) ?_
  show AW g _ 70 (5, [some (.ref m), some (.int (nI k)), some (.int (nI e)), none, none, none, none, none], [.int (nI (μ 1 k))]) σ _
  refine aw_run 3 (F' := (10, [some (.ref m), some (.int (nI k)), some (.int (nI e)), some (.int (nI (μ 1 k))), none, none, none, none], [.int (nI 128), .int (nI (μ 1 k))])) rfl ?_
  refine an_cge rfl (by omega) (by omega) (fun h1 => ?_) (fun h1 => ?_)
  · refine aw_run 2 (F' := (19, [some (.ref m), some (.int (nI k)), some (.int (nI e)), some (.int (nI (μ 1 k))), none, none, none, none], [.int (nI 192), .int (nI (μ 1 k))])) rfl ?_
    refine an_cge rfl (by omega) (by omega) (fun h2 => ?_) (fun h2 => ?_)
    · refine aw_run 2 (F' := (30, [some (.ref m), some (.int (nI k)), some (.int (nI e)), some (.int (nI (μ 1 k))), none, none, none, none], [.int (nI 224), .int (nI (μ 1 k))])) rfl ?_
      refine an_cge rfl (by omega) (by omega) (fun h3 => ?_) (fun h3 => ?_)
      · refine aw_run 2 (F' := (41, [some (.ref m), some (.int (nI k)), some (.int (nI e)), some (.int (nI (μ 1 k))), none, none, none, none], [.int (nI 240), .int (nI (μ 1 k))])) rfl ?_
        refine an_cge rfl (by omega) (by omega) (fun h4 => ?_) (fun h4 => ?_)
        · refine aw_run 2 (F' := (52, [some (.ref m), some (.int (nI k)), some (.int (nI e)), some (.int (nI (μ 1 k))), none, none, none, none], [.int (nI 248), .int (nI (μ 1 k))])) rfl ?_
          refine an_cge rfl (by omega) (by omega) (fun h5 => ?_) (fun h5 => ?_)
          · refine aw_run 3 (F' := (64, [some (.ref m), some (.int (nI k)), some (.int (nI e)), some (.int (nI (μ 1 k))), some (.int (nI 0)), none, none, none], [.int (nI 0)])) rfl ?_
            refine an_zeq rfl (by omega) (fun _ => ?_) (fun z => absurd z (by omega))
            refine aw_run 1 (F' := (76, [some (.ref m), some (.int (nI k)), some (.int (nI e)), some (.int (nI (μ 1 k))), some (.int (nI 0)), none, none, none], [.int (nI 0)])) rfl ?_
            exact aw_iret rfl ⟨_, rfl, rfl⟩ (by have e2 : sp_ll (μ 1 k) = 0 := (by omega); rw [show sp_chr (μ 1) k e = 0 from if_neg (fun z => by have z2 := z.2; rw [e2] at z2; exact isc_0 z2)] at hQ; exact hQ)
          · refine aw_run 4 (F' := (64, [some (.ref m), some (.int (nI k)), some (.int (nI e)), some (.int (nI (μ 1 k))), some (.int (nI 4)), none, none, none], [.int (nI 4)])) rfl ?_
            refine an_zeq rfl (by omega) (fun z => absurd z (by omega)) (fun _ => ?_)
            refine aw_run 3 (F' := (71, [some (.ref m), some (.int (nI k)), some (.int (nI e)), some (.int (nI (μ 1 k))), some (.int (nI 4)), none, none, none], [.int (nI k + nI 4)])) rfl ?_
            rw [nI_add]
            refine aw_run 1 (F' := (72, [some (.ref m), some (.int (nI k)), some (.int (nI e)), some (.int (nI (μ 1 k))), some (.int (nI 4)), none, none, none], [.int (nI e), .int (nI (k + 4))])) rfl ?_
            refine an_cle rfl (by omega) (by omega) (fun h8 => ?_) (fun h8 => ?_)
            · refine aw_run 2 (F' := (80, [some (.ref m), some (.int (nI k)), some (.int (nI e)), some (.int (nI (μ 1 k))), some (.int (nI 4)), none, none, none], [.int (nI 2), .int (nI 4)])) rfl ?_
              refine an_cne rfl (by omega) (by omega) (fun _ => ?_) (fun z => absurd z (by omega))
              refine aw_run 2 (F' := (94, [some (.ref m), some (.int (nI k)), some (.int (nI e)), some (.int (nI (μ 1 k))), some (.int (nI 4)), none, none, none], [.int (nI 3), .int (nI 4)])) rfl ?_
              refine an_cne rfl (by omega) (by omega) (fun _ => ?_) (fun z => absurd z (by omega))
              refine aw_run 3 (F' := (110, [some (.ref m), some (.int (nI k)), some (.int (nI e)), some (.int (nI (μ 1 k))), some (.int (nI 4)), none, none, none], [.int (nI (μ 1 k) - nI 240)])) rfl ?_
              rw [nI_sub (by omega)]
              refine aw_run 3 (F' := (115, [some (.ref m), some (.int (nI k)), some (.int (nI e)), some (.int (nI (μ 1 k))), some (.int (nI 4)), some (.int (nI ((μ 1 k) - 240))), some (.int (nI 1)), none], [])) rfl ?_
              exact m_chn4 hM he (by omega) (by omega) (by omega) hQ
            · refine aw_run 1 (F' := (76, [some (.ref m), some (.int (nI k)), some (.int (nI e)), some (.int (nI (μ 1 k))), some (.int (nI 4)), none, none, none], [.int (nI 0)])) rfl ?_
              exact aw_iret rfl ⟨_, rfl, rfl⟩ (by rw [show sp_chr (μ 1) k e = 0 from if_neg (fun z => by omega)] at hQ; exact hQ)
        · refine aw_run 4 (F' := (64, [some (.ref m), some (.int (nI k)), some (.int (nI e)), some (.int (nI (μ 1 k))), some (.int (nI 3)), none, none, none], [.int (nI 3)])) rfl ?_
          refine an_zeq rfl (by omega) (fun z => absurd z (by omega)) (fun _ => ?_)
          refine aw_run 3 (F' := (71, [some (.ref m), some (.int (nI k)), some (.int (nI e)), some (.int (nI (μ 1 k))), some (.int (nI 3)), none, none, none], [.int (nI k + nI 3)])) rfl ?_
          rw [nI_add]
          refine aw_run 1 (F' := (72, [some (.ref m), some (.int (nI k)), some (.int (nI e)), some (.int (nI (μ 1 k))), some (.int (nI 3)), none, none, none], [.int (nI e), .int (nI (k + 3))])) rfl ?_
          refine an_cle rfl (by omega) (by omega) (fun h12 => ?_) (fun h12 => ?_)
          · refine aw_run 2 (F' := (80, [some (.ref m), some (.int (nI k)), some (.int (nI e)), some (.int (nI (μ 1 k))), some (.int (nI 3)), none, none, none], [.int (nI 2), .int (nI 3)])) rfl ?_
            refine an_cne rfl (by omega) (by omega) (fun _ => ?_) (fun z => absurd z (by omega))
            refine aw_run 2 (F' := (94, [some (.ref m), some (.int (nI k)), some (.int (nI e)), some (.int (nI (μ 1 k))), some (.int (nI 3)), none, none, none], [.int (nI 3), .int (nI 3)])) rfl ?_
            refine an_cne rfl (by omega) (by omega) (fun z => absurd z (by omega)) (fun _ => ?_)
            refine aw_run 3 (F' := (102, [some (.ref m), some (.int (nI k)), some (.int (nI e)), some (.int (nI (μ 1 k))), some (.int (nI 3)), none, none, none], [.int (nI (μ 1 k) - nI 224)])) rfl ?_
            rw [nI_sub (by omega)]
            refine aw_run 4 (F' := (115, [some (.ref m), some (.int (nI k)), some (.int (nI e)), some (.int (nI (μ 1 k))), some (.int (nI 3)), some (.int (nI ((μ 1 k) - 224))), some (.int (nI 1)), none], [])) rfl ?_
            exact m_chn3 hM he (by omega) (by omega) (by omega) hQ
          · refine aw_run 1 (F' := (76, [some (.ref m), some (.int (nI k)), some (.int (nI e)), some (.int (nI (μ 1 k))), some (.int (nI 3)), none, none, none], [.int (nI 0)])) rfl ?_
            exact aw_iret rfl ⟨_, rfl, rfl⟩ (by rw [show sp_chr (μ 1) k e = 0 from if_neg (fun z => by omega)] at hQ; exact hQ)
      · refine aw_run 4 (F' := (64, [some (.ref m), some (.int (nI k)), some (.int (nI e)), some (.int (nI (μ 1 k))), some (.int (nI 2)), none, none, none], [.int (nI 2)])) rfl ?_
        refine an_zeq rfl (by omega) (fun z => absurd z (by omega)) (fun _ => ?_)
        refine aw_run 3 (F' := (71, [some (.ref m), some (.int (nI k)), some (.int (nI e)), some (.int (nI (μ 1 k))), some (.int (nI 2)), none, none, none], [.int (nI k + nI 2)])) rfl ?_
        rw [nI_add]
        refine aw_run 1 (F' := (72, [some (.ref m), some (.int (nI k)), some (.int (nI e)), some (.int (nI (μ 1 k))), some (.int (nI 2)), none, none, none], [.int (nI e), .int (nI (k + 2))])) rfl ?_
        refine an_cle rfl (by omega) (by omega) (fun h16 => ?_) (fun h16 => ?_)
        · refine aw_run 2 (F' := (80, [some (.ref m), some (.int (nI k)), some (.int (nI e)), some (.int (nI (μ 1 k))), some (.int (nI 2)), none, none, none], [.int (nI 2), .int (nI 2)])) rfl ?_
          refine an_cne rfl (by omega) (by omega) (fun z => absurd z (by omega)) (fun _ => ?_)
          refine aw_run 3 (F' := (88, [some (.ref m), some (.int (nI k)), some (.int (nI e)), some (.int (nI (μ 1 k))), some (.int (nI 2)), none, none, none], [.int (nI (μ 1 k) - nI 192)])) rfl ?_
          rw [nI_sub (by omega)]
          refine aw_run 4 (F' := (115, [some (.ref m), some (.int (nI k)), some (.int (nI e)), some (.int (nI (μ 1 k))), some (.int (nI 2)), some (.int (nI ((μ 1 k) - 192))), some (.int (nI 1)), none], [])) rfl ?_
          exact m_chn2 hM he (by omega) (by omega) (by omega) hQ
        · refine aw_run 1 (F' := (76, [some (.ref m), some (.int (nI k)), some (.int (nI e)), some (.int (nI (μ 1 k))), some (.int (nI 2)), none, none, none], [.int (nI 0)])) rfl ?_
          exact aw_iret rfl ⟨_, rfl, rfl⟩ (by rw [show sp_chr (μ 1) k e = 0 from if_neg (fun z => by omega)] at hQ; exact hQ)
    · refine aw_run 4 (F' := (64, [some (.ref m), some (.int (nI k)), some (.int (nI e)), some (.int (nI (μ 1 k))), some (.int (nI 0)), none, none, none], [.int (nI 0)])) rfl ?_
      refine an_zeq rfl (by omega) (fun _ => ?_) (fun z => absurd z (by omega))
      refine aw_run 1 (F' := (76, [some (.ref m), some (.int (nI k)), some (.int (nI e)), some (.int (nI (μ 1 k))), some (.int (nI 0)), none, none, none], [.int (nI 0)])) rfl ?_
      exact aw_iret rfl ⟨_, rfl, rfl⟩ (by have e2 : sp_ll (μ 1 k) = 0 := (by omega); rw [show sp_chr (μ 1) k e = 0 from if_neg (fun z => by have z2 := z.2; rw [e2] at z2; exact isc_0 z2)] at hQ; exact hQ)
  · refine aw_run 1 (F' := (14, [some (.ref m), some (.int (nI k)), some (.int (nI e)), some (.int (nI (μ 1 k))), none, none, none, none], [.int (nI 1)])) rfl ?_
    exact aw_iret rfl ⟨_, rfl, rfl⟩ (by have e2 : sp_ll (μ 1 k) = 1 := (by omega); rw [show sp_chr (μ 1) k e = 1 from (by unfold sp_chr; rw [e2]; exact if_pos ⟨by omega, Or.inl rfl⟩)] at hQ; exact hQ)
/-- isText -/
theorem m_txtL (hM : MS g m σ0 σ μ) {s e : Nat} (he : e ≤ 14000) : ∀ (n k : Nat) (x4 : Option Value), e - k < n → k ≤ 14000 → Q (some (.int (if sp_tx (μ 1) n k e then 1 else 0))) σ → AW g (d + 2) 69 (2, [some (.ref m), some (.int (nI s)), some (.int (nI e)), some (.int (nI k)), x4], []) σ Q := by
  intro n
  induction n with
  | zero => intro k x4 hk; omega
  | succ n ih =>
    intro k x4 hk hk2 hQ
    simp only [sp_tx] at hQ
    refine aw_run 2 (F' := (4, [some (.ref m), some (.int (nI s)), some (.int (nI e)), some (.int (nI k)), x4], [.int (nI e), .int (nI k)])) rfl ?_
    refine an_cge rfl (by omega) (by omega) (fun h1 => ?_) (fun h1 => ?_)
    · refine aw_run 1 (F' := (31, [some (.ref m), some (.int (nI s)), some (.int (nI e)), some (.int (nI k)), x4], [.int (nI 1)])) rfl ?_
      exact aw_iret rfl ⟨_, rfl, rfl⟩ (by simp only [if_pos h1] at hQ; exact hQ)
    · refine aw_run 3 (F' := (10, [some (.ref m), some (.int (nI s)), some (.int (nI e)), some (.int (nI k)), x4], [.int (nI e), .int (nI k), .ref m])) rfl ?_
      refine aw_v [.ref m, .int (nI k), .int (nI e)] [] rfl (by decide) rfl hM.o rfl rfl (Nat.le_of_ble_eq_true rfl) (Nat.le_of_ble_eq_true rfl) ?_
      have hc4 := chr_le (μ 1) k e
      refine m_chr hM (by omega) he ?_
      show AW g _ 69 (13, [some (.ref m), some (.int (nI s)), some (.int (nI e)), some (.int (nI k)), x4], [.int (nI (sp_chr (μ 1) k e))]) σ _
      refine aw_run 2 (F' := (17, [some (.ref m), some (.int (nI s)), some (.int (nI e)), some (.int (nI k)), some (.int (nI (sp_chr (μ 1) k e)))], [.int (nI (sp_chr (μ 1) k e))])) rfl ?_
      refine an_zne rfl (by omega) (fun h2 => ?_) (fun h2 => ?_)
      · refine aw_run 3 (F' := (26, [some (.ref m), some (.int (nI s)), some (.int (nI e)), some (.int (nI k)), some (.int (nI (sp_chr (μ 1) k e)))], [.int (nI k + nI (sp_chr (μ 1) k e))])) rfl ?_
        rw [nI_add]
        refine aw_run 2 (F' := (2, [some (.ref m), some (.int (nI s)), some (.int (nI e)), some (.int (nI (k + (sp_chr (μ 1) k e)))), some (.int (nI (sp_chr (μ 1) k e)))], [])) rfl ?_
        simp only [if_neg (show ¬ e ≤ k by omega), if_neg (show ¬ sp_chr (μ 1) k e = 0 by assumption)] at hQ
        exact ih _ _ (by omega) (by omega) hQ
      · refine aw_run 1 (F' := (21, [some (.ref m), some (.int (nI s)), some (.int (nI e)), some (.int (nI k)), some (.int (nI (sp_chr (μ 1) k e)))], [.int (nI 0)])) rfl ?_
        exact aw_iret rfl ⟨_, rfl, rfl⟩ (by simp only [if_neg (show ¬ e ≤ k by omega), if_pos (show sp_chr (μ 1) k e = 0 by assumption)] at hQ; exact hQ)
theorem m_txt (hM : MS g m σ0 σ μ) {s e : Nat} (hs : s ≤ 14000) (he : e ≤ 14000) (hQ : Q (some (.int (if sp_tx (μ 1) (e - s) s e then 1 else 0))) σ) : AW g (d + 2) 69 (0, [some (.ref m), some (.int (nI s)), some (.int (nI e)), none, none], []) σ Q := by
  refine aw_run 2 (F' := (2, [some (.ref m), some (.int (nI s)), some (.int (nI e)), some (.int (nI s)), none], [])) rfl ?_
  refine m_txtL hM he (e - s + 1) s none (by omega) hs ?_
  have e1 := sp_tx_fuel (μ 1) (e - s) (e - s + 1) s e (by omega) (by omega)
  simp only [e1] at hQ
  exact hQ
end P69
