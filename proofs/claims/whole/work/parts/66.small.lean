section P66
variable {g : Nat × Nat} {d : Nat} {σ0 σ : am_H} {Q : Option Value → am_H → Prop} {m : Nat} {μ : sp_M}
theorem m_at (hM : MS g m σ0 σ μ) {k : Nat} (hk : k < 14000) (hQ : Q (some (.int (nI (μ 1 k)))) σ) : AW g d 65 (0, [some (.ref m), some (.int (nI k))], []) σ Q := by
  refine aw_run 1 (F' := (1, [some (.ref m), some (.int (nI k))], [.ref m])) rfl ?_
  refine aw_get rfl hM.o rfl ?_
  refine aw_run 1 (F' := (5, [some (.ref m), some (.int (nI k))], [.int (nI k), .ref (m + 1)])) rfl ?_
  refine ms_bld hM rfl (k := 1) (n := 14000) (by decide) (by omega) ?_
  refine aw_run 2 (F' := (10, [some (.ref m), some (.int (nI k))], [.int (sb_b (μ 1 k) &&& nI 255)])) rfl ?_
  rw [sb_255n _ (hM.by (by omega))]
  exact aw_iret rfl ⟨_, rfl, rfl⟩ (hQ)
theorem m_whole (hM : MS g m σ0 σ μ) {k : Nat} (hk : k + 3 < 14000) (hQ : Q (some (.int (nI (sp_le (μ 1) k 4)))) σ) : AW g (d + 1) 64 (0, [some (.ref m), some (.int (nI k))], []) σ Q := by
  refine aw_run 2 (F' := (2, [some (.ref m), some (.int (nI k))], [.int (nI k), .ref m])) rfl ?_
  refine aw_v [.ref m, .int (nI k)] [] rfl (by decide) rfl hM.o rfl rfl (Nat.le_of_ble_eq_true rfl) (Nat.le_of_ble_eq_true rfl) ?_
  refine m_at hM (by omega) ?_
  show AW g _ 64 (5, [some (.ref m), some (.int (nI k))], [.int (nI (μ 1 k))]) σ _
  refine aw_run 5 (F' := (12, [some (.ref m), some (.int (nI k))], [.int (nI k + nI 1), .ref m, .int (nI 256), .int (nI (μ 1 k))])) rfl ?_
  rw [nI_add]
  refine aw_v [.ref m, .int (nI (k + 1))] [.int (nI 256), .int (nI (μ 1 k))] rfl (by decide) rfl hM.o rfl rfl (Nat.le_of_ble_eq_true rfl) (Nat.le_of_ble_eq_true rfl) ?_
  refine m_at hM (by omega) ?_
  show AW g _ 64 (15, [some (.ref m), some (.int (nI k))], [.int (nI (μ 1 (k + 1))), .int (nI 256), .int (nI (μ 1 k))]) σ _
  refine aw_run 1 (F' := (16, [some (.ref m), some (.int (nI k))], [.int (nI 256 * nI (μ 1 (k + 1))), .int (nI (μ 1 k))])) rfl ?_
  rw [nI_mul]
  refine aw_run 1 (F' := (17, [some (.ref m), some (.int (nI k))], [.int (nI (μ 1 k) + nI (256 * (μ 1 (k + 1))))])) rfl ?_
  rw [nI_add]
  refine aw_run 5 (F' := (23, [some (.ref m), some (.int (nI k))], [.int (nI k + nI 2), .ref m, .int (nI 65536), .int (nI ((μ 1 k) + (256 * (μ 1 (k + 1)))))])) rfl ?_
  rw [nI_add]
  refine aw_v [.ref m, .int (nI (k + 2))] [.int (nI 65536), .int (nI ((μ 1 k) + (256 * (μ 1 (k + 1)))))] rfl (by decide) rfl hM.o rfl rfl (Nat.le_of_ble_eq_true rfl) (Nat.le_of_ble_eq_true rfl) ?_
  refine m_at hM (by omega) ?_
  show AW g _ 64 (26, [some (.ref m), some (.int (nI k))], [.int (nI (μ 1 (k + 2))), .int (nI 65536), .int (nI ((μ 1 k) + (256 * (μ 1 (k + 1)))))]) σ _
  refine aw_run 1 (F' := (27, [some (.ref m), some (.int (nI k))], [.int (nI 65536 * nI (μ 1 (k + 2))), .int (nI ((μ 1 k) + (256 * (μ 1 (k + 1)))))])) rfl ?_
  rw [nI_mul]
  refine aw_run 1 (F' := (28, [some (.ref m), some (.int (nI k))], [.int (nI ((μ 1 k) + (256 * (μ 1 (k + 1)))) + nI (65536 * (μ 1 (k + 2))))])) rfl ?_
  rw [nI_add]
  refine aw_run 5 (F' := (34, [some (.ref m), some (.int (nI k))], [.int (nI k + nI 3), .ref m, .int (nI 16777216), .int (nI (((μ 1 k) + (256 * (μ 1 (k + 1)))) + (65536 * (μ 1 (k + 2)))))])) rfl ?_
  rw [nI_add]
  refine aw_v [.ref m, .int (nI (k + 3))] [.int (nI 16777216), .int (nI (((μ 1 k) + (256 * (μ 1 (k + 1)))) + (65536 * (μ 1 (k + 2)))))] rfl (by decide) rfl hM.o rfl rfl (Nat.le_of_ble_eq_true rfl) (Nat.le_of_ble_eq_true rfl) ?_
  refine m_at hM (by omega) ?_
  show AW g _ 64 (37, [some (.ref m), some (.int (nI k))], [.int (nI (μ 1 (k + 3))), .int (nI 16777216), .int (nI (((μ 1 k) + (256 * (μ 1 (k + 1)))) + (65536 * (μ 1 (k + 2)))))]) σ _
  refine aw_run 1 (F' := (38, [some (.ref m), some (.int (nI k))], [.int (nI 16777216 * nI (μ 1 (k + 3))), .int (nI (((μ 1 k) + (256 * (μ 1 (k + 1)))) + (65536 * (μ 1 (k + 2)))))])) rfl ?_
  rw [nI_mul]
  refine aw_run 1 (F' := (39, [some (.ref m), some (.int (nI k))], [.int (nI (((μ 1 k) + (256 * (μ 1 (k + 1)))) + (65536 * (μ 1 (k + 2)))) + nI (16777216 * (μ 1 (k + 3))))])) rfl ?_
  rw [nI_add]
  have e : (((μ 1 k) + (256 * (μ 1 (k + 1)))) + (65536 * (μ 1 (k + 2)))) + (16777216 * (μ 1 (k + 3))) = sp_le (μ 1) k 4 := by
    simp only [sp_le, Nat.add_zero]
    omega
  rw [e]
  exact aw_iret rfl ⟨_, rfl, rfl⟩ hQ
theorem m_slot (x : Int32) (h1 : ∀ j, j < 4 → x = nI j → sp_ix x 4 = some j → Q (some (.int 1)) σ) (h0 : sp_ix x 4 = none → Q (some (.int 0)) σ) : AW g d 62 (0, [some (.int x)], []) σ Q := by
  rcases sp_ix_c x (n := 4) (by omega) with ⟨q, e⟩ | ⟨j, hj, rfl, e⟩
  · refine aw_run 1 (F' := (1, [some (.int x)], [.int x])) rfl ?_
    refine aw_zlt rfl (fun h => ?_) (fun h => ?_)
    · refine aw_run 1 (F' := (14, [some (.int x)], [.int 0])) rfl ?_
      exact aw_iret rfl ⟨_, rfl, rfl⟩ (h0 e)
    · refine aw_run 2 (F' := (6, [some (.int x)], [.int (nI 4), .int x])) rfl ?_
      refine aw_cge rfl (fun h2 => ?_) (fun h2 => ?_)
      · refine aw_run 1 (F' := (14, [some (.int x)], [.int 0])) rfl ?_
        exact aw_iret rfl ⟨_, rfl, rfl⟩ (h0 e)
      · exact absurd (q.resolve_left h).2 h2
  · refine aw_run 1 (F' := (1, [some (.int (nI j))], [.int (nI j)])) rfl ?_
    refine an_zlt rfl (by omega) ?_
    refine aw_run 2 (F' := (6, [some (.int (nI j))], [.int (nI 4), .int (nI j)])) rfl ?_
    refine an_cge rfl (by omega) (by omega) (fun h => by omega) (fun h => ?_)
    refine aw_run 2 (F' := (14, [some (.int (nI j))], [.int 1])) rfl ?_
    exact aw_iret rfl ⟨_, rfl, rfl⟩ (h1 j hj rfl e)
theorem m_cls {k : Nat} (hk : k < 2 ^ 31) (hQ : Q (some (.int (nI (sp_cls k)))) σ) : AW g d 80 (0, [some (.int (nI k))], []) σ Q := by
  refine aw_run 2 (F' := (3, [some (.int (nI k))], [.int (nI 10), .int (nI k)])) rfl ?_
  refine an_cne rfl (by omega) (by omega) (fun h1 => ?_) (fun h1 => ?_)
  · refine aw_run 2 (F' := (13, [some (.int (nI k))], [.int (nI 16), .int (nI k)])) rfl ?_
    refine an_ceq rfl (by omega) (by omega) (fun h2 => ?_) (fun h2 => ?_)
    · refine aw_run 2 (F' := (65, [some (.int (nI k))], [.int (nI 2)])) rfl ?_
      exact aw_iret rfl ⟨_, rfl, rfl⟩ ((show sp_cls k = 2 by simp [sp_cls, *]) ▸ hQ)
    · refine aw_run 2 (F' := (19, [some (.int (nI k))], [.int (nI 18), .int (nI k)])) rfl ?_
      refine an_cne rfl (by omega) (by omega) (fun h3 => ?_) (fun h3 => ?_)
      · refine aw_run 2 (F' := (28, [some (.int (nI k))], [.int (nI 2), .int (nI k)])) rfl ?_
        refine an_cne rfl (by omega) (by omega) (fun h4 => ?_) (fun h4 => ?_)
        · refine aw_run 2 (F' := (37, [some (.int (nI k))], [.int (nI 3), .int (nI k)])) rfl ?_
          refine an_cne rfl (by omega) (by omega) (fun h5 => ?_) (fun h5 => ?_)
          · refine aw_run 2 (F' := (46, [some (.int (nI k))], [.int (nI 4), .int (nI k)])) rfl ?_
            refine an_cne rfl (by omega) (by omega) (fun h6 => ?_) (fun h6 => ?_)
            · refine aw_run 2 (F' := (56, [some (.int (nI k))], [.int (nI 8), .int (nI k)])) rfl ?_
              refine an_cne rfl (by omega) (by omega) (fun h7 => ?_) (fun h7 => ?_)
              · refine aw_run 1 (F' := (65, [some (.int (nI k))], [.int (nI 0)])) rfl ?_
                exact aw_iret rfl ⟨_, rfl, rfl⟩ ((show sp_cls k = 0 by simp [sp_cls, *]) ▸ hQ)
              · refine aw_run 2 (F' := (65, [some (.int (nI k))], [.int (nI 6)])) rfl ?_
                exact aw_iret rfl ⟨_, rfl, rfl⟩ ((show sp_cls k = 6 by simp [sp_cls, *]) ▸ hQ)
            · refine aw_run 2 (F' := (65, [some (.int (nI k))], [.int (nI 5)])) rfl ?_
              exact aw_iret rfl ⟨_, rfl, rfl⟩ ((show sp_cls k = 5 by simp [sp_cls, *]) ▸ hQ)
          · refine aw_run 2 (F' := (65, [some (.int (nI k))], [.int (nI 4)])) rfl ?_
            exact aw_iret rfl ⟨_, rfl, rfl⟩ ((show sp_cls k = 4 by simp [sp_cls, *]) ▸ hQ)
        · refine aw_run 2 (F' := (65, [some (.int (nI k))], [.int (nI 3)])) rfl ?_
          exact aw_iret rfl ⟨_, rfl, rfl⟩ ((show sp_cls k = 3 by simp [sp_cls, *]) ▸ hQ)
      · refine aw_run 2 (F' := (65, [some (.int (nI k))], [.int (nI 2)])) rfl ?_
        exact aw_iret rfl ⟨_, rfl, rfl⟩ ((show sp_cls k = 2 by simp [sp_cls, *]) ▸ hQ)
  · refine aw_run 2 (F' := (65, [some (.int (nI k))], [.int (nI 1)])) rfl ?_
    exact aw_iret rfl ⟨_, rfl, rfl⟩ ((show sp_cls k = 1 by simp [sp_cls, *]) ▸ hQ)
/-- where a value of a kind at k ends -/
def bhd (β : Nat → Nat) (kd k : Nat) : Nat := if kd = 16 then k + 4 else if kd = 18 then k + 8 else if kd = 8 then k + 1 else if kd = 2 then k + 4 + sp_le β k 4 else if kd = 3 ∨ kd = 4 then k + sp_le β k 4 else k
theorem ly1.bh {β : Nat → Nat} {b : sp_B} {c : sp_F} {L : Nat → Nat → Prop} {p q : Nat} (h : ly1 β b c L p q) : bhd β b.1 p = q := by
  unfold bhd
  rcases h with ⟨z1, z2, _⟩ | ⟨z1, z2, _⟩ | ⟨z1, z2, _⟩ | ⟨z1, z2, _⟩ | ⟨z1, _, z2, _⟩ | ⟨z1 | z1, _, z2, _⟩ <;> simp [z1, z2]
theorem m_bhd (hM : MS g m σ0 σ μ) {kd k : Nat} (hkd : kd < 2 ^ 31) (hk : kd = 2 ∨ kd = 3 ∨ kd = 4 → k + 3 < 14000) (hQ : Q (some (.int (nI (bhd (μ 1) kd k)))) σ) : AW g (d + 2) 74 (0, [some (.ref m), some (.int (nI kd)), some (.int (nI k))], []) σ Q := by
  refine aw_run 2 (F' := (3, [some (.ref m), some (.int (nI kd)), some (.int (nI k))], [.int (nI 16), .int (nI kd)])) rfl ?_
  refine an_cne rfl (by omega) (by omega) (fun h1 => ?_) (fun h1 => ?_)
  · refine aw_run 2 (F' := (15, [some (.ref m), some (.int (nI kd)), some (.int (nI k))], [.int (nI 18), .int (nI kd)])) rfl ?_
    refine an_cne rfl (by omega) (by omega) (fun h2 => ?_) (fun h2 => ?_)
    · refine aw_run 2 (F' := (28, [some (.ref m), some (.int (nI kd)), some (.int (nI k))], [.int (nI 8), .int (nI kd)])) rfl ?_
      refine an_cne rfl (by omega) (by omega) (fun h3 => ?_) (fun h3 => ?_)
      · refine aw_run 2 (F' := (39, [some (.ref m), some (.int (nI kd)), some (.int (nI k))], [.int (nI 2), .int (nI kd)])) rfl ?_
        refine an_cne rfl (by omega) (by omega) (fun h4 => ?_) (fun h4 => ?_)
        · refine aw_run 2 (F' := (56, [some (.ref m), some (.int (nI kd)), some (.int (nI k))], [.int (nI 3), .int (nI kd)])) rfl ?_
          refine an_ceq rfl (by omega) (by omega) (fun h5 => ?_) (fun h5 => ?_)
          · refine aw_run 3 (F' := (67, [some (.ref m), some (.int (nI kd)), some (.int (nI k))], [.int (nI k), .ref m, .int (nI k)])) rfl ?_
            refine aw_v [.ref m, .int (nI k)] [.int (nI k)] rfl (by decide) rfl hM.o rfl rfl (Nat.le_of_ble_eq_true rfl) (Nat.le_of_ble_eq_true rfl) ?_
            refine m_whole hM (by omega) ?_
            show AW g _ 74 (70, [some (.ref m), some (.int (nI kd)), some (.int (nI k))], [.int (nI (sp_le (μ 1) k 4)), .int (nI k)]) σ _
            refine aw_run 1 (F' := (71, [some (.ref m), some (.int (nI kd)), some (.int (nI k))], [.int (nI k + nI (sp_le (μ 1) k 4))])) rfl ?_
            rw [nI_add]
            refine aw_run 1 (F' := (75, [some (.ref m), some (.int (nI kd)), some (.int (nI k))], [.int (nI (k + (sp_le (μ 1) k 4)))])) rfl ?_
            exact aw_iret rfl ⟨_, rfl, rfl⟩ ((show bhd (μ 1) kd k = k + (sp_le (μ 1) k 4) by simp [bhd, *]) ▸ hQ)
          · refine aw_run 2 (F' := (61, [some (.ref m), some (.int (nI kd)), some (.int (nI k))], [.int (nI 4), .int (nI kd)])) rfl ?_
            refine an_cne rfl (by omega) (by omega) (fun h6 => ?_) (fun h6 => ?_)
            · refine aw_run 1 (F' := (75, [some (.ref m), some (.int (nI kd)), some (.int (nI k))], [.int (nI k)])) rfl ?_
              exact aw_iret rfl ⟨_, rfl, rfl⟩ ((show bhd (μ 1) kd k = k by simp [bhd, *]) ▸ hQ)
            · refine aw_run 3 (F' := (67, [some (.ref m), some (.int (nI kd)), some (.int (nI k))], [.int (nI k), .ref m, .int (nI k)])) rfl ?_
              refine aw_v [.ref m, .int (nI k)] [.int (nI k)] rfl (by decide) rfl hM.o rfl rfl (Nat.le_of_ble_eq_true rfl) (Nat.le_of_ble_eq_true rfl) ?_
              refine m_whole hM (by omega) ?_
              show AW g _ 74 (70, [some (.ref m), some (.int (nI kd)), some (.int (nI k))], [.int (nI (sp_le (μ 1) k 4)), .int (nI k)]) σ _
              refine aw_run 1 (F' := (71, [some (.ref m), some (.int (nI kd)), some (.int (nI k))], [.int (nI k + nI (sp_le (μ 1) k 4))])) rfl ?_
              rw [nI_add]
              refine aw_run 1 (F' := (75, [some (.ref m), some (.int (nI kd)), some (.int (nI k))], [.int (nI (k + (sp_le (μ 1) k 4)))])) rfl ?_
              exact aw_iret rfl ⟨_, rfl, rfl⟩ ((show bhd (μ 1) kd k = k + (sp_le (μ 1) k 4) by simp [bhd, *]) ▸ hQ)
        · refine aw_run 3 (F' := (45, [some (.ref m), some (.int (nI kd)), some (.int (nI k))], [.int (nI k + nI 4)])) rfl ?_
          rw [nI_add]
          refine aw_run 2 (F' := (47, [some (.ref m), some (.int (nI kd)), some (.int (nI k))], [.int (nI k), .ref m, .int (nI (k + 4))])) rfl ?_
          refine aw_v [.ref m, .int (nI k)] [.int (nI (k + 4))] rfl (by decide) rfl hM.o rfl rfl (Nat.le_of_ble_eq_true rfl) (Nat.le_of_ble_eq_true rfl) ?_
          refine m_whole hM (by omega) ?_
          show AW g _ 74 (50, [some (.ref m), some (.int (nI kd)), some (.int (nI k))], [.int (nI (sp_le (μ 1) k 4)), .int (nI (k + 4))]) σ _
          refine aw_run 1 (F' := (51, [some (.ref m), some (.int (nI kd)), some (.int (nI k))], [.int (nI (k + 4) + nI (sp_le (μ 1) k 4))])) rfl ?_
          rw [nI_add]
          refine aw_run 1 (F' := (75, [some (.ref m), some (.int (nI kd)), some (.int (nI k))], [.int (nI ((k + 4) + (sp_le (μ 1) k 4)))])) rfl ?_
          exact aw_iret rfl ⟨_, rfl, rfl⟩ ((show bhd (μ 1) kd k = (k + 4) + (sp_le (μ 1) k 4) by simp [bhd, *]) ▸ hQ)
      · refine aw_run 3 (F' := (34, [some (.ref m), some (.int (nI kd)), some (.int (nI k))], [.int (nI k + nI 1)])) rfl ?_
        rw [nI_add]
        refine aw_run 1 (F' := (75, [some (.ref m), some (.int (nI kd)), some (.int (nI k))], [.int (nI (k + 1))])) rfl ?_
        exact aw_iret rfl ⟨_, rfl, rfl⟩ ((show bhd (μ 1) kd k = k + 1 by simp [bhd, *]) ▸ hQ)
    · refine aw_run 3 (F' := (22, [some (.ref m), some (.int (nI kd)), some (.int (nI k))], [.int (nI k + nI 8)])) rfl ?_
      rw [nI_add]
      refine aw_run 1 (F' := (75, [some (.ref m), some (.int (nI kd)), some (.int (nI k))], [.int (nI (k + 8))])) rfl ?_
      exact aw_iret rfl ⟨_, rfl, rfl⟩ ((show bhd (μ 1) kd k = k + 8 by simp [bhd, *]) ▸ hQ)
  · refine aw_run 3 (F' := (9, [some (.ref m), some (.int (nI kd)), some (.int (nI k))], [.int (nI k + nI 4)])) rfl ?_
    rw [nI_add]
    refine aw_run 1 (F' := (75, [some (.ref m), some (.int (nI kd)), some (.int (nI k))], [.int (nI (k + 4))])) rfl ?_
    exact aw_iret rfl ⟨_, rfl, rfl⟩ ((show bhd (μ 1) kd k = k + 4 by simp [bhd, *]) ▸ hQ)
theorem m_neL (hM : MS g m σ0 σ μ) {k e : Nat} (he : e ≤ 14000) (hS : ∀ s, nmd (μ 1) k s → s < e → Q (some (.int (nI s))) σ) (hN : (∀ i, k ≤ i → i < e → μ 1 i ≠ 0) → Q (some (.int (nI e))) σ) : ∀ (n j : Nat), e - j < n → k ≤ j → j ≤ e → (∀ i, k ≤ i → i < j → μ 1 i ≠ 0) → AW g d 68 (2, [some (.ref m), some (.int (nI k)), some (.int (nI e)), some (.int (nI j))], []) σ Q := by
  intro n
  induction n with
  | zero => intro j hj; omega
  | succ n ih =>
    intro j hj hkj hje hnz
    refine aw_run 2 (F' := (4, [some (.ref m), some (.int (nI k)), some (.int (nI e)), some (.int (nI j))], [.int (nI e), .int (nI j)])) rfl ?_
    refine an_cge rfl (by omega) (by omega) (fun h1 => ?_) (fun h1 => ?_)
    · refine aw_run 1 (F' := (23, [some (.ref m), some (.int (nI k)), some (.int (nI e)), some (.int (nI j))], [.int (nI j)])) rfl ?_
      have e1 : j = e := by omega
      subst e1
      exact aw_iret rfl ⟨_, rfl, rfl⟩ (hN hnz)
    · refine aw_run 1 (F' := (8, [some (.ref m), some (.int (nI k)), some (.int (nI e)), some (.int (nI j))], [.ref m])) rfl ?_
      refine aw_get rfl hM.o rfl ?_
      refine aw_run 1 (F' := (12, [some (.ref m), some (.int (nI k)), some (.int (nI e)), some (.int (nI j))], [.int (nI j), .ref (m + 1)])) rfl ?_
      refine ms_bld hM rfl (k := 1) (n := 14000) (by decide) (by omega) ?_
      refine ab_zeq rfl (hM.by (by omega)) (fun h2 => ?_) (fun h2 => ?_)
      · refine aw_run 1 (F' := (23, [some (.ref m), some (.int (nI k)), some (.int (nI e)), some (.int (nI j))], [.int (nI j)])) rfl ?_
        exact aw_iret rfl ⟨_, rfl, rfl⟩ (hS j ⟨hkj, h2, hnz⟩ h1)
      · refine aw_run 1 (F' := (19, [some (.ref m), some (.int (nI k)), some (.int (nI e)), some (.int (nI j + nI 1))], [])) rfl ?_
        rw [nI_add]
        refine aw_run 1 (F' := (2, [some (.ref m), some (.int (nI k)), some (.int (nI e)), some (.int (nI (j + 1)))], [])) rfl ?_
        refine ih (j + 1) (by omega) (by omega) (by omega) (fun i a b => ?_)
        by_cases e1 : i = j
        · rw [e1]; exact h2
        · exact hnz i a (by omega)
theorem m_ne (hM : MS g m σ0 σ μ) {k e : Nat} (hke : k ≤ e) (he : e ≤ 14000) (hS : ∀ s, nmd (μ 1) k s → s < e → Q (some (.int (nI s))) σ) (hN : (∀ i, k ≤ i → i < e → μ 1 i ≠ 0) → Q (some (.int (nI e))) σ) : AW g d 68 (0, [some (.ref m), some (.int (nI k)), some (.int (nI e)), none], []) σ Q := by
  refine aw_run 2 (F' := (2, [some (.ref m), some (.int (nI k)), some (.int (nI e)), some (.int (nI k))], [])) rfl ?_
  exact m_neL hM he hS hN _ k (Nat.lt_succ_self _) (Nat.le_refl _) hke (fun i a b => by omega)
theorem nmd.un {β : Nat → Nat} {p s t : Nat} (h : nmd β p s) (h' : nmd β p t) : s = t := by
  rcases Nat.lt_trichotomy s t with q | q | q
  · exact absurd h.2.1 (h'.2.2 s h.1 q)
  · exact q
  · exact absurd h'.2.1 (h.2.2 t h'.1 q)
/-- nameEnd, where the name's end is known -/
theorem m_nes (hM : MS g m σ0 σ μ) {k e s : Nat} (he : e ≤ 14000) (hs : nmd (μ 1) k s) (hse : s < e) (hQ : Q (some (.int (nI s))) σ) : AW g d 68 (0, [some (.ref m), some (.int (nI k)), some (.int (nI e)), none], []) σ Q := by
  refine m_ne hM (by have := hs.1; omega) he (fun t h1 h2 => ?_) (fun h => absurd hs.2.1 (h s hs.1 hse))
  rw [← hs.un h1]
  exact hQ
end P66
