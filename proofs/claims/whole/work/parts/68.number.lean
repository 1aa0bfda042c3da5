theorem sub_app {β : Nat → Nat} {a b c : Nat} (h1 : a ≤ b) (h2 : b ≤ c) : sp_sub β a c = sp_sub β a b ++ sp_sub β b c := by
  apply List.ext_getElem?
  intro i
  by_cases q : i < b - a
  · rw [List.getElem?_append_left (by rw [sp_sub_len]; exact q)]
    simp [sp_sub, List.getElem?_map, List.getElem?_range, q, show i < c - a by omega]
  · rw [List.getElem?_append_right (by rw [sp_sub_len]; omega), sp_sub_len]
    by_cases q2 : i < c - a
    · simp [sp_sub, List.getElem?_map, List.getElem?_range, q2, show i - (b - a) < c - b by omega]
      congr 1
      omega
    · rw [List.getElem?_eq_none (by rw [sp_sub_len]; omega), List.getElem?_eq_none (by rw [sp_sub_len]; omega)]
theorem sub_one {β : Nat → Nat} {k e : Nat} (h : k < e) : sp_sub β k e = β k :: sp_sub β (k + 1) e := by
  rw [sub_app (b := k + 1) (by omega) (by omega)]
  have : sp_sub β k (k + 1) = [β k] := by simp [sp_sub, List.range_succ]
  rw [this]
  rfl
theorem sub_nil {β : Nat → Nat} {k e : Nat} (h : e ≤ k) : sp_sub β k e = [] := List.length_eq_zero_iff.mp (by rw [sp_sub_len]; omega)
theorem sub_mem {β : Nat → Nat} {a e k : Nat} (h1 : a ≤ k) (h2 : k < e) : β k ∈ sp_sub β a e := by
  rw [sub_app h1 (by omega : k ≤ e), sub_one h2]
  simp
section P68
variable {g : Nat × Nat} {d : Nat} {σ0 σ : am_H} {Q : Option Value → am_H → Prop} {m : Nat} {μ : sp_M}
/-- isNumber -/
theorem m_numL (hM : MS g m σ0 σ μ) {a e v : Nat} (hae : a ≤ e) (he : e ≤ 14000) (hv : v ≤ 1000) (g1 : sp_sub (μ 1) a e = sp_dec v → Q (some (.int 1)) σ) (g0 : ¬ sp_sub (μ 1) a e = sp_dec v → Q (some (.int 0)) σ) : ∀ (n k w : Nat), e - k < n → a ≤ k → k ≤ e → w = dgv 48 0 (sp_sub (μ 1) a k) → w ≤ 10009 → (∀ x ∈ sp_sub (μ 1) a k, 48 ≤ x ∧ x ≤ 57) → AW g (d + 1) 71 (6, [some (.ref m), some (.int (nI a)), some (.int (nI e)), some (.int (nI v)), some (.int (nI w)), some (.int (nI k))], []) σ Q := by
  intro n
  induction n with
  | zero => intro k w hk; omega
  | succ n ih =>
    intro k w hk hak hke hw hw2 hd
    refine aw_run 2 (F' := (9, [some (.ref m), some (.int (nI a)), some (.int (nI e)), some (.int (nI v)), some (.int (nI w)), some (.int (nI k))], [.int (nI e), .int (nI k)])) rfl ?_
    refine an_cge rfl (by omega) (by omega) (fun h1 => ?_) (fun h1 => ?_)
    · refine aw_run 2 (F' := (69, [some (.ref m), some (.int (nI a)), some (.int (nI e)), some (.int (nI v)), some (.int (nI w)), some (.int (nI k))], [.int (nI a), .int (nI e)])) rfl ?_
      refine an_cle rfl (by omega) (by omega) (fun h2 => ?_) (fun h2 => ?_)
      · refine aw_run 1 (F' := (100, [some (.ref m), some (.int (nI a)), some (.int (nI e)), some (.int (nI v)), some (.int (nI w)), some (.int (nI k))], [.int (nI 0)])) rfl ?_
        exact aw_iret rfl ⟨_, rfl, rfl⟩ (g0 (fun z => by have z1 := (dec_iff.mp z).2.1; exact z1 (sub_nil h2)))
      · refine aw_run 2 (F' := (75, [some (.ref m), some (.int (nI a)), some (.int (nI e)), some (.int (nI v)), some (.int (nI w)), some (.int (nI k))], [.int (nI v), .int (nI w)])) rfl ?_
        refine an_cne rfl (by omega) (by omega) (fun h3 => ?_) (fun h3 => ?_)
        · refine aw_run 1 (F' := (100, [some (.ref m), some (.int (nI a)), some (.int (nI e)), some (.int (nI v)), some (.int (nI w)), some (.int (nI k))], [.int (nI 0)])) rfl ?_
          exact aw_iret rfl ⟨_, rfl, rfl⟩ (g0 (fun z => by have z1 := (dec_iff.mp z).2.2.2; have ek : k = e := (by omega); subst ek; exact h3 (hw.trans z1)))
        · refine aw_run 3 (F' := (81, [some (.ref m), some (.int (nI a)), some (.int (nI e)), some (.int (nI v)), some (.int (nI w)), some (.int (nI k))], [.int (nI e - nI a)])) rfl ?_
          rw [nI_sub (by omega)]
          refine aw_run 1 (F' := (82, [some (.ref m), some (.int (nI a)), some (.int (nI e)), some (.int (nI v)), some (.int (nI w)), some (.int (nI k))], [.int (nI 1), .int (nI (e - a))])) rfl ?_
          refine an_ceq rfl (by omega) (by omega) (fun h4 => ?_) (fun h4 => ?_)
          · refine aw_run 2 (F' := (100, [some (.ref m), some (.int (nI a)), some (.int (nI e)), some (.int (nI v)), some (.int (nI w)), some (.int (nI k))], [.int (nI 1)])) rfl ?_
            exact aw_iret rfl ⟨_, rfl, rfl⟩ (g1 (by have ek : k = e := (by omega); subst ek; exact dec_iff.mpr ⟨hd, fun z => by have := congrArg List.length z; rw [sp_sub_len] at this; simp at this; omega, Or.inl (by rw [sp_sub_len]; exact h4), hw.symm.trans h3⟩))
          · refine aw_run 2 (F' := (87, [some (.ref m), some (.int (nI a)), some (.int (nI e)), some (.int (nI v)), some (.int (nI w)), some (.int (nI k))], [.int (nI a), .ref m])) rfl ?_
            refine aw_v [.ref m, .int (nI a)] [] rfl (by decide) rfl hM.o rfl rfl (Nat.le_of_ble_eq_true rfl) (Nat.le_of_ble_eq_true rfl) ?_
            have hB1 := hM.by (i := a) (by omega)
            refine m_at hM (by omega) ?_
            show AW g _ 71 (90, [some (.ref m), some (.int (nI a)), some (.int (nI e)), some (.int (nI v)), some (.int (nI w)), some (.int (nI k))], [.int (nI (μ 1 a))]) σ _
            refine aw_run 1 (F' := (92, [some (.ref m), some (.int (nI a)), some (.int (nI e)), some (.int (nI v)), some (.int (nI w)), some (.int (nI k))], [.int (nI 48), .int (nI (μ 1 a))])) rfl ?_
            refine an_ceq rfl (by omega) (by omega) (fun h5 => ?_) (fun h5 => ?_)
            · refine aw_run 1 (F' := (100, [some (.ref m), some (.int (nI a)), some (.int (nI e)), some (.int (nI v)), some (.int (nI w)), some (.int (nI k))], [.int (nI 0)])) rfl ?_
              exact aw_iret rfl ⟨_, rfl, rfl⟩ (g0 (fun z => by rcases (dec_iff.mp z).2.2.1 with z1 | z1; exact h4 (by rw [sp_sub_len] at z1; exact z1); exact z1 (by rw [sub_one h2, h5]; rfl)))
            · refine aw_run 2 (F' := (100, [some (.ref m), some (.int (nI a)), some (.int (nI e)), some (.int (nI v)), some (.int (nI w)), some (.int (nI k))], [.int (nI 1)])) rfl ?_
              exact aw_iret rfl ⟨_, rfl, rfl⟩ (g1 (by have ek : k = e := (by omega); subst ek; exact dec_iff.mpr ⟨hd, fun z => by have := congrArg List.length z; rw [sp_sub_len] at this; simp at this; omega, Or.inr (by rw [sub_one h2]; intro z; exact h5 (Option.some.inj z)), hw.symm.trans h3⟩))
    · refine aw_run 2 (F' := (15, [some (.ref m), some (.int (nI a)), some (.int (nI e)), some (.int (nI v)), some (.int (nI w)), some (.int (nI k))], [.int (nI k), .ref m])) rfl ?_
      refine aw_v [.ref m, .int (nI k)] [] rfl (by decide) rfl hM.o rfl rfl (Nat.le_of_ble_eq_true rfl) (Nat.le_of_ble_eq_true rfl) ?_
      have hB2 := hM.by (i := k) (by omega)
      refine m_at hM (by omega) ?_
      show AW g _ 71 (18, [some (.ref m), some (.int (nI a)), some (.int (nI e)), some (.int (nI v)), some (.int (nI w)), some (.int (nI k))], [.int (nI (μ 1 k))]) σ _
      refine aw_run 1 (F' := (20, [some (.ref m), some (.int (nI a)), some (.int (nI e)), some (.int (nI v)), some (.int (nI w)), some (.int (nI k))], [.int (nI 48), .int (nI (μ 1 k))])) rfl ?_
      refine an_clt rfl (by omega) (by omega) (fun h6 => ?_) (fun h6 => ?_)
      · refine aw_run 1 (F' := (43, [some (.ref m), some (.int (nI a)), some (.int (nI e)), some (.int (nI v)), some (.int (nI w)), some (.int (nI k))], [.int (nI 0)])) rfl ?_
        exact aw_iret rfl ⟨_, rfl, rfl⟩ (g0 (fun z => by have z1 := (dec_iff.mp z).1 _ (sub_mem hak h1); omega))
      · refine aw_run 2 (F' := (26, [some (.ref m), some (.int (nI a)), some (.int (nI e)), some (.int (nI v)), some (.int (nI w)), some (.int (nI k))], [.int (nI k), .ref m])) rfl ?_
        refine aw_v [.ref m, .int (nI k)] [] rfl (by decide) rfl hM.o rfl rfl (Nat.le_of_ble_eq_true rfl) (Nat.le_of_ble_eq_true rfl) ?_
        have hB3 := hM.by (i := k) (by omega)
        refine m_at hM (by omega) ?_
        show AW g _ 71 (29, [some (.ref m), some (.int (nI a)), some (.int (nI e)), some (.int (nI v)), some (.int (nI w)), some (.int (nI k))], [.int (nI (μ 1 k))]) σ _
        refine aw_run 1 (F' := (31, [some (.ref m), some (.int (nI a)), some (.int (nI e)), some (.int (nI v)), some (.int (nI w)), some (.int (nI k))], [.int (nI 57), .int (nI (μ 1 k))])) rfl ?_
        refine an_cgt rfl (by omega) (by omega) (fun h7 => ?_) (fun h7 => ?_)
        · refine aw_run 1 (F' := (43, [some (.ref m), some (.int (nI a)), some (.int (nI e)), some (.int (nI v)), some (.int (nI w)), some (.int (nI k))], [.int (nI 0)])) rfl ?_
          exact aw_iret rfl ⟨_, rfl, rfl⟩ (g0 (fun z => by have z1 := (dec_iff.mp z).1 _ (sub_mem hak h1); omega))
        · refine aw_run 2 (F' := (39, [some (.ref m), some (.int (nI a)), some (.int (nI e)), some (.int (nI v)), some (.int (nI w)), some (.int (nI k))], [.int (nI 1000), .int (nI w)])) rfl ?_
          refine an_cle rfl (by omega) (by omega) (fun h8 => ?_) (fun h8 => ?_)
          · refine aw_run 3 (F' := (49, [some (.ref m), some (.int (nI a)), some (.int (nI e)), some (.int (nI v)), some (.int (nI w)), some (.int (nI k))], [.int (nI 10 * nI w)])) rfl ?_
            rw [nI_mul]
            refine aw_run 2 (F' := (52, [some (.ref m), some (.int (nI a)), some (.int (nI e)), some (.int (nI v)), some (.int (nI w)), some (.int (nI k))], [.int (nI k), .ref m, .int (nI (10 * w))])) rfl ?_
            refine aw_v [.ref m, .int (nI k)] [.int (nI (10 * w))] rfl (by decide) rfl hM.o rfl rfl (Nat.le_of_ble_eq_true rfl) (Nat.le_of_ble_eq_true rfl) ?_
            have hB4 := hM.by (i := k) (by omega)
            refine m_at hM (by omega) ?_
            show AW g _ 71 (55, [some (.ref m), some (.int (nI a)), some (.int (nI e)), some (.int (nI v)), some (.int (nI w)), some (.int (nI k))], [.int (nI (μ 1 k)), .int (nI (10 * w))]) σ _
            refine aw_run 1 (F' := (56, [some (.ref m), some (.int (nI a)), some (.int (nI e)), some (.int (nI v)), some (.int (nI w)), some (.int (nI k))], [.int (nI (10 * w) + nI (μ 1 k))])) rfl ?_
            rw [nI_add]
            refine aw_run 2 (F' := (59, [some (.ref m), some (.int (nI a)), some (.int (nI e)), some (.int (nI v)), some (.int (nI w)), some (.int (nI k))], [.int (nI ((10 * w) + (μ 1 k)) - nI 48)])) rfl ?_
            rw [nI_sub (by omega)]
            refine aw_run 2 (F' := (64, [some (.ref m), some (.int (nI a)), some (.int (nI e)), some (.int (nI v)), some (.int (nI (((10 * w) + (μ 1 k)) - 48))), some (.int (nI k + nI 1))], [])) rfl ?_
            rw [nI_add]
            refine aw_run 1 (F' := (6, [some (.ref m), some (.int (nI a)), some (.int (nI e)), some (.int (nI v)), some (.int (nI (((10 * w) + (μ 1 k)) - 48))), some (.int (nI (k + 1)))], [])) rfl ?_
            refine ih (k + 1) _ (by omega) (by omega) (by omega) ?_ (by omega) ?_
            · rw [sub_app hak (by omega : k ≤ k + 1), dgv_app, ← hw, sub_one (by omega : k < k + 1), sub_nil (Nat.le_refl _), dgv_c, dgv_n]
              unfold dg1
              rfl
            · intro x hx
              rw [sub_app hak (by omega : k ≤ k + 1), sub_one (by omega : k < k + 1), sub_nil (Nat.le_refl _)] at hx
              rcases List.mem_append.mp hx with z | z
              · exact hd x z
              · have := List.mem_singleton.mp z
                omega
          · refine aw_run 1 (F' := (43, [some (.ref m), some (.int (nI a)), some (.int (nI e)), some (.int (nI v)), some (.int (nI w)), some (.int (nI k))], [.int (nI 0)])) rfl ?_
            exact aw_iret rfl ⟨_, rfl, rfl⟩ (g0 (fun z => by
                      have z1 := (dec_iff.mp z).2.2.2
                      have z0 := (dec_iff.mp z).1
                      rw [sub_app hak hke, dgv_app, ← hw, sub_one h1, dgv_c] at z1
                      have z2 := dgv_ge 48 (sp_sub (μ 1) (k + 1) e) (dg1 48 w (μ 1 k)) (fun x hx => (z0 x (by rw [sub_app hak hke, sub_one h1]; simp [hx])).1)
                      have z3 : 10 * w ≤ dg1 48 w (μ 1 k) := by unfold dg1; omega
                      omega))
theorem m_num (hM : MS g m σ0 σ μ) {a e v : Nat} (hae : a ≤ e) (he : e ≤ 14000) (hv : v ≤ 1000) (g1 : sp_sub (μ 1) a e = sp_dec v → Q (some (.int 1)) σ) (g0 : ¬ sp_sub (μ 1) a e = sp_dec v → Q (some (.int 0)) σ) : AW g (d + 1) 71 (0, [some (.ref m), some (.int (nI a)), some (.int (nI e)), some (.int (nI v)), none, none], []) σ Q := by
  refine aw_run 4 (F' := (6, [some (.ref m), some (.int (nI a)), some (.int (nI e)), some (.int (nI v)), some (.int (nI 0)), some (.int (nI a))], [])) rfl ?_
  exact m_numL hM hae he hv g1 g0 _ a 0 (Nat.lt_succ_self _) (Nat.le_refl _) hae (by rw [sub_nil (Nat.le_refl _), dgv_n]) (by omega) (fun x hx => by rw [sub_nil (Nat.le_refl _)] at hx; cases hx)
end P68
