/-! two names, byte by byte -/
theorem sub_ne {β β' : Nat → Nat} {a s b t k : Nat} (h1 : nmd β a s) (h2 : nmd β' b t) (ha : a + k ≤ s) (hb : b + k ≤ t) (h : ¬ β (a + k) = β' (b + k)) : ¬ sp_sub β a s = sp_sub β' b t := by
  intro q
  have hl := congrArg List.length q
  rw [sp_sub_len, sp_sub_len] at hl
  have h3 := h1.1
  have h4 := h2.1
  by_cases e : a + k = s
  · have e2 : b + k = t := by omega
    apply h
    rw [e, e2, h1.2.1, h2.2.1]
  · have g1 := sp_sub_get (β := β) (s := a) (e := s) (i := k) (by omega)
    have g2 := sp_sub_get (β := β') (s := b) (e := t) (i := k) (by omega)
    rw [q, g2] at g1
    exact h g1.symm
theorem sub_eq {β β' : Nat → Nat} {a s b t k : Nat} (h1 : nmd β a s) (h2 : nmd β' b t) (ha : a + k ≤ s) (hb : b + k ≤ t) (hp : ∀ i, i < k → β (a + i) = β' (b + i)) (h : β (a + k) = β' (b + k)) (h0 : β (a + k) = 0) : sp_sub β a s = sp_sub β' b t := by
  have e1 : a + k = s := by
    by_cases e : a + k = s
    · exact e
    · exact absurd h0 (h1.2.2 _ (by omega) (by omega))
  have e2 : b + k = t := by
    by_cases e : b + k = t
    · exact e
    · exact absurd (h.symm.trans h0) (h2.2.2 _ (by omega) (by omega))
  unfold sp_sub
  rw [show s - a = k by omega, show t - b = k by omega]
  apply List.map_congr_left
  intro i hi
  exact hp i (List.mem_range.mp hi)
theorem nmd.st {β : Nat → Nat} {a s k : Nat} (h : nmd β a s) (ha : a + k ≤ s) (h0 : ¬ β (a + k) = 0) : a + (k + 1) ≤ s := by
  by_cases e : a + k = s
  · rw [e] at h0
    exact absurd h.2.1 h0
  · omega
section P67
variable {g : Nat × Nat} {d : Nat} {σ0 σ : am_H} {Q : Option Value → am_H → Prop} {m : Nat} {μ : sp_M}
/-- isAlike -/
theorem m_alkL (hM : MS g m σ0 σ μ) {a b s t : Nat} (ha : nmd (μ 1) a s) (hb : nmd (μ 1) b t) (hs : s < 14000) (ht : t < 14000) (g1 : sp_sub (μ 1) a s = sp_sub (μ 1) b t → Q (some (.int 1)) σ) (g0 : ¬ sp_sub (μ 1) a s = sp_sub (μ 1) b t → Q (some (.int 0)) σ) : ∀ (n k : Nat), s - (a + k) < n → a + k ≤ s → b + k ≤ t → (∀ i, i < k → μ 1 (a + i) = μ 1 (b + i)) → AW g d 73 (2, [some (.ref m), some (.int (nI a)), some (.int (nI b)), some (.int (nI k))], []) σ Q := by
  intro n
  induction n with
  | zero => intro k hk; omega
  | succ n ih =>
    intro k hk h5 h6 hp
    refine aw_run 1 (F' := (3, [some (.ref m), some (.int (nI a)), some (.int (nI b)), some (.int (nI k))], [.ref m])) rfl ?_
    refine aw_get rfl hM.o rfl ?_
    refine aw_run 3 (F' := (9, [some (.ref m), some (.int (nI a)), some (.int (nI b)), some (.int (nI k))], [.int (nI a + nI k), .ref (m + 1)])) rfl ?_
    rw [nI_add]
    refine ms_bld hM rfl (k := 1) (n := 14000) (by decide) (by omega) ?_
    refine aw_run 1 (F' := (11, [some (.ref m), some (.int (nI a)), some (.int (nI b)), some (.int (nI k))], [.ref m, .int (sb_b (μ 1 (a + k)))])) rfl ?_
    refine aw_get rfl hM.o rfl ?_
    refine aw_run 3 (F' := (17, [some (.ref m), some (.int (nI a)), some (.int (nI b)), some (.int (nI k))], [.int (nI b + nI k), .ref (m + 1), .int (sb_b (μ 1 (a + k)))])) rfl ?_
    rw [nI_add]
    refine ms_bld hM rfl (k := 1) (n := 14000) (by decide) (by omega) ?_
    refine ab_cne rfl (hM.by (by omega)) (hM.by (by omega)) (fun h1 => ?_) (fun h1 => ?_)
    · refine aw_run 1 (F' := (39, [some (.ref m), some (.int (nI a)), some (.int (nI b)), some (.int (nI k))], [.ref m])) rfl ?_
      refine aw_get rfl hM.o rfl ?_
      refine aw_run 3 (F' := (45, [some (.ref m), some (.int (nI a)), some (.int (nI b)), some (.int (nI k))], [.int (nI a + nI k), .ref (m + 1)])) rfl ?_
      rw [nI_add]
      refine ms_bld hM rfl (k := 1) (n := 14000) (by decide) (by omega) ?_
      refine aw_run 1 (F' := (47, [some (.ref m), some (.int (nI a)), some (.int (nI b)), some (.int (nI k))], [.ref m, .int (sb_b (μ 1 (a + k)))])) rfl ?_
      refine aw_get rfl hM.o rfl ?_
      refine aw_run 3 (F' := (53, [some (.ref m), some (.int (nI a)), some (.int (nI b)), some (.int (nI k))], [.int (nI b + nI k), .ref (m + 1), .int (sb_b (μ 1 (a + k)))])) rfl ?_
      rw [nI_add]
      refine ms_bld hM rfl (k := 1) (n := 14000) (by decide) (by omega) ?_
      refine ab_cne rfl (hM.by (by omega)) (hM.by (by omega)) (fun h2 => ?_) (fun h2 => ?_)
      · refine aw_run 1 (F' := (62, [some (.ref m), some (.int (nI a)), some (.int (nI b)), some (.int (nI k))], [.int (nI 0)])) rfl ?_
        exact aw_iret rfl ⟨_, rfl, rfl⟩ (g0 (sub_ne ha hb h5 h6 (by assumption)))
      · exact absurd h2 h1
    · refine aw_run 1 (F' := (22, [some (.ref m), some (.int (nI a)), some (.int (nI b)), some (.int (nI k))], [.ref m])) rfl ?_
      refine aw_get rfl hM.o rfl ?_
      refine aw_run 3 (F' := (28, [some (.ref m), some (.int (nI a)), some (.int (nI b)), some (.int (nI k))], [.int (nI a + nI k), .ref (m + 1)])) rfl ?_
      rw [nI_add]
      refine ms_bld hM rfl (k := 1) (n := 14000) (by decide) (by omega) ?_
      refine ab_zeq rfl (hM.by (by omega)) (fun h3 => ?_) (fun h3 => ?_)
      · refine aw_run 1 (F' := (39, [some (.ref m), some (.int (nI a)), some (.int (nI b)), some (.int (nI k))], [.ref m])) rfl ?_
        refine aw_get rfl hM.o rfl ?_
        refine aw_run 3 (F' := (45, [some (.ref m), some (.int (nI a)), some (.int (nI b)), some (.int (nI k))], [.int (nI a + nI k), .ref (m + 1)])) rfl ?_
        rw [nI_add]
        refine ms_bld hM rfl (k := 1) (n := 14000) (by decide) (by omega) ?_
        refine aw_run 1 (F' := (47, [some (.ref m), some (.int (nI a)), some (.int (nI b)), some (.int (nI k))], [.ref m, .int (sb_b (μ 1 (a + k)))])) rfl ?_
        refine aw_get rfl hM.o rfl ?_
        refine aw_run 3 (F' := (53, [some (.ref m), some (.int (nI a)), some (.int (nI b)), some (.int (nI k))], [.int (nI b + nI k), .ref (m + 1), .int (sb_b (μ 1 (a + k)))])) rfl ?_
        rw [nI_add]
        refine ms_bld hM rfl (k := 1) (n := 14000) (by decide) (by omega) ?_
        refine ab_cne rfl (hM.by (by omega)) (hM.by (by omega)) (fun h4 => ?_) (fun h4 => ?_)
        · exact absurd h1 h4
        · refine aw_run 2 (F' := (62, [some (.ref m), some (.int (nI a)), some (.int (nI b)), some (.int (nI k))], [.int (nI 1)])) rfl ?_
          exact aw_iret rfl ⟨_, rfl, rfl⟩ (g1 (sub_eq ha hb h5 h6 hp (by assumption) (by assumption)))
      · refine aw_run 1 (F' := (35, [some (.ref m), some (.int (nI a)), some (.int (nI b)), some (.int (nI k + nI 1))], [])) rfl ?_
        rw [nI_add]
        refine aw_run 1 (F' := (2, [some (.ref m), some (.int (nI a)), some (.int (nI b)), some (.int (nI (k + 1)))], [])) rfl ?_
        refine ih (k + 1) ?_ (ha.st h5 h3) (hb.st h6 (fun z => h3 (h1.trans z))) (fun i hi => ?_)
        · have := ha.st h5 h3
          omega
        · by_cases e : i = k
          · rw [e]; exact h1
          · exact hp i (by omega)
theorem m_alk (hM : MS g m σ0 σ μ) {a b s t : Nat} (ha : nmd (μ 1) a s) (hb : nmd (μ 1) b t) (hs : s < 14000) (ht : t < 14000) (h1 : sp_sub (μ 1) a s = sp_sub (μ 1) b t → Q (some (.int 1)) σ) (h0 : ¬ sp_sub (μ 1) a s = sp_sub (μ 1) b t → Q (some (.int 0)) σ) : AW g d 73 (0, [some (.ref m), some (.int (nI a)), some (.int (nI b)), none], []) σ Q := by
  refine aw_run 2 (F' := (2, [some (.ref m), some (.int (nI a)), some (.int (nI b)), some (.int (nI 0))], [])) rfl ?_
  exact m_alkL hM ha hb hs ht h1 h0 _ 0 (Nat.lt_succ_self _) ha.1 hb.1 (fun i hi => by omega)
/-- isThere -/
theorem m_thrL (hM : MS g m σ0 σ μ) {a s p e : Nat} {row : Bool} (ha : nmd (μ 1) a s) (hs : s < 14000) (he : e ≤ 14000) (g1 : (0 : Nat) = 0) : ∀ (F : sp_F) (i k : Nat), lyF (μ 1) F row i k e → (sp_fnd (sp_sub (μ 1) a s) F = none → Q (some (.int 0)) σ) → (¬ sp_fnd (sp_sub (μ 1) a s) F = none → Q (some (.int 1)) σ) → AW g (d + 3) 72 (3, [some (.ref m), some (.int (nI a)), some (.int (nI p)), some (.int (nI e)), some (.int (nI k))], []) σ Q := by
  intro F
  induction F with
  | leaf =>
    intro i k hl h0 h1'
    have hl' : k = e := hl
    subst hl'
    refine aw_run 2 (F' := (6, [some (.ref m), some (.int (nI a)), some (.int (nI p)), some (.int (nI k)), some (.int (nI k))], [.int (nI k), .int (nI k)])) rfl ?_
    refine an_cge rfl (by omega) (by omega) (fun h1 => ?_) (fun h1 => ?_)
    · refine aw_run 1 (F' := (50, [some (.ref m), some (.int (nI a)), some (.int (nI p)), some (.int (nI k)), some (.int (nI k))], [.int (nI 0)])) rfl ?_
      exact aw_iret rfl ⟨_, rfl, rfl⟩ (h0 rfl)
    · omega
  | inner sz b u c r ih1 ih2 =>
    intro i k hl h0 h1'
    obtain ⟨s', q, z1, z2, z3, z4, z5, z6, z7, z8⟩ := hl
    have y1 := z1.1
    have y2 := z6.le
    have y3 := z6.bh
    have y4 : b.1 = 2 ∨ b.1 = 3 ∨ b.1 = 4 → s' + 1 + 3 < 14000 := by
      unfold ly1 at z6
      omega
    refine aw_run 2 (F' := (6, [some (.ref m), some (.int (nI a)), some (.int (nI p)), some (.int (nI e)), some (.int (nI k))], [.int (nI e), .int (nI k)])) rfl ?_
    refine an_cge rfl (by omega) (by omega) (fun h1 => ?_) (fun h1 => ?_)
    · omega
    · refine aw_run 5 (F' := (15, [some (.ref m), some (.int (nI a)), some (.int (nI p)), some (.int (nI e)), some (.int (nI k))], [.int (nI k + nI 1), .int (nI a), .ref m])) rfl ?_
      rw [nI_add]
      refine aw_v [.ref m, .int (nI a), .int (nI (k + 1))] [] rfl (by decide) rfl hM.o rfl rfl (Nat.le_of_ble_eq_true rfl) (Nat.le_of_ble_eq_true rfl) ?_
      refine m_alk hM ha z1 hs (by omega) (fun y => ?_) (fun y => ?_)
      · skip
        show AW g _ 72 (18, [some (.ref m), some (.int (nI a)), some (.int (nI p)), some (.int (nI e)), some (.int (nI k))], [.int (nI 1)]) σ _
        refine an_zeq rfl (by omega) (fun h2 => ?_) (fun h2 => ?_)
        · omega
        · refine aw_run 1 (F' := (22, [some (.ref m), some (.int (nI a)), some (.int (nI p)), some (.int (nI e)), some (.int (nI k))], [.int (nI 1)])) rfl ?_
          exact aw_iret rfl ⟨_, rfl, rfl⟩ (h1' (fun z => by have z' : (if b.2.1 = sp_sub (μ 1) a s then some (b, c) else sp_fnd (sp_sub (μ 1) a s) r) = none := z; rw [if_pos (z4.trans y.symm)] at z'; cases z'))
      · skip
        show AW g _ 72 (18, [some (.ref m), some (.int (nI a)), some (.int (nI p)), some (.int (nI e)), some (.int (nI k))], [.int (nI 0)]) σ _
        refine an_zeq rfl (by omega) (fun h3 => ?_) (fun h3 => ?_)
        · refine aw_run 3 (F' := (27, [some (.ref m), some (.int (nI a)), some (.int (nI p)), some (.int (nI e)), some (.int (nI k))], [.int (nI k), .ref m, .ref m])) rfl ?_
          refine aw_v [.ref m, .int (nI k)] [.ref m] rfl (by decide) rfl hM.o rfl rfl (Nat.le_of_ble_eq_true rfl) (Nat.le_of_ble_eq_true rfl) ?_
          have hB1 := hM.by (i := k) (by omega)
          refine m_at hM (by omega) ?_
          show AW g _ 72 (30, [some (.ref m), some (.int (nI a)), some (.int (nI p)), some (.int (nI e)), some (.int (nI k))], [.int (nI (μ 1 k)), .ref m]) σ _
          refine aw_run 4 (F' := (35, [some (.ref m), some (.int (nI a)), some (.int (nI p)), some (.int (nI e)), some (.int (nI k))], [.int (nI k + nI 1), .ref m, .int (nI (μ 1 k)), .ref m])) rfl ?_
          rw [nI_add]
          refine aw_run 1 (F' := (36, [some (.ref m), some (.int (nI a)), some (.int (nI p)), some (.int (nI e)), some (.int (nI k))], [.int (nI e), .int (nI (k + 1)), .ref m, .int (nI (μ 1 k)), .ref m])) rfl ?_
          refine aw_v [.ref m, .int (nI (k + 1)), .int (nI e)] [.int (nI (μ 1 k)), .ref m] rfl (by decide) rfl hM.o rfl rfl (Nat.le_of_ble_eq_true rfl) (Nat.le_of_ble_eq_true rfl) ?_
          refine m_nes hM he z1 z2 ?_
          show AW g _ 72 (39, [some (.ref m), some (.int (nI a)), some (.int (nI p)), some (.int (nI e)), some (.int (nI k))], [.int (nI s'), .int (nI (μ 1 k)), .ref m]) σ _
          refine aw_run 2 (F' := (41, [some (.ref m), some (.int (nI a)), some (.int (nI p)), some (.int (nI e)), some (.int (nI k))], [.int (nI s' + nI 1), .int (nI (μ 1 k)), .ref m])) rfl ?_
          rw [nI_add]
          refine aw_v [.ref m, .int (nI (μ 1 k)), .int (nI (s' + 1))] [] rfl (by decide) rfl hM.o rfl rfl (Nat.le_of_ble_eq_true rfl) (Nat.le_of_ble_eq_true rfl) ?_
          refine m_bhd hM (by have := hM.by (i := k) (by omega); omega) (by rw [z3]; exact y4) ?_
          rw [z3, y3]
          show AW g _ 72 (44, [some (.ref m), some (.int (nI a)), some (.int (nI p)), some (.int (nI e)), some (.int (nI k))], [.int (nI q)]) σ _
          refine aw_run 2 (F' := (3, [some (.ref m), some (.int (nI a)), some (.int (nI p)), some (.int (nI e)), some (.int (nI q))], [])) rfl ?_
          have ef : sp_fnd (sp_sub (μ 1) a s) (.inner sz b u c r) = sp_fnd (sp_sub (μ 1) a s) r := if_neg (fun z => y (z.symm.trans z4))
          refine ih2 (i + 1) q z8 (fun z => h0 (ef.trans z)) (fun z => h1' (fun z2 => z (ef.symm.trans z2)))
        · exact absurd rfl h3
theorem m_thr (hM : MS g m σ0 σ μ) {a s p e i : Nat} {row : Bool} {F : sp_F} (ha : nmd (μ 1) a s) (hs : s < 14000) (he : e ≤ 14000) (hl : lyF (μ 1) F row i p e) (h0 : sp_fnd (sp_sub (μ 1) a s) F = none → Q (some (.int 0)) σ) (h1 : ¬ sp_fnd (sp_sub (μ 1) a s) F = none → Q (some (.int 1)) σ) : AW g (d + 3) 72 (0, [some (.ref m), some (.int (nI a)), some (.int (nI p)), some (.int (nI e)), none], []) σ Q := by
  refine aw_run 2 (F' := (3, [some (.ref m), some (.int (nI a)), some (.int (nI p)), some (.int (nI e)), some (.int (nI p))], [])) rfl ?_
  exact m_thrL hM ha hs he rfl F i p hl h0 h1
end P67
