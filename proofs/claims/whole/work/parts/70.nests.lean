def ag (ks : List Nat) (μ μ' : sp_M) : Prop := ∀ k, k ∉ ks → μ' k = μ k
theorem ag.rf {ks : List Nat} {μ : sp_M} : ag ks μ μ := fun _ _ => rfl
theorem ag.tr {ks : List Nat} {μ μ' μ'' : sp_M} (h : ag ks μ μ') (h' : ag ks μ' μ'') : ag ks μ μ'' := fun k hk => (h' k hk).trans (h k hk)
theorem ag.up {ks : List Nat} {μ μ' : sp_M} (h : ag ks μ μ') {k i v : Nat} (hk : k ∈ ks) : ag ks μ (mup μ' k i v) := fun k' hk' => (mup_k μ' (k := k) (k' := k') i v (fun z => hk' (by rw [z]; exact hk))).trans (h k' hk')
theorem ag.mono {ks ks' : List Nat} {μ μ' : sp_M} (h : ag ks μ μ') (hs : ∀ k ∈ ks, k ∈ ks') : ag ks' μ μ' := fun k hk => h k (fun z => hk (hs k z))
/-- a nest is begun -/
def mop (μ : sp_M) (k u r : Nat) : sp_M := mup (mup (mup (mup (mup (mup μ 18 (μ 17 0) (k + 4)) 20 (μ 17 0) (k + 4)) 19 (μ 17 0) (k + u - 1)) 22 (μ 17 0) r) 23 (μ 17 0) 0) 17 0 (μ 17 0 + 1)
theorem MS.le4 {g : Nat × Nat} {σ0 σ : am_H} {m : Nat} {μ : sp_M} (hM : MS g m σ0 σ μ) {k : Nat} (hk : k + 3 < 14000) : sp_le (μ 1) k 4 < 2 ^ 32 := sp_le_lt (w := 4) (fun i hi => hM.by (by omega))
section P70
variable {g : Nat × Nat} {d y pc : Nat} {L : am_L} {st : List Value} {σ0 σ : am_H} {Q : Option Value → am_H → Prop} {m : Nat} {μ : sp_M}
theorem an_cltU {a b t b1 : Nat} {o : Int} {v : Value} (hr : am_find (am_code y) pc = some (.if_icmp .lt o, 3, v, t, b1)) (ha : a < 2 ^ 32) (hb : b < 2 ^ 31) (h1 : a < b ∨ 2 ^ 31 ≤ a → AW g d y (t, L, st) σ Q) (h2 : b ≤ a ∧ a < 2 ^ 31 → AW g d y (pc + 3, L, st) σ Q) : AW g d y (pc, L, .int (nI b) :: .int (nI a) :: st) σ Q := by
  by_cases q : a < 2 ^ 31
  · exact an_clt hr q hb (fun z => h1 (Or.inl z)) (fun z => h2 ⟨z, q⟩)
  · refine aw_clt hr (fun _ => h1 (Or.inr (by omega))) (fun z => absurd ?_ z)
    have z1 := nI_neg (u := a) (by omega) ha
    have z2 := nI_pos hb
    rw [Int32.lt_iff_toInt_lt] at *
    omega
theorem an_cneU {a b t b1 : Nat} {o : Int} {v : Value} (hr : am_find (am_code y) pc = some (.if_icmp .ne o, 3, v, t, b1)) (ha : a < 2 ^ 32) (hb : b < 2 ^ 31) (h1 : ¬ a = b → AW g d y (t, L, st) σ Q) (h2 : a = b → AW g d y (pc + 3, L, st) σ Q) : AW g d y (pc, L, .int (nI b) :: .int (nI a) :: st) σ Q := by
  by_cases q : a < 2 ^ 31
  · exact an_cne hr q hb h1 h2
  · refine aw_cne hr (fun _ => h1 (by omega)) (fun z => absurd ?_ z)
    intro z1
    have z2 := nI_neg (u := a) (by omega) ha
    rw [z1] at z2
    exact nI_pos hb z2
end P70
section P70b
variable {g : Nat × Nat} {d : Nat} {σ0 σ : am_H} {Q : Option Value → am_H → Prop} {m : Nat} {μ : sp_M}
/-- isTextValue -/
theorem m_tvl (hM : MS g m σ0 σ μ) {k e : Nat} (hke : k ≤ e) (he : e ≤ 14000) (g1 : sp_txc (μ 1) k e → Q (some (.int 1)) σ) (g0 : ¬ sp_txc (μ 1) k e → Q (some (.int 0)) σ) : AW g (d + 3) 75 (0, [some (.ref m), some (.int (nI k)), some (.int (nI e)), none], []) σ Q := by
  refine aw_run 3 (F' := (3, [some (.ref m), some (.int (nI k)), some (.int (nI e)), none], [.int (nI e - nI k)])) rfl ?_
  rw [nI_sub (by omega)]
  refine aw_run 1 (F' := (4, [some (.ref m), some (.int (nI k)), some (.int (nI e)), none], [.int (nI 5), .int (nI (e - k))])) rfl ?_
  refine an_cge rfl (by omega) (by omega) (fun h1 => ?_) (fun h1 => ?_)
  · refine aw_run 2 (F' := (11, [some (.ref m), some (.int (nI k)), some (.int (nI e)), none], [.int (nI k), .ref m])) rfl ?_
    refine aw_v [.ref m, .int (nI k)] [] rfl (by decide) rfl hM.o rfl rfl (Nat.le_of_ble_eq_true rfl) (Nat.le_of_ble_eq_true rfl) ?_
    refine m_whole hM (by omega) ?_
    have hu := hM.le4 (k := k) (by omega)
    generalize hU : sp_le (μ 1) k 4 = u at hu ⊢
    show AW g _ 75 (14, [some (.ref m), some (.int (nI k)), some (.int (nI e)), none], [.int (nI u)]) σ _
    refine aw_run 3 (F' := (17, [some (.ref m), some (.int (nI k)), some (.int (nI e)), some (.int (nI u))], [.int (nI 1), .int (nI u)])) rfl ?_
    refine an_cltU rfl hu (by omega) (fun h2 => ?_) (fun h2 => ?_)
    · refine aw_run 1 (F' := (62, [some (.ref m), some (.int (nI k)), some (.int (nI e)), some (.int (nI u))], [.int (nI 0)])) rfl ?_
      exact aw_iret rfl ⟨_, rfl, rfl⟩ (g0 (fun z => by unfold sp_txc at z; rw [hU] at z; omega))
    · refine aw_run 4 (F' := (24, [some (.ref m), some (.int (nI k)), some (.int (nI e)), some (.int (nI u))], [.int (nI e - nI k), .int (nI u)])) rfl ?_
      rw [nI_sub (by omega)]
      refine aw_run 2 (F' := (26, [some (.ref m), some (.int (nI k)), some (.int (nI e)), some (.int (nI u))], [.int (nI (e - k) - nI 4), .int (nI u)])) rfl ?_
      rw [nI_sub (by omega)]
      refine an_cgt rfl (by omega) (by omega) (fun h3 => ?_) (fun h3 => ?_)
      · refine aw_run 1 (F' := (62, [some (.ref m), some (.int (nI k)), some (.int (nI e)), some (.int (nI u))], [.int (nI 0)])) rfl ?_
        exact aw_iret rfl ⟨_, rfl, rfl⟩ (g0 (fun z => by unfold sp_txc at z; rw [hU] at z; omega))
      · refine aw_run 1 (F' := (30, [some (.ref m), some (.int (nI k)), some (.int (nI e)), some (.int (nI u))], [.ref m])) rfl ?_
        refine aw_get rfl hM.o rfl ?_
        refine aw_run 3 (F' := (36, [some (.ref m), some (.int (nI k)), some (.int (nI e)), some (.int (nI u))], [.int (nI k + nI 3), .ref (m + 1)])) rfl ?_
        rw [nI_add]
        refine aw_run 2 (F' := (38, [some (.ref m), some (.int (nI k)), some (.int (nI e)), some (.int (nI u))], [.int (nI (k + 3) + nI u), .ref (m + 1)])) rfl ?_
        rw [nI_add]
        refine ms_bld hM rfl (k := 1) (n := 14000) (by decide) (by omega) ?_
        refine ab_zne rfl (hM.by (by omega)) (fun h4 => ?_) (fun h4 => ?_)
        · refine aw_run 1 (F' := (62, [some (.ref m), some (.int (nI k)), some (.int (nI e)), some (.int (nI u))], [.int (nI 0)])) rfl ?_
          exact aw_iret rfl ⟨_, rfl, rfl⟩ (g0 (fun z => by unfold sp_txc at z; rw [hU] at z; exact absurd z.2.2.2.2 (by assumption)))
        · refine aw_run 4 (F' := (46, [some (.ref m), some (.int (nI k)), some (.int (nI e)), some (.int (nI u))], [.int (nI k + nI 4), .ref m])) rfl ?_
          rw [nI_add]
          refine aw_run 3 (F' := (49, [some (.ref m), some (.int (nI k)), some (.int (nI e)), some (.int (nI u))], [.int (nI k + nI 3), .int (nI (k + 4)), .ref m])) rfl ?_
          rw [nI_add]
          refine aw_run 2 (F' := (51, [some (.ref m), some (.int (nI k)), some (.int (nI e)), some (.int (nI u))], [.int (nI (k + 3) + nI u), .int (nI (k + 4)), .ref m])) rfl ?_
          rw [nI_add]
          refine aw_v [.ref m, .int (nI (k + 4)), .int (nI ((k + 3) + u))] [] rfl (by decide) rfl hM.o rfl rfl (Nat.le_of_ble_eq_true rfl) (Nat.le_of_ble_eq_true rfl) ?_
          refine m_txt hM (by omega) (by omega) ?_
          by_cases ht : sp_tx (μ 1) (k + 3 + u - (k + 4)) (k + 4) (k + 3 + u) = true
          · rw [if_pos ht]
            show AW g _ 75 (54, [some (.ref m), some (.int (nI k)), some (.int (nI e)), some (.int (nI u))], [.int (nI 1)]) σ _
            refine an_zeq rfl (by omega) (fun z => absurd z (by omega)) (fun _ => ?_)
            refine aw_run 2 (F' := (62, [some (.ref m), some (.int (nI k)), some (.int (nI e)), some (.int (nI u))], [.int (nI 1)])) rfl ?_
            exact aw_iret rfl ⟨_, rfl, rfl⟩ (g1 (by unfold sp_txc; rw [hU]; exact ⟨by omega, by omega, by omega, by rw [show u - 1 = k + 3 + u - (k + 4) by omega]; exact ht, by assumption⟩))
          · rw [if_neg ht]
            show AW g _ 75 (54, [some (.ref m), some (.int (nI k)), some (.int (nI e)), some (.int (nI u))], [.int (nI 0)]) σ _
            refine an_zeq rfl (by omega) (fun _ => ?_) (fun z => absurd z (by omega))
            refine aw_run 1 (F' := (62, [some (.ref m), some (.int (nI k)), some (.int (nI e)), some (.int (nI u))], [.int (nI 0)])) rfl ?_
            exact aw_iret rfl ⟨_, rfl, rfl⟩ (g0 (fun z => by unfold sp_txc at z; rw [hU] at z; have z4 := z.2.2.2.1; rw [show u - 1 = k + 3 + u - (k + 4) by omega] at z4; exact ht z4))
  · refine aw_run 1 (F' := (8, [some (.ref m), some (.int (nI k)), some (.int (nI e)), none], [.int (nI 0)])) rfl ?_
    exact aw_iret rfl ⟨_, rfl, rfl⟩ (g0 (fun z => by unfold sp_txc at z; omega))
/-- opens -/
theorem m_opn (hM : MS g m σ0 σ μ) {k e r : Nat} (hke : k ≤ e) (he : e ≤ 14000) (hr : r ≤ 1) (hO : μ 17 0 ≤ 16) (g1 : μ 17 0 < 16 → 5 ≤ sp_le (μ 1) k 4 → k + sp_le (μ 1) k 4 ≤ e → μ 1 (k + sp_le (μ 1) k 4 - 1) = 0 → ∀ σ', MS g m σ0 σ' (mop μ k (sp_le (μ 1) k 4) r) → Q (some (.int 1)) σ') (g0 : ¬ (μ 17 0 < 16 ∧ 5 ≤ sp_le (μ 1) k 4 ∧ k + sp_le (μ 1) k 4 ≤ e ∧ μ 1 (k + sp_le (μ 1) k 4 - 1) = 0) → Q (some (.int 0)) σ) : AW g (d + 2) 66 (0, [some (.ref m), some (.int (nI k)), some (.int (nI e)), some (.int (nI r)), none], []) σ Q := by
  refine aw_run 3 (F' := (3, [some (.ref m), some (.int (nI k)), some (.int (nI e)), some (.int (nI r)), none], [.int (nI e - nI k)])) rfl ?_
  rw [nI_sub (by omega)]
  refine aw_run 1 (F' := (4, [some (.ref m), some (.int (nI k)), some (.int (nI e)), some (.int (nI r)), none], [.int (nI 4), .int (nI (e - k))])) rfl ?_
  refine an_clt rfl (by omega) (by omega) (fun h1 => ?_) (fun h1 => ?_)
  · refine aw_run 1 (F' := (17, [some (.ref m), some (.int (nI k)), some (.int (nI e)), some (.int (nI r)), none], [.int (nI 0)])) rfl ?_
    exact aw_iret rfl ⟨_, rfl, rfl⟩ (g0 (fun z => by omega))
  · refine aw_run 1 (F' := (8, [some (.ref m), some (.int (nI k)), some (.int (nI e)), some (.int (nI r)), none], [.ref m])) rfl ?_
    refine aw_get rfl hM.o rfl ?_
    refine aw_run 1 (F' := (13, [some (.ref m), some (.int (nI k)), some (.int (nI e)), some (.int (nI r)), none], [.int (nI 16), .int (nI (μ 17 0))])) rfl ?_
    refine an_cne rfl (by omega) (by omega) (fun h2 => ?_) (fun h2 => ?_)
    · refine aw_run 2 (F' := (20, [some (.ref m), some (.int (nI k)), some (.int (nI e)), some (.int (nI r)), none], [.int (nI k), .ref m])) rfl ?_
      refine aw_v [.ref m, .int (nI k)] [] rfl (by decide) rfl hM.o rfl rfl (Nat.le_of_ble_eq_true rfl) (Nat.le_of_ble_eq_true rfl) ?_
      refine m_whole hM (by omega) ?_
      have hu := hM.le4 (k := k) (by omega)
      generalize hU : sp_le (μ 1) k 4 = u at hu g0 g1 ⊢
      show AW g _ 66 (23, [some (.ref m), some (.int (nI k)), some (.int (nI e)), some (.int (nI r)), none], [.int (nI u)]) σ _
      refine aw_run 3 (F' := (28, [some (.ref m), some (.int (nI k)), some (.int (nI e)), some (.int (nI r)), some (.int (nI u))], [.int (nI 5), .int (nI u)])) rfl ?_
      refine an_cltU rfl hu (by omega) (fun h3 => ?_) (fun h3 => ?_)
      · refine aw_run 1 (F' := (54, [some (.ref m), some (.int (nI k)), some (.int (nI e)), some (.int (nI r)), some (.int (nI u))], [.int (nI 0)])) rfl ?_
        exact aw_iret rfl ⟨_, rfl, rfl⟩ (g0 (fun z => by omega))
      · refine aw_run 4 (F' := (36, [some (.ref m), some (.int (nI k)), some (.int (nI e)), some (.int (nI r)), some (.int (nI u))], [.int (nI e - nI k), .int (nI u)])) rfl ?_
        rw [nI_sub (by omega)]
        refine an_cgt rfl (by omega) (by omega) (fun h4 => ?_) (fun h4 => ?_)
        · refine aw_run 1 (F' := (54, [some (.ref m), some (.int (nI k)), some (.int (nI e)), some (.int (nI r)), some (.int (nI u))], [.int (nI 0)])) rfl ?_
          exact aw_iret rfl ⟨_, rfl, rfl⟩ (g0 (fun z => by omega))
        · refine aw_run 1 (F' := (40, [some (.ref m), some (.int (nI k)), some (.int (nI e)), some (.int (nI r)), some (.int (nI u))], [.ref m])) rfl ?_
          refine aw_get rfl hM.o rfl ?_
          refine aw_run 3 (F' := (47, [some (.ref m), some (.int (nI k)), some (.int (nI e)), some (.int (nI r)), some (.int (nI u))], [.int (nI k + nI u), .ref (m + 1)])) rfl ?_
          rw [nI_add]
          refine aw_run 2 (F' := (49, [some (.ref m), some (.int (nI k)), some (.int (nI e)), some (.int (nI r)), some (.int (nI u))], [.int (nI (k + u) - nI 1), .ref (m + 1)])) rfl ?_
          rw [nI_sub (by omega)]
          refine ms_bld hM rfl (k := 1) (n := 14000) (by decide) (by omega) ?_
          refine ab_zeq rfl (hM.by (by omega)) (fun h5 => ?_) (fun h5 => ?_)
          · refine aw_run 1 (F' := (56, [some (.ref m), some (.int (nI k)), some (.int (nI e)), some (.int (nI r)), some (.int (nI u))], [.ref m])) rfl ?_
            refine aw_get rfl hM.o rfl ?_
            refine aw_run 1 (F' := (60, [some (.ref m), some (.int (nI k)), some (.int (nI e)), some (.int (nI r)), some (.int (nI u))], [.ref m, .ref (m + 13)])) rfl ?_
            refine aw_get rfl hM.o rfl ?_
            refine aw_run 3 (F' := (66, [some (.ref m), some (.int (nI k)), some (.int (nI e)), some (.int (nI r)), some (.int (nI u))], [.int (nI k + nI 4), .int (nI (μ 17 0)), .ref (m + 13)])) rfl ?_
            rw [nI_add]
            refine ms_ist hM rfl (k := 18) (n := 20) (by decide) (by omega) (fun s1 hM1 => ?_)
            refine aw_run 1 (F' := (68, [some (.ref m), some (.int (nI k)), some (.int (nI e)), some (.int (nI r)), some (.int (nI u))], [.ref m])) rfl ?_
            refine aw_get rfl hM1.o rfl ?_
            refine aw_run 1 (F' := (72, [some (.ref m), some (.int (nI k)), some (.int (nI e)), some (.int (nI r)), some (.int (nI u))], [.ref m, .ref (m + 15)])) rfl ?_
            refine aw_get rfl hM1.o rfl ?_
            refine aw_run 3 (F' := (78, [some (.ref m), some (.int (nI k)), some (.int (nI e)), some (.int (nI r)), some (.int (nI u))], [.int (nI k + nI 4), .int (nI (μ 17 0)), .ref (m + 15)])) rfl ?_
            rw [nI_add]
            refine ms_ist hM1 rfl (k := 20) (n := 20) (by decide) (by omega) (fun s2 hM2 => ?_)
            refine aw_run 1 (F' := (80, [some (.ref m), some (.int (nI k)), some (.int (nI e)), some (.int (nI r)), some (.int (nI u))], [.ref m])) rfl ?_
            refine aw_get rfl hM2.o rfl ?_
            refine aw_run 1 (F' := (84, [some (.ref m), some (.int (nI k)), some (.int (nI e)), some (.int (nI r)), some (.int (nI u))], [.ref m, .ref (m + 14)])) rfl ?_
            refine aw_get rfl hM2.o rfl ?_
            refine aw_run 3 (F' := (91, [some (.ref m), some (.int (nI k)), some (.int (nI e)), some (.int (nI r)), some (.int (nI u))], [.int (nI k + nI u), .int (nI (μ 17 0)), .ref (m + 14)])) rfl ?_
            rw [nI_add]
            refine aw_run 2 (F' := (93, [some (.ref m), some (.int (nI k)), some (.int (nI e)), some (.int (nI r)), some (.int (nI u))], [.int (nI (k + u) - nI 1), .int (nI (μ 17 0)), .ref (m + 14)])) rfl ?_
            rw [nI_sub (by omega)]
            refine ms_ist hM2 rfl (k := 19) (n := 20) (by decide) (by omega) (fun s3 hM3 => ?_)
            refine aw_run 1 (F' := (95, [some (.ref m), some (.int (nI k)), some (.int (nI e)), some (.int (nI r)), some (.int (nI u))], [.ref m])) rfl ?_
            refine aw_get rfl hM3.o rfl ?_
            refine aw_run 1 (F' := (99, [some (.ref m), some (.int (nI k)), some (.int (nI e)), some (.int (nI r)), some (.int (nI u))], [.ref m, .ref (m + 17)])) rfl ?_
            refine aw_get rfl hM3.o rfl ?_
            refine aw_run 1 (F' := (103, [some (.ref m), some (.int (nI k)), some (.int (nI e)), some (.int (nI r)), some (.int (nI u))], [.int (nI r), .int (nI (μ 17 0)), .ref (m + 17)])) rfl ?_
            refine ms_zst hM3 rfl (k := 22) (n := 20) (by decide) (by omega) (by omega) (fun s4 hM4 => ?_)
            refine aw_run 1 (F' := (105, [some (.ref m), some (.int (nI k)), some (.int (nI e)), some (.int (nI r)), some (.int (nI u))], [.ref m])) rfl ?_
            refine aw_get rfl hM4.o rfl ?_
            refine aw_run 1 (F' := (109, [some (.ref m), some (.int (nI k)), some (.int (nI e)), some (.int (nI r)), some (.int (nI u))], [.ref m, .ref (m + 18)])) rfl ?_
            refine aw_get rfl hM4.o rfl ?_
            refine aw_run 1 (F' := (113, [some (.ref m), some (.int (nI k)), some (.int (nI e)), some (.int (nI r)), some (.int (nI u))], [.int (nI 0), .int (nI (μ 17 0)), .ref (m + 18)])) rfl ?_
            refine ms_ist hM4 rfl (k := 23) (n := 20) (by decide) (by omega) (fun s5 hM5 => ?_)
            refine aw_run 2 (F' := (116, [some (.ref m), some (.int (nI k)), some (.int (nI e)), some (.int (nI r)), some (.int (nI u))], [.ref m, .ref m])) rfl ?_
            refine aw_get rfl hM5.o rfl ?_
            refine aw_run 2 (F' := (121, [some (.ref m), some (.int (nI k)), some (.int (nI e)), some (.int (nI r)), some (.int (nI u))], [.int (nI (μ 17 0) + nI 1), .ref m])) rfl ?_
            rw [nI_add]
            refine ms_put hM5 rfl (by decide) (fun s6 hM6 => ?_)
            refine aw_run 1 (F' := (125, [some (.ref m), some (.int (nI k)), some (.int (nI e)), some (.int (nI r)), some (.int (nI u))], [.int (nI 1)])) rfl ?_
            exact aw_iret rfl ⟨_, rfl, rfl⟩ (g1 (by omega) (by omega) (by omega) (by assumption) _ hM6)
          · refine aw_run 1 (F' := (54, [some (.ref m), some (.int (nI k)), some (.int (nI e)), some (.int (nI r)), some (.int (nI u))], [.int (nI 0)])) rfl ?_
            exact aw_iret rfl ⟨_, rfl, rfl⟩ (g0 (fun z => absurd z.2.2.2 (by assumption)))
    · refine aw_run 1 (F' := (17, [some (.ref m), some (.int (nI k)), some (.int (nI e)), some (.int (nI r)), none], [.int (nI 0)])) rfl ?_
      exact aw_iret rfl ⟨_, rfl, rfl⟩ (g0 (fun z => by omega))
end P70b
