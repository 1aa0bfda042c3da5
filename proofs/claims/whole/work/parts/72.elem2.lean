section E72
variable {G : Nat → Bool → Nat → Nat → Option (sp_F × Nat)} {E : Nat → Bool → Nat → Nat → List sp_V → Option (List sp_V)} {β : Nat → Nat} {dep p e s : Nat}
theorem el_16 (hpe : p < e) (hs : sp_nm β (p + 1) e = some s) (hk : β p = 16) : sp_el G β dep p e = if s + 5 ≤ e then some (((16, sp_sub β (p + 1) s, sp_s32 (sp_le β (s + 1) 4), []), .leaf), s + 5) else none := by
  unfold sp_el
  rw [if_neg (by omega), hs]
  simp only []
  rw [if_pos hk]
theorem el_18 (hpe : p < e) (hs : sp_nm β (p + 1) e = some s) (hk : β p = 18) : sp_el G β dep p e = if s + 9 ≤ e then some (((18, sp_sub β (p + 1) s, sp_s64 (sp_le β (s + 1) 8), []), .leaf), s + 9) else none := by
  unfold sp_el
  rw [if_neg (by omega), hs]
  simp only []
  rw [if_neg (by omega), if_pos hk]
theorem el_8 (hpe : p < e) (hs : sp_nm β (p + 1) e = some s) (hk : β p = 8) : sp_el G β dep p e = if s + 2 ≤ e ∧ β (s + 1) ≤ 1 then some (((8, sp_sub β (p + 1) s, (β (s + 1) : Int), []), .leaf), s + 2) else none := by
  unfold sp_el
  rw [if_neg (by omega), hs]
  simp only []
  rw [if_neg (by omega), if_neg (by omega), if_pos hk]
theorem el_10 (hpe : p < e) (hs : sp_nm β (p + 1) e = some s) (hk : β p = 10) : sp_el G β dep p e = some (((10, sp_sub β (p + 1) s, 0, []), .leaf), s + 1) := by
  unfold sp_el
  rw [if_neg (by omega), hs]
  simp only []
  rw [if_neg (by omega), if_neg (by omega), if_neg (by omega), if_pos hk]
theorem el_2 (hpe : p < e) (hs : sp_nm β (p + 1) e = some s) (hk : β p = 2) : sp_el G β dep p e = if sp_txc β (s + 1) e then some (((2, sp_sub β (p + 1) s, 0, sp_sub β (s + 1 + 4) (s + 1 + 3 + sp_le β (s + 1) 4)), .leaf), s + 1 + 4 + sp_le β (s + 1) 4) else none := by
  unfold sp_el
  rw [if_neg (by omega), hs]
  simp only []
  rw [if_neg (by omega), if_neg (by omega), if_neg (by omega), if_neg (by omega), if_pos hk]
theorem el_x (hpe : p < e) (hs : sp_nm β (p + 1) e = some s) (h1 : ¬ β p = 16) (h2 : ¬ β p = 18) (h3 : ¬ β p = 8) (h4 : ¬ β p = 10) (h5 : ¬ β p = 2) (h6 : ¬ β p = 3) (h7 : ¬ β p = 4) : sp_el G β dep p e = none := by
  unfold sp_el
  rw [if_neg (by omega), hs]
  simp only []
  rw [if_neg (by omega), if_neg (by omega), if_neg (by omega), if_neg (by omega), if_neg (by omega), if_neg (by omega), if_neg (by omega)]
theorem el_n (row : Bool) (hpe : p < e) (hs : sp_nm β (p + 1) e = some s) (hk : β p = (if row = true then 4 else 3)) : sp_el G β dep p e = match G (dep + 1) row (s + 1) e with
      | none => none
      | some (c, q) => some (((if row = true then 4 else 3, sp_sub β (p + 1) s, 0, []), c), q) := by
  unfold sp_el
  rw [if_neg (by omega), hs]
  simp only []
  cases row with
  | false =>
    have hk : β p = 3 := hk
    rw [if_neg (by omega), if_neg (by omega), if_neg (by omega), if_neg (by omega), if_neg (by omega), if_pos hk]
    rfl
  | true =>
    have hk : β p = 4 := hk
    rw [if_neg (by omega), if_neg (by omega), if_neg (by omega), if_neg (by omega), if_neg (by omega), if_neg (by omega), if_pos hk]
    rfl
theorem nst_no {row : Bool} {k : Nat} (h : ¬ (dep ≤ 16 ∧ 5 ≤ sp_le β k 4 ∧ k + sp_le β k 4 ≤ e ∧ β (k + sp_le β k 4 - 1) = 0)) : sp_nst E β dep row k e = none := by
  unfold sp_nst
  split
  · rfl
  · split
    · rfl
    · split
      · rfl
      · split
        · rename_i h1 h2 _ _ _ h3
          exact absurd ⟨by omega, by omega, by omega, h3⟩ h
        · rfl
theorem nst_at {row : Bool} {k : Nat} (h1 : dep ≤ 16) (h2 : 5 ≤ sp_le β k 4) (h3 : k + sp_le β k 4 ≤ e) (h4 : β (k + sp_le β k 4 - 1) = 0) : sp_nst E β dep row k e = match E dep row (k + 4) (k + sp_le β k 4 - 1) [] with
    | none => none
    | some l => some (sp_ofL l, k + sp_le β k 4) := by
  unfold sp_nst
  rw [if_neg (by omega), if_neg (by omega)]
  cases E dep row (k + 4) (k + sp_le β k 4 - 1) [] with
  | none => rfl
  | some l =>
    simp only []
    rw [if_pos h4]
end E72
section P72
variable {g : Nat × Nat} {d : Nat} {σ0 σ : am_H} {Q : Option Value → am_H → Prop} {m : Nat} {μ : sp_M}
theorem m_el2 (hM : MS g m σ0 σ μ) {t p e s : Nat} {x6 : Nat} (hO : μ 17 0 = t + 1) (ht : t < 16) (hpe : p < e) (he : e ≤ 14000) (hs : sp_nm (μ 1) (p + 1) e = some s) (gF : (∀ E, sp_el (sp_nst E (μ 1)) (μ 1) (t + 1) p e = none) → Q (some (.int 0)) σ) (gL : ∀ (v : sp_V) (q : Nat), (∀ G, sp_el G (μ 1) (t + 1) p e = some (v, q)) → ∀ σ', MS g m σ0 σ' (mup μ 18 t q) → Q (some (.int 1)) σ') (gO : ∀ row : Bool, μ 1 p = (if row = true then 4 else 3) → t + 1 < 16 → 5 ≤ sp_le (μ 1) (s + 1) 4 → s + 1 + sp_le (μ 1) (s + 1) 4 ≤ e → μ 1 (s + 1 + sp_le (μ 1) (s + 1) 4 - 1) = 0 → ∀ σ', MS g m σ0 σ' (mup (mop μ (s + 1) (sp_le (μ 1) (s + 1) 4) (if row = true then 1 else 0)) 18 t (s + 1 + sp_le (μ 1) (s + 1) 4)) → Q (some (.int 1)) σ') : AW g (d + 4) 67 (132, [some (.ref m), some (.int (nI t)), some (.int (nI p)), some (.int (nI e)), some (.int (nI (μ 1 p))), some (.int (nI s)), some (.int (nI x6)), some (.int (nI (s + 1))), none], []) σ Q := by
  obtain ⟨a1, a2, a3, a4, a5⟩ := sp_nm_of hs
  have hb0 := hM.by (i := p) (by omega)
  refine aw_run 2 (F' := (135, [some (.ref m), some (.int (nI t)), some (.int (nI p)), some (.int (nI e)), some (.int (nI (μ 1 p))), some (.int (nI s)), some (.int (nI x6)), some (.int (nI (s + 1))), none], [.int (nI 3), .int (nI (μ 1 p))])) rfl ?_
  refine an_ceq rfl (by omega) (by omega) (fun h1 => ?_) (fun h1 => ?_)
  · refine aw_run 5 (F' := (151, [some (.ref m), some (.int (nI t)), some (.int (nI p)), some (.int (nI e)), some (.int (nI (μ 1 p))), some (.int (nI s)), some (.int (nI x6)), some (.int (nI (s + 1))), none], [.int (nI 4), .int (nI (μ 1 p)), .int (nI e), .int (nI (s + 1)), .ref m])) rfl ?_
    refine an_cne rfl (by omega) (by omega) (fun h2 => ?_) (fun h2 => ?_)
    · refine aw_run 1 (F' := (159, [some (.ref m), some (.int (nI t)), some (.int (nI p)), some (.int (nI e)), some (.int (nI (μ 1 p))), some (.int (nI s)), some (.int (nI x6)), some (.int (nI (s + 1))), none], [.int (nI 0), .int (nI e), .int (nI (s + 1)), .ref m])) rfl ?_
      refine aw_v [.ref m, .int (nI (s + 1)), .int (nI e), .int (nI 0)] [] rfl (by decide) rfl hM.o rfl rfl (Nat.le_of_ble_eq_true rfl) (Nat.le_of_ble_eq_true rfl) ?_
      refine m_opn hM (by omega) he (by omega) (by omega) (fun u1 u2 u3 u4 s1 hM1 => ?_) (fun hz => ?_)
      · have hk : μ 1 p = (if false = true then 4 else 3) := by assumption
        show AW g _ 67 (162, [some (.ref m), some (.int (nI t)), some (.int (nI p)), some (.int (nI e)), some (.int (nI (μ 1 p))), some (.int (nI s)), some (.int (nI x6)), some (.int (nI (s + 1))), none], [.int (nI 1)]) s1 _
        refine an_zne rfl (by omega) (fun _ => ?_) (fun z => absurd z (by omega))
        refine aw_run 1 (F' := (168, [some (.ref m), some (.int (nI t)), some (.int (nI p)), some (.int (nI e)), some (.int (nI (μ 1 p))), some (.int (nI s)), some (.int (nI x6)), some (.int (nI (s + 1))), none], [.ref m])) rfl ?_
        refine aw_get rfl hM1.o rfl ?_
        refine aw_run 4 (F' := (177, [some (.ref m), some (.int (nI t)), some (.int (nI p)), some (.int (nI e)), some (.int (nI (μ 1 p))), some (.int (nI s)), some (.int (nI x6)), some (.int (nI (s + 1))), none], [.int (nI (s + 1)), .int (nI (μ 1 p)), .ref m, .int (nI t), .ref (m + 13)])) rfl ?_
        refine aw_v [.ref m, .int (nI (μ 1 p)), .int (nI (s + 1))] [.int (nI t), .ref (m + 13)] rfl (by decide) rfl hM1.o rfl rfl (Nat.le_of_ble_eq_true rfl) (Nat.le_of_ble_eq_true rfl) ?_
        refine m_bhd hM1 (by omega) (fun _ => by omega) ?_
        show AW g _ 67 (180, [some (.ref m), some (.int (nI t)), some (.int (nI p)), some (.int (nI e)), some (.int (nI (μ 1 p))), some (.int (nI s)), some (.int (nI x6)), some (.int (nI (s + 1))), none], [.int (nI (bhd (μ 1) (μ 1 p) (s + 1))), .int (nI t), .ref (m + 13)]) s1 _
        rw [show bhd (μ 1) (μ 1 p) (s + 1) = s + 1 + sp_le (μ 1) (s + 1) 4 from by unfold bhd; simp [*]]
        show AW g _ 67 (180, [some (.ref m), some (.int (nI t)), some (.int (nI p)), some (.int (nI e)), some (.int (nI (μ 1 p))), some (.int (nI s)), some (.int (nI x6)), some (.int (nI (s + 1))), none], [.int (nI (s + 1 + sp_le (μ 1) (s + 1) 4)), .int (nI t), .ref (m + 13)]) s1 _
        refine ms_ist hM1 rfl (k := 18) (n := 20) (by decide) (by omega) (fun s1 hM1 => ?_)
        refine aw_run 1 (F' := (182, [some (.ref m), some (.int (nI t)), some (.int (nI p)), some (.int (nI e)), some (.int (nI (μ 1 p))), some (.int (nI s)), some (.int (nI x6)), some (.int (nI (s + 1))), none], [.int (nI 1)])) rfl ?_
        exact aw_iret rfl ⟨_, rfl, rfl⟩ (gO false hk (by omega) u2 u3 u4 _ hM1)
      · have hk : μ 1 p = (if false = true then 4 else 3) := by assumption
        show AW g _ 67 (162, [some (.ref m), some (.int (nI t)), some (.int (nI p)), some (.int (nI e)), some (.int (nI (μ 1 p))), some (.int (nI s)), some (.int (nI x6)), some (.int (nI (s + 1))), none], [.int (nI 0)]) σ _
        refine an_zne rfl (by omega) (fun z => absurd z (by omega)) (fun _ => ?_)
        refine aw_run 1 (F' := (166, [some (.ref m), some (.int (nI t)), some (.int (nI p)), some (.int (nI e)), some (.int (nI (μ 1 p))), some (.int (nI s)), some (.int (nI x6)), some (.int (nI (s + 1))), none], [.int (nI 0)])) rfl ?_
        exact aw_iret rfl ⟨_, rfl, rfl⟩ (gF (fun E => by rw [el_n false hpe hs hk, nst_no (fun z => hz ⟨by omega, z.2.1, z.2.2.1, z.2.2.2⟩)]))
    · omega
  · refine aw_run 2 (F' := (141, [some (.ref m), some (.int (nI t)), some (.int (nI p)), some (.int (nI e)), some (.int (nI (μ 1 p))), some (.int (nI s)), some (.int (nI x6)), some (.int (nI (s + 1))), none], [.int (nI 4), .int (nI (μ 1 p))])) rfl ?_
    refine an_cne rfl (by omega) (by omega) (fun h5 => ?_) (fun h5 => ?_)
    · refine aw_run 2 (F' := (187, [some (.ref m), some (.int (nI t)), some (.int (nI p)), some (.int (nI e)), some (.int (nI (μ 1 p))), some (.int (nI s)), some (.int (nI x6)), some (.int (nI (s + 1))), none], [.int (nI 16), .int (nI (μ 1 p))])) rfl ?_
      refine an_cne rfl (by omega) (by omega) (fun h6 => ?_) (fun h6 => ?_)
      · refine aw_run 2 (F' := (210, [some (.ref m), some (.int (nI t)), some (.int (nI p)), some (.int (nI e)), some (.int (nI (μ 1 p))), some (.int (nI s)), some (.int (nI x6)), some (.int (nI (s + 1))), none], [.int (nI 18), .int (nI (μ 1 p))])) rfl ?_
        refine an_cne rfl (by omega) (by omega) (fun h7 => ?_) (fun h7 => ?_)
        · refine aw_run 2 (F' := (234, [some (.ref m), some (.int (nI t)), some (.int (nI p)), some (.int (nI e)), some (.int (nI (μ 1 p))), some (.int (nI s)), some (.int (nI x6)), some (.int (nI (s + 1))), none], [.int (nI 8), .int (nI (μ 1 p))])) rfl ?_
          refine an_cne rfl (by omega) (by omega) (fun h8 => ?_) (fun h8 => ?_)
          · refine aw_run 2 (F' := (265, [some (.ref m), some (.int (nI t)), some (.int (nI p)), some (.int (nI e)), some (.int (nI (μ 1 p))), some (.int (nI s)), some (.int (nI x6)), some (.int (nI (s + 1))), none], [.int (nI 10), .int (nI (μ 1 p))])) rfl ?_
            refine an_ceq rfl (by omega) (by omega) (fun h9 => ?_) (fun h9 => ?_)
            · refine aw_run 4 (F' := (293, [some (.ref m), some (.int (nI t)), some (.int (nI p)), some (.int (nI e)), some (.int (nI (μ 1 p))), some (.int (nI s)), some (.int (nI x6)), some (.int (nI (s + 1))), some (.int (nI 1))], [.int (nI 1)])) rfl ?_
              refine an_zeq rfl (by omega) (fun z => absurd z (by omega)) (fun _ => ?_)
              refine aw_run 1 (F' := (297, [some (.ref m), some (.int (nI t)), some (.int (nI p)), some (.int (nI e)), some (.int (nI (μ 1 p))), some (.int (nI s)), some (.int (nI x6)), some (.int (nI (s + 1))), some (.int (nI 1))], [.ref m])) rfl ?_
              refine aw_get rfl hM.o rfl ?_
              refine aw_run 4 (F' := (306, [some (.ref m), some (.int (nI t)), some (.int (nI p)), some (.int (nI e)), some (.int (nI (μ 1 p))), some (.int (nI s)), some (.int (nI x6)), some (.int (nI (s + 1))), some (.int (nI 1))], [.int (nI (s + 1)), .int (nI (μ 1 p)), .ref m, .int (nI t), .ref (m + 13)])) rfl ?_
              refine aw_v [.ref m, .int (nI (μ 1 p)), .int (nI (s + 1))] [.int (nI t), .ref (m + 13)] rfl (by decide) rfl hM.o rfl rfl (Nat.le_of_ble_eq_true rfl) (Nat.le_of_ble_eq_true rfl) ?_
              refine m_bhd hM (by omega) (fun _ => by omega) ?_
              show AW g _ 67 (309, [some (.ref m), some (.int (nI t)), some (.int (nI p)), some (.int (nI e)), some (.int (nI (μ 1 p))), some (.int (nI s)), some (.int (nI x6)), some (.int (nI (s + 1))), some (.int (nI 1))], [.int (nI (bhd (μ 1) (μ 1 p) (s + 1))), .int (nI t), .ref (m + 13)]) σ _
              rw [show bhd (μ 1) (μ 1 p) (s + 1) = s + 1 from by unfold bhd; simp [*]]
              show AW g _ 67 (309, [some (.ref m), some (.int (nI t)), some (.int (nI p)), some (.int (nI e)), some (.int (nI (μ 1 p))), some (.int (nI s)), some (.int (nI x6)), some (.int (nI (s + 1))), some (.int (nI 1))], [.int (nI (s + 1)), .int (nI t), .ref (m + 13)]) σ _
              refine ms_ist hM rfl (k := 18) (n := 20) (by decide) (by omega) (fun s2 hM2 => ?_)
              refine aw_run 1 (F' := (312, [some (.ref m), some (.int (nI t)), some (.int (nI p)), some (.int (nI e)), some (.int (nI (μ 1 p))), some (.int (nI s)), some (.int (nI x6)), some (.int (nI (s + 1))), some (.int (nI 1))], [.int (nI 1)])) rfl ?_
              exact aw_iret rfl ⟨_, rfl, rfl⟩ (gL _ _ (fun G => el_10 hpe hs (by assumption)) _ hM2)
            · refine aw_run 2 (F' := (271, [some (.ref m), some (.int (nI t)), some (.int (nI p)), some (.int (nI e)), some (.int (nI (μ 1 p))), some (.int (nI s)), some (.int (nI x6)), some (.int (nI (s + 1))), none], [.int (nI 2), .int (nI (μ 1 p))])) rfl ?_
              refine an_cne rfl (by omega) (by omega) (fun h11 => ?_) (fun h11 => ?_)
              · refine aw_run 3 (F' := (293, [some (.ref m), some (.int (nI t)), some (.int (nI p)), some (.int (nI e)), some (.int (nI (μ 1 p))), some (.int (nI s)), some (.int (nI x6)), some (.int (nI (s + 1))), some (.int (nI 0))], [.int (nI 0)])) rfl ?_
                refine an_zeq rfl (by omega) (fun _ => ?_) (fun z => absurd z (by omega))
                refine aw_run 1 (F' := (312, [some (.ref m), some (.int (nI t)), some (.int (nI p)), some (.int (nI e)), some (.int (nI (μ 1 p))), some (.int (nI s)), some (.int (nI x6)), some (.int (nI (s + 1))), some (.int (nI 0))], [.int (nI 0)])) rfl ?_
                exact aw_iret rfl ⟨_, rfl, rfl⟩ (gF (fun E => el_x hpe hs (by assumption) (by assumption) (by assumption) (by assumption) (by assumption) (by assumption) (by assumption)))
              · refine aw_run 3 (F' := (278, [some (.ref m), some (.int (nI t)), some (.int (nI p)), some (.int (nI e)), some (.int (nI (μ 1 p))), some (.int (nI s)), some (.int (nI x6)), some (.int (nI (s + 1))), none], [.int (nI e), .int (nI (s + 1)), .ref m])) rfl ?_
                refine aw_v [.ref m, .int (nI (s + 1)), .int (nI e)] [] rfl (by decide) rfl hM.o rfl rfl (Nat.le_of_ble_eq_true rfl) (Nat.le_of_ble_eq_true rfl) ?_
                refine m_tvl hM (by omega) he (fun hx => ?_) (fun hx => ?_)
                · skip
                  show AW g _ 67 (281, [some (.ref m), some (.int (nI t)), some (.int (nI p)), some (.int (nI e)), some (.int (nI (μ 1 p))), some (.int (nI s)), some (.int (nI x6)), some (.int (nI (s + 1))), none], [.int (nI 1)]) σ _
                  refine an_zeq rfl (by omega) (fun z => absurd z (by omega)) (fun _ => ?_)
                  refine aw_run 4 (F' := (293, [some (.ref m), some (.int (nI t)), some (.int (nI p)), some (.int (nI e)), some (.int (nI (μ 1 p))), some (.int (nI s)), some (.int (nI x6)), some (.int (nI (s + 1))), some (.int (nI 1))], [.int (nI 1)])) rfl ?_
                  refine an_zeq rfl (by omega) (fun z => absurd z (by omega)) (fun _ => ?_)
                  refine aw_run 1 (F' := (297, [some (.ref m), some (.int (nI t)), some (.int (nI p)), some (.int (nI e)), some (.int (nI (μ 1 p))), some (.int (nI s)), some (.int (nI x6)), some (.int (nI (s + 1))), some (.int (nI 1))], [.ref m])) rfl ?_
                  refine aw_get rfl hM.o rfl ?_
                  refine aw_run 4 (F' := (306, [some (.ref m), some (.int (nI t)), some (.int (nI p)), some (.int (nI e)), some (.int (nI (μ 1 p))), some (.int (nI s)), some (.int (nI x6)), some (.int (nI (s + 1))), some (.int (nI 1))], [.int (nI (s + 1)), .int (nI (μ 1 p)), .ref m, .int (nI t), .ref (m + 13)])) rfl ?_
                  refine aw_v [.ref m, .int (nI (μ 1 p)), .int (nI (s + 1))] [.int (nI t), .ref (m + 13)] rfl (by decide) rfl hM.o rfl rfl (Nat.le_of_ble_eq_true rfl) (Nat.le_of_ble_eq_true rfl) ?_
                  refine m_bhd hM (by omega) (fun _ => by omega) ?_
                  show AW g _ 67 (309, [some (.ref m), some (.int (nI t)), some (.int (nI p)), some (.int (nI e)), some (.int (nI (μ 1 p))), some (.int (nI s)), some (.int (nI x6)), some (.int (nI (s + 1))), some (.int (nI 1))], [.int (nI (bhd (μ 1) (μ 1 p) (s + 1))), .int (nI t), .ref (m + 13)]) σ _
                  rw [show bhd (μ 1) (μ 1 p) (s + 1) = s + 1 + 4 + sp_le (μ 1) (s + 1) 4 from by unfold bhd; simp [*]]
                  show AW g _ 67 (309, [some (.ref m), some (.int (nI t)), some (.int (nI p)), some (.int (nI e)), some (.int (nI (μ 1 p))), some (.int (nI s)), some (.int (nI x6)), some (.int (nI (s + 1))), some (.int (nI 1))], [.int (nI (s + 1 + 4 + sp_le (μ 1) (s + 1) 4)), .int (nI t), .ref (m + 13)]) σ _
                  refine ms_ist hM rfl (k := 18) (n := 20) (by decide) (by omega) (fun s3 hM3 => ?_)
                  refine aw_run 1 (F' := (312, [some (.ref m), some (.int (nI t)), some (.int (nI p)), some (.int (nI e)), some (.int (nI (μ 1 p))), some (.int (nI s)), some (.int (nI x6)), some (.int (nI (s + 1))), some (.int (nI 1))], [.int (nI 1)])) rfl ?_
                  exact aw_iret rfl ⟨_, rfl, rfl⟩ (gL _ _ (fun G => by rw [el_2 hpe hs (by assumption), if_pos hx]) _ hM3)
                · skip
                  show AW g _ 67 (281, [some (.ref m), some (.int (nI t)), some (.int (nI p)), some (.int (nI e)), some (.int (nI (μ 1 p))), some (.int (nI s)), some (.int (nI x6)), some (.int (nI (s + 1))), none], [.int (nI 0)]) σ _
                  refine an_zeq rfl (by omega) (fun _ => ?_) (fun z => absurd z (by omega))
                  refine aw_run 3 (F' := (293, [some (.ref m), some (.int (nI t)), some (.int (nI p)), some (.int (nI e)), some (.int (nI (μ 1 p))), some (.int (nI s)), some (.int (nI x6)), some (.int (nI (s + 1))), some (.int (nI 0))], [.int (nI 0)])) rfl ?_
                  refine an_zeq rfl (by omega) (fun _ => ?_) (fun z => absurd z (by omega))
                  refine aw_run 1 (F' := (312, [some (.ref m), some (.int (nI t)), some (.int (nI p)), some (.int (nI e)), some (.int (nI (μ 1 p))), some (.int (nI s)), some (.int (nI x6)), some (.int (nI (s + 1))), some (.int (nI 0))], [.int (nI 0)])) rfl ?_
                  exact aw_iret rfl ⟨_, rfl, rfl⟩ (gF (fun E => by rw [el_2 hpe hs (by assumption), if_neg hx]))
          · refine aw_run 2 (F' := (240, [some (.ref m), some (.int (nI t)), some (.int (nI p)), some (.int (nI e)), some (.int (nI (μ 1 p))), some (.int (nI s)), some (.int (nI x6)), some (.int (nI (s + 1))), none], [.int (nI (s + 1)), .int (nI e)])) rfl ?_
            refine an_cle rfl (by omega) (by omega) (fun h17 => ?_) (fun h17 => ?_)
            · refine aw_run 4 (F' := (293, [some (.ref m), some (.int (nI t)), some (.int (nI p)), some (.int (nI e)), some (.int (nI (μ 1 p))), some (.int (nI s)), some (.int (nI x6)), some (.int (nI (s + 1))), some (.int (nI 0))], [.int (nI 0)])) rfl ?_
              refine an_zeq rfl (by omega) (fun _ => ?_) (fun z => absurd z (by omega))
              refine aw_run 1 (F' := (312, [some (.ref m), some (.int (nI t)), some (.int (nI p)), some (.int (nI e)), some (.int (nI (μ 1 p))), some (.int (nI s)), some (.int (nI x6)), some (.int (nI (s + 1))), some (.int (nI 0))], [.int (nI 0)])) rfl ?_
              exact aw_iret rfl ⟨_, rfl, rfl⟩ (gF (fun E => by rw [el_8 hpe hs (by assumption), if_neg (by omega)]))
            · refine aw_run 2 (F' := (246, [some (.ref m), some (.int (nI t)), some (.int (nI p)), some (.int (nI e)), some (.int (nI (μ 1 p))), some (.int (nI s)), some (.int (nI x6)), some (.int (nI (s + 1))), none], [.int (nI (s + 1)), .ref m])) rfl ?_
              refine aw_v [.ref m, .int (nI (s + 1))] [] rfl (by decide) rfl hM.o rfl rfl (Nat.le_of_ble_eq_true rfl) (Nat.le_of_ble_eq_true rfl) ?_
              have hB1 := hM.by (i := s + 1) (by omega)
              refine m_at hM (by omega) ?_
              show AW g _ 67 (249, [some (.ref m), some (.int (nI t)), some (.int (nI p)), some (.int (nI e)), some (.int (nI (μ 1 p))), some (.int (nI s)), some (.int (nI x6)), some (.int (nI (s + 1))), none], [.int (nI (μ 1 (s + 1)))]) σ _
              refine aw_run 1 (F' := (250, [some (.ref m), some (.int (nI t)), some (.int (nI p)), some (.int (nI e)), some (.int (nI (μ 1 p))), some (.int (nI s)), some (.int (nI x6)), some (.int (nI (s + 1))), none], [.int (nI 2), .int (nI (μ 1 (s + 1)))])) rfl ?_
              refine an_cge rfl (by omega) (by omega) (fun h19 => ?_) (fun h19 => ?_)
              · refine aw_run 4 (F' := (293, [some (.ref m), some (.int (nI t)), some (.int (nI p)), some (.int (nI e)), some (.int (nI (μ 1 p))), some (.int (nI s)), some (.int (nI x6)), some (.int (nI (s + 1))), some (.int (nI 0))], [.int (nI 0)])) rfl ?_
                refine an_zeq rfl (by omega) (fun _ => ?_) (fun z => absurd z (by omega))
                refine aw_run 1 (F' := (312, [some (.ref m), some (.int (nI t)), some (.int (nI p)), some (.int (nI e)), some (.int (nI (μ 1 p))), some (.int (nI s)), some (.int (nI x6)), some (.int (nI (s + 1))), some (.int (nI 0))], [.int (nI 0)])) rfl ?_
                exact aw_iret rfl ⟨_, rfl, rfl⟩ (gF (fun E => by rw [el_8 hpe hs (by assumption), if_neg (by omega)]))
              · refine aw_run 4 (F' := (293, [some (.ref m), some (.int (nI t)), some (.int (nI p)), some (.int (nI e)), some (.int (nI (μ 1 p))), some (.int (nI s)), some (.int (nI x6)), some (.int (nI (s + 1))), some (.int (nI 1))], [.int (nI 1)])) rfl ?_
                refine an_zeq rfl (by omega) (fun z => absurd z (by omega)) (fun _ => ?_)
                refine aw_run 1 (F' := (297, [some (.ref m), some (.int (nI t)), some (.int (nI p)), some (.int (nI e)), some (.int (nI (μ 1 p))), some (.int (nI s)), some (.int (nI x6)), some (.int (nI (s + 1))), some (.int (nI 1))], [.ref m])) rfl ?_
                refine aw_get rfl hM.o rfl ?_
                refine aw_run 4 (F' := (306, [some (.ref m), some (.int (nI t)), some (.int (nI p)), some (.int (nI e)), some (.int (nI (μ 1 p))), some (.int (nI s)), some (.int (nI x6)), some (.int (nI (s + 1))), some (.int (nI 1))], [.int (nI (s + 1)), .int (nI (μ 1 p)), .ref m, .int (nI t), .ref (m + 13)])) rfl ?_
                refine aw_v [.ref m, .int (nI (μ 1 p)), .int (nI (s + 1))] [.int (nI t), .ref (m + 13)] rfl (by decide) rfl hM.o rfl rfl (Nat.le_of_ble_eq_true rfl) (Nat.le_of_ble_eq_true rfl) ?_
                refine m_bhd hM (by omega) (fun _ => by omega) ?_
                show AW g _ 67 (309, [some (.ref m), some (.int (nI t)), some (.int (nI p)), some (.int (nI e)), some (.int (nI (μ 1 p))), some (.int (nI s)), some (.int (nI x6)), some (.int (nI (s + 1))), some (.int (nI 1))], [.int (nI (bhd (μ 1) (μ 1 p) (s + 1))), .int (nI t), .ref (m + 13)]) σ _
                rw [show bhd (μ 1) (μ 1 p) (s + 1) = s + 2 from by unfold bhd; simp [*]]
                show AW g _ 67 (309, [some (.ref m), some (.int (nI t)), some (.int (nI p)), some (.int (nI e)), some (.int (nI (μ 1 p))), some (.int (nI s)), some (.int (nI x6)), some (.int (nI (s + 1))), some (.int (nI 1))], [.int (nI (s + 2)), .int (nI t), .ref (m + 13)]) σ _
                refine ms_ist hM rfl (k := 18) (n := 20) (by decide) (by omega) (fun s4 hM4 => ?_)
                refine aw_run 1 (F' := (312, [some (.ref m), some (.int (nI t)), some (.int (nI p)), some (.int (nI e)), some (.int (nI (μ 1 p))), some (.int (nI s)), some (.int (nI x6)), some (.int (nI (s + 1))), some (.int (nI 1))], [.int (nI 1)])) rfl ?_
                exact aw_iret rfl ⟨_, rfl, rfl⟩ (gL _ _ (fun G => by rw [el_8 hpe hs (by assumption), if_pos ⟨by omega, by omega⟩]) _ hM4)
        · refine aw_run 3 (F' := (217, [some (.ref m), some (.int (nI t)), some (.int (nI p)), some (.int (nI e)), some (.int (nI (μ 1 p))), some (.int (nI s)), some (.int (nI x6)), some (.int (nI (s + 1))), none], [.int (nI e - nI (s + 1))])) rfl ?_
          rw [nI_sub (by omega)]
          refine aw_run 1 (F' := (219, [some (.ref m), some (.int (nI t)), some (.int (nI p)), some (.int (nI e)), some (.int (nI (μ 1 p))), some (.int (nI s)), some (.int (nI x6)), some (.int (nI (s + 1))), none], [.int (nI 8), .int (nI (e - (s + 1)))])) rfl ?_
          refine an_clt rfl (by omega) (by omega) (fun h22 => ?_) (fun h22 => ?_)
          · refine aw_run 4 (F' := (293, [some (.ref m), some (.int (nI t)), some (.int (nI p)), some (.int (nI e)), some (.int (nI (μ 1 p))), some (.int (nI s)), some (.int (nI x6)), some (.int (nI (s + 1))), some (.int (nI 0))], [.int (nI 0)])) rfl ?_
            refine an_zeq rfl (by omega) (fun _ => ?_) (fun z => absurd z (by omega))
            refine aw_run 1 (F' := (312, [some (.ref m), some (.int (nI t)), some (.int (nI p)), some (.int (nI e)), some (.int (nI (μ 1 p))), some (.int (nI s)), some (.int (nI x6)), some (.int (nI (s + 1))), some (.int (nI 0))], [.int (nI 0)])) rfl ?_
            exact aw_iret rfl ⟨_, rfl, rfl⟩ (gF (fun E => by rw [el_18 hpe hs (by assumption), if_neg (by omega)]))
          · refine aw_run 4 (F' := (293, [some (.ref m), some (.int (nI t)), some (.int (nI p)), some (.int (nI e)), some (.int (nI (μ 1 p))), some (.int (nI s)), some (.int (nI x6)), some (.int (nI (s + 1))), some (.int (nI 1))], [.int (nI 1)])) rfl ?_
            refine an_zeq rfl (by omega) (fun z => absurd z (by omega)) (fun _ => ?_)
            refine aw_run 1 (F' := (297, [some (.ref m), some (.int (nI t)), some (.int (nI p)), some (.int (nI e)), some (.int (nI (μ 1 p))), some (.int (nI s)), some (.int (nI x6)), some (.int (nI (s + 1))), some (.int (nI 1))], [.ref m])) rfl ?_
            refine aw_get rfl hM.o rfl ?_
            refine aw_run 4 (F' := (306, [some (.ref m), some (.int (nI t)), some (.int (nI p)), some (.int (nI e)), some (.int (nI (μ 1 p))), some (.int (nI s)), some (.int (nI x6)), some (.int (nI (s + 1))), some (.int (nI 1))], [.int (nI (s + 1)), .int (nI (μ 1 p)), .ref m, .int (nI t), .ref (m + 13)])) rfl ?_
            refine aw_v [.ref m, .int (nI (μ 1 p)), .int (nI (s + 1))] [.int (nI t), .ref (m + 13)] rfl (by decide) rfl hM.o rfl rfl (Nat.le_of_ble_eq_true rfl) (Nat.le_of_ble_eq_true rfl) ?_
            refine m_bhd hM (by omega) (fun _ => by omega) ?_
            show AW g _ 67 (309, [some (.ref m), some (.int (nI t)), some (.int (nI p)), some (.int (nI e)), some (.int (nI (μ 1 p))), some (.int (nI s)), some (.int (nI x6)), some (.int (nI (s + 1))), some (.int (nI 1))], [.int (nI (bhd (μ 1) (μ 1 p) (s + 1))), .int (nI t), .ref (m + 13)]) σ _
            rw [show bhd (μ 1) (μ 1 p) (s + 1) = s + 9 from by unfold bhd; simp [*]]
            show AW g _ 67 (309, [some (.ref m), some (.int (nI t)), some (.int (nI p)), some (.int (nI e)), some (.int (nI (μ 1 p))), some (.int (nI s)), some (.int (nI x6)), some (.int (nI (s + 1))), some (.int (nI 1))], [.int (nI (s + 9)), .int (nI t), .ref (m + 13)]) σ _
            refine ms_ist hM rfl (k := 18) (n := 20) (by decide) (by omega) (fun s5 hM5 => ?_)
            refine aw_run 1 (F' := (312, [some (.ref m), some (.int (nI t)), some (.int (nI p)), some (.int (nI e)), some (.int (nI (μ 1 p))), some (.int (nI s)), some (.int (nI x6)), some (.int (nI (s + 1))), some (.int (nI 1))], [.int (nI 1)])) rfl ?_
            exact aw_iret rfl ⟨_, rfl, rfl⟩ (gL _ _ (fun G => by rw [el_18 hpe hs (by assumption), if_pos (by omega)]) _ hM5)
      · refine aw_run 3 (F' := (194, [some (.ref m), some (.int (nI t)), some (.int (nI p)), some (.int (nI e)), some (.int (nI (μ 1 p))), some (.int (nI s)), some (.int (nI x6)), some (.int (nI (s + 1))), none], [.int (nI e - nI (s + 1))])) rfl ?_
        rw [nI_sub (by omega)]
        refine aw_run 1 (F' := (195, [some (.ref m), some (.int (nI t)), some (.int (nI p)), some (.int (nI e)), some (.int (nI (μ 1 p))), some (.int (nI s)), some (.int (nI x6)), some (.int (nI (s + 1))), none], [.int (nI 4), .int (nI (e - (s + 1)))])) rfl ?_
        refine an_clt rfl (by omega) (by omega) (fun h25 => ?_) (fun h25 => ?_)
        · refine aw_run 4 (F' := (293, [some (.ref m), some (.int (nI t)), some (.int (nI p)), some (.int (nI e)), some (.int (nI (μ 1 p))), some (.int (nI s)), some (.int (nI x6)), some (.int (nI (s + 1))), some (.int (nI 0))], [.int (nI 0)])) rfl ?_
          refine an_zeq rfl (by omega) (fun _ => ?_) (fun z => absurd z (by omega))
          refine aw_run 1 (F' := (312, [some (.ref m), some (.int (nI t)), some (.int (nI p)), some (.int (nI e)), some (.int (nI (μ 1 p))), some (.int (nI s)), some (.int (nI x6)), some (.int (nI (s + 1))), some (.int (nI 0))], [.int (nI 0)])) rfl ?_
          exact aw_iret rfl ⟨_, rfl, rfl⟩ (gF (fun E => by rw [el_16 hpe hs (by assumption), if_neg (by omega)]))
        · refine aw_run 4 (F' := (293, [some (.ref m), some (.int (nI t)), some (.int (nI p)), some (.int (nI e)), some (.int (nI (μ 1 p))), some (.int (nI s)), some (.int (nI x6)), some (.int (nI (s + 1))), some (.int (nI 1))], [.int (nI 1)])) rfl ?_
          refine an_zeq rfl (by omega) (fun z => absurd z (by omega)) (fun _ => ?_)
          refine aw_run 1 (F' := (297, [some (.ref m), some (.int (nI t)), some (.int (nI p)), some (.int (nI e)), some (.int (nI (μ 1 p))), some (.int (nI s)), some (.int (nI x6)), some (.int (nI (s + 1))), some (.int (nI 1))], [.ref m])) rfl ?_
          refine aw_get rfl hM.o rfl ?_
          refine aw_run 4 (F' := (306, [some (.ref m), some (.int (nI t)), some (.int (nI p)), some (.int (nI e)), some (.int (nI (μ 1 p))), some (.int (nI s)), some (.int (nI x6)), some (.int (nI (s + 1))), some (.int (nI 1))], [.int (nI (s + 1)), .int (nI (μ 1 p)), .ref m, .int (nI t), .ref (m + 13)])) rfl ?_
          refine aw_v [.ref m, .int (nI (μ 1 p)), .int (nI (s + 1))] [.int (nI t), .ref (m + 13)] rfl (by decide) rfl hM.o rfl rfl (Nat.le_of_ble_eq_true rfl) (Nat.le_of_ble_eq_true rfl) ?_
          refine m_bhd hM (by omega) (fun _ => by omega) ?_
          show AW g _ 67 (309, [some (.ref m), some (.int (nI t)), some (.int (nI p)), some (.int (nI e)), some (.int (nI (μ 1 p))), some (.int (nI s)), some (.int (nI x6)), some (.int (nI (s + 1))), some (.int (nI 1))], [.int (nI (bhd (μ 1) (μ 1 p) (s + 1))), .int (nI t), .ref (m + 13)]) σ _
          rw [show bhd (μ 1) (μ 1 p) (s + 1) = s + 5 from by unfold bhd; simp [*]]
          show AW g _ 67 (309, [some (.ref m), some (.int (nI t)), some (.int (nI p)), some (.int (nI e)), some (.int (nI (μ 1 p))), some (.int (nI s)), some (.int (nI x6)), some (.int (nI (s + 1))), some (.int (nI 1))], [.int (nI (s + 5)), .int (nI t), .ref (m + 13)]) σ _
          refine ms_ist hM rfl (k := 18) (n := 20) (by decide) (by omega) (fun s6 hM6 => ?_)
          refine aw_run 1 (F' := (312, [some (.ref m), some (.int (nI t)), some (.int (nI p)), some (.int (nI e)), some (.int (nI (μ 1 p))), some (.int (nI s)), some (.int (nI x6)), some (.int (nI (s + 1))), some (.int (nI 1))], [.int (nI 1)])) rfl ?_
          exact aw_iret rfl ⟨_, rfl, rfl⟩ (gL _ _ (fun G => by rw [el_16 hpe hs (by assumption), if_pos (by omega)]) _ hM6)
    · refine aw_run 5 (F' := (151, [some (.ref m), some (.int (nI t)), some (.int (nI p)), some (.int (nI e)), some (.int (nI (μ 1 p))), some (.int (nI s)), some (.int (nI x6)), some (.int (nI (s + 1))), none], [.int (nI 4), .int (nI (μ 1 p)), .int (nI e), .int (nI (s + 1)), .ref m])) rfl ?_
      refine an_cne rfl (by omega) (by omega) (fun h28 => ?_) (fun h28 => ?_)
      · omega
      · refine aw_run 2 (F' := (159, [some (.ref m), some (.int (nI t)), some (.int (nI p)), some (.int (nI e)), some (.int (nI (μ 1 p))), some (.int (nI s)), some (.int (nI x6)), some (.int (nI (s + 1))), none], [.int (nI 1), .int (nI e), .int (nI (s + 1)), .ref m])) rfl ?_
        refine aw_v [.ref m, .int (nI (s + 1)), .int (nI e), .int (nI 1)] [] rfl (by decide) rfl hM.o rfl rfl (Nat.le_of_ble_eq_true rfl) (Nat.le_of_ble_eq_true rfl) ?_
        refine m_opn hM (by omega) he (by omega) (by omega) (fun u1 u2 u3 u4 s1 hM1 => ?_) (fun hz => ?_)
        · have hk : μ 1 p = (if true = true then 4 else 3) := by assumption
          show AW g _ 67 (162, [some (.ref m), some (.int (nI t)), some (.int (nI p)), some (.int (nI e)), some (.int (nI (μ 1 p))), some (.int (nI s)), some (.int (nI x6)), some (.int (nI (s + 1))), none], [.int (nI 1)]) s1 _
          refine an_zne rfl (by omega) (fun _ => ?_) (fun z => absurd z (by omega))
          refine aw_run 1 (F' := (168, [some (.ref m), some (.int (nI t)), some (.int (nI p)), some (.int (nI e)), some (.int (nI (μ 1 p))), some (.int (nI s)), some (.int (nI x6)), some (.int (nI (s + 1))), none], [.ref m])) rfl ?_
          refine aw_get rfl hM1.o rfl ?_
          refine aw_run 4 (F' := (177, [some (.ref m), some (.int (nI t)), some (.int (nI p)), some (.int (nI e)), some (.int (nI (μ 1 p))), some (.int (nI s)), some (.int (nI x6)), some (.int (nI (s + 1))), none], [.int (nI (s + 1)), .int (nI (μ 1 p)), .ref m, .int (nI t), .ref (m + 13)])) rfl ?_
          refine aw_v [.ref m, .int (nI (μ 1 p)), .int (nI (s + 1))] [.int (nI t), .ref (m + 13)] rfl (by decide) rfl hM1.o rfl rfl (Nat.le_of_ble_eq_true rfl) (Nat.le_of_ble_eq_true rfl) ?_
          refine m_bhd hM1 (by omega) (fun _ => by omega) ?_
          show AW g _ 67 (180, [some (.ref m), some (.int (nI t)), some (.int (nI p)), some (.int (nI e)), some (.int (nI (μ 1 p))), some (.int (nI s)), some (.int (nI x6)), some (.int (nI (s + 1))), none], [.int (nI (bhd (μ 1) (μ 1 p) (s + 1))), .int (nI t), .ref (m + 13)]) s1 _
          rw [show bhd (μ 1) (μ 1 p) (s + 1) = s + 1 + sp_le (μ 1) (s + 1) 4 from by unfold bhd; simp [*]]
          show AW g _ 67 (180, [some (.ref m), some (.int (nI t)), some (.int (nI p)), some (.int (nI e)), some (.int (nI (μ 1 p))), some (.int (nI s)), some (.int (nI x6)), some (.int (nI (s + 1))), none], [.int (nI (s + 1 + sp_le (μ 1) (s + 1) 4)), .int (nI t), .ref (m + 13)]) s1 _
          refine ms_ist hM1 rfl (k := 18) (n := 20) (by decide) (by omega) (fun s7 hM7 => ?_)
          refine aw_run 1 (F' := (182, [some (.ref m), some (.int (nI t)), some (.int (nI p)), some (.int (nI e)), some (.int (nI (μ 1 p))), some (.int (nI s)), some (.int (nI x6)), some (.int (nI (s + 1))), none], [.int (nI 1)])) rfl ?_
          exact aw_iret rfl ⟨_, rfl, rfl⟩ (gO true hk (by omega) u2 u3 u4 _ hM7)
        · have hk : μ 1 p = (if true = true then 4 else 3) := by assumption
          show AW g _ 67 (162, [some (.ref m), some (.int (nI t)), some (.int (nI p)), some (.int (nI e)), some (.int (nI (μ 1 p))), some (.int (nI s)), some (.int (nI x6)), some (.int (nI (s + 1))), none], [.int (nI 0)]) σ _
          refine an_zne rfl (by omega) (fun z => absurd z (by omega)) (fun _ => ?_)
          refine aw_run 1 (F' := (166, [some (.ref m), some (.int (nI t)), some (.int (nI p)), some (.int (nI e)), some (.int (nI (μ 1 p))), some (.int (nI s)), some (.int (nI x6)), some (.int (nI (s + 1))), none], [.int (nI 0)])) rfl ?_
          exact aw_iret rfl ⟨_, rfl, rfl⟩ (gF (fun E => by rw [el_n true hpe hs hk, nst_no (fun z => hz ⟨by omega, z.2.1, z.2.2.1, z.2.2.2⟩)]))
end P72
