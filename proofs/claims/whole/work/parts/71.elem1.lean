/-! an element: what the reference does at one -/
theorem ne_of {β : Nat → Nat} {s e : Nat} (hs : s < e) : ∀ (n a : Nat), s - a < n → nmd β a s → sp_ne β n a e = some s
  | 0, _, h, _ => by omega
  | n + 1, a, h, hn => by
    have ha := hn.1
    simp only [sp_ne]
    rw [if_neg (by omega)]
    by_cases q : β a = 0
    · rw [if_pos q]
      by_cases e1 : a = s
      · rw [e1]
      · exact absurd q (hn.2.2 a (Nat.le_refl _) (by omega))
    · rw [if_neg q]
      have e1 : a ≠ s := fun z => q (by rw [z]; exact hn.2.1)
      exact ne_of hs n (a + 1) (by omega) ⟨by omega, hn.2.1, fun i h1 h2 => hn.2.2 i (by omega) h2⟩
theorem nm_at {β : Nat → Nat} {a s e : Nat} (hs : s < e) (hn : nmd β a s) : sp_nm β a e = if sp_tx β (s - a) a s = true then some s else none := by
  have ha := hn.1
  unfold sp_nm
  rw [ne_of hs _ a (by omega) hn]
theorem nm_no {β : Nat → Nat} {a e : Nat} (h : ∀ i, a ≤ i → i < e → β i ≠ 0) : sp_nm β a e = none := by
  unfold sp_nm
  split
  · rename_i q hq
    obtain ⟨a1, a2, a3, a4⟩ := sp_ne_ge _ _ _ _ _ hq
    exact absurd a3 (h q a1 a2)
  · rfl
theorem el_no {G : Nat → Bool → Nat → Nat → Option (sp_F × Nat)} {β : Nat → Nat} {dep p e : Nat} (h : sp_nm β (p + 1) e = none) : sp_el G β dep p e = none := by
  unfold sp_el
  rw [h]
  split <;> rfl
theorem el_nm {G : Nat → Bool → Nat → Nat → Option (sp_F × Nat)} {β : Nat → Nat} {dep p e s q : Nat} {v : sp_V} (hs : sp_nm β (p + 1) e = some s) (h : sp_el G β dep p e = some (v, q)) : v.1.2.1 = sp_sub β (p + 1) s := by
  unfold sp_el at h
  rw [hs] at h
  split at h
  · cases h
  · by_cases k : β p = 16
    · simp only [if_pos k] at h
      split at h <;> cases h
      rfl
    simp only [if_neg k] at h
    by_cases k : β p = 18
    · simp only [if_pos k] at h
      split at h <;> cases h
      rfl
    simp only [if_neg k] at h
    by_cases k : β p = 8
    · simp only [if_pos k] at h
      split at h <;> cases h
      rfl
    simp only [if_neg k] at h
    by_cases k : β p = 10
    · simp only [if_pos k] at h
      cases h
      rfl
    simp only [if_neg k] at h
    by_cases k : β p = 2
    · simp only [if_pos k] at h
      split at h <;> cases h
      rfl
    simp only [if_neg k] at h
    by_cases k : β p = 3
    · simp only [if_pos k] at h
      split at h <;> cases h
      rfl
    simp only [if_neg k] at h
    by_cases k : β p = 4
    · simp only [if_pos k] at h
      split at h <;> cases h
      rfl
    simp only [if_neg k] at h
    cases h
section P71
variable {g : Nat × Nat} {d : Nat} {σ0 σ : am_H} {Q : Option Value → am_H → Prop} {m : Nat} {μ : sp_M}
theorem m_el1 (hM : MS g m σ0 σ μ) {t p e st0 : Nat} {row : Bool} {seen : List sp_V} (hO : μ 17 0 = t + 1) (ht : t < 16) (hp : μ 18 t = p) (hE : μ 19 t = e) (hB : μ 20 t = st0) (hR : μ 22 t = (if row = true then 1 else 0)) (hC : μ 23 t = seen.length) (hpe : p < e) (he : e ≤ 14000) (hly : lyF (μ 1) (sp_ofL seen) row 0 st0 p) (hs : seen.length ≤ 1000) (gF : (∀ (G : Nat → Bool → Nat → Nat → Option (sp_F × Nat)) (v : sp_V) (q : Nat), sp_el G (μ 1) (t + 1) p e = some (v, q) → ¬ sp_adm row seen v.1.2.1) → Q (some (.int 0)) σ) (gS : ∀ s, sp_nm (μ 1) (p + 1) e = some s → sp_adm row seen (sp_sub (μ 1) (p + 1) s) → ∀ σ', MS g m σ0 σ' (mup μ 23 t (seen.length + 1)) → AW g (d + 4) 67 (132, [some (.ref m), some (.int (nI t)), some (.int (nI p)), some (.int (nI e)), some (.int (nI (μ 1 p))), some (.int (nI s)), some (.int (nI 1)), some (.int (nI (s + 1))), none], []) σ' Q) : AW g (d + 4) 67 (0, [some (.ref m), none, none, none, none, none, none, none, none], []) σ Q := by
  have hst := hly.le
  cases row with
  | true =>
    refine aw_run 1 (F' := (1, [some (.ref m), none, none, none, none, none, none, none, none], [.ref m])) rfl ?_
    refine aw_get rfl hM.o rfl ?_
    rw [show μ 17 0 = t + 1 from hO]
    refine aw_run 2 (F' := (6, [some (.ref m), none, none, none, none, none, none, none, none], [.int (nI (t + 1) - nI 1)])) rfl ?_
    rw [nI_sub (by omega)]
    rw [show (t + 1) - 1 = t from rfl]
    refine aw_run 2 (F' := (8, [some (.ref m), some (.int (nI t)), none, none, none, none, none, none, none], [.ref m])) rfl ?_
    refine aw_get rfl hM.o rfl ?_
    refine aw_run 1 (F' := (12, [some (.ref m), some (.int (nI t)), none, none, none, none, none, none, none], [.int (nI t), .ref (m + 13)])) rfl ?_
    refine ms_ild hM rfl (k := 18) (n := 20) (by decide) (by omega) ?_
    rw [show μ 18 t = p from hp]
    refine aw_run 2 (F' := (15, [some (.ref m), some (.int (nI t)), some (.int (nI p)), none, none, none, none, none, none], [.ref m])) rfl ?_
    refine aw_get rfl hM.o rfl ?_
    refine aw_run 1 (F' := (19, [some (.ref m), some (.int (nI t)), some (.int (nI p)), none, none, none, none, none, none], [.int (nI t), .ref (m + 14)])) rfl ?_
    refine ms_ild hM rfl (k := 19) (n := 20) (by decide) (by omega) ?_
    rw [show μ 19 t = e from hE]
    refine aw_run 3 (F' := (23, [some (.ref m), some (.int (nI t)), some (.int (nI p)), some (.int (nI e)), none, none, none, none, none], [.int (nI p), .ref m])) rfl ?_
    refine aw_v [.ref m, .int (nI p)] [] rfl (by decide) rfl hM.o rfl rfl (Nat.le_of_ble_eq_true rfl) (Nat.le_of_ble_eq_true rfl) ?_
    have hB1 := hM.by (i := p) (by omega)
    refine m_at hM (by omega) ?_
    show AW g _ 67 (26, [some (.ref m), some (.int (nI t)), some (.int (nI p)), some (.int (nI e)), none, none, none, none, none], [.int (nI (μ 1 p))]) σ _
    refine aw_run 5 (F' := (32, [some (.ref m), some (.int (nI t)), some (.int (nI p)), some (.int (nI e)), some (.int (nI (μ 1 p))), none, none, none, none], [.int (nI p + nI 1), .ref m])) rfl ?_
    rw [nI_add]
    refine aw_run 1 (F' := (33, [some (.ref m), some (.int (nI t)), some (.int (nI p)), some (.int (nI e)), some (.int (nI (μ 1 p))), none, none, none, none], [.int (nI e), .int (nI (p + 1)), .ref m])) rfl ?_
    refine aw_v [.ref m, .int (nI (p + 1)), .int (nI e)] [] rfl (by decide) rfl hM.o rfl rfl (Nat.le_of_ble_eq_true rfl) (Nat.le_of_ble_eq_true rfl) ?_
    refine m_ne hM (by omega) he (fun s hs1 hs2 => ?_) (fun hz => ?_)
    · have hs3 := hs1.1
      show AW g _ 67 (36, [some (.ref m), some (.int (nI t)), some (.int (nI p)), some (.int (nI e)), some (.int (nI (μ 1 p))), none, none, none, none], [.int (nI s)]) σ _
      refine aw_run 3 (F' := (41, [some (.ref m), some (.int (nI t)), some (.int (nI p)), some (.int (nI e)), some (.int (nI (μ 1 p))), some (.int (nI s)), none, none, none], [.int (nI e), .int (nI s)])) rfl ?_
      refine an_cge rfl (by omega) (by omega) (fun h1 => ?_) (fun h1 => ?_)
      · omega
      · refine aw_run 4 (F' := (48, [some (.ref m), some (.int (nI t)), some (.int (nI p)), some (.int (nI e)), some (.int (nI (μ 1 p))), some (.int (nI s)), none, none, none], [.int (nI p + nI 1), .ref m])) rfl ?_
        rw [nI_add]
        refine aw_run 1 (F' := (50, [some (.ref m), some (.int (nI t)), some (.int (nI p)), some (.int (nI e)), some (.int (nI (μ 1 p))), some (.int (nI s)), none, none, none], [.int (nI s), .int (nI (p + 1)), .ref m])) rfl ?_
        refine aw_v [.ref m, .int (nI (p + 1)), .int (nI s)] [] rfl (by decide) rfl hM.o rfl rfl (Nat.le_of_ble_eq_true rfl) (Nat.le_of_ble_eq_true rfl) ?_
        refine m_txt hM (by omega) (by omega) ?_
        by_cases htx : sp_tx (μ 1) (s - (p + 1)) (p + 1) s = true
        · rw [if_pos htx]
          have hnm : sp_nm (μ 1) (p + 1) e = some s := by rw [nm_at hs2 hs1, if_pos htx]
          show AW g _ 67 (53, [some (.ref m), some (.int (nI t)), some (.int (nI p)), some (.int (nI e)), some (.int (nI (μ 1 p))), some (.int (nI s)), none, none, none], [.int (nI 1)]) σ _
          refine an_zne rfl (by omega) (fun _ => ?_) (fun z => absurd z (by omega))
          refine aw_run 1 (F' := (59, [some (.ref m), some (.int (nI t)), some (.int (nI p)), some (.int (nI e)), some (.int (nI (μ 1 p))), some (.int (nI s)), none, none, none], [.ref m])) rfl ?_
          refine aw_get rfl hM.o rfl ?_
          refine aw_run 1 (F' := (63, [some (.ref m), some (.int (nI t)), some (.int (nI p)), some (.int (nI e)), some (.int (nI (μ 1 p))), some (.int (nI s)), none, none, none], [.int (nI t), .ref (m + 17)])) rfl ?_
          refine ms_zld hM rfl (k := 22) (n := 20) (by decide) (by omega) ?_
          rw [show μ 22 t = 1 from hR]
          refine an_zeq rfl (by omega) (fun z => absurd z (by omega)) (fun _ => ?_)
          refine aw_run 4 (F' := (71, [some (.ref m), some (.int (nI t)), some (.int (nI p)), some (.int (nI e)), some (.int (nI (μ 1 p))), some (.int (nI s)), none, none, none], [.int (nI p + nI 1), .ref m])) rfl ?_
          rw [nI_add]
          refine aw_run 2 (F' := (74, [some (.ref m), some (.int (nI t)), some (.int (nI p)), some (.int (nI e)), some (.int (nI (μ 1 p))), some (.int (nI s)), none, none, none], [.ref m, .int (nI s), .int (nI (p + 1)), .ref m])) rfl ?_
          refine aw_get rfl hM.o rfl ?_
          refine aw_run 1 (F' := (78, [some (.ref m), some (.int (nI t)), some (.int (nI p)), some (.int (nI e)), some (.int (nI (μ 1 p))), some (.int (nI s)), none, none, none], [.int (nI t), .ref (m + 18), .int (nI s), .int (nI (p + 1)), .ref m])) rfl ?_
          refine ms_ild hM rfl (k := 23) (n := 20) (by decide) (by omega) ?_
          rw [show μ 23 t = seen.length from hC]
          refine aw_v [.ref m, .int (nI (p + 1)), .int (nI s), .int (nI seen.length)] [] rfl (by decide) rfl hM.o rfl rfl (Nat.le_of_ble_eq_true rfl) (Nat.le_of_ble_eq_true rfl) ?_
          refine m_num hM (by omega) (by omega) hs (fun y => ?_) (fun y => ?_)
          · skip
            show AW g _ 67 (82, [some (.ref m), some (.int (nI t)), some (.int (nI p)), some (.int (nI e)), some (.int (nI (μ 1 p))), some (.int (nI s)), none, none, none], [.int (nI 1)]) σ _
            refine aw_run 3 (F' := (111, [some (.ref m), some (.int (nI t)), some (.int (nI p)), some (.int (nI e)), some (.int (nI (μ 1 p))), some (.int (nI s)), some (.int (nI 1)), none, none], [.int (nI 1)])) rfl ?_
            refine an_zne rfl (by omega) (fun _ => ?_) (fun z => absurd z (by omega))
            refine aw_run 1 (F' := (117, [some (.ref m), some (.int (nI t)), some (.int (nI p)), some (.int (nI e)), some (.int (nI (μ 1 p))), some (.int (nI s)), some (.int (nI 1)), none, none], [.ref m])) rfl ?_
            refine aw_get rfl hM.o rfl ?_
            refine aw_run 2 (F' := (122, [some (.ref m), some (.int (nI t)), some (.int (nI p)), some (.int (nI e)), some (.int (nI (μ 1 p))), some (.int (nI s)), some (.int (nI 1)), none, none], [.int (nI t), .ref (m + 18), .int (nI t), .ref (m + 18)])) rfl ?_
            refine ms_ild hM rfl (k := 23) (n := 20) (by decide) (by omega) ?_
            rw [show μ 23 t = seen.length from hC]
            refine aw_run 2 (F' := (125, [some (.ref m), some (.int (nI t)), some (.int (nI p)), some (.int (nI e)), some (.int (nI (μ 1 p))), some (.int (nI s)), some (.int (nI 1)), none, none], [.int (nI seen.length + nI 1), .int (nI t), .ref (m + 18)])) rfl ?_
            rw [nI_add]
            refine ms_ist hM rfl (k := 23) (n := 20) (by decide) (by omega) (fun s1 hM1 => ?_)
            refine aw_run 3 (F' := (130, [some (.ref m), some (.int (nI t)), some (.int (nI p)), some (.int (nI e)), some (.int (nI (μ 1 p))), some (.int (nI s)), some (.int (nI 1)), none, none], [.int (nI s + nI 1)])) rfl ?_
            rw [nI_add]
            refine aw_run 1 (F' := (132, [some (.ref m), some (.int (nI t)), some (.int (nI p)), some (.int (nI e)), some (.int (nI (μ 1 p))), some (.int (nI s)), some (.int (nI 1)), some (.int (nI (s + 1))), none], [])) rfl ?_
            exact gS s hnm y _ hM1
          · skip
            show AW g _ 67 (82, [some (.ref m), some (.int (nI t)), some (.int (nI p)), some (.int (nI e)), some (.int (nI (μ 1 p))), some (.int (nI s)), none, none, none], [.int (nI 0)]) σ _
            refine aw_run 3 (F' := (111, [some (.ref m), some (.int (nI t)), some (.int (nI p)), some (.int (nI e)), some (.int (nI (μ 1 p))), some (.int (nI s)), some (.int (nI 0)), none, none], [.int (nI 0)])) rfl ?_
            refine an_zne rfl (by omega) (fun z => absurd z (by omega)) (fun _ => ?_)
            refine aw_run 1 (F' := (115, [some (.ref m), some (.int (nI t)), some (.int (nI p)), some (.int (nI e)), some (.int (nI (μ 1 p))), some (.int (nI s)), some (.int (nI 0)), none, none], [.int (nI 0)])) rfl ?_
            exact aw_iret rfl ⟨_, rfl, rfl⟩ (gF (fun G v q z => by rw [el_nm hnm z]; exact y))
        · rw [if_neg htx]
          have hnm : sp_nm (μ 1) (p + 1) e = none := by rw [nm_at hs2 hs1, if_neg htx]
          show AW g _ 67 (53, [some (.ref m), some (.int (nI t)), some (.int (nI p)), some (.int (nI e)), some (.int (nI (μ 1 p))), some (.int (nI s)), none, none, none], [.int (nI 0)]) σ _
          refine an_zne rfl (by omega) (fun z => absurd z (by omega)) (fun _ => ?_)
          refine aw_run 1 (F' := (57, [some (.ref m), some (.int (nI t)), some (.int (nI p)), some (.int (nI e)), some (.int (nI (μ 1 p))), some (.int (nI s)), none, none, none], [.int (nI 0)])) rfl ?_
          exact aw_iret rfl ⟨_, rfl, rfl⟩ (gF (fun G v q z => by rw [el_no hnm] at z; cases z))
    · skip
      show AW g _ 67 (36, [some (.ref m), some (.int (nI t)), some (.int (nI p)), some (.int (nI e)), some (.int (nI (μ 1 p))), none, none, none, none], [.int (nI e)]) σ _
      refine aw_run 3 (F' := (41, [some (.ref m), some (.int (nI t)), some (.int (nI p)), some (.int (nI e)), some (.int (nI (μ 1 p))), some (.int (nI e)), none, none, none], [.int (nI e), .int (nI e)])) rfl ?_
      refine an_cge rfl (by omega) (by omega) (fun h7 => ?_) (fun h7 => ?_)
      · refine aw_run 1 (F' := (57, [some (.ref m), some (.int (nI t)), some (.int (nI p)), some (.int (nI e)), some (.int (nI (μ 1 p))), some (.int (nI e)), none, none, none], [.int (nI 0)])) rfl ?_
        exact aw_iret rfl ⟨_, rfl, rfl⟩ (gF (fun G v q z => by rw [el_no (nm_no hz)] at z; cases z))
      · omega
  | false =>
    refine aw_run 1 (F' := (1, [some (.ref m), none, none, none, none, none, none, none, none], [.ref m])) rfl ?_
    refine aw_get rfl hM.o rfl ?_
    rw [show μ 17 0 = t + 1 from hO]
    refine aw_run 2 (F' := (6, [some (.ref m), none, none, none, none, none, none, none, none], [.int (nI (t + 1) - nI 1)])) rfl ?_
    rw [nI_sub (by omega)]
    rw [show (t + 1) - 1 = t from rfl]
    refine aw_run 2 (F' := (8, [some (.ref m), some (.int (nI t)), none, none, none, none, none, none, none], [.ref m])) rfl ?_
    refine aw_get rfl hM.o rfl ?_
    refine aw_run 1 (F' := (12, [some (.ref m), some (.int (nI t)), none, none, none, none, none, none, none], [.int (nI t), .ref (m + 13)])) rfl ?_
    refine ms_ild hM rfl (k := 18) (n := 20) (by decide) (by omega) ?_
    rw [show μ 18 t = p from hp]
    refine aw_run 2 (F' := (15, [some (.ref m), some (.int (nI t)), some (.int (nI p)), none, none, none, none, none, none], [.ref m])) rfl ?_
    refine aw_get rfl hM.o rfl ?_
    refine aw_run 1 (F' := (19, [some (.ref m), some (.int (nI t)), some (.int (nI p)), none, none, none, none, none, none], [.int (nI t), .ref (m + 14)])) rfl ?_
    refine ms_ild hM rfl (k := 19) (n := 20) (by decide) (by omega) ?_
    rw [show μ 19 t = e from hE]
    refine aw_run 3 (F' := (23, [some (.ref m), some (.int (nI t)), some (.int (nI p)), some (.int (nI e)), none, none, none, none, none], [.int (nI p), .ref m])) rfl ?_
    refine aw_v [.ref m, .int (nI p)] [] rfl (by decide) rfl hM.o rfl rfl (Nat.le_of_ble_eq_true rfl) (Nat.le_of_ble_eq_true rfl) ?_
    have hB2 := hM.by (i := p) (by omega)
    refine m_at hM (by omega) ?_
    show AW g _ 67 (26, [some (.ref m), some (.int (nI t)), some (.int (nI p)), some (.int (nI e)), none, none, none, none, none], [.int (nI (μ 1 p))]) σ _
    refine aw_run 5 (F' := (32, [some (.ref m), some (.int (nI t)), some (.int (nI p)), some (.int (nI e)), some (.int (nI (μ 1 p))), none, none, none, none], [.int (nI p + nI 1), .ref m])) rfl ?_
    rw [nI_add]
    refine aw_run 1 (F' := (33, [some (.ref m), some (.int (nI t)), some (.int (nI p)), some (.int (nI e)), some (.int (nI (μ 1 p))), none, none, none, none], [.int (nI e), .int (nI (p + 1)), .ref m])) rfl ?_
    refine aw_v [.ref m, .int (nI (p + 1)), .int (nI e)] [] rfl (by decide) rfl hM.o rfl rfl (Nat.le_of_ble_eq_true rfl) (Nat.le_of_ble_eq_true rfl) ?_
    refine m_ne hM (by omega) he (fun s hs1 hs2 => ?_) (fun hz => ?_)
    · have hs3 := hs1.1
      show AW g _ 67 (36, [some (.ref m), some (.int (nI t)), some (.int (nI p)), some (.int (nI e)), some (.int (nI (μ 1 p))), none, none, none, none], [.int (nI s)]) σ _
      refine aw_run 3 (F' := (41, [some (.ref m), some (.int (nI t)), some (.int (nI p)), some (.int (nI e)), some (.int (nI (μ 1 p))), some (.int (nI s)), none, none, none], [.int (nI e), .int (nI s)])) rfl ?_
      refine an_cge rfl (by omega) (by omega) (fun h1 => ?_) (fun h1 => ?_)
      · omega
      · refine aw_run 4 (F' := (48, [some (.ref m), some (.int (nI t)), some (.int (nI p)), some (.int (nI e)), some (.int (nI (μ 1 p))), some (.int (nI s)), none, none, none], [.int (nI p + nI 1), .ref m])) rfl ?_
        rw [nI_add]
        refine aw_run 1 (F' := (50, [some (.ref m), some (.int (nI t)), some (.int (nI p)), some (.int (nI e)), some (.int (nI (μ 1 p))), some (.int (nI s)), none, none, none], [.int (nI s), .int (nI (p + 1)), .ref m])) rfl ?_
        refine aw_v [.ref m, .int (nI (p + 1)), .int (nI s)] [] rfl (by decide) rfl hM.o rfl rfl (Nat.le_of_ble_eq_true rfl) (Nat.le_of_ble_eq_true rfl) ?_
        refine m_txt hM (by omega) (by omega) ?_
        by_cases htx : sp_tx (μ 1) (s - (p + 1)) (p + 1) s = true
        · rw [if_pos htx]
          have hnm : sp_nm (μ 1) (p + 1) e = some s := by rw [nm_at hs2 hs1, if_pos htx]
          show AW g _ 67 (53, [some (.ref m), some (.int (nI t)), some (.int (nI p)), some (.int (nI e)), some (.int (nI (μ 1 p))), some (.int (nI s)), none, none, none], [.int (nI 1)]) σ _
          refine an_zne rfl (by omega) (fun _ => ?_) (fun z => absurd z (by omega))
          refine aw_run 1 (F' := (59, [some (.ref m), some (.int (nI t)), some (.int (nI p)), some (.int (nI e)), some (.int (nI (μ 1 p))), some (.int (nI s)), none, none, none], [.ref m])) rfl ?_
          refine aw_get rfl hM.o rfl ?_
          refine aw_run 1 (F' := (63, [some (.ref m), some (.int (nI t)), some (.int (nI p)), some (.int (nI e)), some (.int (nI (μ 1 p))), some (.int (nI s)), none, none, none], [.int (nI t), .ref (m + 17)])) rfl ?_
          refine ms_zld hM rfl (k := 22) (n := 20) (by decide) (by omega) ?_
          rw [show μ 22 t = 0 from hR]
          refine an_zeq rfl (by omega) (fun _ => ?_) (fun z => absurd z (by omega))
          refine aw_run 4 (F' := (89, [some (.ref m), some (.int (nI t)), some (.int (nI p)), some (.int (nI e)), some (.int (nI (μ 1 p))), some (.int (nI s)), none, none, none], [.int (nI p + nI 1), .ref m])) rfl ?_
          rw [nI_add]
          refine aw_run 1 (F' := (90, [some (.ref m), some (.int (nI t)), some (.int (nI p)), some (.int (nI e)), some (.int (nI (μ 1 p))), some (.int (nI s)), none, none, none], [.ref m, .int (nI (p + 1)), .ref m])) rfl ?_
          refine aw_get rfl hM.o rfl ?_
          refine aw_run 1 (F' := (94, [some (.ref m), some (.int (nI t)), some (.int (nI p)), some (.int (nI e)), some (.int (nI (μ 1 p))), some (.int (nI s)), none, none, none], [.int (nI t), .ref (m + 15), .int (nI (p + 1)), .ref m])) rfl ?_
          refine ms_ild hM rfl (k := 20) (n := 20) (by decide) (by omega) ?_
          rw [show μ 20 t = st0 from hB]
          refine aw_run 1 (F' := (96, [some (.ref m), some (.int (nI t)), some (.int (nI p)), some (.int (nI e)), some (.int (nI (μ 1 p))), some (.int (nI s)), none, none, none], [.int (nI p), .int (nI st0), .int (nI (p + 1)), .ref m])) rfl ?_
          refine aw_v [.ref m, .int (nI (p + 1)), .int (nI st0), .int (nI p)] [] rfl (by decide) rfl hM.o rfl rfl (Nat.le_of_ble_eq_true rfl) (Nat.le_of_ble_eq_true rfl) ?_
          refine m_thr hM hs1 (by omega) (by omega) hly (fun y => ?_) (fun y => ?_)
          · skip
            show AW g _ 67 (99, [some (.ref m), some (.int (nI t)), some (.int (nI p)), some (.int (nI e)), some (.int (nI (μ 1 p))), some (.int (nI s)), none, none, none], [.int (nI 0)]) σ _
            refine an_zne rfl (by omega) (fun z => absurd z (by omega)) (fun _ => ?_)
            refine aw_run 4 (F' := (111, [some (.ref m), some (.int (nI t)), some (.int (nI p)), some (.int (nI e)), some (.int (nI (μ 1 p))), some (.int (nI s)), some (.int (nI 1)), none, none], [.int (nI 1)])) rfl ?_
            refine an_zne rfl (by omega) (fun _ => ?_) (fun z => absurd z (by omega))
            refine aw_run 1 (F' := (117, [some (.ref m), some (.int (nI t)), some (.int (nI p)), some (.int (nI e)), some (.int (nI (μ 1 p))), some (.int (nI s)), some (.int (nI 1)), none, none], [.ref m])) rfl ?_
            refine aw_get rfl hM.o rfl ?_
            refine aw_run 2 (F' := (122, [some (.ref m), some (.int (nI t)), some (.int (nI p)), some (.int (nI e)), some (.int (nI (μ 1 p))), some (.int (nI s)), some (.int (nI 1)), none, none], [.int (nI t), .ref (m + 18), .int (nI t), .ref (m + 18)])) rfl ?_
            refine ms_ild hM rfl (k := 23) (n := 20) (by decide) (by omega) ?_
            rw [show μ 23 t = seen.length from hC]
            refine aw_run 2 (F' := (125, [some (.ref m), some (.int (nI t)), some (.int (nI p)), some (.int (nI e)), some (.int (nI (μ 1 p))), some (.int (nI s)), some (.int (nI 1)), none, none], [.int (nI seen.length + nI 1), .int (nI t), .ref (m + 18)])) rfl ?_
            rw [nI_add]
            refine ms_ist hM rfl (k := 23) (n := 20) (by decide) (by omega) (fun s1 hM1 => ?_)
            refine aw_run 3 (F' := (130, [some (.ref m), some (.int (nI t)), some (.int (nI p)), some (.int (nI e)), some (.int (nI (μ 1 p))), some (.int (nI s)), some (.int (nI 1)), none, none], [.int (nI s + nI 1)])) rfl ?_
            rw [nI_add]
            refine aw_run 1 (F' := (132, [some (.ref m), some (.int (nI t)), some (.int (nI p)), some (.int (nI e)), some (.int (nI (μ 1 p))), some (.int (nI s)), some (.int (nI 1)), some (.int (nI (s + 1))), none], [])) rfl ?_
            exact gS s hnm y _ hM1
          · skip
            show AW g _ 67 (99, [some (.ref m), some (.int (nI t)), some (.int (nI p)), some (.int (nI e)), some (.int (nI (μ 1 p))), some (.int (nI s)), none, none, none], [.int (nI 1)]) σ _
            refine an_zne rfl (by omega) (fun _ => ?_) (fun z => absurd z (by omega))
            refine aw_run 3 (F' := (111, [some (.ref m), some (.int (nI t)), some (.int (nI p)), some (.int (nI e)), some (.int (nI (μ 1 p))), some (.int (nI s)), some (.int (nI 0)), none, none], [.int (nI 0)])) rfl ?_
            refine an_zne rfl (by omega) (fun z => absurd z (by omega)) (fun _ => ?_)
            refine aw_run 1 (F' := (115, [some (.ref m), some (.int (nI t)), some (.int (nI p)), some (.int (nI e)), some (.int (nI (μ 1 p))), some (.int (nI s)), some (.int (nI 0)), none, none], [.int (nI 0)])) rfl ?_
            exact aw_iret rfl ⟨_, rfl, rfl⟩ (gF (fun G v q z => by rw [el_nm hnm z]; exact y))
        · rw [if_neg htx]
          have hnm : sp_nm (μ 1) (p + 1) e = none := by rw [nm_at hs2 hs1, if_neg htx]
          show AW g _ 67 (53, [some (.ref m), some (.int (nI t)), some (.int (nI p)), some (.int (nI e)), some (.int (nI (μ 1 p))), some (.int (nI s)), none, none, none], [.int (nI 0)]) σ _
          refine an_zne rfl (by omega) (fun z => absurd z (by omega)) (fun _ => ?_)
          refine aw_run 1 (F' := (57, [some (.ref m), some (.int (nI t)), some (.int (nI p)), some (.int (nI e)), some (.int (nI (μ 1 p))), some (.int (nI s)), none, none, none], [.int (nI 0)])) rfl ?_
          exact aw_iret rfl ⟨_, rfl, rfl⟩ (gF (fun G v q z => by rw [el_no hnm] at z; cases z))
    · skip
      show AW g _ 67 (36, [some (.ref m), some (.int (nI t)), some (.int (nI p)), some (.int (nI e)), some (.int (nI (μ 1 p))), none, none, none, none], [.int (nI e)]) σ _
      refine aw_run 3 (F' := (41, [some (.ref m), some (.int (nI t)), some (.int (nI p)), some (.int (nI e)), some (.int (nI (μ 1 p))), some (.int (nI e)), none, none, none], [.int (nI e), .int (nI e)])) rfl ?_
      refine an_cge rfl (by omega) (by omega) (fun h9 => ?_) (fun h9 => ?_)
      · refine aw_run 1 (F' := (57, [some (.ref m), some (.int (nI t)), some (.int (nI p)), some (.int (nI e)), some (.int (nI (μ 1 p))), some (.int (nI e)), none, none, none], [.int (nI 0)])) rfl ?_
        exact aw_iret rfl ⟨_, rfl, rfl⟩ (gF (fun G v q z => by rw [el_no (nm_no hz)] at z; cases z))
      · omega
end P71
