/-! the reference's constructor -/
def inK (m : Nat) (σ σ' : am_H) (k : Nat) (fs : List Value) (N : Nat) : Prop := σ'.1 m = some (.inr (6, fs)) ∧ (∀ a, a < m → σ'.1 a = σ.1 a) ∧ σ'.2.1 = m + 1 + k ∧ σ'.2.2 = σ.2.2 + N ∧ wf σ' ∧ ∀ q ∈ mtb, q.2.1 ≤ k → σ'.1 (m + q.2.1) = some (.inl (q.2.2.1, q.2.2.2, .inl (fun _ => 0)))
theorem inK.step {m k f t n N : Nat} {σ σ1 : am_H} {fs : List Value} (h : inK m σ σ1 k fs N) (hq : (f, k + 1, t, n) ∈ mtb) : inK m σ (am_set (am_psh σ1 (.inl (t, n, .inl (fun _ => 0))) n) m (.inr (6, fs.set f (.ref σ1.2.1)))) (k + 1) (fs.set f (.ref (m + (k + 1)))) (N + n) := by
  obtain ⟨h1, h2, h3, h4, h5, h6⟩ := h
  have hne : m ≠ σ1.2.1 := by omega
  have hc : (am_psh σ1 (.inl (t, n, .inl (fun _ => 0))) n).1 m = some (.inr (6, fs)) := by rw [am_psh_ne _ _ _ hne]; exact h1
  refine ⟨?_, fun a ha => ?_, ?_, ?_, h5.psh.set hc, fun q hq' hle => ?_⟩
  · rw [am_set_same, h3, Nat.add_right_comm m 1 k]
    rfl
  · rw [am_set_ne _ _ (by omega), am_psh_ne _ _ _ (by omega)]
    exact h2 a ha
  · show σ1.2.1 + 1 = _
    omega
  · show σ1.2.2 + n = _
    omega
  · have hb := mtb_ok q hq'
    rw [am_set_ne _ _ (by omega)]
    by_cases e : q.2.1 = k + 1
    · have := mtb_un q hq' _ hq (Or.inl e)
      subst this
      have e2 : m + (k + 1) = σ1.2.1 := by omega
      show (am_psh σ1 (.inl (t, n, .inl (fun _ => 0))) n).1 (m + (k + 1)) = _
      rw [e2, am_psh_same]
    · rw [am_psh_ne _ _ _ (by omega)]
      exact h6 q hq' (by omega)
theorem inK.ms {g : Nat × Nat} {m N : Nat} {σ σ' : am_H} (h : inK m σ σ' 18 (mfl m (fun _ _ => 0)) N) (hg : g.1 ≤ m) : MS g m σ' σ' (fun _ _ => 0) := by
  obtain ⟨h1, h2, h3, h4, h5, h6⟩ := h
  refine ⟨hg, h5, fun _ _ => rfl, rfl, h1, fun q hq => ?_⟩
  have hb := mtb_ok q hq
  refine ⟨fun _ => 0, h6 q hq (by omega), fun i hi => ⟨?_, fun _ => by show (0 : Nat) < 256; decide⟩⟩
  show (0 : Int32) = mval q.2.2.1 0
  unfold mval
  split <;> decide
def mu0 : sp_M := mup (mup (mup (mup (fun _ _ => 0) 1 (2000 * 0) 5) 1 (2000 * 1) 5) 1 (2000 * 2) 5) 1 (2000 * 3) 5
theorem mu0_1 (i : Nat) : mu0 1 i = if i = 0 ∨ i = 2000 ∨ i = 4000 ∨ i = 6000 then 5 else 0 := by
  unfold mu0
  rw [mup_f, mup_f, mup_f, mup_f]
  show (if i = 2000 * 3 then 5 else if i = 2000 * 2 then 5 else if i = 2000 * 1 then 5 else if i = 2000 * 0 then 5 else 0) = _
  by_cases e3 : i = 2000 * 3
  · rw [if_pos e3, if_pos (by omega)]
  rw [if_neg e3]
  by_cases e2 : i = 2000 * 2
  · rw [if_pos e2, if_pos (by omega)]
  rw [if_neg e2]
  by_cases e1 : i = 2000 * 1
  · rw [if_pos e1, if_pos (by omega)]
  rw [if_neg e1]
  by_cases e0 : i = 2000 * 0
  · rw [if_pos e0, if_pos (by omega)]
  rw [if_neg e0, if_neg (by omega)]
theorem mu0_k {k : Nat} (h : k ≠ 1) : mu0 k = fun _ => 0 := by
  unfold mu0
  rw [mup_k _ _ _ h, mup_k _ _ _ h, mup_k _ _ _ h, mup_k _ _ _ h]
theorem RS_0 : RS sp_S0 mu0 := by
  refine ⟨Nat.zero_le _, by rw [mu0_k (by decide)]; rfl, fun i => by rw [mu0_1, if_neg (by omega)]; rfl, fun s hs => ⟨Nat.zero_le _, 5, by omega, ?_⟩, ⟨Nat.zero_le _, by rw [mu0_k (by decide)]; rfl, fun i nm h => by cases h⟩, fun w hw => ⟨Nat.zero_le _, by rw [mu0_k (by decide)]; rfl, fun k x h => by cases h⟩⟩
  have hle : sp_le (mu0 1) (2000 * s) 4 = 5 := by
    have b0 : mu0 1 (2000 * s + 0) = 5 := by rw [mu0_1, if_pos (by omega)]
    have b1 : mu0 1 (2000 * s + 1) = 0 := by rw [mu0_1, if_neg (by omega)]
    have b2 : mu0 1 (2000 * s + 2) = 0 := by rw [mu0_1, if_neg (by omega)]
    have b3 : mu0 1 (2000 * s + 3) = 0 := by rw [mu0_1, if_neg (by omega)]
    simp only [sp_le]
    rw [b0, b1, b2, b3]
  refine Or.inr (Or.inr (Or.inr (Or.inr (Or.inr ⟨Or.inl rfl, by omega, by omega, rfl, ?_⟩))))
  show 2000 * s + 4 = 2000 * s + 5 - 1
  omega
section P95
variable {g : Nat × Nat} {d : Nat} {σ0 σ : am_H} {Q : Option Value → am_H → Prop} {m : Nat} {μ : sp_M}
theorem m_in1 {σ1 : am_H} {k f t n N pc len b len' i : Nat} {fs fs' : List Value} {L : am_L} {ty : ArrayType} {v0 v0' : Value} (hg : g.1 ≤ m) (h : inK m σ σ1 k fs N) (hq : (f, k + 1, t, n) ∈ mtb) (hr1 : am_find (am_code 58) pc = some (.newarray ty, len, v0, t, b)) (hr2 : am_find (am_code 58) (pc + 2) = some (.putfield i, len', v0', 6, f)) (hl : f < fs.length) (hn : narrow (am_ty 6 f) (.ref (m + 1 + k)) = .ref (m + 1 + k)) (hf : fits (am_ty 6 f) (.ref (m + 1 + k)) = true) (hfs : fs' = fs.set f (.ref (m + (k + 1)))) (next : ∀ σ2, inK m σ σ2 (k + 1) fs' (N + n) → AW g d 58 (pc + 5, L, []) σ2 Q) : AW g d 58 (pc, L, [.int (nI n), .ref m]) σ1 Q := by
  have hb : n ≤ 14000 := (mtb_ok _ hq).2.2.1
  refine aw_nwa hr1 (nI_pos (by omega)) (by rw [nI_clamp (by omega)]; omega) ?_
  rw [nI_clamp (by omega)]
  have h3 := h.2.2.1
  have hp : (am_psh σ1 (.inl (t, n, .inl (fun _ => 0))) n).1 m = some (.inr (6, fs)) := by rw [am_psh_ne _ _ _ (by omega)]; exact h.1
  rw [h3]
  refine aw_put hr2 hg hp hl hn hf ?_
  have hs := h.step hq
  rw [h3] at hs
  rw [hfs] at next
  exact next _ hs
/-- the reference's constructor -/
theorem m_init (hg : g.1 ≤ m) (ho : σ.1 m = some (.inr (6, am_def 6))) (hn : σ.2.1 = m + 1) (hwf : wf σ) (hQ : ∀ σ' σ1, (∀ a, a < m → σ1.1 a = σ.1 a) → σ1.2.1 = m + 19 → σ1.2.2 = σ.2.2 + 30142 → MS g m σ1 σ' mu0 → Q none σ') : AW g (d + 1) 58 (0, [some (.ref m), none], []) σ Q := by
  refine aw_run 1 (F' := (1, [some (.ref m), none], [.ref m])) rfl ?_
  refine aw_obj rfl (Nat.le_of_ble_eq_true rfl) (by omega) ?_
  have k0 : inK m σ σ 0 (am_def 6) 0 := ⟨ho, fun _ _ => rfl, hn, rfl, hwf, fun q hq hle => absurd (mtb_ok q hq).1 (by omega)⟩
  refine aw_run 2 (F' := (8, [some (.ref m), none], [.int (nI 14000), .ref m])) rfl ?_
  refine m_in1 (fs' := [.int 0, .ref (m + 1), .int 0, .int 0, .null, .null, .null, .null, .null, .null, .int 0, .null, .null, .int 0, .null, .null, .null, .int 0, .null, .null, .null, .null, .null, .null]) hg k0 (f := 1) (t := 1) (n := 14000) (by decide) rfl rfl (Nat.le_of_ble_eq_true rfl) rfl rfl rfl (fun σ1 k1 => ?_)
  clear k0
  refine aw_run 2 (F' := (16, [some (.ref m), none], [.int (nI 10), .ref m])) rfl ?_
  refine m_in1 (fs' := [.int 0, .ref (m + 1), .int 0, .int 0, .ref (m + 2), .null, .null, .null, .null, .null, .int 0, .null, .null, .int 0, .null, .null, .null, .int 0, .null, .null, .null, .null, .null, .null]) hg k1 (f := 4) (t := 0) (n := 10) (by decide) rfl rfl (Nat.le_of_ble_eq_true rfl) rfl rfl rfl (fun σ2 k2 => ?_)
  clear k1
  refine aw_run 2 (F' := (25, [some (.ref m), none], [.int (nI 2010), .ref m])) rfl ?_
  refine m_in1 (fs' := [.int 0, .ref (m + 1), .int 0, .int 0, .ref (m + 2), .ref (m + 3), .null, .null, .null, .null, .int 0, .null, .null, .int 0, .null, .null, .null, .int 0, .null, .null, .null, .null, .null, .null]) hg k2 (f := 5) (t := 1) (n := 2010) (by decide) rfl rfl (Nat.le_of_ble_eq_true rfl) rfl rfl rfl (fun σ3 k3 => ?_)
  clear k2
  refine aw_run 2 (F' := (32, [some (.ref m), none], [.int (nI 2), .ref m])) rfl ?_
  refine m_in1 (fs' := [.int 0, .ref (m + 1), .int 0, .int 0, .ref (m + 2), .ref (m + 3), .ref (m + 4), .null, .null, .null, .int 0, .null, .null, .int 0, .null, .null, .null, .int 0, .null, .null, .null, .null, .null, .null]) hg k3 (f := 6) (t := 0) (n := 2) (by decide) rfl rfl (Nat.le_of_ble_eq_true rfl) rfl rfl rfl (fun σ4 k4 => ?_)
  clear k3
  refine aw_run 2 (F' := (41, [some (.ref m), none], [.int (nI 1000), .ref m])) rfl ?_
  refine m_in1 (fs' := [.int 0, .ref (m + 1), .int 0, .int 0, .ref (m + 2), .ref (m + 3), .ref (m + 4), .ref (m + 5), .null, .null, .int 0, .null, .null, .int 0, .null, .null, .null, .int 0, .null, .null, .null, .null, .null, .null]) hg k4 (f := 7) (t := 0) (n := 1000) (by decide) rfl rfl (Nat.le_of_ble_eq_true rfl) rfl rfl rfl (fun σ5 k5 => ?_)
  clear k4
  refine aw_run 2 (F' := (50, [some (.ref m), none], [.int (nI 1000), .ref m])) rfl ?_
  refine m_in1 (fs' := [.int 0, .ref (m + 1), .int 0, .int 0, .ref (m + 2), .ref (m + 3), .ref (m + 4), .ref (m + 5), .ref (m + 6), .null, .int 0, .null, .null, .int 0, .null, .null, .null, .int 0, .null, .null, .null, .null, .null, .null]) hg k5 (f := 8) (t := 0) (n := 1000) (by decide) rfl rfl (Nat.le_of_ble_eq_true rfl) rfl rfl rfl (fun σ6 k6 => ?_)
  clear k5
  refine aw_run 2 (F' := (59, [some (.ref m), none], [.int (nI 1000), .ref m])) rfl ?_
  refine m_in1 (fs' := [.int 0, .ref (m + 1), .int 0, .int 0, .ref (m + 2), .ref (m + 3), .ref (m + 4), .ref (m + 5), .ref (m + 6), .ref (m + 7), .int 0, .null, .null, .int 0, .null, .null, .null, .int 0, .null, .null, .null, .null, .null, .null]) hg k6 (f := 9) (t := 0) (n := 1000) (by decide) rfl rfl (Nat.le_of_ble_eq_true rfl) rfl rfl rfl (fun σ7 k7 => ?_)
  clear k6
  refine aw_run 2 (F' := (68, [some (.ref m), none], [.int (nI 1000), .ref m])) rfl ?_
  refine m_in1 (fs' := [.int 0, .ref (m + 1), .int 0, .int 0, .ref (m + 2), .ref (m + 3), .ref (m + 4), .ref (m + 5), .ref (m + 6), .ref (m + 7), .int 0, .ref (m + 8), .null, .int 0, .null, .null, .null, .int 0, .null, .null, .null, .null, .null, .null]) hg k7 (f := 11) (t := 0) (n := 1000) (by decide) rfl rfl (Nat.le_of_ble_eq_true rfl) rfl rfl rfl (fun σ8 k8 => ?_)
  clear k7
  refine aw_run 2 (F' := (77, [some (.ref m), none], [.int (nI 1000), .ref m])) rfl ?_
  refine m_in1 (fs' := [.int 0, .ref (m + 1), .int 0, .int 0, .ref (m + 2), .ref (m + 3), .ref (m + 4), .ref (m + 5), .ref (m + 6), .ref (m + 7), .int 0, .ref (m + 8), .ref (m + 9), .int 0, .null, .null, .null, .int 0, .null, .null, .null, .null, .null, .null]) hg k8 (f := 12) (t := 0) (n := 1000) (by decide) rfl rfl (Nat.le_of_ble_eq_true rfl) rfl rfl rfl (fun σ9 k9 => ?_)
  clear k8
  refine aw_run 2 (F' := (86, [some (.ref m), none], [.int (nI 3000), .ref m])) rfl ?_
  refine m_in1 (fs' := [.int 0, .ref (m + 1), .int 0, .int 0, .ref (m + 2), .ref (m + 3), .ref (m + 4), .ref (m + 5), .ref (m + 6), .ref (m + 7), .int 0, .ref (m + 8), .ref (m + 9), .int 0, .ref (m + 10), .null, .null, .int 0, .null, .null, .null, .null, .null, .null]) hg k9 (f := 14) (t := 0) (n := 3000) (by decide) rfl rfl (Nat.le_of_ble_eq_true rfl) rfl rfl rfl (fun σ10 k10 => ?_)
  clear k9
  refine aw_run 2 (F' := (95, [some (.ref m), none], [.int (nI 3000), .ref m])) rfl ?_
  refine m_in1 (fs' := [.int 0, .ref (m + 1), .int 0, .int 0, .ref (m + 2), .ref (m + 3), .ref (m + 4), .ref (m + 5), .ref (m + 6), .ref (m + 7), .int 0, .ref (m + 8), .ref (m + 9), .int 0, .ref (m + 10), .ref (m + 11), .null, .int 0, .null, .null, .null, .null, .null, .null]) hg k10 (f := 15) (t := 0) (n := 3000) (by decide) rfl rfl (Nat.le_of_ble_eq_true rfl) rfl rfl rfl (fun σ11 k11 => ?_)
  clear k10
  refine aw_run 2 (F' := (104, [some (.ref m), none], [.int (nI 3000), .ref m])) rfl ?_
  refine m_in1 (fs' := [.int 0, .ref (m + 1), .int 0, .int 0, .ref (m + 2), .ref (m + 3), .ref (m + 4), .ref (m + 5), .ref (m + 6), .ref (m + 7), .int 0, .ref (m + 8), .ref (m + 9), .int 0, .ref (m + 10), .ref (m + 11), .ref (m + 12), .int 0, .null, .null, .null, .null, .null, .null]) hg k11 (f := 16) (t := 0) (n := 3000) (by decide) rfl rfl (Nat.le_of_ble_eq_true rfl) rfl rfl rfl (fun σ12 k12 => ?_)
  clear k11
  refine aw_run 2 (F' := (112, [some (.ref m), none], [.int (nI 20), .ref m])) rfl ?_
  refine m_in1 (fs' := [.int 0, .ref (m + 1), .int 0, .int 0, .ref (m + 2), .ref (m + 3), .ref (m + 4), .ref (m + 5), .ref (m + 6), .ref (m + 7), .int 0, .ref (m + 8), .ref (m + 9), .int 0, .ref (m + 10), .ref (m + 11), .ref (m + 12), .int 0, .ref (m + 13), .null, .null, .null, .null, .null]) hg k12 (f := 18) (t := 0) (n := 20) (by decide) rfl rfl (Nat.le_of_ble_eq_true rfl) rfl rfl rfl (fun σ13 k13 => ?_)
  clear k12
  refine aw_run 2 (F' := (120, [some (.ref m), none], [.int (nI 20), .ref m])) rfl ?_
  refine m_in1 (fs' := [.int 0, .ref (m + 1), .int 0, .int 0, .ref (m + 2), .ref (m + 3), .ref (m + 4), .ref (m + 5), .ref (m + 6), .ref (m + 7), .int 0, .ref (m + 8), .ref (m + 9), .int 0, .ref (m + 10), .ref (m + 11), .ref (m + 12), .int 0, .ref (m + 13), .ref (m + 14), .null, .null, .null, .null]) hg k13 (f := 19) (t := 0) (n := 20) (by decide) rfl rfl (Nat.le_of_ble_eq_true rfl) rfl rfl rfl (fun σ14 k14 => ?_)
  clear k13
  refine aw_run 2 (F' := (128, [some (.ref m), none], [.int (nI 20), .ref m])) rfl ?_
  refine m_in1 (fs' := [.int 0, .ref (m + 1), .int 0, .int 0, .ref (m + 2), .ref (m + 3), .ref (m + 4), .ref (m + 5), .ref (m + 6), .ref (m + 7), .int 0, .ref (m + 8), .ref (m + 9), .int 0, .ref (m + 10), .ref (m + 11), .ref (m + 12), .int 0, .ref (m + 13), .ref (m + 14), .ref (m + 15), .null, .null, .null]) hg k14 (f := 20) (t := 0) (n := 20) (by decide) rfl rfl (Nat.le_of_ble_eq_true rfl) rfl rfl rfl (fun σ15 k15 => ?_)
  clear k14
  refine aw_run 2 (F' := (136, [some (.ref m), none], [.int (nI 20), .ref m])) rfl ?_
  refine m_in1 (fs' := [.int 0, .ref (m + 1), .int 0, .int 0, .ref (m + 2), .ref (m + 3), .ref (m + 4), .ref (m + 5), .ref (m + 6), .ref (m + 7), .int 0, .ref (m + 8), .ref (m + 9), .int 0, .ref (m + 10), .ref (m + 11), .ref (m + 12), .int 0, .ref (m + 13), .ref (m + 14), .ref (m + 15), .ref (m + 16), .null, .null]) hg k15 (f := 21) (t := 0) (n := 20) (by decide) rfl rfl (Nat.le_of_ble_eq_true rfl) rfl rfl rfl (fun σ16 k16 => ?_)
  clear k15
  refine aw_run 2 (F' := (144, [some (.ref m), none], [.int (nI 20), .ref m])) rfl ?_
  refine m_in1 (fs' := [.int 0, .ref (m + 1), .int 0, .int 0, .ref (m + 2), .ref (m + 3), .ref (m + 4), .ref (m + 5), .ref (m + 6), .ref (m + 7), .int 0, .ref (m + 8), .ref (m + 9), .int 0, .ref (m + 10), .ref (m + 11), .ref (m + 12), .int 0, .ref (m + 13), .ref (m + 14), .ref (m + 15), .ref (m + 16), .ref (m + 17), .null]) hg k16 (f := 22) (t := 2) (n := 20) (by decide) rfl rfl (Nat.le_of_ble_eq_true rfl) rfl rfl rfl (fun σ17 k17 => ?_)
  clear k16
  refine aw_run 2 (F' := (152, [some (.ref m), none], [.int (nI 20), .ref m])) rfl ?_
  refine m_in1 (fs' := [.int 0, .ref (m + 1), .int 0, .int 0, .ref (m + 2), .ref (m + 3), .ref (m + 4), .ref (m + 5), .ref (m + 6), .ref (m + 7), .int 0, .ref (m + 8), .ref (m + 9), .int 0, .ref (m + 10), .ref (m + 11), .ref (m + 12), .int 0, .ref (m + 13), .ref (m + 14), .ref (m + 15), .ref (m + 16), .ref (m + 17), .ref (m + 18)]) hg k17 (f := 23) (t := 0) (n := 20) (by decide) rfl rfl (Nat.le_of_ble_eq_true rfl) rfl rfl rfl (fun σ18 k18 => ?_)
  clear k17
  have hM : MS g m σ18 σ18 (fun _ _ => 0) := inK.ms (N := 30142) k18 hg
  have q1 := k18.2.1
  have q2 := k18.2.2.1
  have q3 := k18.2.2.2.1
  refine aw_run 2 (F' := (159, [some (.ref m), some (.int (nI 0))], [])) rfl ?_
  refine aw_run 2 (F' := (161, [some (.ref m), some (.int (nI 0))], [.int (nI 4), .int (nI 0)])) rfl ?_
  refine an_cge rfl (by omega) (by omega) (fun z => absurd z (by omega)) (fun _ => ?_)
  refine aw_run 1 (F' := (165, [some (.ref m), some (.int (nI 0))], [.ref m])) rfl ?_
  refine aw_get rfl hM.o rfl ?_
  refine aw_run 3 (F' := (173, [some (.ref m), some (.int (nI 0))], [.int (nI 2000 * nI 0), .ref (m + 1)])) rfl ?_
  rw [nI_mul]
  refine aw_run 1 (F' := (174, [some (.ref m), some (.int (nI 0))], [.int (nI 5), .int (nI (2000 * 0)), .ref (m + 1)])) rfl ?_
  refine ms_bst hM rfl (k := 1) (n := 14000) (by decide) (by omega) (show vp_nar .byte (nI 5) = sb_b 5 by decide) (show 5 < 256 by decide) (fun s1 hM1 => ?_)
  refine aw_run 1 (F' := (178, [some (.ref m), some (.int (nI 0 + nI 1))], [])) rfl ?_
  rw [nI_add]
  refine aw_run 1 (F' := (159, [some (.ref m), some (.int (nI (0 + 1)))], [])) rfl ?_
  show AW g (d + 1) 58 (159, [some (.ref m), some (.int (nI 1))], []) s1 Q
  refine aw_run 2 (F' := (161, [some (.ref m), some (.int (nI 1))], [.int (nI 4), .int (nI 1)])) rfl ?_
  refine an_cge rfl (by omega) (by omega) (fun z => absurd z (by omega)) (fun _ => ?_)
  refine aw_run 1 (F' := (165, [some (.ref m), some (.int (nI 1))], [.ref m])) rfl ?_
  refine aw_get rfl hM1.o rfl ?_
  refine aw_run 3 (F' := (173, [some (.ref m), some (.int (nI 1))], [.int (nI 2000 * nI 1), .ref (m + 1)])) rfl ?_
  rw [nI_mul]
  refine aw_run 1 (F' := (174, [some (.ref m), some (.int (nI 1))], [.int (nI 5), .int (nI (2000 * 1)), .ref (m + 1)])) rfl ?_
  refine ms_bst hM1 rfl (k := 1) (n := 14000) (by decide) (by omega) (show vp_nar .byte (nI 5) = sb_b 5 by decide) (show 5 < 256 by decide) (fun s2 hM2 => ?_)
  refine aw_run 1 (F' := (178, [some (.ref m), some (.int (nI 1 + nI 1))], [])) rfl ?_
  rw [nI_add]
  refine aw_run 1 (F' := (159, [some (.ref m), some (.int (nI (1 + 1)))], [])) rfl ?_
  show AW g (d + 1) 58 (159, [some (.ref m), some (.int (nI 2))], []) s2 Q
  refine aw_run 2 (F' := (161, [some (.ref m), some (.int (nI 2))], [.int (nI 4), .int (nI 2)])) rfl ?_
  refine an_cge rfl (by omega) (by omega) (fun z => absurd z (by omega)) (fun _ => ?_)
  refine aw_run 1 (F' := (165, [some (.ref m), some (.int (nI 2))], [.ref m])) rfl ?_
  refine aw_get rfl hM2.o rfl ?_
  refine aw_run 3 (F' := (173, [some (.ref m), some (.int (nI 2))], [.int (nI 2000 * nI 2), .ref (m + 1)])) rfl ?_
  rw [nI_mul]
  refine aw_run 1 (F' := (174, [some (.ref m), some (.int (nI 2))], [.int (nI 5), .int (nI (2000 * 2)), .ref (m + 1)])) rfl ?_
  refine ms_bst hM2 rfl (k := 1) (n := 14000) (by decide) (by omega) (show vp_nar .byte (nI 5) = sb_b 5 by decide) (show 5 < 256 by decide) (fun s3 hM3 => ?_)
  refine aw_run 1 (F' := (178, [some (.ref m), some (.int (nI 2 + nI 1))], [])) rfl ?_
  rw [nI_add]
  refine aw_run 1 (F' := (159, [some (.ref m), some (.int (nI (2 + 1)))], [])) rfl ?_
  show AW g (d + 1) 58 (159, [some (.ref m), some (.int (nI 3))], []) s3 Q
  refine aw_run 2 (F' := (161, [some (.ref m), some (.int (nI 3))], [.int (nI 4), .int (nI 3)])) rfl ?_
  refine an_cge rfl (by omega) (by omega) (fun z => absurd z (by omega)) (fun _ => ?_)
  refine aw_run 1 (F' := (165, [some (.ref m), some (.int (nI 3))], [.ref m])) rfl ?_
  refine aw_get rfl hM3.o rfl ?_
  refine aw_run 3 (F' := (173, [some (.ref m), some (.int (nI 3))], [.int (nI 2000 * nI 3), .ref (m + 1)])) rfl ?_
  rw [nI_mul]
  refine aw_run 1 (F' := (174, [some (.ref m), some (.int (nI 3))], [.int (nI 5), .int (nI (2000 * 3)), .ref (m + 1)])) rfl ?_
  refine ms_bst hM3 rfl (k := 1) (n := 14000) (by decide) (by omega) (show vp_nar .byte (nI 5) = sb_b 5 by decide) (show 5 < 256 by decide) (fun s4 hM4 => ?_)
  refine aw_run 1 (F' := (178, [some (.ref m), some (.int (nI 3 + nI 1))], [])) rfl ?_
  rw [nI_add]
  refine aw_run 1 (F' := (159, [some (.ref m), some (.int (nI (3 + 1)))], [])) rfl ?_
  show AW g (d + 1) 58 (159, [some (.ref m), some (.int (nI 4))], []) s4 Q
  refine aw_run 2 (F' := (161, [some (.ref m), some (.int (nI 4))], [.int (nI 4), .int (nI 4)])) rfl ?_
  refine an_cge rfl (by omega) (by omega) (fun _ => ?_) (fun z => absurd z (by omega))
  exact aw_vret rfl rfl (hQ s4 σ18 q1 q2 q3 hM4)
end P95
