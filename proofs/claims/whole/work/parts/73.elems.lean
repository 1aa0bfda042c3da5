abbrev mKS : List Nat := [17, 18, 19, 20, 21, 22, 23]
/-- the nest that is read now -/
def fr1 (μ : sp_M) (t p e s0 : Nat) (row : Bool) (c : Nat) : Prop := μ 17 0 = t + 1 ∧ μ 18 t = p ∧ μ 19 t = e ∧ μ 20 t = s0 ∧ μ 22 t = (if row = true then 1 else 0) ∧ μ 23 t = c
theorem sp_len_all : ∀ F : sp_F, sp_len F ≤ sp_all F
  | .leaf => Nat.le_refl _
  | .inner _ _ _ c r => by
    have := sp_len_all r
    simp only [sp_len, sp_all]
    omega
/-- what is left below -/
def blw (μ μ' : sp_M) (t : Nat) : Prop := ∀ k ∈ mKS, ∀ j, j < t → k ≠ 17 → μ' k j = μ k j
section P73
variable {g : Nat × Nat} {d : Nat} {σ0 σ : am_H} {Q : Option Value → am_H → Prop} {m : Nat} {μ : sp_M}
theorem m_elm (hM : MS g m σ0 σ μ) {β : Nat → Nat} (hβ : μ 1 = β) {t p e st0 : Nat} {row : Bool} {seen : List sp_V} (hf : fr1 μ t p e st0 row seen.length) (ht : t < 16) (hpe : p < e) (he : e ≤ 14000) (hly : lyF β (sp_ofL seen) row 0 st0 p) (hs : seen.length ≤ 1000) (gF : (∀ E v q, sp_el (sp_nst E β) β (t + 1) p e = some (v, q) → ¬ sp_adm row seen v.1.2.1) → ∀ σ' μ', MS g m σ0 σ' μ' → ag mKS μ μ' → Q (some (.int 0)) σ') (gL : ∀ (v : sp_V) (q : Nat), (∀ G, sp_el G β (t + 1) p e = some (v, q)) → sp_adm row seen v.1.2.1 → ∀ σ', MS g m σ0 σ' (mup (mup μ 23 t (seen.length + 1)) 18 t q) → Q (some (.int 1)) σ') (gO : ∀ (s : Nat) (row' : Bool), sp_nm β (p + 1) e = some s → sp_adm row seen (sp_sub β (p + 1) s) → β p = (if row' = true then 4 else 3) → t + 1 < 16 → 5 ≤ sp_le β (s + 1) 4 → s + 1 + sp_le β (s + 1) 4 ≤ e → β (s + 1 + sp_le β (s + 1) 4 - 1) = 0 → ∀ σ', MS g m σ0 σ' (mup (mop (mup μ 23 t (seen.length + 1)) (s + 1) (sp_le β (s + 1) 4) (if row' = true then 1 else 0)) 18 t (s + 1 + sp_le β (s + 1) 4)) → Q (some (.int 1)) σ') : AW g (d + 4) 67 (0, [some (.ref m), none, none, none, none, none, none, none, none], []) σ Q := by
  subst hβ
  obtain ⟨f1, f2, f3, f4, f5, f6⟩ := hf
  refine m_el1 hM f1 ht f2 f3 f4 f5 f6 hpe he hly hs (fun h => gF (fun E v q z => h _ v q z) _ _ hM ag.rf) (fun s hn ha σ1 hM1 => ?_)
  refine m_el2 hM1 (x6 := 1) f1 ht hpe he hn (fun h => gF (fun E v q z => ?_) _ _ hM1 (ag.up ag.rf (by decide))) (fun v q h σ2 hM2 => ?_) (fun row' k1 k2 k3 k4 k5 σ2 hM2 => ?_)
  · have h' : sp_el (sp_nst E (μ 1)) (μ 1) (t + 1) p e = none := h E
    rw [h'] at z
    cases z
  · have h' : ∀ G, sp_el G (μ 1) (t + 1) p e = some (v, q) := h
    refine gL v q h' ?_ _ hM2
    rw [el_nm hn (h' (fun _ _ _ _ => none))]
    exact ha
  · exact gO s row' hn ha k1 k2 k3 k4 k5 _ hM2
/-- a nest that ends -/
theorem m_pop (hM : MS g m σ0 σ μ) {t e s0 c f n r : Nat} {row : Bool} {x4 : Option Value} (hf : fr1 μ t e e s0 row c) (ht : t < 16) (he : e ≤ 14000) (h : ∀ σ', MS g m σ0 σ' (mup μ 17 0 t) → AW g d 63 (35, [some (.ref m), some (.int (nI f)), some (.int (nI n)), some (.int (nI c)), some (.int (nI t))], []) σ' Q) : AW g d 63 (35, [some (.ref m), some (.int (nI f)), some (.int (nI n)), some (.int (nI r)), x4], []) σ Q := by
  obtain ⟨f1, f2, f3, f4, f5, f6⟩ := hf
  refine aw_run 1 (F' := (36, [some (.ref m), some (.int (nI f)), some (.int (nI n)), some (.int (nI r)), x4], [.ref m])) rfl ?_
  refine aw_get rfl hM.o rfl ?_
  rw [show μ 17 0 = t + 1 from f1]
  refine an_zle rfl (by omega) (fun h1 => ?_) (fun h1 => ?_)
  · omega
  · refine aw_run 1 (F' := (43, [some (.ref m), some (.int (nI f)), some (.int (nI n)), some (.int (nI r)), x4], [.ref m])) rfl ?_
    refine aw_get rfl hM.o rfl ?_
    rw [show μ 17 0 = t + 1 from f1]
    refine aw_run 2 (F' := (48, [some (.ref m), some (.int (nI f)), some (.int (nI n)), some (.int (nI r)), x4], [.int (nI (t + 1) - nI 1)])) rfl ?_
    rw [nI_sub (by omega)]
    rw [show (t + 1) - 1 = t from rfl]
    refine aw_run 2 (F' := (51, [some (.ref m), some (.int (nI f)), some (.int (nI n)), some (.int (nI r)), some (.int (nI t))], [.ref m])) rfl ?_
    refine aw_get rfl hM.o rfl ?_
    refine aw_run 1 (F' := (56, [some (.ref m), some (.int (nI f)), some (.int (nI n)), some (.int (nI r)), some (.int (nI t))], [.int (nI t), .ref (m + 13)])) rfl ?_
    refine ms_ild hM rfl (k := 18) (n := 20) (by decide) (by omega) ?_
    rw [show μ 18 t = e from f2]
    refine aw_run 1 (F' := (58, [some (.ref m), some (.int (nI f)), some (.int (nI n)), some (.int (nI r)), some (.int (nI t))], [.ref m, .int (nI e)])) rfl ?_
    refine aw_get rfl hM.o rfl ?_
    refine aw_run 1 (F' := (63, [some (.ref m), some (.int (nI f)), some (.int (nI n)), some (.int (nI r)), some (.int (nI t))], [.int (nI t), .ref (m + 14), .int (nI e)])) rfl ?_
    refine ms_ild hM rfl (k := 19) (n := 20) (by decide) (by omega) ?_
    rw [show μ 19 t = e from f3]
    refine an_cne rfl (by omega) (by omega) (fun h2 => ?_) (fun h2 => ?_)
    · exact absurd rfl h2
    · refine aw_run 1 (F' := (68, [some (.ref m), some (.int (nI f)), some (.int (nI n)), some (.int (nI r)), some (.int (nI t))], [.ref m])) rfl ?_
      refine aw_get rfl hM.o rfl ?_
      refine aw_run 1 (F' := (73, [some (.ref m), some (.int (nI f)), some (.int (nI n)), some (.int (nI r)), some (.int (nI t))], [.int (nI t), .ref (m + 18)])) rfl ?_
      refine ms_ild hM rfl (k := 23) (n := 20) (by decide) (by omega) ?_
      rw [show μ 23 t = c from f6]
      refine aw_run 3 (F' := (77, [some (.ref m), some (.int (nI f)), some (.int (nI n)), some (.int (nI c)), some (.int (nI t))], [.ref m, .ref m])) rfl ?_
      refine aw_get rfl hM.o rfl ?_
      rw [show μ 17 0 = t + 1 from f1]
      refine aw_run 2 (F' := (82, [some (.ref m), some (.int (nI f)), some (.int (nI n)), some (.int (nI c)), some (.int (nI t))], [.int (nI (t + 1) - nI 1), .ref m])) rfl ?_
      rw [nI_sub (by omega)]
      rw [show (t + 1) - 1 = t from rfl]
      refine ms_put hM rfl (by decide) (fun s1 hM1 => ?_)
      refine aw_run 2 (F' := (35, [some (.ref m), some (.int (nI f)), some (.int (nI n)), some (.int (nI c)), some (.int (nI t))], [])) rfl ?_
      exact h _ hM1
/-- an element at the head of the loop -/
theorem m_hd (hM : MS g m σ0 σ μ) {t p e s0 c f n r : Nat} {row : Bool} {x4 : Option Value} (hf : fr1 μ t p e s0 row c) (ht : t < 16) (hpe : p < e) (he : e ≤ 14000) (h : AW g d 67 (0, [some (.ref m), none, none, none, none, none, none, none, none], []) σ (fun v σ' => AW g (d + 1) 63 (92, [some (.ref m), some (.int (nI f)), some (.int (nI n)), some (.int (nI r)), some (.int (nI t))], v.toList ++ []) σ' Q)) : AW g (d + 1) 63 (35, [some (.ref m), some (.int (nI f)), some (.int (nI n)), some (.int (nI r)), x4], []) σ Q := by
  obtain ⟨f1, f2, f3, f4, f5, f6⟩ := hf
  refine aw_run 1 (F' := (36, [some (.ref m), some (.int (nI f)), some (.int (nI n)), some (.int (nI r)), x4], [.ref m])) rfl ?_
  refine aw_get rfl hM.o rfl ?_
  rw [show μ 17 0 = t + 1 from f1]
  refine an_zle rfl (by omega) (fun h1 => ?_) (fun h1 => ?_)
  · omega
  · refine aw_run 1 (F' := (43, [some (.ref m), some (.int (nI f)), some (.int (nI n)), some (.int (nI r)), x4], [.ref m])) rfl ?_
    refine aw_get rfl hM.o rfl ?_
    rw [show μ 17 0 = t + 1 from f1]
    refine aw_run 2 (F' := (48, [some (.ref m), some (.int (nI f)), some (.int (nI n)), some (.int (nI r)), x4], [.int (nI (t + 1) - nI 1)])) rfl ?_
    rw [nI_sub (by omega)]
    rw [show (t + 1) - 1 = t from rfl]
    refine aw_run 2 (F' := (51, [some (.ref m), some (.int (nI f)), some (.int (nI n)), some (.int (nI r)), some (.int (nI t))], [.ref m])) rfl ?_
    refine aw_get rfl hM.o rfl ?_
    refine aw_run 1 (F' := (56, [some (.ref m), some (.int (nI f)), some (.int (nI n)), some (.int (nI r)), some (.int (nI t))], [.int (nI t), .ref (m + 13)])) rfl ?_
    refine ms_ild hM rfl (k := 18) (n := 20) (by decide) (by omega) ?_
    rw [show μ 18 t = p from f2]
    refine aw_run 1 (F' := (58, [some (.ref m), some (.int (nI f)), some (.int (nI n)), some (.int (nI r)), some (.int (nI t))], [.ref m, .int (nI p)])) rfl ?_
    refine aw_get rfl hM.o rfl ?_
    refine aw_run 1 (F' := (63, [some (.ref m), some (.int (nI f)), some (.int (nI n)), some (.int (nI r)), some (.int (nI t))], [.int (nI t), .ref (m + 14), .int (nI p)])) rfl ?_
    refine ms_ild hM rfl (k := 19) (n := 20) (by decide) (by omega) ?_
    rw [show μ 19 t = e from f3]
    refine an_cne rfl (by omega) (by omega) (fun h2 => ?_) (fun h2 => ?_)
    · refine aw_run 1 (F' := (89, [some (.ref m), some (.int (nI f)), some (.int (nI n)), some (.int (nI r)), some (.int (nI t))], [.ref m])) rfl ?_
      refine aw_v [.ref m] [] rfl (by decide) rfl hM.o rfl rfl (Nat.le_of_ble_eq_true rfl) (Nat.le_of_ble_eq_true rfl) ?_
      exact h
    · omega
/-- the loop over a nest's elements, and those in them -/
theorem m_es {β : Nat → Nat} {f n0 : Nat} : ∀ (n : Nat) (σ : am_H) (μ : sp_M) (t p e s0 r : Nat) (row : Bool) (seen : List sp_V) (x4 : Option Value), MS g m σ0 σ μ → μ 1 = β → fr1 μ t p e s0 row seen.length → t < 16 → p ≤ e → e ≤ 14000 → e ≤ s0 + 2000 → e - p < n → lyF β (sp_ofL seen) row 0 s0 p →
    (sp_es β n (t + 1) row p e seen = none → ∀ σ' μ', MS g m σ0 σ' μ' → ag mKS μ μ' → Q (some (.int (-1))) σ') →
    (∀ l, sp_es β n (t + 1) row p e seen = some l → ∀ σ' μ' (r' : Nat) (x4' : Option Value), MS g m σ0 σ' μ' → ag mKS μ μ' → fr1 μ' t e e s0 row l.length → blw μ μ' t → AW g (d + 5) 63 (35, [some (.ref m), some (.int (nI f)), some (.int (nI n0)), some (.int (nI r')), x4'], []) σ' Q) →
    AW g (d + 5) 63 (35, [some (.ref m), some (.int (nI f)), some (.int (nI n0)), some (.int (nI r)), x4], []) σ Q := by
  intro n
  induction n with
  | zero => intro σ μ t p e s0 r row seen x4 _ _ _ _ _ _ _ hn; omega
  | succ n ih =>
    intro σ μ t p e s0 r row seen x4 hM hβ hf ht hpe he hw hn hly hN hS
    have hst := hly.le
    have hlen : seen.length ≤ 1000 := by
      have h1 := hly.all
      have h2 := sp_len_all (sp_ofL seen)
      rw [sp_len_ofL] at h2
      omega
    by_cases hpe' : p = e
    · subst hpe'
      have e1 : sp_es β (n + 1) (t + 1) row p p seen = some seen := by simp [sp_es]
      exact hS seen e1 σ μ r x4 hM ag.rf hf (fun _ _ _ _ _ => rfl)
    · have hp2 : p < e := by omega
      have eE : sp_es β (n + 1) (t + 1) row p e seen = (match sp_el (sp_nst (sp_es β n) β) β (t + 1) p e with
        | none => none
        | some (v, q) => if sp_adm row seen v.1.2.1 then sp_es β n (t + 1) row q e (seen ++ [v]) else none) := by
        simp only [sp_es, if_neg (show ¬ e ≤ p by omega)]
        rfl
      refine m_hd hM hf ht hp2 he ?_
      refine m_elm hM hβ hf ht hp2 he hly hlen (fun hfail σ1 μ1 hM1 hag => ?_) (fun v q hv ha σ1 hM1 => ?_) (fun s row' hnm ha hk k2 k3 k4 k5 σ1 hM1 => ?_)
      · show AW g (d + 5) 63 (92, [some (.ref m), some (.int (nI f)), some (.int (nI n0)), some (.int (nI r)), some (.int (nI t))], [.int (nI 0)]) σ1 Q
        refine an_zne rfl (by omega) (fun z => absurd rfl z) (fun _ => ?_)
        refine aw_run 1 (F' := (96, [some (.ref m), some (.int (nI f)), some (.int (nI n0)), some (.int (nI r)), some (.int (nI t))], [.int (-1)])) rfl ?_
        refine aw_iret rfl ⟨_, rfl, rfl⟩ (hN ?_ σ1 μ1 hM1 hag)
        rw [eE]
        split
        · rfl
        · rename_i v q hv
          exact if_neg (hfail _ v q hv)
      · show AW g (d + 5) 63 (92, [some (.ref m), some (.int (nI f)), some (.int (nI n0)), some (.int (nI r)), some (.int (nI t))], [.int (nI 1)]) σ1 Q
        refine an_zne rfl (by omega) (fun _ => ?_) (fun z => absurd z (by omega))
        refine aw_run 1 (F' := (35, [some (.ref m), some (.int (nI f)), some (.int (nI n0)), some (.int (nI r)), some (.int (nI t))], [])) rfl ?_
        obtain ⟨f1, f2, f3, f4, f5, f6⟩ := hf
        have hvE := hv (sp_nst (sp_es β n) β)
        rw [hvE] at eE
        simp only [if_pos ha] at eE
        obtain ⟨s, b1, b2, b3, b4, b5, b6⟩ := el_ly (es_ly β n) hvE
        have b7 := b1.1
        have b8 := ly1.le b5
        have hag : ag mKS μ (mup (mup μ 23 t (seen.length + 1)) 18 t q) := ag.up (ag.up ag.rf (by decide)) (by decide)
        have hbl : blw μ (mup (mup μ 23 t (seen.length + 1)) 18 t q) t := by
          intro k hk j hj _
          have hj2 : j ≠ t := by omega
          simp [mup, hj2]
        refine ih σ1 _ t q e s0 r row (seen ++ [v]) _ hM1 (by rw [hag 1 (by decide)]; exact hβ) ⟨f1, mup_s _ _ _ _, f3, f4, f5, by simp [mup]⟩ ht b6 he hw (by omega) ?_ (fun z σ' μ' hM' hag' => hN (by rw [eE]; exact z) σ' μ' hM' (hag.tr hag')) (fun l z σ' μ' r' x4' hM' hag' hf' hb' => hS l (by rw [eE]; exact z) σ' μ' r' x4' hM' (hag.tr hag') hf' (fun k hk j hj hk2 => (hb' k hk j hj hk2).trans (hbl k hk j hj hk2)))
        refine lyF.app hly ?_
        exact ⟨s, q, b1, by omega, b3, b4, fun hr => by subst hr; have ha2 : v.1.2.1 = sp_dec seen.length := ha; simpa using ha2, b5, Nat.le_refl _, rfl⟩
      · show AW g (d + 5) 63 (92, [some (.ref m), some (.int (nI f)), some (.int (nI n0)), some (.int (nI r)), some (.int (nI t))], [.int (nI 1)]) σ1 Q
        refine an_zne rfl (by omega) (fun _ => ?_) (fun z => absurd z (by omega))
        refine aw_run 1 (F' := (35, [some (.ref m), some (.int (nI f)), some (.int (nI n0)), some (.int (nI r)), some (.int (nI t))], [])) rfl ?_
        obtain ⟨f1, f2, f3, f4, f5, f6⟩ := hf
        obtain ⟨a1, a2, a3, a4, a5⟩ := sp_nm_of hnm
        generalize hU : sp_le β (s + 1) 4 = u at k3 k4 k5 hM1
        have hel : sp_el (sp_nst (sp_es β n) β) β (t + 1) p e = (match sp_es β n (t + 1 + 1) row' (s + 1 + 4) (s + 1 + u - 1) [] with
          | none => none
          | some l => some (((if row' = true then 4 else 3, sp_sub β (p + 1) s, 0, []), sp_ofL l), s + 1 + u)) := by
          rw [el_n row' hp2 hnm hk, nst_at (by omega) (by omega) (by omega) (by rw [hU]; exact k5), hU]
          cases sp_es β n (t + 1 + 1) row' (s + 1 + 4) (s + 1 + u - 1) [] <;> rfl
        generalize hμ1 : mup (mop (mup μ 23 t (seen.length + 1)) (s + 1) u (if row' = true then 1 else 0)) 18 t (s + 1 + u) = μ1 at hM1
        have hag : ag mKS μ μ1 := by
          rw [← hμ1]
          exact ag.up (ag.up (ag.up (ag.up (ag.up (ag.up (ag.up (ag.up ag.rf (by decide)) (by decide)) (by decide)) (by decide)) (by decide)) (by decide)) (by decide)) (by decide)
        have q1 : μ1 17 0 = t + 1 + 1 := by rw [← hμ1]; simp [mop, mup, f1]
        have q2 : μ1 18 (t + 1) = s + 1 + 4 := by rw [← hμ1]; simp [mop, mup, f1]
        have q3 : μ1 19 (t + 1) = s + 1 + u - 1 := by rw [← hμ1]; simp [mop, mup, f1]
        have q4 : μ1 20 (t + 1) = s + 1 + 4 := by rw [← hμ1]; simp [mop, mup, f1]
        have q5 : μ1 22 (t + 1) = (if row' = true then 1 else 0) := by rw [← hμ1]; simp [mop, mup, f1]
        have q6 : μ1 23 (t + 1) = 0 := by rw [← hμ1]; simp [mop, mup, f1]
        have w1 : μ1 18 t = s + 1 + u := by rw [← hμ1]; simp [mop, mup, f1]
        have w2 : μ1 19 t = e := by rw [← hμ1]; simp [mop, mup, f1, f3]
        have w3 : μ1 20 t = s0 := by rw [← hμ1]; simp [mop, mup, f1, f4]
        have w4 : μ1 22 t = (if row = true then 1 else 0) := by rw [← hμ1]; simp [mop, mup, f1, f5]
        have w5 : μ1 23 t = seen.length + 1 := by rw [← hμ1]; simp [mop, mup, f1]
        have hbl : blw μ μ1 t := by
          intro k hk j hj hk17
          have hj2 : j ≠ t := by omega
          have hj3 : j ≠ t + 1 := by omega
          rw [← hμ1]
          simp [mop, mup, f1, hj2, hj3, hk17]
        clear hμ1
        refine ih σ1 μ1 (t + 1) (s + 1 + 4) (s + 1 + u - 1) (s + 1 + 4) r row' [] _ hM1 (by rw [hag 1 (by decide)]; exact hβ) ⟨q1, q2, q3, q4, q5, q6⟩ k2 (by omega) (by omega) (by omega) (by omega) rfl (fun z σ' μ' hM' hag' => hN (by rw [eE, hel, z]) σ' μ' hM' (hag.tr hag')) (fun l z σ' μ' r' x4' hM' hag' hf' hb' => ?_)
        refine m_pop hM' hf' k2 (by omega) (fun σ2 hM2 => ?_)
        obtain ⟨v, hv⟩ : ∃ v : sp_V, v = ((if row' = true then 4 else 3, sp_sub β (p + 1) s, 0, []), sp_ofL l) := ⟨_, rfl⟩
        have hvE : sp_el (sp_nst (sp_es β n) β) β (t + 1) p e = some (v, s + 1 + u) := by rw [hel, z, hv]
        have ha' : sp_adm row seen v.1.2.1 := by rw [hv]; exact ha
        rw [hvE] at eE
        simp only [if_pos ha'] at eE
        obtain ⟨s', b1, b2, b3, b4, b5, b6⟩ := el_ly (es_ly β n) hvE
        have hag2 : ag mKS μ (mup μ' 17 0 (t + 1)) := ag.up (hag.tr hag') (by decide)
        have hb2 : ∀ k ∈ mKS, ∀ j, j < t + 1 → k ≠ 17 → mup μ' 17 0 (t + 1) k j = μ1 k j := by
          intro k hk j hj hk17
          rw [mup_k μ' 0 (t + 1) hk17]
          exact hb' k hk j hj hk17
        refine ih σ2 _ t (s + 1 + u) e s0 l.length row (seen ++ [v]) _ hM2 (by rw [hag2 1 (by decide)]; exact hβ) ⟨mup_s _ _ _ _, (hb2 18 (by decide) t (by omega) (by decide)).trans w1, (hb2 19 (by decide) t (by omega) (by decide)).trans w2, (hb2 20 (by decide) t (by omega) (by decide)).trans w3, (hb2 22 (by decide) t (by omega) (by decide)).trans w4, ((hb2 23 (by decide) t (by omega) (by decide)).trans w5).trans (by simp)⟩ ht (by omega) he hw (by omega) ?_ (fun z2 σ3 μ3 hM3 hag3 => hN (by rw [eE]; exact z2) σ3 μ3 hM3 (hag2.tr hag3)) (fun l2 z2 σ3 μ3 r3 x3 hM3 hag3 hf3 hb3 => hS l2 (by rw [eE]; exact z2) σ3 μ3 r3 x3 hM3 (hag2.tr hag3) hf3 (fun k hk j hj hk2 => ((hb3 k hk j hj hk2).trans (hb2 k hk j (by omega) hk2)).trans (hbl k hk j hj hk2)))
        refine lyF.app hly ?_
        exact ⟨s', s + 1 + u, b1, by have := ly1.le b5; omega, b3, b4, fun hr => by subst hr; have ha2 : v.1.2.1 = sp_dec seen.length := ha'; simpa using ha2, b5, Nat.le_refl _, rfl⟩
end P73
