theorem doc_sf (β : Nat → Nat) (B n : Nat) : sp_doc (fun i => β (B + i)) n = (match sp_nst (sp_es β 2000) β 1 false B (B + n) with
    | none => none
    | some (c, q) => if q = B + n then some c else none) := by
  have h := nst_sf (β := β) (es_sf β B 2000) 1 false 0 n
  rw [Nat.add_zero] at h
  unfold sp_doc
  rw [h]
  generalize sp_nst (sp_es (fun i => β (B + i)) 2000) (fun i => β (B + i)) 1 false 0 n = o
  cases o with
  | none => rfl
  | some z =>
    obtain ⟨c, q⟩ := z
    simp only [Option.map_some]
    by_cases e : q = n
    · rw [if_pos e, if_pos (by omega)]
    · rw [if_neg e, if_neg (by omega)]
section P74
variable {g : Nat × Nat} {d : Nat} {σ0 σ : am_H} {Q : Option Value → am_H → Prop} {m : Nat} {μ : sp_M}
/-- elements -/
theorem m_elsN (N : Nat) (hM : MS g m σ0 σ μ) {B n : Nat} (hB : B + 2000 ≤ 14000) (hn : n ≤ 2000) (hN : 2000 ≤ N) (gN : (match sp_nst (sp_es (μ 1) N) (μ 1) 1 false B (B + n) with
    | none => none
    | some (c, q) => if q = B + n then some c else none) = none → ∀ σ' μ', MS g m σ0 σ' μ' → ag mKS μ μ' → Q (some (.int (-1))) σ') (gS : ∀ c, (match sp_nst (sp_es (μ 1) N) (μ 1) 1 false B (B + n) with
    | none => none
    | some (c, q) => if q = B + n then some c else none) = some c → ∀ σ' μ', MS g m σ0 σ' μ' → ag mKS μ μ' → Q (some (.int (nI (sp_len c)))) σ') : AW g (d + 5) 63 (0, [some (.ref m), some (.int (nI B)), some (.int (nI n)), none, none], []) σ Q := by
  refine aw_run 2 (F' := (2, [some (.ref m), some (.int (nI B)), some (.int (nI n)), none, none], [.int (nI 0), .ref m])) rfl ?_
  refine ms_put hM rfl (by decide) (fun s1 hM1 => ?_)
  refine aw_run 2 (F' := (7, [some (.ref m), some (.int (nI B)), some (.int (nI n)), none, none], [.int (nI 5), .int (nI n)])) rfl ?_
  refine an_clt rfl (by omega) (by omega) (fun h1 => ?_) (fun h1 => ?_)
  · refine aw_run 1 (F' := (32, [some (.ref m), some (.int (nI B)), some (.int (nI n)), none, none], [.int ((-1))])) rfl ?_
    exact aw_iret rfl ⟨_, rfl, rfl⟩ (gN (by rw [show sp_nst (sp_es (μ 1) N) (μ 1) 1 false B (B + n) = none from if_pos (Or.inr (by omega))]) _ _ hM1 (ag.up ag.rf (by decide)))
  · refine aw_run 2 (F' := (12, [some (.ref m), some (.int (nI B)), some (.int (nI n)), none, none], [.int (nI B), .ref m])) rfl ?_
    refine aw_v [.ref m, .int (nI B)] [] rfl (by decide) rfl hM1.o rfl rfl (Nat.le_of_ble_eq_true rfl) (Nat.le_of_ble_eq_true rfl) ?_
    refine m_whole hM1 (by omega) ?_
    have hu := hM1.le4 (k := B) (by omega)
    show AW g _ 63 (15, [some (.ref m), some (.int (nI B)), some (.int (nI n)), none, none], [.int (nI (sp_le (μ 1) B 4))]) s1 _
    refine aw_run 1 (F' := (16, [some (.ref m), some (.int (nI B)), some (.int (nI n)), none, none], [.int (nI n), .int (nI (sp_le (μ 1) B 4))])) rfl ?_
    refine an_cneU rfl hu (by omega) (fun h2 => ?_) (fun h2 => ?_)
    · refine aw_run 1 (F' := (32, [some (.ref m), some (.int (nI B)), some (.int (nI n)), none, none], [.int ((-1))])) rfl ?_
      exact aw_iret rfl ⟨_, rfl, rfl⟩ (gN (by split; rfl; rename_i c q hq; exact if_neg (fun z => h2 (by have := (nst_ly (es_ly (μ 1) N) hq).2.1; omega))) _ _ hM1 (ag.up ag.rf (by decide)))
    · refine aw_run 5 (F' := (24, [some (.ref m), some (.int (nI B)), some (.int (nI n)), none, none], [.int (nI B + nI n), .int (nI B), .ref m])) rfl ?_
      rw [nI_add]
      refine aw_run 1 (F' := (25, [some (.ref m), some (.int (nI B)), some (.int (nI n)), none, none], [.int (nI 0), .int (nI (B + n)), .int (nI B), .ref m])) rfl ?_
      refine aw_v [.ref m, .int (nI B), .int (nI (B + n)), .int (nI 0)] [] rfl (by decide) rfl hM1.o rfl rfl (Nat.le_of_ble_eq_true rfl) (Nat.le_of_ble_eq_true rfl) ?_
      refine m_opn hM1 (by omega) (by omega) (by omega) (Nat.zero_le _) (fun u1 u2 u3 u4 s2 hM2 => ?_) (fun hz => ?_)
      · skip
        show AW g _ 63 (28, [some (.ref m), some (.int (nI B)), some (.int (nI n)), none, none], [.int (nI 1)]) s2 _
        refine an_zne rfl (by omega) (fun _ => ?_) (fun z => absurd z (by omega))
        refine aw_run 2 (F' := (35, [some (.ref m), some (.int (nI B)), some (.int (nI n)), some (.int (nI 0)), none], [])) rfl ?_
        have u2' : 5 ≤ sp_le (μ 1) B 4 := u2
        have u4' : μ 1 (B + sp_le (μ 1) B 4 - 1) = 0 := u4
        have hag : ag mKS μ (mop (mup μ 17 0 0) B (sp_le (μ 1) B 4) 0) := ag.up (ag.up (ag.up (ag.up (ag.up (ag.up (ag.up ag.rf (by decide)) (by decide)) (by decide)) (by decide)) (by decide)) (by decide)) (by decide)
        have hat : sp_nst (sp_es (μ 1) N) (μ 1) 1 false B (B + n) = _ := nst_at (by omega) u2' (by omega) u4'
        rw [hat] at gN gS
        have hM2' : MS g m σ0 s2 (mop (mup μ 17 0 0) B (sp_le (μ 1) B 4) 0) := hM2
        generalize hμ1 : mop (mup μ 17 0 0) B (sp_le (μ 1) B 4) 0 = μ1 at hM2' hag
        have q1 : μ1 17 0 = 0 + 1 := by rw [← hμ1]; simp [mop, mup]
        have q2 : μ1 18 0 = B + 4 := by rw [← hμ1]; simp [mop, mup]
        have q3 : μ1 19 0 = B + sp_le (μ 1) B 4 - 1 := by rw [← hμ1]; simp [mop, mup]
        have q4 : μ1 20 0 = B + 4 := by rw [← hμ1]; simp [mop, mup]
        have q5 : μ1 22 0 = (if false = true then 1 else 0) := by rw [← hμ1]; simp [mop, mup]
        have q6 : μ1 23 0 = 0 := by rw [← hμ1]; simp [mop, mup]
        clear hμ1
        refine m_es (β := μ 1) N s2 _ 0 (B + 4) (B + sp_le (μ 1) B 4 - 1) (B + 4) 0 false [] _ hM2' (hag 1 (by decide)) ⟨q1, q2, q3, q4, q5, q6⟩ (by omega) (by omega) (by omega) (by omega) (by omega) rfl (fun z σ' μ' hM' hag' => gN (by rw [z]) σ' μ' hM' (hag.tr hag')) (fun l z σ' μ' r' x4' hM' hag' hf' hb' => ?_)
        refine m_pop hM' hf' (by omega) (by omega) (fun σ3 hM3 => ?_)
        refine aw_run 1 (F' := (36, [some (.ref m), some (.int (nI B)), some (.int (nI n)), some (.int (nI l.length)), some (.int (nI 0))], [.ref m])) rfl ?_
        refine aw_get rfl hM3.o rfl ?_
        refine an_zle (a := 0) rfl (by omega) (fun _ => ?_) (fun z => absurd z (by omega))
        refine aw_run 1 (F' := (101, [some (.ref m), some (.int (nI B)), some (.int (nI n)), some (.int (nI l.length)), some (.int (nI 0))], [.int (nI l.length)])) rfl ?_
        have hq := gS (sp_ofL l) (by rw [z]; exact if_pos (by omega)) σ3 _ hM3 (ag.up (hag.tr hag') (by decide))
        rw [sp_len_ofL] at hq
        exact aw_iret rfl ⟨_, rfl, rfl⟩ hq
      · skip
        show AW g _ 63 (28, [some (.ref m), some (.int (nI B)), some (.int (nI n)), none, none], [.int (nI 0)]) s1 _
        refine an_zne rfl (by omega) (fun z => absurd z (by omega)) (fun _ => ?_)
        refine aw_run 1 (F' := (32, [some (.ref m), some (.int (nI B)), some (.int (nI n)), none, none], [.int ((-1))])) rfl ?_
        exact aw_iret rfl ⟨_, rfl, rfl⟩ (gN (by rw [nst_no (β := μ 1) (fun z => hz ⟨(by decide : 0 < 16), z.2.1, z.2.2.1, z.2.2.2⟩)]) _ _ hM1 (ag.up ag.rf (by decide)))
theorem m_els (hM : MS g m σ0 σ μ) {B n : Nat} (hB : B + 2000 ≤ 14000) (hn : n ≤ 2000) (gN : sp_doc (fun i => μ 1 (B + i)) n = none → ∀ σ' μ', MS g m σ0 σ' μ' → ag mKS μ μ' → Q (some (.int (-1))) σ') (gS : ∀ c, sp_doc (fun i => μ 1 (B + i)) n = some c → ∀ σ' μ', MS g m σ0 σ' μ' → ag mKS μ μ' → Q (some (.int (nI (sp_len c)))) σ') : AW g (d + 5) 63 (0, [some (.ref m), some (.int (nI B)), some (.int (nI n)), none, none], []) σ Q := by
  rw [doc_sf] at gN gS
  exact m_elsN 2000 hM hB hn (Nat.le_refl _) gN gS
/-- how the state of calls lies in the reference's rows -/
def lvd (β : Nat → Nat) (v : sp_V) (lo wd p : Nat) : Prop := sp_hgt v.2 ≤ 16 ∧ p ≤ lo + wd ∧ (v = sp_miss ∨ (lo ≤ p ∧ ∃ q, q ≤ lo + wd ∧ lyV β v p q))
def RS (S : sp_S) (μ : sp_M) : Prop := S.2.1 ≤ 2000 ∧ μ 2 0 = S.2.1 ∧ (∀ i, μ 1 (12000 + i) = S.1 i) ∧
  (∀ s, s < 4 → sp_hgt (S.2.2.1 s) ≤ 16 ∧ ∃ q, q ≤ 2000 ∧ lyV (μ 1) (sp_dv (S.2.2.1 s)) (2000 * s) (2000 * s + q)) ∧
  (S.2.2.2.2.length ≤ 8 ∧ μ 3 0 = S.2.2.2.2.length ∧ ∀ i nm, S.2.2.2.2[i]? = some nm → ∃ e, nmd (μ 5) (μ 4 i) e ∧ e < 2010 ∧ sp_sub (μ 5) (μ 4 i) e = nm) ∧
  (∀ w, w < 2 → (S.2.2.2.1 w).length ≤ 500 ∧ μ 6 w = (S.2.2.2.1 w).length ∧ ∀ k x, (S.2.2.2.1 w)[k]? = some x → μ 7 (500 * w + k) = x.1.1.1 ∧ μ 9 (500 * w + k) = x.2 ∧ lvd (μ 1) x.1 (8000 + 2000 * w) 2000 (μ 8 (500 * w + k)))
theorem RS.kept {S : sp_S} {μ μ' : sp_M} (h : RS S μ) (e : ∀ k, 1 ≤ k → k ≤ 9 → μ' k = μ k) : RS S μ' := by
  obtain ⟨a1, a2, a3, a4, a5, a6⟩ := h
  unfold RS
  rw [e 1 (by omega) (by omega), e 2 (by omega) (by omega), e 3 (by omega) (by omega), e 4 (by omega) (by omega), e 5 (by omega) (by omega), e 6 (by omega) (by omega), e 7 (by omega) (by omega), e 8 (by omega) (by omega), e 9 (by omega) (by omega)]
  exact ⟨a1, a2, a3, a4, a5, a6⟩
theorem RS.ag {S : sp_S} {μ μ' : sp_M} {ks : List Nat} (h : RS S μ) (e : ag ks μ μ') (hk : ∀ k ∈ ks, 10 ≤ k) : RS S μ' := h.kept (fun k h1 h2 => e k (fun z => by have := hk k z; omega))
/-- some bytes of the store set anew -/
theorem lvd.kept {β β' : Nat → Nat} {v : sp_V} {lo wd p : Nat} (h : lvd β v lo wd p) (e : ∀ i, lo ≤ i → i < lo + wd → β' i = β i) : lvd β' v lo wd p := by
  obtain ⟨a1, a2, a3⟩ := h
  refine ⟨a1, a2, ?_⟩
  rcases a3 with z | ⟨z1, q, z2, z3⟩
  · exact Or.inl z
  · have z4 := ly1.le z3
    refine Or.inr ⟨z1, q, z2, ?_⟩
    have := lyV.sh (β := β) (β' := β') (P := lo) (P' := lo) (n := wd) (fun j hj => e _ (by omega) (by omega)) (v := v) (x := p - lo) (y := q - lo) (by omega) (by rw [show lo + (p - lo) = p by omega, show lo + (q - lo) = q by omega]; exact z3)
    rw [show lo + (p - lo) = p by omega, show lo + (q - lo) = q by omega] at this
    exact this
theorem lyV.kept {β β' : Nat → Nat} {v : sp_V} {P x y : Nat} (h : lyV β v (P + x) (P + y)) (e : ∀ i, P ≤ i → i < P + y → β' i = β i) : lyV β' v (P + x) (P + y) := lyV.sh (n := y) (fun j hj => e _ (by omega) (by omega)) (Nat.le_refl _) h
end P74
