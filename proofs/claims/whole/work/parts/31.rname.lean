def sp_nm (β : Nat → Nat) (p e : Nat) : Option Nat := match sp_ne β (e - p + 1) p e with
  | some s => if sp_tx β (s - p) p s then some s else none
  | none => none
theorem sp_nm_of {β : Nat → Nat} {p e s : Nat} (h : sp_nm β p e = some s) : p ≤ s ∧ s < e ∧ β s = 0 ∧ (∀ i, p ≤ i → i < s → β i ≠ 0) ∧ sp_tx β (s - p) p s = true := by
  unfold sp_nm at h
  split at h
  · rename_i q hq
    split at h
    · rename_i ht
      cases h
      obtain ⟨a, b, c, e'⟩ := sp_ne_ge _ _ _ _ _ hq
      exact ⟨a, b, c, e', ht⟩
    · cases h
  · cases h
theorem bya_sub {h : Nat → Option am_C} {a s e : Nat} {β : Nat → Nat} {f' : Nat → Int32} (hl : e - s < 65536) (hb : ∀ i, i < e - s → β (s + i) < 256) (hc : h a = some (.inl (1, e - s, .inl f'))) (hf : ∀ i, i < e - s → f' i = sb_b (β (s + i))) : bya h a (sp_sub β s e) := by
  refine ⟨by rw [sp_sub_len]; exact hl, fun x hx => ?_, f', by rw [sp_sub_len]; exact hc, fun i hi => ?_⟩
  · unfold sp_sub at hx
    obtain ⟨i, hi, rfl⟩ := List.mem_map.mp hx
    exact hb i (List.mem_range.mp hi)
  · rw [sp_sub_len] at hi
    rw [sp_sub_get hi]
    exact hf i hi
section P31
variable {g : Nat × Nat} {d : Nat} {σ : am_H} {Q : Option Value → am_H → Prop}
/-- copyOfBytes, as a list -/
theorem c_cobL {a N s e : Nat} {β : Nat → Nat} (hga : g.1 ≤ a) (hgn : g.1 ≤ σ.2.1) (hw : wf σ) (hb : byf σ.1 a N β) (hs : s ≤ e) (he : e ≤ N) (hnb : bya σ.1 g.2 []) (hQ : ∀ (na : Nat) (σ' : am_H), bya σ'.1 na (sp_sub β s e) → ((σ.2.1 ≤ na ∧ na < σ'.2.1) ∨ na = g.2) → (∀ b, b < σ.2.1 → σ'.1 b = σ.1 b) → σ.2.1 ≤ σ'.2.1 → σ'.2.1 ≤ σ.2.1 + 1 → σ.2.2 ≤ σ'.2.2 → σ'.2.2 ≤ σ.2.2 + (e - s) → wf σ' → Q (some (.ref na)) σ') : AW g (d + 3) 19 (0, [some (.ref a), some (.int (nI s)), some (.int (nI e))], []) σ Q := by
  have hb' := hb
  obtain ⟨n1, f, ha, hf⟩ := hb'
  refine c_cob hga hgn hw hb hs he (fun q => ?_) (fun q f' hf' => ?_)
  · subst q
    have e0 : sp_sub β s s = [] := by simp [sp_sub]
    exact hQ g.2 σ (by rw [e0]; exact hnb) (Or.inr rfl) (fun _ _ => rfl) (Nat.le_refl _) (Nat.le_succ _) (Nat.le_refl _) (Nat.le_add_right _ _) hw
  · refine hQ σ.2.1 _ (bya_sub (by omega) (fun i hi => (hf (s + i) (by omega)).1) (am_psh_same _ _ _) hf') (Or.inl ⟨Nat.le_refl _, Nat.lt_succ_self _⟩) (fun b hb => am_psh_ne _ _ _ (by omega)) (Nat.le_succ _) (Nat.le_refl _) (Nat.le_add_right _ _) (Nat.le_refl _) hw.psh
/-- Reader.readName: its loop -/
theorem c_rnmL {r t N p e : Nat} {β : Nat → Nat} (hr : σ.1 r = some (.inr (3, [.ref t, .int (nI p)]))) (hb : byf σ.1 t N β) (he : e ≤ N) (hN : sp_ne β (e - p + 1) p e = none → AW g d 15 (36, [some (.ref r), some (.int (nI e)), some (.int (nI p)), some (.int (nI e))], []) σ Q) (hS : ∀ s, sp_ne β (e - p + 1) p e = some s → AW g d 15 (36, [some (.ref r), some (.int (nI e)), some (.int (nI p)), some (.int (nI s))], []) σ Q) : ∀ (n i : Nat), e - i < n → i ≤ e → sp_ne β (e - p + 1) p e = sp_ne β n i e → AW g d 15 (7, [some (.ref r), some (.int (nI e)), some (.int (nI p)), some (.int (nI i))], []) σ Q := by
  obtain ⟨n1, f, ha, hf⟩ := hb
  intro n
  induction n with
  | zero => intro i h; omega
  | succ n ih =>
    intro i hn hi heq
    refine aw_run 2 (F' := (9, [some (.ref r), some (.int (nI e)), some (.int (nI p)), some (.int (nI i))], [.int (nI e), .int (nI i)])) rfl ?_
    simp only [sp_ne] at heq
    refine aw_cge rfl (fun q => ?_) (fun q => ?_)
    · have q' := (nI_leI (by omega) (by omega)).mp q
      have ei : i = e := by omega
      subst ei
      rw [if_pos (Nat.le_refl _)] at heq
      exact hN heq
    · have q' : ¬ e ≤ i := fun z => q ((nI_leI (by omega) (by omega)).mpr z)
      rw [if_neg q'] at heq
      refine aw_run 2 (F' := (14, [some (.ref r), some (.int (nI e)), some (.int (nI p)), some (.int (nI i))], [.ref r, .int (nI i)])) rfl ?_
      refine aw_get rfl hr rfl ?_
      refine aw_len rfl ha (by decide) ?_
      refine aw_cge rfl (fun z => absurd ((nI_leI (by omega) (by omega)).mp z) (by omega)) (fun _ => ?_)
      obtain ⟨hbi, hfi⟩ := hf i (by omega)
      have e1 : f (nI i).toNatClampNeg = sb_b (β i) := by rw [nI_clamp (by omega), hfi]
      refine aw_run 1 (F' := (22, [some (.ref r), some (.int (nI e)), some (.int (nI p)), some (.int (nI i))], [.ref r])) rfl ?_
      refine aw_get rfl hr rfl ?_
      refine aw_run 1 (F' := (26, [some (.ref r), some (.int (nI e)), some (.int (nI p)), some (.int (nI i))], [.int (nI i), .ref t])) rfl ?_
      refine aw_bald rfl ha (vp_in_nI (by omega) (by omega)) ?_
      rw [e1]
      refine aw_zeq rfl (fun z => ?_) (fun z => ?_)
      · have z' : β i = 0 := sb_inj _ hbi 0 (by omega) z
        rw [if_pos z'] at heq
        exact hS i heq
      · have z' : ¬ β i = 0 := fun y => z (by rw [y]; rfl)
        rw [if_neg z'] at heq
        refine aw_run 2 (F' := (7, [some (.ref r), some (.int (nI e)), some (.int (nI p)), some (.int (nI i + 1))], [])) rfl ?_
        rw [nI_1]
        exact ih (i + 1) (by omega) (by omega) heq
/-- Reader.readName -/
theorem c_rnm {r t N p e : Nat} {β : Nat → Nat} (hg : g.1 ≤ r) (hgt : g.1 ≤ t) (hgn : g.1 ≤ σ.2.1) (hg2 : g.2 < g.1) (hw : wf σ) (hr : σ.1 r = some (.inr (3, [.ref t, .int (nI p)]))) (hb : byf σ.1 t N β) (hnb : bya σ.1 g.2 []) (hp : p ≤ e) (he : e ≤ N) (hN : sp_nm β p e = none → Q (some .null) σ) (hS : ∀ (s na : Nat) (σ' : am_H), sp_nm β p e = some s → rdx g r t σ σ' (s + 1) 1 (s - p) → bya σ'.1 na (sp_sub β p s) → ((σ.2.1 ≤ na ∧ na < σ'.2.1) ∨ na = g.2) → Q (some (.ref na)) σ') : AW g (d + 4) 15 (0, [some (.ref r), some (.int (nI e)), none, none], []) σ Q := by
  have hb' := hb
  obtain ⟨n1, f, ha, hf⟩ := hb'
  have hrt : t ≠ r := by
    intro q
    subst q
    rw [hr] at ha
    cases ha
  refine aw_run 1 (F' := (1, [some (.ref r), some (.int (nI e)), none, none], [.ref r])) rfl ?_
  refine aw_get rfl hr rfl ?_
  refine aw_run 3 (F' := (7, [some (.ref r), some (.int (nI e)), some (.int (nI p)), some (.int (nI p))], [])) rfl ?_
  refine c_rnmL hr hb he (fun q => ?_) (fun s q => ?_) (e - p + 1) p (by omega) hp rfl
  · refine aw_run 2 (F' := (38, [some (.ref r), some (.int (nI e)), some (.int (nI p)), some (.int (nI e))], [.int (nI e), .int (nI e)])) rfl ?_
    refine aw_cge rfl (fun _ => ?_) (fun z => absurd (Int32.le_refl _) z)
    refine aw_run 1 (F' := (54, [some (.ref r), some (.int (nI e)), some (.int (nI p)), some (.int (nI e))], [.null])) rfl ?_
    exact aw_nret rfl ⟨_, rfl, Or.inr ⟨_, rfl⟩⟩ (hN (by unfold sp_nm; rw [q]))
  · obtain ⟨s1, s2, s3, s4⟩ := sp_ne_ge _ _ _ _ _ q
    refine aw_run 2 (F' := (38, [some (.ref r), some (.int (nI e)), some (.int (nI p)), some (.int (nI s))], [.int (nI e), .int (nI s)])) rfl ?_
    refine aw_cge rfl (fun z => absurd ((nI_leI (by omega) (by omega)).mp z) (by omega)) (fun _ => ?_)
    refine aw_run 1 (F' := (42, [some (.ref r), some (.int (nI e)), some (.int (nI p)), some (.int (nI s))], [.ref r])) rfl ?_
    refine aw_get rfl hr rfl ?_
    refine aw_run 2 (F' := (47, [some (.ref r), some (.int (nI e)), some (.int (nI p)), some (.int (nI s))], [.int (nI s), .int (nI p), .ref t])) rfl ?_
    refine aw_s [.ref t, .int (nI p), .int (nI s)] [] rfl ⟨by decide, by decide⟩ rfl rfl (Nat.le_of_ble_eq_true rfl) (Nat.le_of_ble_eq_true rfl) ?_
    refine c_isRight hb (by omega) (by omega) ?_
    by_cases ht : sp_tx β (s - p) p s = true
    · rw [if_pos ht]
      refine aw_zne rfl (fun _ => ?_) (fun z => absurd (by decide) z)
      refine aw_run 4 (F' := (59, [some (.ref r), some (.int (nI e)), some (.int (nI p)), some (.int (nI s))], [.int (nI s + 1), .ref r])) rfl ?_
      rw [nI_1]
      refine aw_put rfl hg hr (Nat.le_of_ble_eq_true rfl) rfl rfl ?_
      refine aw_run 1 (F' := (63, [some (.ref r), some (.int (nI e)), some (.int (nI p)), some (.int (nI s))], [.ref r])) rfl ?_
      refine aw_get rfl (am_set_same _ _ _) rfl ?_
      refine aw_run 2 (F' := (68, [some (.ref r), some (.int (nI e)), some (.int (nI p)), some (.int (nI s))], [.int (nI s), .int (nI p), .ref t])) rfl ?_
      refine aw_s [.ref t, .int (nI p), .int (nI s)] [] rfl ⟨by decide, by decide⟩ rfl rfl (Nat.le_of_ble_eq_true rfl) (Nat.le_of_ble_eq_true rfl) ?_
      refine c_cobL hgt hgn (hw.set hr) (hb.kept (am_set_ne _ _ hrt)) s1 (by omega) (hnb.kept (am_set_ne _ _ (by omega))) (fun na σ' b1 b2 b3 b4 b5 b6 b7 b8 => ?_)
      refine aw_aret rfl ⟨_, rfl, Or.inr ⟨_, rfl⟩⟩ (hS s na σ' (by unfold sp_nm; rw [q]; simp [ht]) ⟨?_, fun a a1 a2 => ?_, b4, b5, b6, b7, b8⟩ b1 b2)
      · rw [b3 r (hw _ _ hr)]
        exact am_set_same _ _ _
      · rw [b3 a a1]
        exact am_set_ne _ _ a2
    · rw [if_neg ht]
      refine aw_zne rfl (fun z => absurd rfl z) (fun _ => ?_)
      refine aw_run 1 (F' := (54, [some (.ref r), some (.int (nI e)), some (.int (nI p)), some (.int (nI s))], [.null])) rfl ?_
      exact aw_nret rfl ⟨_, rfl, Or.inr ⟨_, rfl⟩⟩ (hN (by unfold sp_nm; rw [q]; simp [ht]))
end P31
