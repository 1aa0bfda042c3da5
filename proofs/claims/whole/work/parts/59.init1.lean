/-- the object while its slots are made -/
abbrev cVd (g : Nat × Nat) (k : Nat) : am_C := .inr (1, [.int (nI k), .ref g.2, .long 0, .ref g.2, .int (nI 0), .null, .null, .null])
def kst (g : Nat × Nat) (σ0 σ : am_H) (b i : Nat) : Prop := (∀ a, a < b → σ.1 a = σ0.1 a) ∧ σ.1 b = some (.inr (0, [.ref (b + 1), .int 0, .ref (b + 2), .null, .null, .null, .null, .null])) ∧ σ.1 (b + 1) = some (.inl (1, 2000, .inl (fun _ => 0))) ∧ (∃ fs : Nat → Option Nat, σ.1 (b + 2) = some (.inl (3, 4, .inr (.inr (.inr (.inr fs))))) ∧ ∀ j, j < i → fs j = some (b + 3 + j)) ∧ (∀ j, j < i → σ.1 (b + 3 + j) = some (cVd g 3)) ∧ σ.2.1 = b + 3 + i ∧ σ.2.2 = σ0.2.2 + 2004 + 8 * i ∧ wf σ
section P59
variable {g : Nat × Nat} {d b R : Nat} {σ : am_H} {S : sp_S} {Q : Option Value → am_H → Prop}
theorem c_ini1 {σ0 : am_H} (hg : g.1 ≤ b) (hg2 : g.2 < g.1) (hnb : bya σ0.1 g.2 []) (hQ : ∀ σ' : am_H, kst g σ0 σ' b 4 → AW g (d + 2) 1 (59, [some (.ref b), some (.int (nI 4))], []) σ' Q) : ∀ (n i : Nat) (σ : am_H), i + n = 4 → kst g σ0 σ b i → AW g (d + 2) 1 (23, [some (.ref b), some (.int (nI i))], []) σ Q := by
  intro n
  induction n with
  | zero =>
    intro i σ hi hk
    have : i = 4 := by omega
    subst this
    have hk' := hk
    obtain ⟨k1, k2, k3, ⟨fs, k4, k5⟩, k6, k7, k8, k9⟩ := hk'
    refine aw_run 2 (F' := (25, [some (.ref b), some (.int (nI 4))], [.ref b, .int (nI 4)])) rfl ?_
    refine aw_get rfl k2 rfl ?_
    refine aw_lenq rfl k4 (by decide) ?_
    exact aw_cge rfl (fun _ => hQ σ hk) (fun z => absurd (by decide) z)
  | succ n ih =>
    intro i σ hi hk
    obtain ⟨k1, k2, k3, ⟨fs, k4, k5⟩, k6, k7, k8, k9⟩ := hk
    refine aw_run 2 (F' := (25, [some (.ref b), some (.int (nI i))], [.ref b, .int (nI i)])) rfl ?_
    refine aw_get rfl k2 rfl ?_
    refine aw_lenq rfl k4 (by decide) ?_
    refine aw_cge rfl (fun z => absurd ((nI_leI (a := 4) (by omega) (by omega)).mp z) (by omega)) (fun _ => ?_)
    refine aw_run 1 (F' := (33, [some (.ref b), some (.int (nI i))], [.ref b])) rfl ?_
    refine aw_get rfl k2 rfl ?_
    refine aw_run 1 (F' := (37, [some (.ref b), some (.int (nI i))], [.int (nI i), .ref (b + 2)])) rfl ?_
    refine aw_new rfl ?_
    have hc1 := am_psh_same σ (.inr (1, am_def 1)) (am_nf 1)
    have hnb1 : bya (am_psh σ (.inr (1, am_def 1)) (am_nf 1)).1 g.2 [] := hnb.kept ((am_psh_ne _ _ _ (by omega)).trans (k1 _ (by omega)))
    refine aw_run 2 (F' := (42, [some (.ref b), some (.int (nI i))], [.int (nI 3), .ref σ.2.1, .ref σ.2.1, .int (nI i), .ref (b + 2)])) rfl ?_
    refine aw_sta rfl ?_
    refine aw_run 1 (F' := (46, [some (.ref b), some (.int (nI i))], [.long 0, .ref g.2, .int (nI 3), .ref σ.2.1, .ref σ.2.1, .int (nI i), .ref (b + 2)])) rfl ?_
    refine aw_sta rfl ?_
    refine aw_i [.ref σ.2.1, .int (nI 3), .ref g.2, .long 0, .ref g.2] [.ref σ.2.1, .int (nI i), .ref (b + 2)] rfl (by decide) rfl rfl rfl (Nat.le_of_ble_eq_true rfl) (Nat.le_of_ble_eq_true rfl) ?_
    refine c_mk1 (d := d) (by omega) hg2 hc1 hnb1 ?_
    rw [am_set_psh]
    have e0 := am_psh_same σ (cVd g 3) (am_nf 1)
    have e1 : ∀ a, a < σ.2.1 → (am_psh σ (cVd g 3) (am_nf 1)).1 a = σ.1 a := fun a ha => am_psh_ne _ _ _ (by omega)
    have e2 : (am_psh σ (cVd g 3) (am_nf 1)).2.1 = σ.2.1 + 1 := rfl
    have e3 : (am_psh σ (cVd g 3) (am_nf 1)).2.2 = σ.2.2 + 8 := rfl
    have e4 : wf (am_psh σ (cVd g 3) (am_nf 1)) := k9.psh
    show AW g (d + 2) 1 (52, [some (.ref b), some (.int (nI i))], [.ref σ.2.1, .int (nI i), .ref (b + 2)]) (am_psh σ (cVd g 3) (am_nf 1)) Q
    generalize am_psh σ (cVd g 3) (am_nf 1) = σ1 at e0 e1 e2 e3 e4 ⊢
    have k4' := (e1 (b + 2) (by omega)).trans k4
    refine aw_aast rfl (by omega) k4' rfl e0 (vp_in_nI (by omega) (by omega)) ?_
    rw [nI_clamp (by omega)]
    refine aw_run 2 (F' := (23, [some (.ref b), some (.int (nI i + 1))], [])) rfl ?_
    rw [nI_1]
    refine ih (i + 1) _ (by omega) ⟨fun a ha => (am_set_ne _ _ (by omega)).trans ((e1 a (by omega)).trans (k1 a ha)), (am_set_ne _ _ (by omega)).trans ((e1 _ (by omega)).trans k2), (am_set_ne _ _ (by omega)).trans ((e1 _ (by omega)).trans k3), ⟨_, am_set_same _ _ _, fun j hj => ?_⟩, fun j hj => (am_set_ne _ _ (by omega)).trans ?_, ?_, ?_, e4.set k4'⟩
    · by_cases q : j = i
      · rw [q, va_up_s, k7]
      · rw [va_up_n q]
        exact k5 j (by omega)
    · by_cases q : j = i
      · rw [q, ← k7]
        exact e0
      · exact (e1 _ (by omega)).trans (k6 j (by omega))
    · show σ1.2.1 = _
      omega
    · show σ1.2.2 = _
      omega
end P59
