def sp_S0 : sp_S := ((fun _ => 0), 0, (fun _ => .leaf), (fun _ => []), [])
section P61
variable {g : Nat × Nat} {d b R : Nat} {σ : am_H} {S : sp_S} {Q : Option Value → am_H → Prop}
/-- a list more, put into a field -/
theorem c_ini3 {k : Nat} {σ0 : am_H} (hg : g.1 ≤ b) (hb : b < σ.2.1) (hwf : wf σ) {fs : List Value} (hk : k = σ.2.1) (hcell : σ.1 b = some (.inr (0, fs))) (hQ : ∀ σ' : am_H, (∀ a, a < σ.2.1 → σ'.1 a = σ.1 a) → (∀ Z, lsx Z σ'.1 k []) → σ'.2.1 = k + 5 → σ'.2.2 = σ.2.2 + 2006 → wf σ' → AW g (d + 2) 1 (105, [some (.ref b), some (.int (nI 2))], [.ref k, .ref b]) σ' Q) : AW g (d + 2) 1 (98, [some (.ref b), some (.int (nI 2))], [.ref b]) σ Q := by
  subst hk
  refine aw_new rfl ?_
  have hc1 := am_psh_same σ (.inr (2, am_def 2)) (am_nf 2)
  have e1 : ∀ a, a < σ.2.1 → (am_psh σ (.inr (2, am_def 2)) (am_nf 2)).1 a = σ.1 a := fun a ha => am_psh_ne _ _ _ (by omega)
  have e2 : (am_psh σ (.inr (2, am_def 2)) (am_nf 2)).2.1 = σ.2.1 + 1 := rfl
  have e3 : (am_psh σ (.inr (2, am_def 2)) (am_nf 2)).2.2 = σ.2.2 + 6 := rfl
  have e4 : wf (am_psh σ (.inr (2, am_def 2)) (am_nf 2)) := hwf.psh
  generalize am_psh σ (.inr (2, am_def 2)) (am_nf 2) = σ1 at hc1 e1 e2 e3 e4 ⊢
  refine aw_run 1 (F' := (102, [some (.ref b), some (.int (nI 2))], [.ref σ.2.1, .ref σ.2.1, .ref b])) rfl ?_
  refine aw_i [.ref σ.2.1] [.ref σ.2.1, .ref b] rfl (by decide) rfl rfl rfl (Nat.le_of_ble_eq_true rfl) (Nat.le_of_ble_eq_true rfl) ?_
  refine c_lnew (d := d) (by omega) hc1 (by omega) e4 (fun σ2 q1 q2 q3 q4 q5 => ?_)
  exact hQ σ2 (fun a ha => (q1 a ha).trans (e1 a ha)) q5 q2 (by rw [q3, e3]) q4
end P61
