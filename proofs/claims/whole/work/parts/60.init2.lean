/-- the object while its lists are made -/
def kls (σ0 σ : am_H) (b i : Nat) : Prop := (∀ a, a < b + 7 → a ≠ b → σ.1 a = σ0.1 a) ∧ σ.1 b = some (.inr (0, [.ref (b + 1), .int 0, .ref (b + 2), .ref (b + 7), .null, .null, .null, .null])) ∧ (∃ fl : Nat → Option Nat, σ.1 (b + 7) = some (.inl (4, 2, .inr (.inr (.inr (.inr fl))))) ∧ ∀ j, j < i → fl j = some (b + 8 + 5 * j)) ∧ (∀ j, j < i → ∀ Z, lsx Z σ.1 (b + 8 + 5 * j) []) ∧ σ.2.1 = b + 8 + 5 * i ∧ σ.2.2 = σ0.2.2 + 2 + 2006 * i ∧ wf σ
theorem lsx_nil_kept {h h' : Nat → Option am_C} {w : Nat} (q : ∀ Z, lsx Z h w []) (ew : ∀ a, w ≤ a → a ≤ w + 4 → h' a = h a) : ∀ Z, lsx Z h' w [] := fun Z => (q (fun _ => False)).kept (fun _ z => z.elim) ew (fun _ z => z.elim)
section P60
variable {g : Nat × Nat} {d b R : Nat} {σ : am_H} {S : sp_S} {Q : Option Value → am_H → Prop}
theorem c_ini2 {σ0 : am_H} (hg : g.1 ≤ b) (hQ : ∀ σ' : am_H, kls σ0 σ' b 2 → AW g (d + 2) 1 (97, [some (.ref b), some (.int (nI 2))], []) σ' Q) : ∀ (n i : Nat) (σ : am_H), i + n = 2 → kls σ0 σ b i → AW g (d + 2) 1 (69, [some (.ref b), some (.int (nI i))], []) σ Q := by
  intro n
  induction n with
  | zero =>
    intro i σ hi hk
    have : i = 2 := by omega
    subst this
    have hk' := hk
    obtain ⟨k1, k2, ⟨fl, k4, k5⟩, k6, k7, k8, k9⟩ := hk'
    refine aw_run 2 (F' := (71, [some (.ref b), some (.int (nI 2))], [.ref b, .int (nI 2)])) rfl ?_
    refine aw_get rfl k2 rfl ?_
    refine aw_lenq rfl k4 (by decide) ?_
    exact aw_cge rfl (fun _ => hQ σ hk) (fun z => absurd (by decide) z)
  | succ n ih =>
    intro i σ hi hk
    obtain ⟨k1, k2, ⟨fl, k4, k5⟩, k6, k7, k8, k9⟩ := hk
    refine aw_run 2 (F' := (71, [some (.ref b), some (.int (nI i))], [.ref b, .int (nI i)])) rfl ?_
    refine aw_get rfl k2 rfl ?_
    refine aw_lenq rfl k4 (by decide) ?_
    refine aw_cge rfl (fun z => absurd ((nI_leI (a := 2) (by omega) (by omega)).mp z) (by omega)) (fun _ => ?_)
    refine aw_run 1 (F' := (79, [some (.ref b), some (.int (nI i))], [.ref b])) rfl ?_
    refine aw_get rfl k2 rfl ?_
    refine aw_run 1 (F' := (83, [some (.ref b), some (.int (nI i))], [.int (nI i), .ref (b + 7)])) rfl ?_
    refine aw_new rfl ?_
    have hc1 := am_psh_same σ (.inr (2, am_def 2)) (am_nf 2)
    have e1 : ∀ a, a < σ.2.1 → (am_psh σ (.inr (2, am_def 2)) (am_nf 2)).1 a = σ.1 a := fun a ha => am_psh_ne _ _ _ (by omega)
    have e2 : (am_psh σ (.inr (2, am_def 2)) (am_nf 2)).2.1 = σ.2.1 + 1 := rfl
    have e3 : (am_psh σ (.inr (2, am_def 2)) (am_nf 2)).2.2 = σ.2.2 + 6 := rfl
    have e4 : wf (am_psh σ (.inr (2, am_def 2)) (am_nf 2)) := k9.psh
    generalize am_psh σ (.inr (2, am_def 2)) (am_nf 2) = σ1 at hc1 e1 e2 e3 e4 ⊢
    rw [k7] at hc1 ⊢
    refine aw_run 1 (F' := (87, [some (.ref b), some (.int (nI i))], [.ref (b + 8 + 5 * i), .ref (b + 8 + 5 * i), .int (nI i), .ref (b + 7)])) rfl ?_
    refine aw_i [.ref (b + 8 + 5 * i)] [.ref (b + 8 + 5 * i), .int (nI i), .ref (b + 7)] rfl (by decide) rfl rfl rfl (Nat.le_of_ble_eq_true rfl) (Nat.le_of_ble_eq_true rfl) ?_
    refine c_lnew (d := d) (by omega) hc1 (by omega) e4 (fun σ2 q1 q2 q3 q4 q5 => ?_)
    have kk : ∀ a, a < b + 8 + 5 * i → σ2.1 a = σ.1 a := fun a ha => (q1 a ha).trans (e1 a (by omega))
    have k4' := (kk (b + 7) (by omega)).trans k4
    obtain ⟨⟨-, fv, fo, hwc, -⟩, -⟩ := q5 (fun _ => False)
    refine aw_aast rfl (by omega) k4' rfl hwc (vp_in_nI (by omega) (by omega)) ?_
    rw [nI_clamp (by omega)]
    refine aw_run 2 (F' := (69, [some (.ref b), some (.int (nI i + 1))], [])) rfl ?_
    rw [nI_1]
    refine ih (i + 1) _ (by omega) ⟨fun a ha hb => (am_set_ne _ _ (by omega)).trans ((kk a (by omega)).trans (k1 a ha hb)), (am_set_ne _ _ (by omega)).trans ((kk _ (by omega)).trans k2), ⟨_, am_set_same _ _ _, fun j hj => ?_⟩, fun j hj => ?_, ?_, ?_, q4.set k4'⟩
    · by_cases q : j = i
      · rw [q, va_up_s]
      · rw [va_up_n q]
        exact k5 j (by omega)
    · by_cases q : j = i
      · rw [q]
        exact lsx_nil_kept q5 (fun a p1 p2 => am_set_ne _ _ (by omega))
      · exact lsx_nil_kept (k6 j (by omega)) (fun a p1 p2 => (am_set_ne _ _ (by omega)).trans (kk a (by omega)))
    · show σ2.2.1 = _
      omega
    · have h1 := q3
      rw [e3, k8] at h1
      refine Eq.trans (b := σ2.2.2) rfl (h1.trans ?_)
      generalize σ0.2.2 = z
      clear h1 q3 k8 e3
      rw [Nat.mul_add]
      omega
end P60
