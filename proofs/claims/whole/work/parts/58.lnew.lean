section P58
variable {g : Nat × Nat} {d b R : Nat} {σ : am_H} {S : sp_S} {Q : Option Value → am_H → Prop}
/-- ValueList's constructor -/
theorem c_lnew {w : Nat} (hg : g.1 ≤ w) (hw : σ.1 w = some (.inr (2, am_def 2))) (hn : σ.2.1 = w + 1) (hwf : wf σ) (hQ : ∀ σ' : am_H, (∀ a, a < w → σ'.1 a = σ.1 a) → σ'.2.1 = w + 5 → σ'.2.2 = σ.2.2 + 2000 → wf σ' → (∀ Z, lsx Z σ'.1 w []) → Q none σ') : AW g (d + 1) 3 (0, [some (.ref w)], []) σ Q := by
  have arr : ∀ {c : am_C} {τ : am_H} {fs fs' : List Value}, τ.1 w = some (.inr (2, fs)) → w < τ.2.1 → wf τ → (∀ a, a < w → (am_set (am_psh τ c 500) w (.inr (2, fs'))).1 a = τ.1 a) ∧ (∀ a, w < a → a < τ.2.1 → (am_set (am_psh τ c 500) w (.inr (2, fs'))).1 a = τ.1 a) ∧ (am_set (am_psh τ c 500) w (.inr (2, fs'))).1 τ.2.1 = some c ∧ (am_set (am_psh τ c 500) w (.inr (2, fs'))).1 w = some (.inr (2, fs')) ∧ (am_set (am_psh τ c 500) w (.inr (2, fs'))).2.1 = τ.2.1 + 1 ∧ (am_set (am_psh τ c 500) w (.inr (2, fs'))).2.2 = τ.2.2 + 500 ∧ wf (am_set (am_psh τ c 500) w (.inr (2, fs'))) := by
    intro c τ fs fs' h1 h2 h3
    have h4 : (am_psh τ c 500).1 w = some (.inr (2, fs)) := (am_psh_ne _ _ _ (by omega)).trans h1
    exact ⟨fun a ha => (am_set_ne _ _ (by omega)).trans (am_psh_ne _ _ _ (by omega)), fun a h5 h6 => (am_set_ne _ _ (by omega)).trans (am_psh_ne _ _ _ (by omega)), (am_set_ne _ _ (by omega)).trans (am_psh_same _ _ _), am_set_same _ _ _, rfl, rfl, h3.psh.set h4⟩
  have e500 : (nI 500).toNatClampNeg = 500 := by decide
  refine aw_run 1 (F' := (1, [some (.ref w)], [.ref w])) rfl ?_
  refine aw_obj rfl (Nat.le_of_ble_eq_true rfl) (by omega) ?_
  refine aw_run 2 (F' := (8, [some (.ref w)], [.int (nI 500), .ref w])) rfl ?_
  refine aw_nwq rfl (by decide) (by decide) ?_
  rw [e500]
  refine aw_put rfl hg ((am_psh_ne _ _ _ (by omega)).trans hw) (Nat.le_of_ble_eq_true rfl) rfl rfl ?_
  obtain ⟨a1, a2, a3, a4, a5, a6, a7⟩ := arr (c := cA3 (fun _ => none)) (fs' := (am_def 2).set 0 (.ref σ.2.1)) hw (by omega) hwf
  generalize am_set (am_psh σ (cA3 (fun _ => none)) 500) w (.inr (2, (am_def 2).set 0 (.ref σ.2.1))) = σ1 at a1 a2 a3 a4 a5 a6 a7 ⊢
  refine aw_run 2 (F' := (18, [some (.ref w)], [.int (nI 500), .ref w])) rfl ?_
  refine aw_nwa rfl (by decide) (by decide) ?_
  rw [e500]
  refine aw_put rfl hg ((am_psh_ne _ _ _ (by omega)).trans a4) (Nat.le_of_ble_eq_true rfl) rfl rfl ?_
  obtain ⟨b1, b2, b3, b4, b5, b6, b7⟩ := arr (c := cA0 (fun _ => 0)) (fs' := ((am_def 2).set 0 (.ref σ.2.1)).set 1 (.ref σ1.2.1)) a4 (by omega) a7
  generalize am_set (am_psh σ1 (cA0 (fun _ => 0)) 500) w (.inr (2, ((am_def 2).set 0 (.ref σ.2.1)).set 1 (.ref σ1.2.1))) = σ2 at b1 b2 b3 b4 b5 b6 b7 ⊢
  refine aw_run 2 (F' := (27, [some (.ref w)], [.int (nI 500), .ref w])) rfl ?_
  refine aw_nwq rfl (by decide) (by decide) ?_
  rw [e500]
  refine aw_put rfl hg ((am_psh_ne _ _ _ (by omega)).trans b4) (Nat.le_of_ble_eq_true rfl) rfl rfl ?_
  obtain ⟨c1, c2, c3, c4, c5, c6, c7⟩ := arr (c := cA3 (fun _ => none)) (fs' := (((am_def 2).set 0 (.ref σ.2.1)).set 1 (.ref σ1.2.1)).set 2 (.ref σ2.2.1)) b4 (by omega) b7
  generalize am_set (am_psh σ2 (cA3 (fun _ => none)) 500) w (.inr (2, (((am_def 2).set 0 (.ref σ.2.1)).set 1 (.ref σ1.2.1)).set 2 (.ref σ2.2.1))) = σ3 at c1 c2 c3 c4 c5 c6 c7 ⊢
  refine aw_run 2 (F' := (37, [some (.ref w)], [.int (nI 500), .ref w])) rfl ?_
  refine aw_nwa rfl (by decide) (by decide) ?_
  rw [e500]
  refine aw_put rfl hg ((am_psh_ne _ _ _ (by omega)).trans c4) (Nat.le_of_ble_eq_true rfl) rfl rfl ?_
  obtain ⟨d1, d2, d3, d4, d5, d6, d7⟩ := arr (c := cA0 (fun _ => 0)) (fs' := ((((am_def 2).set 0 (.ref σ.2.1)).set 1 (.ref σ1.2.1)).set 2 (.ref σ2.2.1)).set 3 (.ref σ3.2.1)) c4 (by omega) c7
  generalize am_set (am_psh σ3 (cA0 (fun _ => 0)) 500) w (.inr (2, ((((am_def 2).set 0 (.ref σ.2.1)).set 1 (.ref σ1.2.1)).set 2 (.ref σ2.2.1)).set 3 (.ref σ3.2.1))) = σ4 at d1 d2 d3 d4 d5 d6 d7 ⊢
  have n1 : σ1.2.1 = w + 2 := by omega
  have n2 : σ2.2.1 = w + 3 := by omega
  have n3 : σ3.2.1 = w + 4 := by omega
  rw [hn, n1, n2, n3] at d4
  rw [hn] at a3
  rw [n1] at b3
  rw [n2] at c3
  rw [n3] at d3
  refine aw_vret rfl rfl (hQ σ4 (fun a ha => (d1 a ha).trans ((c1 a ha).trans ((b1 a ha).trans (a1 a ha)))) (by omega) (by omega) d7 (fun Z => ⟨⟨by simp, fun _ => none, fun _ => 0, d4, ?_, ?_, fun i v o hi => by simp at hi⟩, fun x hx => (by cases hx), ⟨fun _ => none, ?_⟩, ⟨fun _ => 0, d3⟩⟩))
  · exact (d2 _ (by omega) (by omega)).trans ((c2 _ (by omega) (by omega)).trans ((b2 _ (by omega) (by omega)).trans a3))
  · exact (d2 _ (by omega) (by omega)).trans ((c2 _ (by omega) (by omega)).trans b3)
  · exact (d2 _ (by omega) (by omega)).trans c3
/-- the cells of the reference come between -/
theorem cs_re {σ' : am_H} (hC : CS g b 29 σ S) (hn : σ.2.1 = b + 29) (h1 : ∀ a, a < b + 29 → σ'.1 a = σ.1 a) (hR : 29 ≤ R) (hle : b + R ≤ σ'.2.1) (hw : wf σ') : CS g b R σ' S := by
  obtain ⟨c1, c2, c3, c4, c5, c6, c7, c8, ⟨st, c9, c10⟩, ⟨fs, c11, c12⟩, ⟨fl, c13, c14⟩, c15, ⟨X2, c16⟩, ⟨X3, c17⟩, c18⟩ := hC
  have hz : ∀ a, Zc g b 29 σ.2.1 a → σ'.1 a = σ.1 a := by
    intro a ha
    unfold Zc at ha
    exact h1 a (by omega)
  have hm : ∀ a, Zc g b 29 σ.2.1 a → Zc g b R σ'.2.1 a := by
    intro a ha
    unfold Zc at ha ⊢
    omega
  refine ⟨c1, c2, hR, hle, hw, c6.kept (h1 _ (by omega)), c7, c8.kept (h1 _ (by omega)), ⟨st, (h1 _ (by omega)).trans c9, c10.kept hz hm⟩, ⟨fs, (h1 _ (by omega)).trans c11, fun j hj => ?_⟩, ⟨fl, (h1 _ (by omega)).trans c13, c14⟩, fun j hj => (c15 j hj).kept hz (fun a q1 q2 => h1 a (by omega)) hm, ⟨X2, c16.kept hz (fun a q1 q2 => h1 a (by omega)) hm⟩, ⟨X3, c17.kept hz (fun a q1 q2 => h1 a (by omega)) hm⟩, c18.kept hz hm⟩
  obtain ⟨k1, a, k2, k3⟩ := c12 j hj
  exact ⟨k1, a, k2, k3.kept hz hm⟩
end P58
