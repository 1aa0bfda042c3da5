section P62
variable {g : Nat × Nat} {d b R : Nat} {σ : am_H} {S : sp_S} {Q : Option Value → am_H → Prop}
/-- the constructor, up to its two lists -/
theorem c_iniA (hg : g.1 ≤ b) (hg2 : g.2 < g.1) (hnb : bya σ.1 g.2 []) (ho : σ.1 b = some (.inr (0, am_def 0))) (hn : σ.2.1 = b + 1) (hwf : wf σ) (hQ : ∀ σ1 σ2 : am_H, kst g σ σ1 b 4 → kls σ1 σ2 b 2 → AW g (d + 2) 1 (97, [some (.ref b), some (.int (nI 2))], []) σ2 Q) : AW g (d + 2) 1 (0, [some (.ref b), none], []) σ Q := by
  refine aw_run 1 (F' := (1, [some (.ref b), none], [.ref b])) rfl ?_
  refine aw_obj rfl (Nat.le_of_ble_eq_true rfl) (by omega) ?_
  refine aw_run 2 (F' := (8, [some (.ref b), none], [.int (nI 2000), .ref b])) rfl ?_
  refine aw_nwa rfl (by decide) (by decide) ?_
  rw [show (nI 2000).toNatClampNeg = 2000 by decide]
  have a0 := am_psh_same σ (.inl (1, 2000, .inl (fun _ => (0 : Int32)))) 2000
  have a1 : ∀ a, a < σ.2.1 → (am_psh σ (.inl (1, 2000, .inl (fun _ => (0 : Int32)))) 2000).1 a = σ.1 a := fun a ha => am_psh_ne _ _ _ (by omega)
  have a2 : (am_psh σ (.inl (1, 2000, .inl (fun _ => (0 : Int32)))) 2000).2.1 = σ.2.1 + 1 := rfl
  have a3 : (am_psh σ (.inl (1, 2000, .inl (fun _ => (0 : Int32)))) 2000).2.2 = σ.2.2 + 2000 := rfl
  have a4 : wf (am_psh σ (.inl (1, 2000, .inl (fun _ => (0 : Int32)))) 2000) := hwf.psh
  show AW g (d + 2) 1 (10, [some (.ref b), none], [.ref σ.2.1, .ref b]) (am_psh σ (.inl (1, 2000, .inl (fun _ => (0 : Int32)))) 2000) Q
  generalize am_psh σ (.inl (1, 2000, .inl (fun _ => (0 : Int32)))) 2000 = σ1 at a0 a1 a2 a3 a4 ⊢
  rw [hn] at a0 ⊢
  have ho1 := (a1 b (by omega)).trans ho
  refine aw_put rfl hg ho1 (Nat.le_of_ble_eq_true rfl) rfl rfl ?_
  have b0 := am_set_same σ1 b (.inr (0, [.ref (b + 1), .int 0, .null, .null, .null, .null, .null, .null]))
  have b1 : ∀ a, a ≠ b → (am_set σ1 b (.inr (0, [.ref (b + 1), .int 0, .null, .null, .null, .null, .null, .null]))).1 a = σ1.1 a := fun a ha => am_set_ne _ _ ha
  have b2 : (am_set σ1 b (.inr (0, [.ref (b + 1), .int 0, .null, .null, .null, .null, .null, .null]))).2 = σ1.2 := rfl
  have b4 : wf (am_set σ1 b (.inr (0, [.ref (b + 1), .int 0, .null, .null, .null, .null, .null, .null]))) := a4.set ho1
  show AW g (d + 2) 1 (13, [some (.ref b), none], []) (am_set σ1 b (.inr (0, [.ref (b + 1), .int 0, .null, .null, .null, .null, .null, .null]))) Q
  generalize am_set σ1 b (.inr (0, [.ref (b + 1), .int 0, .null, .null, .null, .null, .null, .null])) = σ2 at b0 b1 b2 b4 ⊢
  have b21 : σ2.2.1 = b + 2 := by rw [b2]; omega
  have b22 : σ2.2.2 = σ.2.2 + 2000 := by rw [b2]; omega
  refine aw_run 2 (F' := (15, [some (.ref b), none], [.int (nI 4), .ref b])) rfl ?_
  refine aw_nwq rfl (by decide) (by decide) ?_
  rw [show (nI 4).toNatClampNeg = 4 by decide]
  have c0 := am_psh_same σ2 (.inl (3, 4, .inr (.inr (.inr (.inr (fun _ => none)))))) 4
  have c1 : ∀ a, a < σ2.2.1 → (am_psh σ2 (.inl (3, 4, .inr (.inr (.inr (.inr (fun _ => none)))))) 4).1 a = σ2.1 a := fun a ha => am_psh_ne _ _ _ (by omega)
  have c2 : (am_psh σ2 (.inl (3, 4, .inr (.inr (.inr (.inr (fun _ => none)))))) 4).2.1 = σ2.2.1 + 1 := rfl
  have c3 : (am_psh σ2 (.inl (3, 4, .inr (.inr (.inr (.inr (fun _ => none)))))) 4).2.2 = σ2.2.2 + 4 := rfl
  have c4 : wf (am_psh σ2 (.inl (3, 4, .inr (.inr (.inr (.inr (fun _ => none)))))) 4) := b4.psh
  show AW g (d + 2) 1 (18, [some (.ref b), none], [.ref σ2.2.1, .ref b]) (am_psh σ2 (.inl (3, 4, .inr (.inr (.inr (.inr (fun _ => none)))))) 4) Q
  generalize am_psh σ2 (.inl (3, 4, .inr (.inr (.inr (.inr (fun _ => none)))))) 4 = σ3 at c0 c1 c2 c3 c4 ⊢
  rw [b21] at c0 ⊢
  have ho3 := (c1 b (by omega)).trans b0
  refine aw_put rfl hg ho3 (Nat.le_of_ble_eq_true rfl) rfl rfl ?_
  refine aw_run 2 (F' := (23, [some (.ref b), some (.int (nI 0))], [])) rfl ?_
  refine c_ini1 (σ0 := σ) hg hg2 hnb (fun σ5 hk => ?_) 4 0 _ rfl ⟨fun a ha => (am_set_ne _ _ (by omega)).trans ((c1 a (by omega)).trans ((b1 a (by omega)).trans (a1 a (by omega)))), am_set_same _ _ _, (am_set_ne _ _ (by omega)).trans ((c1 _ (by omega)).trans ((b1 _ (by omega)).trans a0)), ⟨_, (am_set_ne _ _ (by omega)).trans c0, fun j hj => by omega⟩, fun j hj => by omega, ?_, ?_, c4.set ho3⟩
  rotate_left
  · exact Eq.trans (b := σ3.2.1) rfl (by omega)
  · exact Eq.trans (b := σ3.2.2) rfl (by omega)
  have hk' := hk
  obtain ⟨k1, k2, k3, k4, k6, k7, k8, k9⟩ := hk'
  refine aw_run 2 (F' := (61, [some (.ref b), some (.int (nI 4))], [.int (nI 2), .ref b])) rfl ?_
  refine aw_nwq rfl (by decide) (by decide) ?_
  rw [show (nI 2).toNatClampNeg = 2 by decide]
  have d0 := am_psh_same σ5 (.inl (4, 2, .inr (.inr (.inr (.inr (fun _ => none)))))) 2
  have d1 : ∀ a, a < σ5.2.1 → (am_psh σ5 (.inl (4, 2, .inr (.inr (.inr (.inr (fun _ => none)))))) 2).1 a = σ5.1 a := fun a ha => am_psh_ne _ _ _ (by omega)
  have d2 : (am_psh σ5 (.inl (4, 2, .inr (.inr (.inr (.inr (fun _ => none)))))) 2).2.1 = σ5.2.1 + 1 := rfl
  have d3 : (am_psh σ5 (.inl (4, 2, .inr (.inr (.inr (.inr (fun _ => none)))))) 2).2.2 = σ5.2.2 + 2 := rfl
  have d4 : wf (am_psh σ5 (.inl (4, 2, .inr (.inr (.inr (.inr (fun _ => none)))))) 2) := k9.psh
  show AW g (d + 2) 1 (64, [some (.ref b), some (.int (nI 4))], [.ref σ5.2.1, .ref b]) (am_psh σ5 (.inl (4, 2, .inr (.inr (.inr (.inr (fun _ => none)))))) 2) Q
  generalize am_psh σ5 (.inl (4, 2, .inr (.inr (.inr (.inr (fun _ => none)))))) 2 = σ6 at d0 d1 d2 d3 d4 ⊢
  rw [k7] at d0 ⊢
  have ho6 := (d1 b (by omega)).trans k2
  refine aw_put rfl hg ho6 (Nat.le_of_ble_eq_true rfl) rfl rfl ?_
  refine aw_run 2 (F' := (69, [some (.ref b), some (.int (nI 0))], [])) rfl ?_
  refine c_ini2 (σ0 := σ5) hg (fun σ7 h7 => hQ σ5 σ7 hk h7) 2 0 _ rfl ⟨fun a ha hb => (am_set_ne _ _ hb).trans (d1 a (by omega)), am_set_same _ _ _, ⟨_, (am_set_ne _ _ (by omega)).trans d0, fun j hj => by omega⟩, fun j hj => by omega, ?_, ?_, d4.set ho6⟩
  · exact Eq.trans (b := σ6.2.1) rfl (by omega)
  · exact Eq.trans (b := σ6.2.2) rfl (by omega)
end P62
