/-! path -/
def sp_path (S : sp_S) (n : Int32) : sp_S × Int32 := match sp_ix n (S.2.1 + 1) with
  | none => (S, -2)
  | some k => match sp_pth S.1 k with
    | none => ((S.1, 0, S.2.2), -1)
    | some P => ((S.1, 0, S.2.2.1, S.2.2.2.1, P), nI P.length)
section P55
variable {g : Nat × Nat} {d b R : Nat} {σ : am_H} {S : sp_S} {Q : Option Value → am_H → Prop}
theorem c_path (hC : CS g b R σ S) (n : Int32) (hQ : ∀ σ' : am_H, CS g b R σ' (sp_path S n).1 → cfr b R σ σ' 16 (24 + (S.2.1 - (sp_path S n).1.2.1)) → Q (some (.int (sp_path S n).2)) σ') : AW g (d + 5) 28 (0, [some (.ref b), some (.int n), none], []) σ Q := by
  have hC' := hC
  obtain ⟨c1, c2, c3, c4, c5, c6, c7, c8, ⟨st, ho, hst⟩, -⟩ := hC'
  refine aw_run 2 (F' := (2, [some (.ref b), some (.int n), none], [.int n, .ref b])) rfl ?_
  refine aw_v [.ref b, .int n] [] rfl (by decide) rfl ho rfl rfl (Nat.le_of_ble_eq_true rfl) (Nat.le_of_ble_eq_true rfl) ?_
  refine c_tap hC n (fun k hk er ek => ?_) (fun e => ?_)
  rotate_left
  · have hr : sp_path S n = (S, -2) := by unfold sp_path; rw [e]
    rw [hr] at hQ
    refine aw_zne rfl (fun z => absurd rfl z) (fun _ => ?_)
    refine aw_run 1 (F' := (10, [some (.ref b), some (.int n), none], [.int (-2)])) rfl ?_
    exact aw_iret rfl ⟨_, rfl, rfl⟩ (hQ σ hC ⟨fun _ _ => rfl, by omega, by omega, by omega, by omega⟩)
  subst er
  have hr : sp_path S (nI k) = (match sp_pth S.1 k with
    | none => ((S.1, 0, S.2.2), -1)
    | some P => ((S.1, 0, S.2.2.1, S.2.2.2.1, P), nI P.length)) := by unfold sp_path; rw [ek]
  refine aw_zne rfl (fun _ => ?_) (fun z => absurd (by decide) z)
  refine aw_run 2 (F' := (13, [some (.ref b), some (.int (nI k)), none], [.int (nI 0), .ref b])) rfl ?_
  refine aw_put rfl c1 ho (Nat.le_of_ble_eq_true rfl) rfl rfl ?_
  have ho1 : (am_set σ b (.inr (0, [.ref (b + 1), .int (nI 0), .ref (b + 2), .ref (b + 7), .ref (b + 18), .ref (b + 23), .ref (b + 28), va_rf st]))).1 b = _ := am_set_same _ _ _
  have k1 : ∀ a, a ≠ b → (am_set σ b (.inr (0, [.ref (b + 1), .int (nI 0), .ref (b + 2), .ref (b + 7), .ref (b + 18), .ref (b + 23), .ref (b + 28), va_rf st]))).1 a = σ.1 a := fun a ha => am_set_ne _ _ ha
  have w1 : wf (am_set σ b (.inr (0, [.ref (b + 1), .int (nI 0), .ref (b + 2), .ref (b + 7), .ref (b + 18), .ref (b + 23), .ref (b + 28), va_rf st]))) := c5.set ho
  have n1 : (am_set σ b (.inr (0, [.ref (b + 1), .int (nI 0), .ref (b + 2), .ref (b + 7), .ref (b + 18), .ref (b + 23), .ref (b + 28), va_rf st]))).2 = σ.2 := rfl
  show AW g (d + 5) 28 (16, [some (.ref b), some (.int (nI k)), none], []) (am_set σ b (.inr (0, [.ref (b + 1), .int (nI 0), .ref (b + 2), .ref (b + 7), .ref (b + 18), .ref (b + 23), .ref (b + 28), va_rf st]))) Q
  generalize am_set σ b (.inr (0, [.ref (b + 1), .int (nI 0), .ref (b + 2), .ref (b + 7), .ref (b + 18), .ref (b + 23), .ref (b + 28), va_rf st])) = σ1 at ho1 k1 w1 n1 ⊢
  have n11 : σ1.2.1 = σ.2.1 := by rw [n1]
  have n12 : σ1.2.2 = σ.2.2 := by rw [n1]
  have ht : tok g σ1 (b + 1) 2000 S.1 := ⟨by omega, by omega, c2, w1, c8.kept (k1 _ (by omega)), c6.kept (k1 _ (by omega))⟩
  refine aw_run 1 (F' := (17, [some (.ref b), some (.int (nI k)), none], [.ref b])) rfl ?_
  refine aw_get rfl ho1 rfl ?_
  refine aw_run 1 (F' := (21, [some (.ref b), some (.int (nI k)), none], [.int (nI k), .ref (b + 1)])) rfl ?_
  refine aw_s [.ref (b + 1), .int (nI k)] [] rfl ⟨by decide, by decide⟩ rfl rfl (Nat.le_of_ble_eq_true rfl) (Nat.le_of_ble_eq_true rfl) ?_
  refine c_chn (d := d) ht (by omega) (fun σ2 h2 e2 => ?_) (fun P σ2 x e2 h2 hs2 => ?_)
  · rw [hr, e2] at hQ
    dsimp only at hQ
    obtain ⟨p1, p2, p3, p4, p5, p6⟩ := h2
    have k2 : ∀ a, a < σ.2.1 → a ≠ b → σ2.1 a = σ.1 a := fun a h1 h2 => (p1 a (by omega)).trans (k1 a h2)
    have hst2 : stc (Zc g b R σ2.2.1) σ2.1 S.2.2.2.2 st := hst.kept (fun a ha => by
      unfold Zc at ha
      exact k2 a (by omega) (by omega)) (Zc.mono (by omega))
    refine aw_run 2 (F' := (26, [some (.ref b), some (.int (nI k)), some .null], [.null])) rfl ?_
    refine aw_ifnon_n rfl ?_
    refine aw_run 1 (F' := (30, [some (.ref b), some (.int (nI k)), some .null], [.int (-1)])) rfl ?_
    refine aw_iret rfl ⟨_, rfl, rfl⟩ (hQ σ2 (cs_tape (T := (S.1, 0)) hC (fun a q1 q2 q3 => k2 a q1 q2) (by omega) p6 (by show 0 ≤ 2000; omega) ((p1 b (by omega)).trans ho1) (c8.kept (k2 _ (by omega) (by omega))) hst2) ⟨fun a ha => k2 a (by omega) (by omega), by omega, by omega, by omega, ?_⟩)
    show σ2.2.2 ≤ σ.2.2 + (24 + (S.2.1 - 0))
    omega
  · rw [hr, e2] at hQ
    dsimp only at hQ
    obtain ⟨p1, p2, p3, p4, p5, p6⟩ := h2
    have ho2 := (p1 b (by omega)).trans ho1
    rcases hs2.cnt with ⟨-, q⟩ | ⟨hne, a, w0, w1', ea, hac⟩
    · cases q
    have eax : x = a := Option.some.inj ea
    subst eax
    have hxl : σ1.2.1 ≤ x := by
      cases P with
      | nil => exact absurd rfl hne
      | cons s P =>
        obtain ⟨a', na, nx, h1, z1, -⟩ := hs2
        have : x = a' := Option.some.inj h1
        subst this
        rcases z1 with ⟨z, -⟩ | z
        · exact z
        · rcases Nat.lt_or_ge x σ1.2.1 with y | y
          · have := p1 x y
            obtain ⟨-, -, f, hg2, -⟩ := ht.2.2.2.2.2
            rw [← z, ← this, hac] at hg2
            cases hg2
          · exact y
    refine aw_run 2 (F' := (26, [some (.ref b), some (.int (nI k)), some (.ref x)], [.ref x])) rfl ?_
    refine aw_ifnon_r rfl ?_
    refine aw_run 2 (F' := (33, [some (.ref b), some (.int (nI k)), some (.ref x)], [.ref x, .ref b])) rfl ?_
    refine aw_put rfl c1 ho2 (Nat.le_of_ble_eq_true rfl) rfl rfl ?_
    have ho3 : (am_set σ2 b (.inr (0, [.ref (b + 1), .int (nI 0), .ref (b + 2), .ref (b + 7), .ref (b + 18), .ref (b + 23), .ref (b + 28), .ref x]))).1 b = _ := am_set_same _ _ _
    have k3 : ∀ a, a ≠ b → (am_set σ2 b (.inr (0, [.ref (b + 1), .int (nI 0), .ref (b + 2), .ref (b + 7), .ref (b + 18), .ref (b + 23), .ref (b + 28), .ref x]))).1 a = σ2.1 a := fun a ha => am_set_ne _ _ ha
    have w3 : wf (am_set σ2 b (.inr (0, [.ref (b + 1), .int (nI 0), .ref (b + 2), .ref (b + 7), .ref (b + 18), .ref (b + 23), .ref (b + 28), .ref x]))) := p6.set ho2
    have n3 : (am_set σ2 b (.inr (0, [.ref (b + 1), .int (nI 0), .ref (b + 2), .ref (b + 7), .ref (b + 18), .ref (b + 23), .ref (b + 28), .ref x]))).2 = σ2.2 := rfl
    show AW g (d + 5) 28 (36, [some (.ref b), some (.int (nI k)), some (.ref x)], []) (am_set σ2 b (.inr (0, [.ref (b + 1), .int (nI 0), .ref (b + 2), .ref (b + 7), .ref (b + 18), .ref (b + 23), .ref (b + 28), .ref x]))) Q
    generalize am_set σ2 b (.inr (0, [.ref (b + 1), .int (nI 0), .ref (b + 2), .ref (b + 7), .ref (b + 18), .ref (b + 23), .ref (b + 28), .ref x])) = σ3 at ho3 k3 w3 n3 ⊢
    have n31 : σ3.2.1 = σ2.2.1 := by rw [n3]
    have n32 : σ3.2.2 = σ2.2.2 := by rw [n3]
    have kk : ∀ a, a < σ.2.1 → a ≠ b → σ3.1 a = σ.1 a := fun a h1 h2 => (k3 a h2).trans ((p1 a (by omega)).trans (k1 a h2))
    have hst3 : stc (Zc g b R σ3.2.1) σ3.1 P (some x) := hs2.kept (fun a ha => by
      refine k3 a ?_
      rcases ha with ⟨z1, z2⟩ | z
      · omega
      · omega) (fun a ha => by
      unfold Zc
      rcases ha with ⟨z1, z2⟩ | z
      · omega
      · exact Or.inl z)
    refine aw_run 1 (F' := (37, [some (.ref b), some (.int (nI k)), some (.ref x)], [.ref x])) rfl ?_
    refine aw_get rfl ((k3 x (by omega)).trans hac) rfl ?_
    refine aw_iret rfl ⟨_, rfl, rfl⟩ (hQ σ3 (cs_tape (T := (S.1, 0)) (st := some x) hC (fun a q1 q2 q3 => kk a q1 q2) (by omega) w3 (by show 0 ≤ 2000; omega) ho3 (c8.kept (kk _ (by omega) (by omega))) hst3) ⟨fun a ha => kk a (by omega) (by omega), by omega, by omega, by omega, ?_⟩)
    show σ3.2.2 ≤ σ.2.2 + (24 + (S.2.1 - 0))
    omega
end P55
