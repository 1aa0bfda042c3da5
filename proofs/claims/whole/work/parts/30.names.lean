def sp_fnd (nm : List Nat) : sp_F → Option sp_V
  | .leaf => none
  | .inner _ b _ c r => if b.2.1 = nm then some (b, c) else sp_fnd nm r
theorem sp_bc_eq0 : ∀ {l l' : List Nat}, sp_bc l l' = 0 → l = l'
  | [], [], _ => rfl
  | [], _ :: _, h => by simp only [sp_bc] at h; exact absurd h (by decide)
  | _ :: _, [], h => by simp only [sp_bc] at h; exact absurd h (by decide)
  | a :: x, b :: y, h => by
    simp only [sp_bc] at h
    by_cases q : sp_nc a b = 0
    · rw [q, sp_or_0] at h
      rw [sp_bc_eq0 h]
      have : a = b := by
        unfold sp_nc at q
        by_cases z : a < b
        · rw [if_pos z] at q; exact absurd q (by decide)
        · rw [if_neg z] at q
          by_cases z2 : a = b
          · exact z2
          · rw [if_neg z2] at q; exact absurd q (by decide)
      rw [this]
    · rw [sp_or_n q] at h
      exact absurd h q
theorem sp_bc_self : ∀ l : List Nat, sp_bc l l = 0
  | [] => rfl
  | a :: x => by
    simp only [sp_bc]
    rw [show sp_nc a a = 0 by simp [sp_nc], sp_or_0]
    exact sp_bc_self x
section P30
variable {g : Nat × Nat} {d : Nat} {σ : am_H} {Q : Option Value → am_H → Prop}
/-- Value.elementNamed: its loop -/
theorem c_elemL {Z : Nat → Prop} {a w : Nat} {nm : List Nat} (hw : bya σ.1 w nm) : ∀ (c : sp_F) (o : Option Nat), frz Z σ.1 c o → (sp_fnd nm c = none → Q (some .null) σ) → (∀ x v, sp_fnd nm c = some v → vlz Z σ.1 x v → Q (some (.ref x)) σ) → AW g (d + 2) 25 (5, [some (.ref a), some (.ref w), some (va_rf o)], []) σ Q := by
  intro c
  induction c with
  | leaf =>
    intro o hc hN hS
    have ho : o = none := hc
    subst ho
    refine aw_run 1 (F' := (6, [some (.ref a), some (.ref w), some .null], [.null])) rfl ?_
    refine aw_ifnull_n rfl ?_
    refine aw_run 1 (F' := (31, [some (.ref a), some (.ref w), some .null], [.null])) rfl ?_
    exact aw_nret rfl ⟨_, rfl, Or.inl ⟨_, rfl⟩⟩ (hN rfl)
  | inner s b u c r ihc ihr =>
    intro o hc hN hS
    obtain ⟨x, fi, la, nx, ho, hz, hn, hf, hr⟩ := hc
    subst ho
    have hn' := hn
    obtain ⟨k1, k2, na, ba, num, z1, z2, hx, hnum, hna, hba⟩ := hn'
    refine aw_run 1 (F' := (6, [some (.ref a), some (.ref w), some (.ref x)], [.ref x])) rfl ?_
    refine aw_ifnull_r rfl ?_
    refine aw_run 1 (F' := (10, [some (.ref a), some (.ref w), some (.ref x)], [.ref x])) rfl ?_
    refine aw_get rfl hx rfl ?_
    refine aw_run 1 (F' := (14, [some (.ref a), some (.ref w), some (.ref x)], [.ref w, .ref na])) rfl ?_
    refine aw_s [.ref na, .ref w] [] rfl ⟨by decide, by decide⟩ rfl rfl (Nat.le_of_ble_eq_true rfl) (Nat.le_of_ble_eq_true rfl) ?_
    refine c_ofBytes hna hw ?_
    refine aw_zne rfl (fun q => ?_) (fun q => ?_)
    · have hne : ¬ b.2.1 = nm := fun z => q (by rw [z]; exact sp_bc_self _)
      simp only [sp_fnd, if_neg hne] at hN hS
      refine aw_run 1 (F' := (23, [some (.ref a), some (.ref w), some (.ref x)], [.ref x])) rfl ?_
      refine aw_get rfl hx rfl ?_
      have key := ihr nx hr hN hS
      rcases nx with _ | y
      · refine aw_run 2 (F' := (5, [some (.ref a), some (.ref w), some .null], [])) rfl ?_
        exact key
      · refine aw_run 2 (F' := (5, [some (.ref a), some (.ref w), some (.ref y)], [])) rfl ?_
        exact key
    · have he : b.2.1 = nm := sp_bc_eq0 (Decidable.of_not_not q)
      simp only [sp_fnd, if_pos he] at hS
      refine aw_run 1 (F' := (21, [some (.ref a), some (.ref w), some (.ref x)], [.ref x])) rfl ?_
      exact aw_aret rfl ⟨_, rfl, Or.inl ⟨_, rfl⟩⟩ (hS x (b, c) rfl ⟨hz, fi, la, nx, hn, hf⟩)
/-- Value.elementNamed -/
theorem c_elem {Z : Nat → Prop} {a w : Nat} {nm : List Nat} {c : sp_F} {fi : Option Nat} {w0 w1 w2 w3 w4 w6 w7 : Value} (ha : σ.1 a = some (.inr (1, [w0, w1, w2, w3, w4, va_rf fi, w6, w7]))) (hw : bya σ.1 w nm) (hc : frz Z σ.1 c fi) (hN : sp_fnd nm c = none → Q (some .null) σ) (hS : ∀ x v, sp_fnd nm c = some v → vlz Z σ.1 x v → Q (some (.ref x)) σ) : AW g (d + 2) 25 (0, [some (.ref a), some (.ref w), none], []) σ Q := by
  refine aw_run 1 (F' := (1, [some (.ref a), some (.ref w), none], [.ref a])) rfl ?_
  refine aw_get rfl ha rfl ?_
  have key := c_elemL (g := g) (d := d) (Q := Q) (a := a) hw c fi hc hN hS
  rcases fi with _ | y
  · refine aw_run 1 (F' := (5, [some (.ref a), some (.ref w), some .null], [])) rfl ?_
    exact key
  · refine aw_run 1 (F' := (5, [some (.ref a), some (.ref w), some (.ref y)], [])) rfl ?_
    exact key
/-- Value.append: the first -/
theorem c_app1 {a x cnt : Nat} {w0 w1 w2 w3 w5 w7 : Value} (hg : g.1 ≤ a) (hc : cnt < 65536) (ha : σ.1 a = some (.inr (1, [w0, w1, w2, w3, .int (nI cnt), w5, .null, w7]))) (hQ : Q none (am_set σ a (.inr (1, [w0, w1, w2, w3, .int (nI (cnt + 1)), .ref x, .ref x, w7])))) : AW g d 27 (0, [some (.ref a), some (.ref x)], []) σ Q := by
  refine aw_run 1 (F' := (1, [some (.ref a), some (.ref x)], [.ref a])) rfl ?_
  refine aw_get rfl ha rfl ?_
  refine aw_ifnon_n rfl ?_
  refine aw_run 2 (F' := (9, [some (.ref a), some (.ref x)], [.ref x, .ref a])) rfl ?_
  refine aw_put rfl hg ha (Nat.le_of_ble_eq_true rfl) rfl rfl ?_
  refine aw_run 3 (F' := (25, [some (.ref a), some (.ref x)], [.ref x, .ref a])) rfl ?_
  refine aw_put rfl hg (am_set_same _ _ _) (Nat.le_of_ble_eq_true rfl) rfl rfl ?_
  rw [am_set_set]
  refine aw_run 2 (F' := (30, [some (.ref a), some (.ref x)], [.ref a, .ref a])) rfl ?_
  refine aw_get rfl (am_set_same _ _ _) rfl ?_
  refine aw_run 2 (F' := (35, [some (.ref a), some (.ref x)], [.int (nI cnt + 1), .ref a])) rfl ?_
  rw [nI_1]
  refine aw_put rfl hg (am_set_same _ _ _) (Nat.le_of_ble_eq_true rfl) rfl rfl ?_
  rw [am_set_set]
  exact aw_vret rfl rfl hQ
/-- Value.append: behind others -/
theorem c_app2 {a x y cnt : Nat} {w0 w1 w2 w3 w5 w7 : Value} {v0 v1 v2 v3 v4 v5 v6 v7 : Value} (hg : g.1 ≤ a) (hgy : g.1 ≤ y) (hne : y ≠ a) (hc : cnt < 65536) (ha : σ.1 a = some (.inr (1, [w0, w1, w2, w3, .int (nI cnt), w5, .ref y, w7]))) (hy : σ.1 y = some (.inr (1, [v0, v1, v2, v3, v4, v5, v6, v7]))) (hQ : Q none (am_set (am_set σ y (.inr (1, [v0, v1, v2, v3, v4, v5, v6, .ref x]))) a (.inr (1, [w0, w1, w2, w3, .int (nI (cnt + 1)), w5, .ref x, w7])))) : AW g d 27 (0, [some (.ref a), some (.ref x)], []) σ Q := by
  refine aw_run 1 (F' := (1, [some (.ref a), some (.ref x)], [.ref a])) rfl ?_
  refine aw_get rfl ha rfl ?_
  refine aw_ifnon_r rfl ?_
  refine aw_run 1 (F' := (16, [some (.ref a), some (.ref x)], [.ref a])) rfl ?_
  refine aw_get rfl ha rfl ?_
  refine aw_run 1 (F' := (20, [some (.ref a), some (.ref x)], [.ref x, .ref y])) rfl ?_
  refine aw_put rfl hgy hy (Nat.le_of_ble_eq_true rfl) rfl rfl ?_
  have ha2 : (am_set σ y (.inr (1, [v0, v1, v2, v3, v4, v5, v6, .ref x]))).1 a = some (.inr (1, [w0, w1, w2, w3, .int (nI cnt), w5, .ref y, w7])) := by rw [am_set_ne _ _ (Ne.symm hne)]; exact ha
  refine aw_run 2 (F' := (25, [some (.ref a), some (.ref x)], [.ref x, .ref a])) rfl ?_
  refine aw_put rfl hg ha2 (Nat.le_of_ble_eq_true rfl) rfl rfl ?_
  refine aw_run 2 (F' := (30, [some (.ref a), some (.ref x)], [.ref a, .ref a])) rfl ?_
  refine aw_get rfl (am_set_same _ _ _) rfl ?_
  refine aw_run 2 (F' := (35, [some (.ref a), some (.ref x)], [.int (nI cnt + 1), .ref a])) rfl ?_
  rw [nI_1]
  refine aw_put rfl hg (am_set_same _ _ _) (Nat.le_of_ble_eq_true rfl) rfl rfl ?_
  rw [am_set_set]
  exact aw_vret rfl rfl hQ
end P30
/-! where a name ends -/
def sp_ne (β : Nat → Nat) : Nat → Nat → Nat → Option Nat
  | 0, _, _ => none
  | n + 1, s, e => if e ≤ s then none else if β s = 0 then some s else sp_ne β n (s + 1) e
theorem sp_ne_ge (β : Nat → Nat) : ∀ (n s e q : Nat), sp_ne β n s e = some q → s ≤ q ∧ q < e ∧ β q = 0 ∧ ∀ i, s ≤ i → i < q → β i ≠ 0
  | 0, _, _, _, h => by cases h
  | n + 1, s, e, q, h => by
    simp only [sp_ne] at h
    by_cases h1 : e ≤ s
    · rw [if_pos h1] at h; cases h
    · rw [if_neg h1] at h
      by_cases h2 : β s = 0
      · rw [if_pos h2] at h
        cases h
        exact ⟨Nat.le_refl _, by omega, h2, fun i a b => by omega⟩
      · rw [if_neg h2] at h
        obtain ⟨a1, a2, a3, a4⟩ := sp_ne_ge β n (s + 1) e q h
        refine ⟨by omega, a2, a3, fun i b1 b2 => ?_⟩
        by_cases e1 : i = s
        · subst e1; exact h2
        · exact a4 i (by omega) b2
/-- the bytes from s to e -/
def sp_sub (β : Nat → Nat) (s e : Nat) : List Nat := (List.range (e - s)).map (fun i => β (s + i))
theorem sp_sub_len (β : Nat → Nat) (s e : Nat) : (sp_sub β s e).length = e - s := by simp [sp_sub]
theorem sp_sub_get {β : Nat → Nat} {s e i : Nat} (h : i < e - s) : (sp_sub β s e).getD i 0 = β (s + i) := by
  rw [List.getD_eq_getElem?_getD]
  simp [sp_sub, h]
/-- the heap behind a step of the reader -/
def rdx (g : Nat × Nat) (r t : Nat) (σ σ' : am_H) (p k m : Nat) : Prop := σ'.1 r = some (.inr (3, [.ref t, .int (nI p)])) ∧ (∀ a, a < σ.2.1 → a ≠ r → σ'.1 a = σ.1 a) ∧ σ.2.1 ≤ σ'.2.1 ∧ σ'.2.1 ≤ σ.2.1 + k ∧ σ.2.2 ≤ σ'.2.2 ∧ σ'.2.2 ≤ σ.2.2 + m ∧ wf σ'
theorem rdx.trans {g : Nat × Nat} {r t : Nat} {σ σ' σ'' : am_H} {p p' k k' m m' : Nat} (h : rdx g r t σ σ' p k m) (h' : rdx g r t σ' σ'' p' k' m') : rdx g r t σ σ'' p' (k + k') (m + m') := by
  obtain ⟨a1, a2, a3, a4, a5, a6, a7⟩ := h
  obtain ⟨b1, b2, b3, b4, b5, b6, b7⟩ := h'
  exact ⟨b1, fun a h1 h2 => (b2 a (by omega) h2).trans (a2 a h1 h2), by omega, by omega, by omega, by omega, b7⟩
theorem rdx.at {g : Nat × Nat} {r t : Nat} {σ : am_H} {p p' : Nat} (hw : wf σ) (hr : σ.1 r = some (.inr (3, [.ref t, .int (nI p)]))) : rdx g r t σ (am_set σ r (.inr (3, [.ref t, .int (nI p')]))) p' 0 0 := ⟨am_set_same _ _ _, fun a _ h2 => am_set_ne _ _ h2, Nat.le_refl _, Nat.le_refl _, Nat.le_refl _, Nat.le_refl _, hw.set hr⟩
theorem rdx.mono {g : Nat × Nat} {r t : Nat} {σ σ' : am_H} {p k m k' m' : Nat} (h : rdx g r t σ σ' p k m) (hk : k ≤ k') (hm : m ≤ m') : rdx g r t σ σ' p k' m' := by
  obtain ⟨a1, a2, a3, a4, a5, a6, a7⟩ := h
  exact ⟨a1, a2, a3, by omega, a5, by omega, a7⟩
