theorem ix_c3 (x : Int32) {N : Nat} (hN : N + 1 < 2 ^ 31) : (x < 0 ∧ sp_ix x (N + 1) = none) ∨ (∃ k, k < 2 ^ 31 ∧ N < k ∧ x = nI k ∧ sp_ix x (N + 1) = none) ∨ ∃ k, k ≤ N ∧ x = nI k ∧ sp_ix x (N + 1) = some k := by
  rcases sp_ix_c x hN with ⟨z | ⟨z1, z2⟩, e⟩ | ⟨j, h1, h2, e⟩
  · exact Or.inl ⟨z, e⟩
  · obtain ⟨j, hj, rfl⟩ := nI_of z1
    exact Or.inr (Or.inl ⟨j, hj, (nI_leI hN hj).mp z2, rfl, e⟩)
  · exact Or.inr (Or.inr ⟨j, by omega, h2, e⟩)
theorem doc_len {β : Nat → Nat} {n : Nat} {c : sp_F} (h : sp_doc β n = some c) : 2 * sp_len c ≤ n := by
  obtain ⟨h1, h2⟩ := doc_ly h
  rcases h1 with ⟨z, _⟩ | ⟨z, _⟩ | ⟨z, _⟩ | ⟨z, _⟩ | ⟨z, _⟩ | ⟨_, z1, z2, _, z3⟩
  · cases z
  · cases z
  · cases z
  · cases z
  · cases z
  · have h3 := z3.all
    have h4 := sp_len_all c
    have h5 : 2 * sp_all c ≤ n - 1 - (0 + 4) := h3
    omega
/-- bytes of the store copied to another place -/
def cpd (β : Nat → Nat) (A B k : Nat) : Nat → Nat := fun i => if A ≤ i ∧ i < A + k then β (B + (i - A)) else β i
theorem cpd_st {β β' : Nat → Nat} {A B k : Nat} (h : β' = cpd β A B k) (hd : B + k < A ∨ A + k ≤ B) : (fun i => if i = A + k then β' (B + k) else β' i) = cpd β A B (k + 1) := by
  funext i
  subst h
  unfold cpd
  by_cases e : i = A + k
  · subst e
    rw [if_pos rfl, if_neg (by omega), if_pos (by omega), Nat.add_sub_cancel_left]
  · rw [if_neg e]
    by_cases q : A ≤ i ∧ i < A + k
    · rw [if_pos q, if_pos (by omega)]
    · rw [if_neg q, if_neg (by omega)]
theorem mup_f (μ : sp_M) (k i v : Nat) : mup μ k i v k = fun j => if j = i then v else μ k j := by
  funext j
  unfold mup
  by_cases e : j = i
  · rw [if_pos ⟨rfl, e⟩, if_pos e]
  · rw [if_neg (fun z => e z.2), if_neg e]
section P75
variable {g : Nat × Nat} {d : Nat} {σ0 σ : am_H} {Q : Option Value → am_H → Prop} {m : Nat} {μ : sp_M}
theorem m_rdL {j n got : Nat} (hj : j < 4) (hn : n ≤ 2000) (hQ : ∀ σ' μ', MS g m σ0 σ' μ' → (∀ f, f ≠ 1 → μ' f = μ f) → μ' 1 = cpd (μ 1) (2000 * j) 12000 n → Q (some (.int (nI got))) σ') : ∀ (n' k : Nat) (σ : am_H) (μ' : sp_M), k + n' = n → MS g m σ0 σ μ' → (∀ f, f ≠ 1 → μ' f = μ f) → μ' 1 = cpd (μ 1) (2000 * j) 12000 k → AW g d 61 (45, [some (.ref m), some (.int (nI j)), some (.int (nI n)), some (.int (nI got)), some (.int (nI k))], []) σ Q := by
  intro n'
  induction n' with
  | zero =>
    intro k σ μ' hk hM h1' h2'
    have hk' : k = n := by omega
    subst hk'
    refine aw_run 2 (F' := (48, [some (.ref m), some (.int (nI j)), some (.int (nI k)), some (.int (nI got)), some (.int (nI k))], [.int (nI k), .int (nI k)])) rfl ?_
    refine an_cge rfl (by omega) (by omega) (fun h1 => ?_) (fun h1 => ?_)
    · refine aw_run 1 (F' := (82, [some (.ref m), some (.int (nI j)), some (.int (nI k)), some (.int (nI got)), some (.int (nI k))], [.int (nI got)])) rfl ?_
      exact aw_iret rfl ⟨_, rfl, rfl⟩ (hQ _ _ hM h1' h2')
    · omega
  | succ n' ih =>
    intro k σ μ' hk hM h1' h2'
    refine aw_run 2 (F' := (48, [some (.ref m), some (.int (nI j)), some (.int (nI n)), some (.int (nI got)), some (.int (nI k))], [.int (nI n), .int (nI k)])) rfl ?_
    refine an_cge rfl (by omega) (by omega) (fun h1 => ?_) (fun h1 => ?_)
    · omega
    · refine aw_run 1 (F' := (52, [some (.ref m), some (.int (nI j)), some (.int (nI n)), some (.int (nI got)), some (.int (nI k))], [.ref m])) rfl ?_
      refine aw_get rfl hM.o rfl ?_
      refine aw_run 3 (F' := (60, [some (.ref m), some (.int (nI j)), some (.int (nI n)), some (.int (nI got)), some (.int (nI k))], [.int (nI 2000 * nI j), .ref (m + 1)])) rfl ?_
      rw [nI_mul]
      refine aw_run 2 (F' := (63, [some (.ref m), some (.int (nI j)), some (.int (nI n)), some (.int (nI got)), some (.int (nI k))], [.int (nI (2000 * j) + nI k), .ref (m + 1)])) rfl ?_
      rw [nI_add]
      refine aw_run 1 (F' := (64, [some (.ref m), some (.int (nI j)), some (.int (nI n)), some (.int (nI got)), some (.int (nI k))], [.ref m, .int (nI ((2000 * j) + k)), .ref (m + 1)])) rfl ?_
      refine aw_get rfl hM.o rfl ?_
      refine aw_run 3 (F' := (73, [some (.ref m), some (.int (nI j)), some (.int (nI n)), some (.int (nI got)), some (.int (nI k))], [.int (nI 12000 + nI k), .ref (m + 1), .int (nI ((2000 * j) + k)), .ref (m + 1)])) rfl ?_
      rw [nI_add]
      refine ms_bld hM rfl (k := 1) (n := 14000) (by decide) (by omega) ?_
      refine ms_bst hM rfl (k := 1) (n := 14000) (by decide) (by omega) (sb_nar0 _ (hM.by (by omega))) (hM.by (by omega)) (fun s1 hM1 => ?_)
      refine aw_run 1 (F' := (78, [some (.ref m), some (.int (nI j)), some (.int (nI n)), some (.int (nI got)), some (.int (nI k + nI 1))], [])) rfl ?_
      rw [nI_add]
      refine aw_run 1 (F' := (45, [some (.ref m), some (.int (nI j)), some (.int (nI n)), some (.int (nI got)), some (.int (nI (k + 1)))], [])) rfl ?_
      refine ih (k + 1) _ _ (by omega) hM1 (fun f hf => (mup_k μ' _ _ hf).trans (h1' f hf)) ?_
      rw [mup_f]
      exact cpd_st h2' (by omega)
/-- read -/
theorem m_read (hM : MS g m σ0 σ μ) {S : sp_S} (hR : RS S μ) (slot n : Int32) (hQ : ∀ σ' μ', MS g m σ0 σ' μ' → RS (sp_read S slot n).1 μ' → Q (some (.int (sp_read S slot n).2)) σ') : AW g (d + 6) 61 (0, [some (.ref m), some (.int slot), some (.int n), none, none], []) σ Q := by
  have hR' := hR
  obtain ⟨r1, r2, r3, r4, r5, r6⟩ := hR'
  refine aw_run 1 (F' := (1, [some (.ref m), some (.int slot), some (.int n), none, none], [.int slot])) rfl ?_
  refine aw_s [.int slot] [] rfl ⟨by decide, by decide⟩ rfl rfl (Nat.le_of_ble_eq_true rfl) (Nat.le_of_ble_eq_true rfl) ?_
  refine m_slot slot (fun j hj hs hi => ?_) (fun hi => ?_)
  · subst hs
    rcases ix_c3 n (N := S.2.1) (by omega) with ⟨hz, hi2⟩ | ⟨k, hk1, hk2, rfl, hi2⟩ | ⟨k, hk, rfl, hi2⟩
    · have e1 : sp_read S (nI j) n = (S, -2) := by unfold sp_read; rw [hi, hi2]
      rw [e1] at hQ
      show AW g _ 61 (4, [some (.ref m), some (.int (nI j)), some (.int n), none, none], [.int (nI 1)]) σ _
      refine an_zeq rfl (by omega) (fun z => absurd z (by omega)) (fun _ => ?_)
      refine aw_run 1 (F' := (8, [some (.ref m), some (.int (nI j)), some (.int (n)), none, none], [.int (n)])) rfl ?_
      refine aw_zlt rfl (fun h2 => ?_) (fun h2 => ?_)
      · refine aw_run 1 (F' := (21, [some (.ref m), some (.int (nI j)), some (.int (n)), none, none], [.int ((-2))])) rfl ?_
        exact aw_iret rfl ⟨_, rfl, rfl⟩ (hQ σ μ hM hR)
      · exact absurd hz h2
    · have e1 : sp_read S (nI j) (nI k) = (S, -2) := by unfold sp_read; rw [hi, hi2]
      rw [e1] at hQ
      show AW g _ 61 (4, [some (.ref m), some (.int (nI j)), some (.int (nI k)), none, none], [.int (nI 1)]) σ _
      refine an_zeq rfl (by omega) (fun z => absurd z (by omega)) (fun _ => ?_)
      refine aw_run 1 (F' := (8, [some (.ref m), some (.int (nI j)), some (.int (nI k)), none, none], [.int (nI k)])) rfl ?_
      refine an_zlt rfl (by omega) ?_
      refine aw_run 2 (F' := (13, [some (.ref m), some (.int (nI j)), some (.int (nI k)), none, none], [.ref m, .int (nI k)])) rfl ?_
      refine aw_get rfl hM.o rfl ?_
      rw [show μ 2 0 = S.2.1 from r2]
      refine an_cle rfl (by omega) (by omega) (fun h3 => ?_) (fun h3 => ?_)
      · omega
      · refine aw_run 1 (F' := (21, [some (.ref m), some (.int (nI j)), some (.int (nI k)), none, none], [.int ((-2))])) rfl ?_
        exact aw_iret rfl ⟨_, rfl, rfl⟩ (hQ σ μ hM hR)
    · show AW g _ 61 (4, [some (.ref m), some (.int (nI j)), some (.int (nI k)), none, none], [.int (nI 1)]) σ _
      have hdoc : ∀ o, sp_doc (fun i => μ 1 (12000 + i)) k = o → sp_doc S.1 k = o := by
        intro o ho
        rw [← ho]
        rw [show (fun i => μ 1 (12000 + i)) = S.1 from funext r3]
      refine an_zeq rfl (by omega) (fun z => absurd z (by omega)) (fun _ => ?_)
      refine aw_run 1 (F' := (8, [some (.ref m), some (.int (nI j)), some (.int (nI k)), none, none], [.int (nI k)])) rfl ?_
      refine an_zlt rfl (by omega) ?_
      refine aw_run 2 (F' := (13, [some (.ref m), some (.int (nI j)), some (.int (nI k)), none, none], [.ref m, .int (nI k)])) rfl ?_
      refine aw_get rfl hM.o rfl ?_
      rw [show μ 2 0 = S.2.1 from r2]
      refine an_cle rfl (by omega) (by omega) (fun h3 => ?_) (fun h3 => ?_)
      · refine aw_run 2 (F' := (24, [some (.ref m), some (.int (nI j)), some (.int (nI k)), none, none], [.int (nI 0), .ref m])) rfl ?_
        refine ms_put hM rfl (by decide) (fun s1 hM1 => ?_)
        refine aw_run 3 (F' := (32, [some (.ref m), some (.int (nI j)), some (.int (nI k)), none, none], [.int (nI k), .int (nI 12000), .ref m])) rfl ?_
        refine aw_v [.ref m, .int (nI 12000), .int (nI k)] [] rfl (by decide) rfl hM1.o rfl rfl (Nat.le_of_ble_eq_true rfl) (Nat.le_of_ble_eq_true rfl) ?_
        refine m_els hM1 (by omega) (by omega) (fun hz s2 μ2 hM2 hag => ?_) (fun c hz s2 μ2 hM2 hag => ?_)
        · skip
          show AW g _ 61 (35, [some (.ref m), some (.int (nI j)), some (.int (nI k)), none, none], [.int (-1)]) s2 _
          refine aw_run 2 (F' := (37, [some (.ref m), some (.int (nI j)), some (.int (nI k)), some (.int (-1)), none], [.int (-1)])) rfl ?_
          refine aw_zge rfl (fun h4 => ?_) (fun h4 => ?_)
          · exact absurd h4 (by decide)
          · refine aw_run 1 (F' := (41, [some (.ref m), some (.int (nI j)), some (.int (nI k)), some (.int (-1)), none], [.int ((-1))])) rfl ?_
            have e1 : sp_read S (nI j) (nI k) = ((S.1, 0, S.2.2), -1) := by
              unfold sp_read
              rw [hi, hi2]
              simp only [hdoc _ hz]
            rw [e1] at hQ
            exact aw_iret rfl ⟨_, rfl, rfl⟩ (hQ _ _ hM2 (RS.ag (S := (S.1, 0, S.2.2)) (μ := mup μ 2 0 0) ⟨Nat.zero_le _, rfl, r3, r4, r5, r6⟩ hag (by decide)))
        · have hlc := doc_len (hdoc _ hz)
          show AW g _ 61 (35, [some (.ref m), some (.int (nI j)), some (.int (nI k)), none, none], [.int (nI (sp_len c))]) s2 _
          refine aw_run 2 (F' := (37, [some (.ref m), some (.int (nI j)), some (.int (nI k)), some (.int (nI (sp_len c))), none], [.int (nI (sp_len c))])) rfl ?_
          refine an_zge rfl (by omega) ?_
          refine aw_run 2 (F' := (45, [some (.ref m), some (.int (nI j)), some (.int (nI k)), some (.int (nI (sp_len c))), some (.int (nI 0))], [])) rfl ?_
          refine m_rdL (μ := μ2) hj (by omega) (fun σ3 μ3 hM3 g1 g2 => ?_) k 0 s2 μ2 (by omega) hM2 (fun f _ => rfl) ?_
          · have e1 : sp_read S (nI j) (nI k) = ((S.1, 0, sets S.2.2.1 j c, S.2.2.2), nI (sp_len c)) := by
              unfold sp_read
              rw [hi, hi2]
              simp only [hdoc _ hz]
            rw [e1] at hQ
            refine hQ _ _ hM3 ?_
            have hR2 : RS (S.1, 0, S.2.2) μ2 := RS.ag (S := (S.1, 0, S.2.2)) (μ := mup μ 2 0 0) ⟨Nat.zero_le _, rfl, r3, r4, r5, r6⟩ hag (by decide)
            obtain ⟨v1, v2, v3, v4, v5, v6⟩ := hR2
            have hb : ∀ i, (i < 2000 * j ∨ 2000 * j + 2000 ≤ i) → μ3 1 i = μ2 1 i := by
              intro i hi
              rw [g2]
              exact if_neg (by omega)
            refine ⟨Nat.zero_le _, by rw [g1 2 (by decide)]; exact v2, fun i => by rw [hb _ (by omega)]; exact v3 i, fun s hs => ?_, by rw [g1 3 (by decide), g1 4 (by decide), g1 5 (by decide)]; exact v5, fun w hw => ?_⟩
            · by_cases es : s = j
              · subst es
                have hS : sets S.2.2.1 s c s = c := if_pos rfl
                show sp_hgt (sets S.2.2.1 s c s) ≤ 16 ∧ ∃ q, q ≤ 2000 ∧ lyV (μ3 1) (sp_dv (sets S.2.2.1 s c s)) (2000 * s) (2000 * s + q)
                rw [hS]
                have hd := doc_ly (hdoc _ hz)
                refine ⟨sp_doc_hgt (hdoc _ hz), k, by omega, ?_⟩
                have := lyV.sh (β := S.1) (β' := μ3 1) (P := 0) (P' := 2000 * s) (n := k) (fun i hi => ?_) (x := 0) (y := k) (Nat.le_refl _) (by simpa using hd.1)
                · simpa using this
                · rw [g2]
                  show (if 2000 * s ≤ 2000 * s + i ∧ 2000 * s + i < 2000 * s + k then μ2 1 (12000 + (2000 * s + i - 2000 * s)) else μ2 1 (2000 * s + i)) = S.1 (0 + i)
                  rw [if_pos (by omega), Nat.add_sub_cancel_left, Nat.zero_add]
                  exact v3 i
              · have hS : sets S.2.2.1 j c s = S.2.2.1 s := if_neg es
                show sp_hgt (sets S.2.2.1 j c s) ≤ 16 ∧ ∃ q, q ≤ 2000 ∧ lyV (μ3 1) (sp_dv (sets S.2.2.1 j c s)) (2000 * s) (2000 * s + q)
                rw [hS]
                obtain ⟨u1, q, u2, u3⟩ := v4 s hs
                have u4 : lyV (μ2 1) (sp_dv (S.2.2.1 s)) (2000 * s + 0) (2000 * s + q) := u3
                exact ⟨u1, q, u2, lyV.kept (P := 2000 * s) (x := 0) (y := q) u4 (fun i h1 h2 => hb i (by omega))⟩
            · obtain ⟨u1, u2, u3⟩ := v6 w hw
              refine ⟨u1, by rw [g1 6 (by decide)]; exact u2, fun i x hx => ?_⟩
              obtain ⟨t1, t2, t3⟩ := u3 i x hx
              rw [g1 7 (by decide), g1 8 (by decide), g1 9 (by decide)]
              exact ⟨t1, t2, t3.kept (fun i h1 h2 => hb i (by omega))⟩
          · funext i
            unfold cpd
            rw [if_neg (by omega)]
      · omega
  · have e1 : sp_read S slot n = (S, -2) := by
      unfold sp_read
      rw [hi]
    rw [e1] at hQ
    show AW g _ 61 (4, [some (.ref m), some (.int slot), some (.int n), none, none], [.int (nI 0)]) σ _
    refine an_zeq rfl (by omega) (fun _ => ?_) (fun z => absurd z (by omega))
    refine aw_run 1 (F' := (21, [some (.ref m), some (.int (slot)), some (.int (n)), none, none], [.int ((-2))])) rfl ?_
    exact aw_iret rfl ⟨_, rfl, rfl⟩ (hQ σ μ hM hR)
end P75
