/-- a value without elements, just made -/
def lfx (g : Nat × Nat) (σ' : am_H) (lo x k na : Nat) (num : Int64) (txt : List Nat) : Prop := lo ≤ x ∧ x < σ'.2.1 ∧ ∃ ba, zx g lo σ'.2.1 x ba ∧ bya σ'.1 ba txt ∧ σ'.1 x = some (.inr (1, [.int (nI k), .ref na, .long num, .ref ba, .int (nI txt.length), .null, .null, .null]))
theorem lN_toInt64 {u : Nat} (h : u < 2 ^ 63) : (lN u).toInt = (u : Int) := pk_lT h
section P32
variable {g : Nat × Nat} {d : Nat} {σ : am_H} {Q : Option Value → am_H → Prop}
/-- new Value(k, na, num, NO_BYTES), the cell made and all pushed: the call of the constructor -/
theorem c_mk0 {y pc i v0' na k : Nat} {L : am_L} {rest : List Value} {num : Int64} (hd : True) (hg1 : g.1 ≤ σ.2.1) (hg2 : g.2 < g.1) (hw : wf σ) (hnb : bya σ.1 g.2 []) (hQ : ∀ σ' : am_H, σ'.1 σ.2.1 = some (.inr (1, [.int (nI k), .ref na, .long num, .ref g.2, .int (nI 0), .null, .null, .null])) → (∀ b, b < σ.2.1 → σ'.1 b = σ.1 b) → σ'.2.1 = σ.2.1 + 1 → σ'.2.2 = σ.2.2 + 8 → wf σ' → Q none σ') : AW g (d + 1) 2 (0, [some (.ref σ.2.1), some (.int (nI k)), some (.ref na), some (.long num), none, some (.ref g.2)], []) (am_psh σ (.inr (1, am_def 1)) (am_nf 1)) Q := by
  obtain ⟨-, -, f0, hf0, -⟩ := hnb
  refine c_vnew (d := d + 1) (w0 := .int 0) (w1 := .null) (w2 := .long 0) (w3 := .null) (w4 := .int 0) (w5 := .null) (w6 := .null) (w7 := .null) (n := 0) (fb := f0) (by omega) hg1 (am_psh_same _ _ _) (by omega) (by rw [am_psh_ne _ _ _ (by omega)]; exact hf0) ?_
  rw [am_set_psh]
  exact hQ _ (am_psh_same _ _ _) (fun b hb => am_psh_ne _ _ _ (by omega)) rfl rfl hw.psh
/-- Reader.readTruth -/
theorem c_rtr {r t N p e na : Nat} {β : Nat → Nat} (hg : g.1 ≤ r) (hgn : g.1 ≤ σ.2.1) (hg2 : g.2 < g.1) (hw : wf σ) (hr : σ.1 r = some (.inr (3, [.ref t, .int (nI p)]))) (hb : byf σ.1 t N β) (hnb : bya σ.1 g.2 []) (hp : p ≤ e) (he : e ≤ N) (hN : ¬ (p + 1 ≤ e ∧ β p ≤ 1) → ∀ (σ' : am_H) (p' : Nat), rdx g r t σ σ' p' 0 0 → Q (some .null) σ') (hS : p + 1 ≤ e ∧ β p ≤ 1 → ∀ (σ' : am_H) (x : Nat), rdx g r t σ σ' (p + 1) 1 8 → lfx g σ' σ.2.1 x 8 na (lN (β p)) [] → Q (some (.ref x)) σ') : AW g (d + 2) 20 (0, [some (.ref r), some (.ref na), some (.int (nI e)), none, none], []) σ Q := by
  have hb' := hb
  obtain ⟨n1, f, ha, hf⟩ := hb'
  refine aw_run 3 (F' := (3, [some (.ref r), some (.ref na), some (.int (nI e)), none, none], [.int (nI e), .int (nI 1), .ref r])) rfl ?_
  refine aw_v [.ref r, .int (nI 1), .int (nI e)] [] rfl (by decide) rfl hr rfl rfl (Nat.le_of_ble_eq_true rfl) (Nat.le_of_ble_eq_true rfl) ?_
  refine c_has hr hb (by omega) hp (by omega) ?_
  have self : rdx g r t σ σ p 0 0 := ⟨hr, fun _ _ _ => rfl, Nat.le_refl _, Nat.le_refl _, Nat.le_refl _, Nat.le_refl _, hw⟩
  by_cases h1 : p + 1 ≤ e
  · rw [if_pos ⟨h1, he⟩]
    refine aw_zne rfl (fun _ => ?_) (fun z => absurd (by decide) z)
    refine aw_run 2 (F' := (13, [some (.ref r), some (.ref na), some (.int (nI e)), none, none], [.int (nI 1), .ref r])) rfl ?_
    refine aw_v [.ref r, .int (nI 1)] [] rfl (by decide) rfl hr rfl rfl (Nat.le_of_ble_eq_true rfl) (Nat.le_of_ble_eq_true rfl) ?_
    refine c_num hg hr hb (by omega) (by omega) ?_
    have hle : sp_le β p 1 = β p := by simp [sp_le]
    rw [hle]
    have hbp := (hf p (by omega)).1
    have hat := rdx.at (g := g) (p' := p + 1) hw hr
    generalize am_set σ r (.inr (3, [.ref t, .int (nI (p + 1))])) = σ1 at hat ⊢
    refine aw_run 4 (F' := (20, [some (.ref r), some (.ref na), some (.int (nI e)), some (.long (lN (β p))), none], [.int (lg_cmp (lN (β p)) 1)])) rfl ?_
    by_cases h2 : β p ≤ 1
    · have e2 : ¬ 0 < lg_cmp (lN (β p)) 1 := by
        rcases (by omega : β p = 0 ∨ β p = 1) with q | q <;> rw [q] <;> decide
      refine aw_zgt rfl (fun z => absurd z e2) (fun _ => ?_)
      refine aw_new rfl ?_
      obtain ⟨a1, a2, a3, a4, a5, a6, a7⟩ := hat
      have hnx : σ1.2.1 = σ.2.1 := by omega
      refine aw_run 4 (F' := (31, [some (.ref r), some (.ref na), some (.int (nI e)), some (.long (lN (β p))), none], [.long (lN (β p)), .ref na, .int (nI 8), .ref σ1.2.1, .ref σ1.2.1])) rfl ?_
      refine aw_sta rfl ?_
      refine aw_i [.ref σ1.2.1, .int (nI 8), .ref na, .long (lN (β p)), .ref g.2] [.ref σ1.2.1] rfl (by decide) rfl rfl rfl (Nat.le_of_ble_eq_true rfl) (Nat.le_of_ble_eq_true rfl) ?_
      have hn1 : bya σ1.1 g.2 [] := by
        obtain ⟨-, -, f0, hf0, -⟩ := id hnb
        refine hnb.kept (a2 _ (hw _ _ hf0) (by omega))
      refine c_mk0 (y := 0) (pc := 0) (i := 0) (v0' := 0) (L := []) (rest := []) trivial (by omega) hg2 a7 hn1 (fun σ' b1 b2 b3 b4 b5 => ?_)
      refine aw_run 1 (F' := (41, [some (.ref r), some (.ref na), some (.int (nI e)), some (.long (lN (β p))), none], [.ref σ1.2.1])) rfl ?_
      refine aw_aret rfl ⟨_, rfl, Or.inl ⟨_, rfl⟩⟩ (hS ⟨h1, h2⟩ σ' σ1.2.1 ⟨?_, fun b c1 c2 => ?_, by omega, by omega, by omega, by omega, b5⟩ ⟨by omega, by omega, g.2, Or.inr rfl, ?_, b1⟩)
      · rw [b2 r (a7 _ _ a1)]
        exact a1
      · rw [b2 b (by omega)]
        exact a2 b c1 c2
      · obtain ⟨-, -, f0, hf0, -⟩ := id hn1
        exact hn1.kept (b2 _ (a7 _ _ hf0))
    · have e2 : 0 < lg_cmp (lN (β p)) 1 := by
        have : lN (β p) > 1 := by
          show (1 : Int64) < lN (β p)
          rw [show (1 : Int64) = lN 1 from rfl]
          exact (lN_lt (by omega) (by omega)).mpr (by omega)
        unfold lg_cmp
        rw [if_pos this]
        decide
      refine aw_zgt rfl (fun _ => ?_) (fun z => absurd e2 z)
      refine aw_run 1 (F' := (41, [some (.ref r), some (.ref na), some (.int (nI e)), some (.long (lN (β p))), none], [.null])) rfl ?_
      exact aw_nret rfl ⟨_, rfl, Or.inl ⟨_, rfl⟩⟩ (hN (fun q => h2 q.2) σ1 (p + 1) hat)
  · rw [if_neg (fun q => h1 q.1)]
    refine aw_zne rfl (fun z => absurd rfl z) (fun _ => ?_)
    refine aw_run 1 (F' := (10, [some (.ref r), some (.ref na), some (.int (nI e)), none, none], [.null])) rfl ?_
    exact aw_nret rfl ⟨_, rfl, Or.inl ⟨_, rfl⟩⟩ (hN (fun q => h1 q.1) σ p self)
end P32
