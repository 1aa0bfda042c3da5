theorem nI_neg {u : Nat} (h1 : 2 ^ 31 ≤ u) (h2 : u < 2 ^ 32) : nI u < 0 := by
  rw [Int32.lt_iff_toInt_lt]
  have e : (nI u).toInt = (u : Int) - 2 ^ 32 := by
    show (Int32.ofNat u).toInt = _
    rw [Int32.toInt_ofNat']
    show Int.bmod (u : Int) 4294967296 = _
    unfold Int.bmod
    have : (u : Int) % (4294967296 : Nat) = u := Int.emod_eq_of_lt (by omega) (by omega)
    rw [this, if_neg (by omega)]
    rfl
  rw [e]
  show (u : Int) - 2 ^ 32 < 0
  omega
abbrev sp_txc (β : Nat → Nat) (p e : Nat) : Prop := p + 4 ≤ e ∧ 1 ≤ sp_le β p 4 ∧ p + 4 + sp_le β p 4 ≤ e ∧ sp_tx β (sp_le β p 4 - 1) (p + 4) (p + 3 + sp_le β p 4) = true ∧ β (p + 3 + sp_le β p 4) = 0
section P33
variable {g : Nat × Nat} {d : Nat} {σ : am_H} {Q : Option Value → am_H → Prop}
set_option maxHeartbeats 4000000 in
/-- Reader.readText -/
theorem c_rtx {r t N p e na : Nat} {β : Nat → Nat} (hg : g.1 ≤ r) (hgt : g.1 ≤ t) (hgn : g.1 ≤ σ.2.1) (hg2 : g.2 < g.1) (hw : wf σ) (hr : σ.1 r = some (.inr (3, [.ref t, .int (nI p)]))) (hb : byf σ.1 t N β) (hnb : bya σ.1 g.2 []) (hp : p ≤ e) (he : e ≤ N) (hN : ¬ sp_txc β p e → ∀ (σ' : am_H) (p' : Nat), rdx g r t σ σ' p' 0 0 → Q (some .null) σ') (hS : sp_txc β p e → ∀ (σ' : am_H) (x : Nat), rdx g r t σ σ' (p + 4 + sp_le β p 4) 2 (8 + sp_le β p 4) → lfx g σ' σ.2.1 x 2 na 0 (sp_sub β (p + 4) (p + 3 + sp_le β p 4)) → Q (some (.ref x)) σ') : AW g (d + 4) 21 (0, [some (.ref r), some (.ref na), some (.int (nI e)), none, none], []) σ Q := by
  have hb' := hb
  obtain ⟨n1, f, ha, hf⟩ := hb'
  have htr : t ≠ r := by
    intro q
    subst q
    rw [hr] at ha
    cases ha
  refine aw_run 3 (F' := (3, [some (.ref r), some (.ref na), some (.int (nI e)), none, none], [.int (nI e), .int (nI 4), .ref r])) rfl ?_
  refine aw_v [.ref r, .int (nI 4), .int (nI e)] [] rfl (by decide) rfl hr rfl rfl (Nat.le_of_ble_eq_true rfl) (Nat.le_of_ble_eq_true rfl) ?_
  refine c_has hr hb (by omega) hp (by omega) ?_
  have self : rdx g r t σ σ p 0 0 := ⟨hr, fun _ _ _ => rfl, Nat.le_refl _, Nat.le_refl _, Nat.le_refl _, Nat.le_refl _, hw⟩
  by_cases h1 : p + 4 ≤ e
  · rw [if_pos ⟨h1, he⟩]
    refine aw_zne rfl (fun _ => ?_) (fun z => absurd (by decide) z)
    refine aw_run 2 (F' := (13, [some (.ref r), some (.ref na), some (.int (nI e)), none, none], [.int (nI 4), .ref r])) rfl ?_
    refine aw_v [.ref r, .int (nI 4)] [] rfl (by decide) rfl hr rfl rfl (Nat.le_of_ble_eq_true rfl) (Nat.le_of_ble_eq_true rfl) ?_
    refine c_num hg hr hb (by omega) (by omega) ?_
    have hu := sp_le_lt (β := β) (p := p) (w := 4) (fun i hi => (hf (p + i) (by omega)).1)
    have hat := rdx.at (g := g) (p' := p + 4) hw hr
    generalize am_set σ r (.inr (3, [.ref t, .int (nI (p + 4))])) = σ1 at hat ⊢
    generalize hue : sp_le β p 4 = u at hN hS hu ⊢
    refine aw_run 2 (F' := (18, [some (.ref r), some (.ref na), some (.int (nI e)), some (.int ((lN u).toInt32)), none], [])) rfl ?_
    rw [lN_i]
    have hat' := hat
    obtain ⟨a1, a2, a3, a4, a5, a6, a7⟩ := hat'
    have hnx : σ1.2.1 = σ.2.1 := by omega
    have hb1 : byf σ1.1 t N β := hb.kept (a2 t (hw _ _ ha) htr)
    have hn1 : bya σ1.1 g.2 [] := by
      obtain ⟨-, -, f0, hf0, -⟩ := id hnb
      exact hnb.kept (a2 _ (hw _ _ hf0) (by omega))
    have no : ¬ sp_txc β p e → AW g (d + 4) 21 (32, [some (.ref r), some (.ref na), some (.int (nI e)), some (.int (nI u)), none], []) σ1 Q := by
      intro q
      refine aw_run 1 (F' := (33, [some (.ref r), some (.ref na), some (.int (nI e)), some (.int (nI u)), none], [.null])) rfl ?_
      exact aw_nret rfl ⟨_, rfl, Or.inl ⟨_, rfl⟩⟩ (hN (by rw [← hue] at *; exact q) σ1 (p + 4) hat)
    unfold sp_txc at no
    rw [hue] at no
    refine aw_run 2 (F' := (20, [some (.ref r), some (.ref na), some (.int (nI e)), some (.int (nI u)), none], [.int (nI 1), .int (nI u)])) rfl ?_
    by_cases hbig : 2 ^ 31 ≤ u
    · refine aw_clt rfl (fun _ => no (fun q => by omega)) (fun z => absurd ?_ z)
      exact Int32.lt_trans (nI_neg hbig (by omega)) (by decide)
    · refine aw_clt rfl (fun z => no (fun q => ?_)) (fun z => ?_)
      · have := (nI_ltI (by omega) (by omega)).mp z
        omega
      · have z' : ¬ u < 1 := fun y => z ((nI_ltI (by omega) (by omega)).mpr y)
        refine aw_run 3 (F' := (26, [some (.ref r), some (.ref na), some (.int (nI e)), some (.int (nI u)), none], [.int (nI e), .int (nI u), .ref r])) rfl ?_
        refine aw_v [.ref r, .int (nI u), .int (nI e)] [] rfl (by decide) rfl a1 rfl rfl (Nat.le_of_ble_eq_true rfl) (Nat.le_of_ble_eq_true rfl) ?_
        refine c_has a1 hb1 (by omega) h1 (by omega) ?_
        by_cases h2 : p + 4 + u ≤ e
        · rw [if_pos ⟨h2, he⟩]
          refine aw_zne rfl (fun _ => ?_) (fun z => absurd (by decide) z)
          refine aw_run 1 (F' := (35, [some (.ref r), some (.ref na), some (.int (nI e)), some (.int (nI u)), none], [.ref r])) rfl ?_
          refine aw_get rfl a1 rfl ?_
          refine aw_run 7 (F' := (47, [some (.ref r), some (.ref na), some (.int (nI e)), some (.int (nI u)), some (.int (nI (p + 4)))], [.int (nI (p + 4) + nI u - 1), .ref r])) rfl ?_
          have e3 : nI (p + 4) + nI u - 1 = nI (p + 3 + u) := by
            rw [nI_add, show p + 4 + u = (p + 3 + u) + 1 by omega]
            exact nI_pred _
          rw [e3]
          refine aw_put rfl hg a1 (Nat.le_of_ble_eq_true rfl) rfl rfl ?_
          have hat2 := (hat.trans (rdx.at (g := g) (p' := p + 3 + u) a7 a1)).mono (Nat.le_refl 0) (Nat.le_refl 0)
          show AW g (d + 4) 21 (50, _, _) (am_set σ1 r (.inr (3, [.ref t, .int (nI (p + 3 + u))]))) Q
          generalize am_set σ1 r (.inr (3, [.ref t, .int (nI (p + 3 + u))])) = σ2 at hat2 ⊢
          have hat2' := hat2
          obtain ⟨b1, b2, b3, b4, b5, b6, b7⟩ := hat2'
          have hb2 : byf σ2.1 t N β := hb.kept (b2 t (hw _ _ ha) htr)
          have hn2 : bya σ2.1 g.2 [] := by
            obtain ⟨-, -, f0, hf0, -⟩ := id hnb
            exact hnb.kept (b2 _ (hw _ _ hf0) (by omega))
          have no2 : ∀ (σ3 : am_H) (p3 : Nat), rdx g r t σ σ3 p3 0 0 → ¬ sp_txc β p e → AW g (d + 4) 21 (73, [some (.ref r), some (.ref na), some (.int (nI e)), some (.int (nI u)), some (.int (nI (p + 4)))], []) σ3 Q := by
            intro σ3 p3 h3 q
            refine aw_run 1 (F' := (74, [some (.ref r), some (.ref na), some (.int (nI e)), some (.int (nI u)), some (.int (nI (p + 4)))], [.null])) rfl ?_
            exact aw_nret rfl ⟨_, rfl, Or.inl ⟨_, rfl⟩⟩ (hN (by rw [← hue] at *; exact q) σ3 p3 h3)
          unfold sp_txc at no2
          rw [hue] at no2
          refine aw_run 1 (F' := (51, [some (.ref r), some (.ref na), some (.int (nI e)), some (.int (nI u)), some (.int (nI (p + 4)))], [.ref r])) rfl ?_
          refine aw_get rfl b1 rfl ?_
          refine aw_run 2 (F' := (57, [some (.ref r), some (.ref na), some (.int (nI e)), some (.int (nI u)), some (.int (nI (p + 4)))], [.ref r, .int (nI (p + 4)), .ref t])) rfl ?_
          refine aw_get rfl b1 rfl ?_
          refine aw_s [.ref t, .int (nI (p + 4)), .int (nI (p + 3 + u))] [] rfl ⟨by decide, by decide⟩ rfl rfl (Nat.le_of_ble_eq_true rfl) (Nat.le_of_ble_eq_true rfl) ?_
          refine c_isRight hb2 (by omega) (by omega) ?_
          rw [show p + 3 + u - (p + 4) = u - 1 by omega]
          by_cases h3 : sp_tx β (u - 1) (p + 4) (p + 3 + u) = true
          · rw [if_pos h3]
            refine aw_zeq rfl (fun z => absurd z (by decide)) (fun _ => ?_)
            refine aw_run 1 (F' := (67, [some (.ref r), some (.ref na), some (.int (nI e)), some (.int (nI u)), some (.int (nI (p + 4)))], [.ref r])) rfl ?_
            refine aw_v [.ref r] [] rfl (by decide) rfl b1 rfl rfl (Nat.le_of_ble_eq_true rfl) (Nat.le_of_ble_eq_true rfl) ?_
            refine c_skip hg b1 hb2 (by omega) (fun h4 => ?_) (fun h4 => ?_)
            · refine aw_zne rfl (fun _ => ?_) (fun z => absurd (by decide) z)
              have hat3 := (hat2.trans (rdx.at (g := g) (p' := p + 3 + u + 1) b7 b1)).mono (Nat.le_refl 0) (Nat.le_refl 0)
              generalize am_set σ2 r (.inr (3, [.ref t, .int (nI (p + 3 + u + 1))])) = σ3 at hat3 ⊢
              rw [show p + 3 + u + 1 = p + 4 + u by omega] at hat3
              obtain ⟨c1, c2, c3, c4, c5, c6, c7⟩ := hat3
              have hb3 : byf σ3.1 t N β := hb.kept (c2 t (hw _ _ ha) htr)
              have hn3 : bya σ3.1 g.2 [] := by
                obtain ⟨-, -, f0, hf0, -⟩ := id hnb
                exact hnb.kept (c2 _ (hw _ _ hf0) (by omega))
              have hnx3 : σ3.2.1 = σ.2.1 := by omega
              have hrl := c7 _ _ c1
              refine aw_new rfl ?_
              have hcell := am_psh_same σ3 (.inr (1, am_def 1)) (am_nf 1)
              have hpne : ∀ b, b < σ3.2.1 → (am_psh σ3 (.inr (1, am_def 1)) (am_nf 1)).1 b = σ3.1 b := fun b hb => am_psh_ne _ _ _ (by omega)
              have hwf4 : wf (am_psh σ3 (.inr (1, am_def 1)) (am_nf 1)) := c7.psh
              have hsz4 : (am_psh σ3 (.inr (1, am_def 1)) (am_nf 1)).2.1 = σ3.2.1 + 1 := rfl
              have hsl4 : (am_psh σ3 (.inr (1, am_def 1)) (am_nf 1)).2.2 = σ3.2.2 + 8 := rfl
              generalize am_psh σ3 (.inr (1, am_def 1)) (am_nf 1) = σ4 at hcell hpne hwf4 hsz4 hsl4 ⊢
              refine aw_run 5 (F' := (83, [some (.ref r), some (.ref na), some (.int (nI e)), some (.int (nI u)), some (.int (nI (p + 4)))], [.ref r, .long 0, .ref na, .int (nI 2), .ref σ3.2.1, .ref σ3.2.1])) rfl ?_
              refine aw_get rfl (show σ4.1 r = _ by rw [hpne r hrl]; exact c1) rfl ?_
              refine aw_run 6 (F' := (94, [some (.ref r), some (.ref na), some (.int (nI e)), some (.int (nI u)), some (.int (nI (p + 4)))], [.int (nI (p + 4) + nI u - 1), .int (nI (p + 4)), .ref t, .long 0, .ref na, .int (nI 2), .ref σ3.2.1, .ref σ3.2.1])) rfl ?_
              rw [e3]
              refine aw_s [.ref t, .int (nI (p + 4)), .int (nI (p + 3 + u))] [.long 0, .ref na, .int (nI 2), .ref σ3.2.1, .ref σ3.2.1] rfl ⟨by decide, by decide⟩ rfl rfl (Nat.le_of_ble_eq_true rfl) (Nat.le_of_ble_eq_true rfl) ?_
              have htl := c7 t _ (show σ3.1 t = some (.inl (1, N, .inl f)) by rw [c2 t (hw _ _ ha) htr]; exact ha)
              have hgl : g.2 < σ3.2.1 := by omega
              refine c_cobL hgt (by omega) hwf4 (hb3.kept (hpne t htl)) (by omega) (by omega) (hn3.kept (hpne _ hgl)) (fun ba σ5 k1 k2 k3 k4 k5 k6 k7 k8 => ?_)
              have hx5 : σ5.1 σ3.2.1 = some (.inr (1, am_def 1)) := by rw [k3 _ (by omega)]; exact hcell
              have hlen5 : (sp_sub β (p + 4) (p + 3 + u)).length = u - 1 := by rw [sp_sub_len]; omega
              have hne5 : σ3.2.1 ≠ ba := by
                rcases k2 with ⟨q1, q2⟩ | q
                · omega
                · omega
              have k1' := k1
              obtain ⟨l1, l2, fb, l3, l4⟩ := k1'
              refine aw_i [.ref σ3.2.1, .int (nI 2), .ref na, .long 0, .ref ba] [.ref σ3.2.1] rfl (by decide) rfl rfl rfl (Nat.le_of_ble_eq_true rfl) (Nat.le_of_ble_eq_true rfl) ?_
              refine c_vnew (d := d + 3) (w0 := .int 0) (w1 := .null) (w2 := .long 0) (w3 := .null) (w4 := .int 0) (w5 := .null) (w6 := .null) (w7 := .null) (by omega) (by omega) hx5 hne5 l3 ?_
              refine aw_aret rfl ⟨_, rfl, Or.inl ⟨_, rfl⟩⟩ (hS (by unfold sp_txc; rw [hue]; exact ⟨h1, by omega, h2, h3, h4⟩) _ σ3.2.1 ⟨?_, fun b q1 q2 => ?_, ?_, ?_, ?_, ?_, k8.set hx5⟩ ⟨by omega, ?_, ba, ?_, ?_, am_set_same _ _ _⟩)
              · rw [am_set_ne _ _ (by omega), k3 r (by omega), hpne r hrl]
                exact c1
              · rw [am_set_ne _ _ (by omega), k3 b (by omega), hpne b (by omega)]
                exact c2 b q1 q2
              · show σ.2.1 ≤ σ5.2.1
                omega
              · show σ5.2.1 ≤ σ.2.1 + 2
                omega
              · show σ.2.2 ≤ σ5.2.2
                omega
              · show σ5.2.2 ≤ σ.2.2 + (8 + u)
                omega
              · show σ3.2.1 < σ5.2.1
                omega
              · rcases k2 with ⟨q1, q2⟩ | q
                · exact Or.inl ⟨by omega, q2, Ne.symm hne5⟩
                · exact Or.inr q
              · exact k1.kept (am_set_ne _ _ (Ne.symm hne5))
            · refine aw_zne rfl (fun z => absurd rfl z) (fun _ => ?_)
              exact no2 σ2 _ hat2 (fun q => h4 q.2.2.2.2)
          · rw [if_neg h3]
            refine aw_zeq rfl (fun _ => ?_) (fun z => absurd rfl z)
            exact no2 σ2 _ hat2 (fun q => h3 q.2.2.2.1)
        · rw [if_neg (fun q => h2 q.1)]
          refine aw_zne rfl (fun z => absurd rfl z) (fun _ => ?_)
          exact no (fun q => h2 q.2.2.1)
  · rw [if_neg (fun q => h1 q.1)]
    refine aw_zne rfl (fun z => absurd rfl z) (fun _ => ?_)
    refine aw_run 1 (F' := (10, [some (.ref r), some (.ref na), some (.int (nI e)), none, none], [.null])) rfl ?_
    exact aw_nret rfl ⟨_, rfl, Or.inl ⟨_, rfl⟩⟩ (hN (fun q => h1 q.1) σ p self)
end P33
