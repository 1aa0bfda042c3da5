set_option maxHeartbeats 4000000 in
theorem am_main (g : Nat × Nat) (D : va_G) (tys : List (ClassId × FieldType)) (l : Launch) : ∀ d y F σ Q, am_Ph g (am_P g D tys l) d y F σ Q → am_P g D tys l d y F σ Q := by
  intro d y F σ Q h
  obtain ⟨pc, L, st⟩ := F
  obtain ⟨r, hr, h⟩ := h
  obtain ⟨hd, hok⟩ := am_rows hr
  have step : ∀ (pc' : Nat) (st' : List Value) (σ' : am_H), am_P g D tys l d y (pc', L, st') σ' Q → σ.2.1 ≤ σ'.2.1 → σ.2.2 ≤ σ'.2.2 → am_gh g D tys d y pc st σ pc' st' σ' → am_P g D tys l d y (pc, L, st) σ Q := by
    intro pc' st' σ' hP n1 n2 hgh
    obtain ⟨v, σf, hQ, m1, m2, hV⟩ := hP
    refine ⟨v, σf, hQ, Nat.le_trans n1 m1, Nat.le_trans n2 m2, ?_⟩
    intro p e R s m args below meth c H locs cells slots Qw ls hC hl hDx hf hlo hc hs hret
    have e1 : cells + (σ'.2.1 - σ.2.1) + (σf.2.1 - σ'.2.1) = cells + (σf.2.1 - σ.2.1) := by omega
    have e2 : slots + (σ'.2.2 - σ.2.2) + (σf.2.2 - σ'.2.2) = slots + (σf.2.2 - σ.2.2) := by omega
    refine hgh p l e R s m args below meth c H locs cells slots Qw ls hC hDx hl.1 hf hlo (by omega) (by omega) (fun H' locs' hDx' => ?_)
    refine hV p e R s m args below meth c H' locs' _ _ Qw ls hC hl hDx' hf hlo (by omega) (by omega) ?_
    intro pc'' ls' H'' locs'' a1 a2 a3
    rw [e1, e2]
    exact hret pc'' ls' H'' locs'' a1 a2 a3
  have cg : ∀ (i k y' : Nat), am_okc y i k y' = true → ((k = 0 ∧ r.1 = .invokestatic i) ∨ (k = 1 ∧ r.1 = .invokespecial i) ∨ (k = 2 ∧ r.1 = .invokevirtual i)) → r.2.1 = 3 → am_cg (am_P g D tys l) k d y y' (pc, L, st) σ Q → am_P g D tys l d y (pc, L, st) σ Q := by
    intro i k y' hokc hins hlen3 hcg
    obtain ⟨d', vs, rest, Q', rfl, hst, h3, h4, h5, h6, ⟨v1, σ1, hQ1, m1, m2, hV1⟩, h8⟩ := hcg
    obtain ⟨v, σf, hQ, n1, n2, hV⟩ := h8 v1 σ1 hQ1
    refine ⟨v, σf, hQ, Nat.le_trans m1 n1, Nat.le_trans m2 n2, ?_⟩
    intro p e R s m args below meth c H locs cells slots Qw ls hC hl hDx hf hlo hc hs hret
    have e1 : cells + (σ1.2.1 - σ.2.1) + (σf.2.1 - σ1.2.1) = cells + (σf.2.1 - σ.2.1) := by omega
    have e2 : slots + (σ1.2.2 - σ.2.2) + (σf.2.2 - σ1.2.2) = slots + (σf.2.2 - σ.2.2) := by omega
    rw [hlen3] at hd
    dsimp only at hst
    subst hst
    refine am_caW (ins := r.1) hC hl.1 hDx hokc hins hd hf hlo h3 h4 h5 h6 hV1 (by omega) (by omega) (fun H1 locs1 hD1 => ?_)
    refine hV p e R s m args below meth c H1 locs1 _ _ Qw ls hC hl hD1 hf hlo (by omega) (by omega) ?_
    intro pc'' ls' H'' locs'' a1 a2 a3
    rw [e1, e2]
    exact hret pc'' ls' H'' locs'' a1 a2 a3
  rcases h with ⟨F', hp, v, σf, hQ, m1, m2, hV⟩ | h | h | h | h
  · refine ⟨v, σf, hQ, m1, m2, ?_⟩
    intro p e R s m args below meth c H locs cells slots Qw ls hC hl hDx hf hlo hc hs hret
    exact am_plW hC.1 hC.2.1 hC.2.2.2.1 hC.2.2.2.2.1 hd hok hl hp (fun ls' hl' => hV p e R s m args below meth c H locs cells slots Qw ls' hC hl' hDx hf hlo hc hs hret)
  · obtain ⟨pc', st', ⟨v, σf, hQ, m1, m2, hV⟩, hgo⟩ := am_brW hd hok h
    refine ⟨v, σf, hQ, m1, m2, ?_⟩
    intro p e R s m args below meth c H locs cells slots Qw ls hC hl hDx hf hlo hc hs hret
    exact hgo p l e R s m args below meth c H locs cells slots Qw ls hC.1 hC.2.1 (hV p e R s m args below meth c H locs cells slots Qw ls hC hl hDx hf hlo hc hs hret)
  · obtain ⟨pc', st', σ', hK, n1, n2, hgh⟩ := am_hpW (d := d) (D := D) (tys := tys) hd hok h
    exact step pc' st' σ' hK n1 n2 hgh
  · have fin : ∀ v : Option Value, st = v.toList → r.1 = am_ri v → am_rtok y v → Q v σ → r.2.1 = 1 → am_P g D tys l d y (pc, L, st) σ Q := by
      intro v hst hi hrt hQ h1
      refine ⟨v, σ, hQ, Nat.le_refl _, Nat.le_refl _, ?_⟩
      intro p e R s m args below meth c H locs cells slots Qw ls hC hl hDx hf hlo hc hs hret
      have k := hret pc ls H locs (by rw [hd, hi, h1]) hrt hDx
      rw [Nat.sub_self, Nat.sub_self, Nat.add_zero, Nat.add_zero] at k
      rw [hst]
      exact k
    obtain ⟨i, len, v0, a0, b0⟩ := r
    cases i with
    | ireturn =>
      simp only [am_ok, beq_iff_eq] at hok
      obtain ⟨x, h1, h2, h3⟩ := h
      exact fin (some (.int x)) h1 rfl h2 h3 hok
    | lreturn =>
      simp only [am_ok, beq_iff_eq] at hok
      obtain ⟨x, h1, h2, h3⟩ := h
      exact fin (some (.long x)) h1 rfl h2 h3 hok
    | return_ =>
      simp only [am_ok, beq_iff_eq] at hok
      obtain ⟨h1, h2, h3⟩ := h
      exact fin none h1 rfl h2 h3 hok
    | areturn =>
      simp only [am_ok, beq_iff_eq] at hok
      obtain ⟨w, h1, hw, h2, h3⟩ := h
      rcases hw with rfl | ⟨a, rfl⟩
      · exact fin (some .null) h1 rfl h2 h3 hok
      · exact fin (some (.ref a)) h1 rfl h2 h3 hok
    | _ => exact h.elim
  · obtain ⟨i, len, v0, a0, b0⟩ := r
    cases i with
    | invokevirtual n =>
      simp only [am_ok, Bool.and_eq_true, beq_iff_eq] at hok
      obtain ⟨rfl, hok⟩ := hok
      rcases h with ⟨h0, a, k, f, rest, h1, h2, h3, h4, h5, h6, h7⟩ | ⟨h0, h1⟩
      · dsimp only at h0 h1
        subst h0
        subst h1
        rw [if_pos rfl] at hok
        refine step _ _ _ h7 (Nat.le_succ _) (Nat.le_add_right _ _) ?_
        intro p l e R s m args below meth c H locs cells slots Qw ls hC hDx hsz hf hlo hc hs k
        have e1 : ∀ q : Nat, (am_psh σ (.inl (1, q, .inl f)) q).2.1 - σ.2.1 = 1 := fun q => by show σ.2.1 + 1 - σ.2.1 = 1; omega
        have e2 : ∀ q : Nat, (am_psh σ (.inl (1, q, .inl f)) q).2.2 - σ.2.2 = q := fun q => by show σ.2.2 + q - σ.2.2 = q; omega
        rw [e1] at hc k
        rw [e2] at hs k
        exact am_r_cln hC hDx (hsz.trans hC.2.2.1.symm) hok hd h2 (by omega) (by omega) h4 h5 h6 hc hs k
      · dsimp only at h0
        rw [if_neg h0] at hok
        exact cg n 2 a0 hok (Or.inr (Or.inr ⟨rfl, rfl⟩)) rfl h1
    | invokespecial n =>
      simp only [am_ok, Bool.and_eq_true, beq_iff_eq] at hok
      obtain ⟨rfl, hok⟩ := hok
      rcases h with ⟨h0, a, rest, h1, h2, h3, h4⟩ | ⟨h0, h1⟩
      · dsimp only at h0
        subst h0
        rw [if_pos rfl] at hok
        refine step _ _ σ h4 (Nat.le_refl _) (Nat.le_refl _) ?_
        dsimp only at h1
        subst h1
        intro p l e R s m args below meth c H locs cells slots Qw ls hC hDx hsz hf hlo _ _ k
        obtain ⟨hx, hb, hml, hown, hts, hnm, hr, hlk, hG, hB⟩ := hC
        have kk := k H locs hDx
        rw [Nat.sub_self, Nat.sub_self, Nat.add_zero, Nat.add_zero] at kk
        exact am_r_obj hx hb hown hts (hsz.trans hml.symm) hok hd h2 (by omega) (by omega) kk
      · dsimp only at h0
        rw [if_neg h0] at hok
        exact cg n 1 a0 hok (Or.inr (Or.inl ⟨rfl, rfl⟩)) rfl h1
    | invokestatic n =>
      simp only [am_ok, Bool.and_eq_true, beq_iff_eq] at hok
      obtain ⟨rfl, hok⟩ := hok
      rcases h with ⟨h0, n', dp, sp, a, a1, n0, n1, f, f1, rest, h1, h2, h3, h4, h5, h6, h7, h8, h9, h10, h11, h12, h13, h14⟩ | ⟨h0, x, z, rest, h1, h2, h3, h4⟩ | ⟨h0, h0', h1⟩
      · dsimp only at h0 h1
        subst h0
        subst h1
        rw [if_pos rfl] at hok
        refine step _ _ _ h14 (Nat.le_refl _) (Nat.le_refl _) ?_
        intro p l e R s m args below meth c H locs cells slots Qw ls hC hDx hsz hf hlo _ _ k
        refine am_r_cpy hC hDx (hsz.trans hC.2.2.1.symm) hok hd h2 (by omega) (by omega) h4 h5 h6 h7 h8 h9 h10 h11 h12 h13 (fun H' locs' hD' => ?_)
        have kk := k H' locs' hD'
        have e1 : ∀ q : am_C, (am_set σ a q).2.1 = σ.2.1 := fun _ => rfl
        have e2 : ∀ q : am_C, (am_set σ a q).2.2 = σ.2.2 := fun _ => rfl
        rw [e1, e2, Nat.sub_self, Nat.sub_self, Nat.add_zero, Nat.add_zero] at kk
        exact kk
      · dsimp only at h0 h1
        subst h0
        subst h1
        rw [if_neg (by decide), if_pos rfl] at hok
        refine step _ _ _ h4 (Nat.le_refl _) (Nat.le_refl _) ?_
        intro p l e R s m args below meth c H locs cells slots Qw ls hC hDx hsz hf hlo hc hs k
        have kk := k H locs hDx
        rw [Nat.sub_self, Nat.add_zero] at hc hs
        rw [Nat.sub_self, Nat.sub_self, Nat.add_zero, Nat.add_zero] at kk
        exact va_mmin hC.1 hC.2.1 (hC.2.2.1.trans hsz.symm) hC.2.2.2.1 (hC.2.2.2.2.1 _ hok) (hC.2.2.2.2.1 _ am_mm1.1) (hC.2.2.2.2.1 _ am_mm1.2.1) (hC.2.2.2.2.1 _ am_mm1.2.2) (by omega) (by omega) hc hs hd kk
      · dsimp only at h0 h0'
        rw [if_neg h0, if_neg h0'] at hok
        exact cg n 0 a0 hok (Or.inl ⟨rfl, rfl⟩) rfl h1
    | _ => exact h.elim
