section P28
variable {g : Nat × Nat} {d : Nat} {σ : am_H} {Q : Option Value → am_H → Prop}
theorem c_chkl {s e : Nat} (hs : s ≤ e) (he : e < 2 ^ 31) (hQ : Q none σ) : AW g d 101 (0, [some (.int (nI s)), some (.int (nI e))], []) σ Q := by
  refine aw_run 2 (F' := (2, [some (.int (nI s)), some (.int (nI e))], [.int (nI s), .int (nI e)])) rfl ?_
  refine aw_cge rfl (fun _ => ?_) (fun q => absurd ((nI_leI (by omega) (by omega)).mpr hs) q)
  exact aw_vret rfl rfl hQ
theorem c_corb {a N s e : Nat} {β : Nat → Nat} (hga : g.1 ≤ a) (hgn : g.1 ≤ σ.2.1) (hw : wf σ) (hb : byf σ.1 a N β) (hs : s ≤ e) (he : e ≤ N) (hQ : ∀ f' : Nat → Int32, (∀ i, i < e - s → f' i = sb_b (β (s + i))) → Q (some (.ref σ.2.1)) (am_psh σ (.inl (1, e - s, .inl f')) (e - s))) : AW g (d + 1) 100 (0, [some (.ref a), some (.int (nI s)), some (.int (nI e)), none, none], []) σ Q := by
  obtain ⟨n1, f, ha, hf⟩ := hb
  have hlt := hw _ _ ha
  refine aw_run 2 (F' := (2, [some (.ref a), some (.int (nI s)), some (.int (nI e)), none, none], [.int (nI e), .int (nI s)])) rfl ?_
  refine aw_s [.int (nI s), .int (nI e)] [] rfl ⟨by decide, by decide⟩ rfl rfl (Nat.le_of_ble_eq_true rfl) (Nat.le_of_ble_eq_true rfl) ?_
  refine c_chkl hs (by omega) ?_
  refine aw_run 5 (F' := (10, [some (.ref a), some (.int (nI s)), some (.int (nI e)), some (.int (nI e - nI s)), none], [.int (nI e - nI s)])) rfl ?_
  rw [pk_sub hs]
  have hcl : (nI (e - s)).toNatClampNeg = e - s := nI_clamp (by omega)
  refine aw_nwa rfl (nI_pos (by omega)) (by omega) ?_
  rw [hcl]
  have ha' : (am_psh σ (.inl (1, e - s, .inl (fun _ => 0))) (e - s)).1 a = some (.inl (1, N, .inl f)) := by rw [am_psh_ne _ _ _ (by omega)]; exact ha
  refine aw_run 6 (F' := (20, [some (.ref a), some (.int (nI s)), some (.int (nI e)), some (.int (nI (e - s))), some (.ref σ.2.1)], [.ref a, .int 0, .ref σ.2.1, .int (nI s), .ref a])) rfl ?_
  refine aw_len rfl ha' (by decide) ?_
  refine aw_run 3 (F' := (24, [some (.ref a), some (.int (nI s)), some (.int (nI e)), some (.int (nI (e - s))), some (.ref σ.2.1)], [.int (nI (e - s)), .int (nI N - nI s), .int 0, .ref σ.2.1, .int (nI s), .ref a])) rfl ?_
  rw [pk_sub (show s ≤ N by omega)]
  refine aw_min rfl (Nat.le_of_ble_eq_true rfl) (by omega) ?_
  have em : (if nI (e - s) < nI (N - s) then nI (e - s) else nI (N - s)) = nI (e - s) := by
    by_cases q : nI (e - s) < nI (N - s)
    · rw [if_pos q]
    · rw [if_neg q]
      have q' : ¬ e - s < N - s := fun z => q ((nI_ltI (by omega) (by omega)).mpr z)
      rw [show N - s = e - s by omega]
  rw [em]
  have hn := am_psh_same σ (.inl (1, e - s, .inl (fun _ => 0))) (e - s)
  have hc0 : (0 : Int32).toNatClampNeg = 0 := by decide
  refine aw_cpy rfl (Nat.le_of_ble_eq_true rfl) (by omega) hgn hga ha' hn (nI_pos (by omega)) (by decide) (nI_pos (by omega)) (by rw [hcl, nI_clamp (by omega)]; omega) (by rw [hcl, hc0]; omega) (fun i hi => ?_) ?_
  · rw [hcl] at hi
    rw [nI_clamp (by omega), (hf (s + i) (by omega)).2]
    exact sb_fitB _
  · rw [am_set_psh, hcl, hc0, nI_clamp (by omega)]
    refine aw_run 1 (F' := (32, [some (.ref a), some (.int (nI s)), some (.int (nI e)), some (.int (nI (e - s))), some (.ref σ.2.1)], [.ref σ.2.1])) rfl ?_
    refine aw_aret rfl ⟨_, rfl, Or.inr ⟨_, rfl⟩⟩ (hQ _ (fun i hi => ?_))
    rw [pk_cpy_in (Nat.zero_le _) (by omega), Nat.sub_zero, (hf (s + i) (by omega)).2]
theorem c_cor {a N s e : Nat} {β : Nat → Nat} (hga : g.1 ≤ a) (hgn : g.1 ≤ σ.2.1) (hw : wf σ) (hb : byf σ.1 a N β) (hs : s ≤ e) (he : e ≤ N) (hQ : ∀ f' : Nat → Int32, (∀ i, i < e - s → f' i = sb_b (β (s + i))) → Q (some (.ref σ.2.1)) (am_psh σ (.inl (1, e - s, .inl f')) (e - s))) : AW g (d + 2) 99 (0, [some (.ref a), some (.int (nI s)), some (.int (nI e))], []) σ Q := by
  have hb' := hb
  obtain ⟨n1, f, ha, hf⟩ := hb'
  have far : AW g (d + 2) 99 (10, [some (.ref a), some (.int (nI s)), some (.int (nI e))], []) σ Q := by
    refine aw_run 3 (F' := (13, [some (.ref a), some (.int (nI s)), some (.int (nI e))], [.int (nI e), .int (nI s), .ref a])) rfl ?_
    refine aw_s [.ref a, .int (nI s), .int (nI e)] [] rfl ⟨by decide, by decide⟩ rfl rfl (Nat.le_of_ble_eq_true rfl) (Nat.le_of_ble_eq_true rfl) ?_
    refine c_corb hga hgn hw hb hs he (fun f' hf' => ?_)
    exact aw_aret rfl ⟨_, rfl, Or.inr ⟨_, rfl⟩⟩ (hQ f' hf')
  refine aw_run 1 (F' := (1, [some (.ref a), some (.int (nI s)), some (.int (nI e))], [.int (nI s)])) rfl ?_
  refine aw_zne rfl (fun _ => far) (fun q => ?_)
  have q' : s = 0 := (nI_eq (b := 0) (by omega) (by omega)).mp (Decidable.of_not_not q)
  refine aw_run 2 (F' := (6, [some (.ref a), some (.int (nI s)), some (.int (nI e))], [.ref a, .int (nI e)])) rfl ?_
  refine aw_len rfl ha (by decide) ?_
  refine aw_ceq rfl (fun z => ?_) (fun _ => far)
  have z' : e = N := (nI_eq (by omega) (by omega)).mp z
  subst z'
  subst q'
  refine aw_run 1 (F' := (18, [some (.ref a), some (.int (nI 0)), some (.int (nI e))], [.ref a])) rfl ?_
  refine aw_cln rfl (Nat.le_of_ble_eq_true rfl) (by omega) hga ha (fun i hi => by rw [(hf i hi).2]; exact sb_fitB _) ?_
  refine aw_cast rfl hgn (am_psh_same _ _ _) ?_
  exact aw_aret rfl ⟨_, rfl, Or.inr ⟨_, rfl⟩⟩ (hQ f (fun i hi => by rw [Nat.zero_add]; exact (hf i hi).2))
/-- copyOfBytes -/
theorem c_cob {a N s e : Nat} {β : Nat → Nat} (hga : g.1 ≤ a) (hgn : g.1 ≤ σ.2.1) (hw : wf σ) (hb : byf σ.1 a N β) (hs : s ≤ e) (he : e ≤ N) (h0 : s = e → Q (some (.ref g.2)) σ) (hQ : s < e → ∀ f' : Nat → Int32, (∀ i, i < e - s → f' i = sb_b (β (s + i))) → Q (some (.ref σ.2.1)) (am_psh σ (.inl (1, e - s, .inl f')) (e - s))) : AW g (d + 3) 19 (0, [some (.ref a), some (.int (nI s)), some (.int (nI e))], []) σ Q := by
  have hb' := hb
  obtain ⟨n1, f, ha, hf⟩ := hb'
  refine aw_run 1 (F' := (1, [some (.ref a), some (.int (nI s)), some (.int (nI e))], [.int (nI s)])) rfl ?_
  refine aw_zlt rfl (fun q => absurd q (nI_pos (by omega))) (fun _ => ?_)
  refine aw_run 2 (F' := (6, [some (.ref a), some (.int (nI s)), some (.int (nI e))], [.int (nI s), .int (nI e)])) rfl ?_
  refine aw_cle rfl (fun q => ?_) (fun q => ?_)
  · have q' := (nI_leI (by omega) (by omega)).mp q
    refine aw_sta rfl ?_
    exact aw_aret rfl ⟨_, rfl, Or.inr ⟨_, rfl⟩⟩ (h0 (by omega))
  · have q' : ¬ e ≤ s := fun z => q ((nI_leI (by omega) (by omega)).mpr z)
    refine aw_run 2 (F' := (11, [some (.ref a), some (.int (nI s)), some (.int (nI e))], [.ref a, .int (nI e)])) rfl ?_
    refine aw_len rfl ha (by decide) ?_
    refine aw_cle rfl (fun _ => ?_) (fun q => absurd ((nI_leI (by omega) (by omega)).mpr he) q)
    refine aw_run 3 (F' := (22, [some (.ref a), some (.int (nI s)), some (.int (nI e))], [.int (nI e), .int (nI s), .ref a])) rfl ?_
    refine aw_s [.ref a, .int (nI s), .int (nI e)] [] rfl ⟨by decide, by decide⟩ rfl rfl (Nat.le_of_ble_eq_true rfl) (Nat.le_of_ble_eq_true rfl) ?_
    refine c_cor hga hgn hw hb hs he (fun f' hf' => ?_)
    exact aw_aret rfl ⟨_, rfl, Or.inr ⟨_, rfl⟩⟩ (hQ (by omega) f' hf')
/-- Value's constructor -/
theorem c_vnew {v na ba n : Nat} {num : Int64} {kd0 : Int32} {fb : Nat → Int32} {w0 w1 w2 w3 w4 w5 w6 w7 : Value} (hd : 1 ≤ d) (hg : g.1 ≤ v) (hv : σ.1 v = some (.inr (1, [w0, w1, w2, w3, w4, w5, w6, w7]))) (hne : v ≠ ba) (hb : σ.1 ba = some (.inl (1, n, .inl fb))) (hQ : Q none (am_set σ v (.inr (1, [.int kd0, .ref na, .long num, .ref ba, .int (nI n), w5, w6, w7])))) : AW g d 2 (0, [some (.ref v), some (.int kd0), some (.ref na), some (.long num), none, some (.ref ba)], []) σ Q := by
  refine aw_run 1 (F' := (1, [some (.ref v), some (.int kd0), some (.ref na), some (.long num), none, some (.ref ba)], [.ref v])) rfl ?_
  refine aw_obj rfl (Nat.le_of_ble_eq_true rfl) hd ?_
  refine aw_run 2 (F' := (6, [some (.ref v), some (.int kd0), some (.ref na), some (.long num), none, some (.ref ba)], [.int kd0, .ref v])) rfl ?_
  refine aw_put rfl hg hv (Nat.le_of_ble_eq_true rfl) rfl rfl ?_
  refine aw_run 2 (F' := (11, [some (.ref v), some (.int kd0), some (.ref na), some (.long num), none, some (.ref ba)], [.ref na, .ref v])) rfl ?_
  refine aw_put rfl hg (am_set_same _ _ _) (Nat.le_of_ble_eq_true rfl) rfl rfl ?_
  rw [am_set_set]
  refine aw_run 2 (F' := (16, [some (.ref v), some (.int kd0), some (.ref na), some (.long num), none, some (.ref ba)], [.long num, .ref v])) rfl ?_
  refine aw_put rfl hg (am_set_same _ _ _) (Nat.le_of_ble_eq_true rfl) rfl rfl ?_
  rw [am_set_set]
  refine aw_run 2 (F' := (22, [some (.ref v), some (.int kd0), some (.ref na), some (.long num), none, some (.ref ba)], [.ref ba, .ref v])) rfl ?_
  refine aw_put rfl hg (am_set_same _ _ _) (Nat.le_of_ble_eq_true rfl) rfl rfl ?_
  rw [am_set_set]
  refine aw_run 2 (F' := (28, [some (.ref v), some (.int kd0), some (.ref na), some (.long num), none, some (.ref ba)], [.ref ba, .ref v])) rfl ?_
  refine aw_len rfl (show (am_set σ v _).1 ba = _ by rw [am_set_ne _ _ (Ne.symm hne)]; exact hb) (by decide) ?_
  refine aw_put rfl hg (am_set_same _ _ _) (Nat.le_of_ble_eq_true rfl) rfl rfl ?_
  rw [am_set_set]
  exact aw_vret rfl rfl hQ
end P28
