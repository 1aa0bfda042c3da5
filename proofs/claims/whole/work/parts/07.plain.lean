section AMPL
variable {p : Program} {l : Launch} {e : Env} {R : Room} {s : State} {m : MethodId} {args : Array Value} {below : List Frame} {meth : Method} {c : Code} {H : Heap} {locs : List Loc} {cells slots : Nat} {Q : State → Prop}
set_option maxHeartbeats 4000000 in
theorem am_plW {y pc nL : Nat} {r : am_R} {L : am_L} {st : List Value} {F' : am_F} {ls : Array Slot} (hx : p.tables.exec = Jvm.exec) (hb : c.code = am_by y) (hown : s.vm.findClass (am_ow y) = some m.cls) (hts : ∀ w, am_w w = true → w.before args s = true) (hd : decode (am_by y) pc = .ok (r.1, r.2.1)) (hok : am_ok y pc r = true) (hl : am_has ls nL L) (hp : am_pl r (pc, L, st) = some F') (k : ∀ ls', am_has ls' nL F'.2.1 → W p l e R s m args below meth c H locs cells slots Q (F0 m F'.1 ls' F'.2.2)) : W p l e R s m args below meth c H locs cells slots Q (F0 m pc ls st) := by
  obtain ⟨i, len, v, a, b⟩ := r
  dsimp only at hd
  cases i with
  | iconst n =>
    simp only [am_ok, Bool.and_eq_true, beq_iff_eq, decide_eq_true_eq] at hok
    obtain ⟨rfl, rfl⟩ := hok
    cases hp
    exact lv_iconst hx hb hd rfl (k ls hl)
  | bipush n =>
    simp only [am_ok, Bool.and_eq_true, beq_iff_eq, decide_eq_true_eq] at hok
    obtain ⟨rfl, rfl⟩ := hok
    cases hp
    exact lv_bipush hx hb hd rfl (k ls hl)
  | sipush n =>
    simp only [am_ok, Bool.and_eq_true, beq_iff_eq, decide_eq_true_eq] at hok
    obtain ⟨rfl, rfl⟩ := hok
    cases hp
    exact lv_sipush hx hb hd rfl (k ls hl)
  | lconst n =>
    simp only [am_ok, Bool.and_eq_true, beq_iff_eq, decide_eq_true_eq] at hok
    obtain ⟨rfl, rfl⟩ := hok
    cases hp
    exact lv_lconst hx hb hd rfl (k ls hl)
  | ldc n =>
    simp only [am_ok, Bool.and_eq_true, beq_iff_eq, decide_eq_true_eq] at hok
    obtain ⟨rfl, hok⟩ := hok
    cases hp
    cases v with
    | int z => exact lv_ldc hx hb hown (hts _ hok) hd (k ls hl)
    | _ => simp at hok
  | ldc2_w n =>
    simp only [am_ok, Bool.and_eq_true, beq_iff_eq, decide_eq_true_eq] at hok
    obtain ⟨rfl, hok⟩ := hok
    cases hp
    cases v with
    | long z => exact lv_ldc2 hx hb hown (hts _ hok) hd (k ls hl)
    | _ => simp at hok
  | aconst_null =>
    simp only [am_ok, beq_iff_eq] at hok
    subst hok
    cases hp
    exact lv_null hx hb hd (k ls hl)
  | iload n =>
    simp only [am_ok, beq_iff_eq] at hok
    subst hok
    simp only [am_pl, am_ldi] at hp
    split at hp
    · rename_i x hv
      cases hp
      exact lv_iload hx hb hd (hl.at hv) (k ls hl)
    · cases hp
  | iload_n n =>
    simp only [am_ok, beq_iff_eq] at hok
    subst hok
    simp only [am_pl, am_ldi] at hp
    split at hp
    · rename_i x hv
      cases hp
      exact lv_iload_n hx hb hd rfl (hl.at hv) (k ls hl)
    · cases hp
  | lload n =>
    simp only [am_ok, beq_iff_eq] at hok
    subst hok
    simp only [am_pl, am_ldl] at hp
    split at hp
    · rename_i x hv
      cases hp
      exact lv_lload hx hb hd (hl.at hv) (k ls hl)
    · cases hp
  | lload_n n =>
    simp only [am_ok, beq_iff_eq] at hok
    subst hok
    simp only [am_pl, am_ldl] at hp
    split at hp
    · rename_i x hv
      cases hp
      exact lv_lload_n hx hb hd rfl (hl.at hv) (k ls hl)
    · cases hp
  | aload n =>
    simp only [am_ok, beq_iff_eq] at hok
    subst hok
    simp only [am_pl, am_lda] at hp
    split at hp
    · rename_i x hv
      cases hp
      exact lv_aload hx hb hd (hl.at hv) (k ls hl)
    · rename_i hv
      cases hp
      exact lv_aloadN hx hb hd (hl.at hv) (k ls hl)
    · cases hp
  | aload_n n =>
    simp only [am_ok, beq_iff_eq] at hok
    subst hok
    simp only [am_pl, am_lda] at hp
    split at hp
    · rename_i x hv
      cases hp
      exact lv_aload_n hx hb hd rfl (hl.at hv) (k ls hl)
    · rename_i hv
      cases hp
      exact lv_aload_nN hx hb hd rfl (hl.at hv) (k ls hl)
    · cases hp
  | istore n =>
    simp only [am_ok, beq_iff_eq] at hok
    subst hok
    simp only [am_pl, am_sti] at hp
    split at hp
    · split at hp
      · rename_i hi
        cases hp
        exact lv_istore hx hb hd hl.lv (by rw [← hl.2.2.1]; exact hi) rfl (fun ls' h' => k ls' (hl.s1 h'))
      · cases hp
    · cases hp
  | istore_n n =>
    simp only [am_ok, beq_iff_eq] at hok
    subst hok
    simp only [am_pl, am_sti] at hp
    split at hp
    · split at hp
      · rename_i hi
        cases hp
        exact lv_istore_n hx hb hd rfl hl.lv (by rw [← hl.2.2.1]; exact hi) rfl (fun ls' h' => k ls' (hl.s1 h'))
      · cases hp
    · cases hp
  | lstore n =>
    simp only [am_ok, beq_iff_eq] at hok
    subst hok
    simp only [am_pl, am_stl] at hp
    split at hp
    · split at hp
      · rename_i hi
        cases hp
        exact lv_lstore hx hb hd hl.lv (by rw [← hl.2.2.1]; exact hi) rfl (fun ls' h' => k ls' (hl.s2 h'))
      · cases hp
    · cases hp
  | lstore_n n =>
    simp only [am_ok, beq_iff_eq] at hok
    subst hok
    simp only [am_pl, am_stl] at hp
    split at hp
    · split at hp
      · rename_i hi
        cases hp
        exact lv_lstore_n hx hb hd rfl hl.lv (by rw [← hl.2.2.1]; exact hi) rfl (fun ls' h' => k ls' (hl.s2 h'))
      · cases hp
    · cases hp
  | astore n =>
    simp only [am_ok, beq_iff_eq] at hok
    subst hok
    simp only [am_pl, am_sta] at hp
    split at hp
    · split at hp
      · rename_i hi
        cases hp
        exact lv_astore hx hb hd hl.lv (by rw [← hl.2.2.1]; exact hi) rfl (fun ls' h' => k ls' (hl.s1 h'))
      · cases hp
    · split at hp
      · rename_i hi
        cases hp
        exact lv_astoreN hx hb hd hl.lv (by rw [← hl.2.2.1]; exact hi) rfl (fun ls' h' => k ls' (hl.s1 h'))
      · cases hp
    · cases hp
  | astore_n n =>
    simp only [am_ok, beq_iff_eq] at hok
    subst hok
    simp only [am_pl, am_sta] at hp
    split at hp
    · split at hp
      · rename_i hi
        cases hp
        exact lv_astore_n hx hb hd rfl hl.lv (by rw [← hl.2.2.1]; exact hi) rfl (fun ls' h' => k ls' (hl.s1 h'))
      · cases hp
    · split at hp
      · rename_i hi
        cases hp
        exact lv_astore_nN hx hb hd rfl hl.lv (by rw [← hl.2.2.1]; exact hi) rfl (fun ls' h' => k ls' (hl.s1 h'))
      · cases hp
    · cases hp
  | iinc n z =>
    simp only [am_ok, Bool.and_eq_true, beq_iff_eq, decide_eq_true_eq] at hok
    obtain ⟨rfl, rfl⟩ := hok
    simp only [am_pl] at hp
    split at hp
    · rename_i x cv hv hc
      cases hc
      split at hp
      · rename_i hi
        cases hp
        obtain ⟨q, hq⟩ := List.getElem?_of_mem ((am_prs_mem (q := (n, .int x))).mpr hv)
        exact lv_iinc hx hb hd hl.lv hq rfl (by rw [← hl.2.2.1]; exact hi) rfl (fun ls' h' => k ls' (hl.s1 h'))
      · cases hp
    · cases hp
  | iadd =>
    simp only [am_ok, beq_iff_eq] at hok
    subst hok
    simp only [am_pl, am_i2] at hp
    split at hp
    · cases hp
      exact lv_iadd hx hb hd (k ls hl)
    · cases hp
  | isub =>
    simp only [am_ok, beq_iff_eq] at hok
    subst hok
    simp only [am_pl, am_i2] at hp
    split at hp
    · cases hp
      exact lv_isub hx hb hd (k ls hl)
    · cases hp
  | imul =>
    simp only [am_ok, beq_iff_eq] at hok
    subst hok
    simp only [am_pl, am_i2] at hp
    split at hp
    · cases hp
      exact lv_imul hx hb hd (k ls hl)
    · cases hp
  | iand =>
    simp only [am_ok, beq_iff_eq] at hok
    subst hok
    simp only [am_pl, am_i2] at hp
    split at hp
    · cases hp
      exact lv_iand hx hb hd (k ls hl)
    · cases hp
  | ior =>
    simp only [am_ok, beq_iff_eq] at hok
    subst hok
    simp only [am_pl, am_i2] at hp
    split at hp
    · cases hp
      exact lv_ior hx hb hd (k ls hl)
    · cases hp
  | ishl =>
    simp only [am_ok, beq_iff_eq] at hok
    subst hok
    simp only [am_pl, am_i2] at hp
    split at hp
    · cases hp
      exact lv_ishl hx hb hd (k ls hl)
    · cases hp
  | ishr =>
    simp only [am_ok, beq_iff_eq] at hok
    subst hok
    simp only [am_pl, am_i2] at hp
    split at hp
    · cases hp
      exact lv_ishr hx hb hd (k ls hl)
    · cases hp
  | ladd =>
    simp only [am_ok, beq_iff_eq] at hok
    subst hok
    simp only [am_pl, am_l2] at hp
    split at hp
    · cases hp
      exact lv_ladd hx hb hd (k ls hl)
    · cases hp
  | lmul =>
    simp only [am_ok, beq_iff_eq] at hok
    subst hok
    simp only [am_pl, am_l2] at hp
    split at hp
    · cases hp
      exact lv_lmul hx hb hd (k ls hl)
    · cases hp
  | land =>
    simp only [am_ok, beq_iff_eq] at hok
    subst hok
    simp only [am_pl, am_l2] at hp
    split at hp
    · cases hp
      exact lv_land hx hb hd (k ls hl)
    · cases hp
  | lor =>
    simp only [am_ok, beq_iff_eq] at hok
    subst hok
    simp only [am_pl, am_l2] at hp
    split at hp
    · cases hp
      exact lv_lor hx hb hd (k ls hl)
    · cases hp
  | lcmp =>
    simp only [am_ok, beq_iff_eq] at hok
    subst hok
    simp only [am_pl, am_l2] at hp
    split at hp
    · cases hp
      exact W.lcmp hx hb hd (k ls hl)
    · cases hp
  | lshl =>
    simp only [am_ok, beq_iff_eq] at hok
    subst hok
    simp only [am_pl, am_li] at hp
    split at hp
    · cases hp
      exact lv_lshl hx hb hd rfl (k ls hl)
    · cases hp
  | i2l =>
    simp only [am_ok, beq_iff_eq] at hok
    subst hok
    simp only [am_pl, am_i1] at hp
    split at hp
    · cases hp
      exact lv_i2l hx hb hd rfl (k ls hl)
    · cases hp
  | l2i =>
    simp only [am_ok, beq_iff_eq] at hok
    subst hok
    simp only [am_pl, am_l1] at hp
    split at hp
    · cases hp
      exact lv_l2i hx hb hd rfl (k ls hl)
    · cases hp
  | i2b =>
    simp only [am_ok, beq_iff_eq] at hok
    subst hok
    simp only [am_pl, am_i1] at hp
    split at hp
    · cases hp
      exact lv_i2b hx hb hd rfl (k ls hl)
    · cases hp
  | dup =>
    simp only [am_ok, beq_iff_eq] at hok
    subst hok
    simp only [am_pl] at hp
    split at hp
    · split at hp
      · rename_i hc
        cases hp
        exact lv_dup hx hb hd hc (k ls hl)
      · cases hp
    · cases hp
  | pop =>
    simp only [am_ok, beq_iff_eq] at hok
    subst hok
    simp only [am_pl] at hp
    split at hp
    · split at hp
      · rename_i hc
        cases hp
        exact lv_pop hx hb hd hc (k ls hl)
      · cases hp
    · cases hp
  | dup_x1 =>
    simp only [am_ok, beq_iff_eq] at hok
    subst hok
    simp only [am_pl] at hp
    split at hp
    · split at hp
      · rename_i hc
        cases hp
        exact lv_dup_x1 hx hb hd hc.1 hc.2 (k ls hl)
      · cases hp
    · cases hp
  | dup2 =>
    simp only [am_ok, beq_iff_eq] at hok
    subst hok
    simp only [am_pl] at hp
    split at hp
    · split at hp
      · rename_i hc
        cases hp
        exact lv_dup2_11 hx hb hd hc.1 hc.2 (k ls hl)
      · cases hp
    · cases hp
  | goto n =>
    simp only [am_ok, Bool.and_eq_true, beq_iff_eq, decide_eq_true_eq] at hok
    obtain ⟨rfl, ht⟩ := hok
    cases hp
    exact lv_goto hx hb hd ht (k ls hl)
  | _ => cases hp
/-- the same code at another place -/
def am_go (y pc : Nat) (st : List Value) (pc' : Nat) (st' : List Value) : Prop := ∀ (p : Program) (l : Launch) (e : Env) (R : Room) (s : State) (m : MethodId) (args : Array Value) (below : List Frame) (meth : Method) (c : Code) (H : Heap) (locs : List Loc) (cells slots : Nat) (Q : State → Prop) (ls : Array Slot), p.tables.exec = Jvm.exec → c.code = am_by y → W p l e R s m args below meth c H locs cells slots Q (F0 m pc' ls st') → W p l e R s m args below meth c H locs cells slots Q (F0 m pc ls st)
set_option maxHeartbeats 4000000 in
theorem am_brW {y pc : Nat} {r : am_R} {L : am_L} {st : List Value} {K : am_F → Prop} (hd : decode (am_by y) pc = .ok (r.1, r.2.1)) (hok : am_ok y pc r = true) (h : am_br r (pc, L, st) K) : ∃ pc' st', K (pc', L, st') ∧ am_go y pc st pc' st' := by
  obtain ⟨i, len, v, a, b⟩ := r
  dsimp only at hd
  cases i with
  | ifCond cc n =>
    simp only [am_ok, Bool.and_eq_true, beq_iff_eq, decide_eq_true_eq] at hok
    obtain ⟨rfl, ht⟩ := hok
    obtain ⟨x, st', rfl, h1, h2⟩ := h
    by_cases hc : am_cmp cc x 0
    · refine ⟨_, _, h1 hc, ?_⟩
      intro p l e R s m args below meth c H locs cells slots Q ls hx hb k
      cases cc with
      | eq => exact lv_if_eq hx hb hd ht (fun _ => k) (fun q => absurd hc q)
      | ne => exact lv_if_ne hx hb hd ht (fun _ => k) (fun q => absurd q hc)
      | lt => exact lv_if_lt hx hb hd ht (fun _ => k) (fun q => absurd hc q)
      | ge => exact lv_if_ge hx hb hd ht (fun _ => k) (fun q => absurd hc q)
      | gt => exact lv_if_gt hx hb hd ht (fun _ => k) (fun q => absurd hc q)
      | le => exact lv_if_le hx hb hd ht (fun _ => k) (fun q => absurd hc q)
    · refine ⟨_, _, h2 hc, ?_⟩
      intro p l e R s m args below meth c H locs cells slots Q ls hx hb k
      cases cc with
      | eq => exact lv_if_eq hx hb hd ht (fun q => absurd q hc) (fun _ => k)
      | ne => exact lv_if_ne hx hb hd ht (fun q => absurd q hc) (fun _ => k)
      | lt => exact lv_if_lt hx hb hd ht (fun q => absurd q hc) (fun _ => k)
      | ge => exact lv_if_ge hx hb hd ht (fun q => absurd q hc) (fun _ => k)
      | gt => exact lv_if_gt hx hb hd ht (fun q => absurd q hc) (fun _ => k)
      | le => exact lv_if_le hx hb hd ht (fun q => absurd q hc) (fun _ => k)
  | if_icmp cc n =>
    simp only [am_ok, Bool.and_eq_true, beq_iff_eq, decide_eq_true_eq] at hok
    obtain ⟨rfl, ht⟩ := hok
    obtain ⟨x, z, st', rfl, h1, h2⟩ := h
    by_cases hc : am_cmp cc x z
    · refine ⟨_, _, h1 hc, ?_⟩
      intro p l e R s m args below meth c H locs cells slots Q ls hx hb k
      cases cc with
      | eq => exact lv_icmp_eq hx hb hd ht (fun _ => k) (fun q => absurd hc q)
      | ne => exact lv_icmp_ne hx hb hd ht (fun _ => k) (fun q => absurd q hc)
      | lt => exact lv_icmp_lt hx hb hd ht (fun _ => k) (fun q => absurd hc q)
      | ge => exact lv_icmp_ge hx hb hd ht (fun _ => k) (fun q => absurd hc q)
      | gt => exact lv_icmp_gt hx hb hd ht (fun _ => k) (fun q => absurd hc q)
      | le => exact lv_icmp_le hx hb hd ht (fun _ => k) (fun q => absurd hc q)
    · refine ⟨_, _, h2 hc, ?_⟩
      intro p l e R s m args below meth c H locs cells slots Q ls hx hb k
      cases cc with
      | eq => exact lv_icmp_eq hx hb hd ht (fun q => absurd q hc) (fun _ => k)
      | ne => exact lv_icmp_ne hx hb hd ht (fun q => absurd q hc) (fun _ => k)
      | lt => exact lv_icmp_lt hx hb hd ht (fun q => absurd q hc) (fun _ => k)
      | ge => exact lv_icmp_ge hx hb hd ht (fun q => absurd q hc) (fun _ => k)
      | gt => exact lv_icmp_gt hx hb hd ht (fun q => absurd q hc) (fun _ => k)
      | le => exact lv_icmp_le hx hb hd ht (fun q => absurd q hc) (fun _ => k)
  | ifnull n =>
    simp only [am_ok, Bool.and_eq_true, beq_iff_eq, decide_eq_true_eq] at hok
    obtain ⟨rfl, ht⟩ := hok
    obtain ⟨w, st', rfl, ⟨rfl, h1⟩ | ⟨⟨q, rfl⟩, h1⟩⟩ := h
    · refine ⟨_, _, h1, ?_⟩
      intro p l e R s m args below meth c H locs cells slots Q ls hx hb k
      exact lv_ifnullN hx hb hd ht k
    · refine ⟨_, _, h1, ?_⟩
      intro p l e R s m args below meth c H locs cells slots Q ls hx hb k
      exact lv_ifnull hx hb hd k
  | ifnonnull n =>
    simp only [am_ok, Bool.and_eq_true, beq_iff_eq, decide_eq_true_eq] at hok
    obtain ⟨rfl, ht⟩ := hok
    obtain ⟨w, st', rfl, ⟨rfl, h1⟩ | ⟨⟨q, rfl⟩, h1⟩⟩ := h
    · refine ⟨_, _, h1, ?_⟩
      intro p l e R s m args below meth c H locs cells slots Q ls hx hb k
      exact lv_ifnonnullN hx hb hd k
    · refine ⟨_, _, h1, ?_⟩
      intro p l e R s m args below meth c H locs cells slots Q ls hx hb k
      exact lv_ifnonnull hx hb hd ht k
  | tableswitch n lo hi offs =>
    obtain ⟨x, st', t, rfl, ht, h1⟩ := h
    refine ⟨_, _, h1, ?_⟩
    intro p l e R s m args below meth c H locs cells slots Q ls hx hb k
    rcases ht with ⟨h2, h3⟩ | ⟨h2, h3, o, h4, h5⟩
    · exact lv_tableOut hx hb hd h2 h3 k
    · exact lv_tableIn hx hb hd h2 h3 h4 h5 k
  | lookupswitch n ps =>
    obtain ⟨x, st', t, rfl, ht, h1⟩ := h
    refine ⟨_, _, h1, ?_⟩
    intro p l e R s m args below meth c H locs cells slots Q ls hx hb k
    exact lv_lookup hx hb hd ht.1 rfl ht.2 k
  | _ => exact h.elim
end AMPL
