theorem am_ty5 {t : Nat} (h : t < 5) : ∃ ty, am_tyl[t]? = some ty := by
  have h2 : t < am_tyl.length := h
  exact ⟨am_tyl[t], List.getElem?_eq_getElem h2⟩
set_option maxHeartbeats 4000000 in
theorem am_hpW {g : Nat × Nat} {D : va_G} {tys : List (ClassId × FieldType)} {d y pc : Nat} {r : am_R} {L : am_L} {st : List Value} {σ : am_H} {K : am_F → am_H → Prop} (hd : decode (am_by y) pc = .ok (r.1, r.2.1)) (hok : am_ok y pc r = true) (h : am_hp g r (pc, L, st) σ K) : ∃ pc' st' σ', K (pc', L, st') σ' ∧ σ.2.1 ≤ σ'.2.1 ∧ σ.2.2 ≤ σ'.2.2 ∧ am_gh g D tys d y pc st σ pc' st' σ' := by
  obtain ⟨i, len, v0, a0, b0⟩ := r
  dsimp only at hd
  cases i with
  | getfield n =>
    simp only [am_ok, Bool.and_eq_true, beq_iff_eq, decide_eq_true_eq] at hok
    obtain ⟨rfl, hok, hci⟩ := hok
    obtain ⟨a, st', fs, v, rfl, h2, h3, h4⟩ := h
    exact ⟨_, _, _, h4, Nat.le_refl _, Nat.le_refl _, am_r_get hd hok hci h2 h3⟩
  | putfield n =>
    simp only [am_ok, Bool.and_eq_true, Bool.or_eq_true, Bool.not_eq_true', beq_iff_eq, decide_eq_true_eq] at hok
    obtain ⟨rfl, ⟨hok, hci⟩, hfin⟩ := hok
    obtain ⟨a, st', fs, v, rfl, h2, h3, h4, h5, h6, h7⟩ := h
    exact ⟨_, _, _, h7, Nat.le_refl _, Nat.le_refl _, am_r_put hd hok (hfin.imp id (fun z => ⟨z.1.1, z.1.2, z.2⟩)) hci h2 h3 h4 h5 h6⟩
  | getstatic n =>
    simp only [am_ok, Bool.and_eq_true, Bool.or_eq_true, beq_iff_eq, decide_eq_true_eq] at hok
    obtain ⟨rfl, hok⟩ := hok
    exact ⟨_, _, _, h, Nat.le_refl _, Nat.le_refl _, am_r_sta hd hok⟩
  | new n =>
    simp only [am_ok, Bool.and_eq_true, beq_iff_eq, decide_eq_true_eq] at hok
    obtain ⟨rfl, hok, hci⟩ := hok
    exact ⟨_, _, _, h, Nat.le_succ _, Nat.le_add_right _ _, am_r_new hd hok hci⟩
  | newarray ty =>
    simp only [am_ok, Bool.and_eq_true, beq_iff_eq, decide_eq_true_eq] at hok
    obtain ⟨rfl, ⟨⟨ht, hw⟩, hdf⟩, hcb⟩ := hok
    obtain ⟨n, st', rfl, h2, h3, h4⟩ := h
    exact ⟨_, _, _, h4, Nat.le_succ _, Nat.le_add_right _ _, am_r_nwa hd ht hw hdf hcb h2 h3⟩
  | anewarray n =>
    simp only [am_ok, Bool.and_eq_true, beq_iff_eq] at hok
    obtain ⟨rfl, hok⟩ := hok
    split at hok
    · rename_i C hC
      simp only [Bool.and_eq_true, decide_eq_true_eq] at hok
      obtain ⟨k, st', rfl, h2, h3, h4⟩ := h
      exact ⟨_, _, _, h4, Nat.le_succ _, Nat.le_add_right _ _, am_r_nwq hd hC hok.1 hok.2 h2 h3⟩
    · cases hok
  | arraylength =>
    simp only [am_ok, beq_iff_eq] at hok
    subst hok
    obtain ⟨a, st', t, n, x, rfl, h2, h3, h4, h5⟩ := h
    obtain ⟨ty, hty⟩ := am_ty5 h2
    exact ⟨_, _, _, h5, Nat.le_refl _, Nat.le_refl _, am_r_len (x := (n, x)) hd hty h3 h4⟩
  | iaload =>
    simp only [am_ok, beq_iff_eq] at hok
    subst hok
    obtain ⟨a, j, st', n, f, rfl, h2, h3, h4⟩ := h
    exact ⟨_, _, _, h4, Nat.le_refl _, Nat.le_refl _, am_r_iald hd rfl h2 h3⟩
  | baload =>
    simp only [am_ok, beq_iff_eq] at hok
    subst hok
    obtain ⟨a, j, st', t, n, f, rfl, rfl | rfl, h2, h3, h4⟩ := h
    · exact ⟨_, _, _, h4, Nat.le_refl _, Nat.le_refl _, am_r_bald hd rfl h2 h3⟩
    · exact ⟨_, _, _, h4, Nat.le_refl _, Nat.le_refl _, am_r_zald hd rfl h2 h3⟩
  | aaload =>
    simp only [am_ok, beq_iff_eq] at hok
    subst hok
    obtain ⟨a, j, st', t, n, f, rfl, rfl | rfl, h2, h3, h4⟩ := h
    · exact ⟨_, _, _, h4, Nat.le_refl _, Nat.le_refl _, am_r_aald hd rfl h2 h3⟩
    · exact ⟨_, _, _, h4, Nat.le_refl _, Nat.le_refl _, am_r_aald hd rfl h2 h3⟩
  | iastore =>
    simp only [am_ok, beq_iff_eq] at hok
    subst hok
    obtain ⟨a, j, x, st', n, f, rfl, h2, h3, h4, h5⟩ := h
    exact ⟨_, _, _, h5, Nat.le_refl _, Nat.le_refl _, am_r_iast hd rfl h2 h3 h4⟩
  | bastore =>
    simp only [am_ok, beq_iff_eq] at hok
    subst hok
    obtain ⟨a, j, x, st', n, f, rfl, h2, h3, ⟨h4, h5⟩ | ⟨h4, h5⟩⟩ := h
    · exact ⟨_, _, _, h5, Nat.le_refl _, Nat.le_refl _, am_r_bast hd rfl h2 h4 h3⟩
    · exact ⟨_, _, _, h5, Nat.le_refl _, Nat.le_refl _, am_r_zast hd rfl h2 h4 h3⟩
  | aastore =>
    simp only [am_ok, beq_iff_eq] at hok
    subst hok
    obtain ⟨a, j, v, st', t, n, f, ci, fs, rfl, h2, h3, h4, h5, h6, h7⟩ := h
    obtain ⟨e1, e2⟩ := am_el_of h4
    exact ⟨_, _, _, h7, Nat.le_refl _, Nat.le_refl _, am_r_aast hd e1 e2 h2 h3 h5 h6⟩
  | checkcast n =>
    simp only [am_ok, Bool.and_eq_true, beq_iff_eq] at hok
    obtain ⟨rfl, hok⟩ := hok
    obtain ⟨a, st', n', f, rfl, h2, h3, h4⟩ := h
    exact ⟨_, _, _, h4, Nat.le_refl _, Nat.le_refl _, am_r_cst hd hok h2 h3⟩
  | idiv =>
    simp only [am_ok, beq_iff_eq] at hok
    subst hok
    obtain ⟨x, z, st', rfl, h2, h3⟩ := h
    exact ⟨_, _, _, h3, Nat.le_refl _, Nat.le_refl _, am_r_div hd h2⟩
  | irem =>
    simp only [am_ok, beq_iff_eq] at hok
    subst hok
    obtain ⟨x, z, st', rfl, h2, h3⟩ := h
    exact ⟨_, _, _, h3, Nat.le_refl _, Nat.le_refl _, am_r_rem hd h2⟩
  | _ => exact h.elim
def am_ri (v : Option Value) : Instr := match v with
  | some (.int _) => .ireturn
  | some (.long _) => .lreturn
  | some _ => .areturn
  | none => .return_
/-- what a run gives of the machine -/
def am_V (g : Nat × Nat) (D : va_G) (tys : List (ClassId × FieldType)) (l : Launch) (d y : Nat) (F : am_F) (σ : am_H) (v : Option Value) (σf : am_H) : Prop :=
  ∀ (p : Program) (e : Env) (R : Room) (s : State) (m : MethodId) (args : Array Value) (below : List Frame) (meth : Method) (c : Code) (H : Heap) (locs : List Loc) (cells slots : Nat) (Qw : State → Prop) (ls : Array Slot), am_Cx g D tys y p s m args meth c → am_has ls (am_ml y) F.2.1 → am_Dx g D tys s σ H locs → d ≤ R.frames → 60 * d ≤ R.locals → cells + (σf.2.1 - σ.2.1) ≤ R.cells → slots + (σf.2.2 - σ.2.2) ≤ R.slots →
    (∀ (pc' : Nat) (ls' : Array Slot) (H' : Heap) (locs' : List Loc), decode (am_by y) pc' = .ok (am_ri v, 1) → am_rtok y v → am_Dx g D tys s σf H' locs' → W p l e R s m args below meth c H' locs' (cells + (σf.2.1 - σ.2.1)) (slots + (σf.2.2 - σ.2.2)) Qw (F0 m pc' ls' v.toList)) →
    W p l e R s m args below meth c H locs cells slots Qw (F0 m F.1 ls F.2.2)
def am_P (g : Nat × Nat) (D : va_G) (tys : List (ClassId × FieldType)) (l : Launch) : am_T0 := fun d y F σ Q =>
  ∃ (v : Option Value) (σf : am_H), Q v σf ∧ σ.2.1 ≤ σf.2.1 ∧ σ.2.2 ≤ σf.2.2 ∧ am_V g D tys l d y F σ v σf
def am_ws (y : Nat) : List Jvm.Cond := .code (am_yn y) (am_by y) (am_ml y) (am_re y) :: am_Ts
theorem am_w_of {w : Jvm.Cond} (h : am_w w = true) : w ∈ am_Ts ∧ ((w.onTables && w.keeps) = true ∨ ∃ ty, w = .arrayClass ty) := by
  refine ⟨List.mem_filter.mpr ⟨?_, h⟩, ?_⟩
  · simp only [am_w, Bool.and_eq_true, decide_eq_true_eq] at h
    exact h.1
  · simp only [am_w, Bool.and_eq_true, Bool.or_eq_true, decide_eq_true_eq] at h
    rcases h.2 with q | q
    · exact Or.inl (by rw [Bool.and_eq_true]; exact q)
    · right
      unfold am_isA at q
      split at q
      · exact ⟨_, rfl⟩
      · cases q
theorem am_good {y : Nat} (hc : am_w (.code (am_yn y) (am_by y) (am_ml y) (am_re y)) = true) : GoodIn am_Ts (am_ws y) := by
  intro w hw
  rcases List.mem_cons.mp hw with rfl | hw
  · exact am_w_of hc
  · exact am_w_of (List.mem_filter.mp hw).2
set_option maxHeartbeats 4000000 in
theorem am_met {g : Nat × Nat} {D : va_G} {tys : List (ClassId × FieldType)} {l : Launch} {d y : Nat} {vs : List Value} {σ σf : am_H} {v : Option Value} (hV : am_V g D tys l d y (0, am_pad (am_ent vs) (am_ml y), []) σ v σf) (hlen : (am_ent vs).length ≤ am_ml y) (hpl : plainName (am_yn y).cls = true) :
    Met l (am_yn y) (am_ws y) { frames := d, cells := σf.2.1 - σ.2.1, slots := σf.2.2 - σ.2.2, locals := 60 * d } (va_Pc vs (fun U => am_G g D tys U U.heap ∧ g.1 ≤ U.heap.size ∧ am_rep g D tys U σ U.heap)) (fun _ st oc t => oc = .returned v ∧ am_rep g D tys t σf t.heap ∧ va_F (am_A g) st t) (σf.2.1 - σ.2.1) (σf.2.2 - σ.2.2) (am_A g) := by
  refine Met.ofW (cc := am_by y) (maxL := am_ml y) (ret := am_re y) hpl rfl ?_
  intro p e s m args below meth c s₁ B hml hv
  obtain ⟨rfl, hG, hB, hrep⟩ := hv
  have hts := atoms_spec (ws := am_ws y) B.pre
  have hlocks := B.notSynchronized
  rw [lg_entry_eq]
  refine hV p e _ s m _ below meth c s.heap [] 0 0 _ _ ⟨B.exec, B.bytes, hml, findClass_of_methodNamed B.named, fun w hw => hts w (List.mem_cons_of_mem _ (am_w_of hw).1), (name_of_methodNamed B.named B.method).1, B.returns, hlocks, hG, hB⟩ (am_entry vs hlen) ⟨hrep, va_S.rf⟩ (Nat.le_refl _) (Nat.le_refl _) (by rw [Nat.zero_add]; exact Nat.le_refl _) (by rw [Nat.zero_add]; exact Nat.le_refl _) ?_
  intro pc' ls' H' locs' hdc hrt hDx
  rw [Nat.zero_add, Nat.zero_add]
  have hq : ∀ t : State, t.heap = H' → s.WarmedH t.vm → (Outcome.returned v = Outcome.returned v ∧ am_rep g D tys t σf t.heap ∧ va_F (am_A g) s t) := fun t ht hW => ⟨rfl, by rw [ht]; exact hDx.1.moved hW.alike, hDx.2.F ht⟩
  have hr := B.returns
  match v, hdc, hrt, hq with
  | some (.int x), hdc, hrt, hq =>
    obtain ⟨ty, h1, h2⟩ := hrt
    exact W.zret B.exec B.bytes (hr.trans h1) h2 hq hDx.2.2.2 hdc
  | some (.long x), hdc, hrt, hq => exact W.lret B.exec B.bytes (hr.trans hrt) hq hDx.2.2.2 hdc
  | some .null, hdc, hrt, hq =>
    obtain ⟨ty, h1, h2⟩ := hrt
    exact W.aret B.exec B.bytes (hr.trans h1) h2 (Or.inl rfl) hq hDx.2.2.2 hdc
  | some (.ref a), hdc, hrt, hq =>
    obtain ⟨ty, h1, h2⟩ := hrt
    exact W.aret B.exec B.bytes (hr.trans h1) h2 (Or.inr ⟨a, rfl⟩) hq hDx.2.2.2 hdc
  | none, hdc, hrt, hq => exact W.vret B.exec B.bytes (hr.trans hrt) hq hDx.2.2.2 hdc
theorem am_G.go {g : Nat × Nat} {D : va_G} {tys : List (ClassId × FieldType)} {s U : State} {H : Heap} {locs : List Loc} (h : am_G g D tys s s.heap) (hS : va_S (am_A g) s.heap H locs) (hU : U.heap = H) (hW : s.WarmedH U.vm) : am_G g D tys U U.heap := by
  refine ⟨va_K.moved hW.alike h.1, h.2.1, fun w hw => ?_, fun C hC => va_AO.moved hW.alike (h.2.2.2.1 C hC), ?_, va_Nw.warmC hW h.2.2.2.2.2⟩
  · have h1 := h.2.2.1 w hw
    rcases List.mem_append.mp hw with q | q
    · obtain ⟨x, -, rfl⟩ := List.mem_map.mp q
      exact va_Nw.warmF hW h1
    · obtain ⟨x, -, rfl⟩ := List.mem_map.mp q
      exact va_Nw.warmM hW h1
  · rw [hU]
    exact (h.2.2.2.2.1.kept (fun a ha hA => hS.2.1 a ha hA)).moved hW.alike
theorem am_blind {g : Nat × Nat} {D : va_G} {tys : List (ClassId × FieldType)} {vs : List Value} {σ : am_H} : FrameBlind (va_Pc vs (fun U => am_G g D tys U U.heap ∧ g.1 ≤ U.heap.size ∧ am_rep g D tys U σ U.heap)) := by
  intro a U gg mk q
  obtain ⟨q0, ⟨q1, q2, q3, q4, q5, q8⟩, q6, q7⟩ := q
  have hv : U.vm.Alike (U.calling gg mk a).vm := Vm.Alike.refl U.vm
  refine ⟨q0, ⟨va_K.moved hv q1, q2, fun w hw => ?_, fun C hC => va_AO.moved hv (q4 C hC), q5.moved hv, va_tabs (u := U) (A := #[]) rfl rfl q8⟩, q6, q7.moved hv⟩
  have h1 := q3 w hw
  rcases List.mem_append.mp hw with z | z
  · obtain ⟨x, -, rfl⟩ := List.mem_map.mp z
    exact va_tabs (u := U) (A := #[]) rfl rfl h1
  · obtain ⟨x, -, rfl⟩ := List.mem_map.mp z
    exact va_tabs (u := U) (A := #[]) rfl rfl h1
