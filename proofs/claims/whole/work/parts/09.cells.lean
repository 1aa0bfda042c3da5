theorem am_gh.ro {g : Nat × Nat} {D : va_G} {tys : List (ClassId × FieldType)} {d y pc pc' : Nat} {st st' : List Value} {σ : am_H} (h : ∀ (p : Program) (l : Launch) (e : Env) (R : Room) (s : State) (m : MethodId) (args : Array Value) (below : List Frame) (meth : Method) (c : Code) (H : Heap) (locs : List Loc) (cells slots : Nat) (Q : State → Prop) (ls : Array Slot), am_Cx g D tys y p s m args meth c → am_Dx g D tys s σ H locs → W p l e R s m args below meth c H locs cells slots Q (F0 m pc' ls st') → W p l e R s m args below meth c H locs cells slots Q (F0 m pc ls st)) : am_gh g D tys d y pc st σ pc' st' σ := by
  intro p l e R s m args below meth c H locs cells slots Q ls hC hD _ _ _ _ _ k
  have kk := k H locs hD
  rw [Nat.sub_self, Nat.sub_self, Nat.add_zero, Nat.add_zero] at kk
  exact h p l e R s m args below meth c H locs cells slots Q ls hC hD kk
theorem am_gh.st {g : Nat × Nat} {D : va_G} {tys : List (ClassId × FieldType)} {d y pc pc' : Nat} {st st' : List Value} {σ : am_H} {a : Nat} {c' : am_C} (h : ∀ (p : Program) (l : Launch) (e : Env) (R : Room) (s : State) (m : MethodId) (args : Array Value) (below : List Frame) (meth : Method) (c : Code) (H : Heap) (locs : List Loc) (cells slots : Nat) (Q : State → Prop) (ls : Array Slot), am_Cx g D tys y p s m args meth c → am_Dx g D tys s σ H locs → (∀ (H' : Heap) (locs' : List Loc), am_Dx g D tys s (am_set σ a c') H' locs' → W p l e R s m args below meth c H' locs' cells slots Q (F0 m pc' ls st')) → W p l e R s m args below meth c H locs cells slots Q (F0 m pc ls st)) : am_gh g D tys d y pc st σ pc' st' (am_set σ a c') := by
  intro p l e R s m args below meth c H locs cells slots Q ls hC hD _ _ _ _ _ k
  refine h p l e R s m args below meth c H locs cells slots Q ls hC hD (fun H' locs' hD' => ?_)
  have kk := k H' locs' hD'
  have e1 : (am_set σ a c').2.1 = σ.2.1 := rfl
  have e2 : (am_set σ a c').2.2 = σ.2.2 := rfl
  rw [e1, e2, Nat.sub_self, Nat.sub_self, Nat.add_zero, Nat.add_zero] at kk
  exact kk
theorem am_gh.ps {g : Nat × Nat} {D : va_G} {tys : List (ClassId × FieldType)} {d y pc pc' : Nat} {st st' : List Value} {σ : am_H} {n : Nat} {c' : am_C} (h : ∀ (p : Program) (l : Launch) (e : Env) (R : Room) (s : State) (m : MethodId) (args : Array Value) (below : List Frame) (meth : Method) (c : Code) (H : Heap) (locs : List Loc) (cells slots : Nat) (Q : State → Prop) (ls : Array Slot), am_Cx g D tys y p s m args meth c → am_Dx g D tys s σ H locs → cells + 1 ≤ R.cells → slots + n ≤ R.slots → (∀ (H' : Heap) (locs' : List Loc), am_Dx g D tys s (am_psh σ c' n) H' locs' → W p l e R s m args below meth c H' locs' (cells + 1) (slots + n) Q (F0 m pc' ls st')) → W p l e R s m args below meth c H locs cells slots Q (F0 m pc ls st)) : am_gh g D tys d y pc st σ pc' st' (am_psh σ c' n) := by
  intro p l e R s m args below meth c H locs cells slots Q ls hC hD _ _ _ hc hs k
  have e1 : (am_psh σ c' n).2.1 - σ.2.1 = 1 := by show σ.2.1 + 1 - σ.2.1 = 1; omega
  have e2 : (am_psh σ c' n).2.2 - σ.2.2 = n := by show σ.2.2 + n - σ.2.2 = n; omega
  rw [e1] at hc k
  rw [e2] at hs k
  exact h p l e R s m args below meth c H locs cells slots Q ls hC hD hc hs k
def am_Ts : List Jvm.Cond := lw_tbl.filter am_w
theorem am_ts {args : Array Value} {s : State} (hts : ∀ w, am_w w = true → w.before args s = true) : ∀ w ∈ am_Ts, w.before args s = true := fun w hw => hts w (List.mem_filter.mp hw).2
theorem am_lay (ci : Nat) (h : ci < am_nc) : ∀ w ∈ u_ws (am_cn ci) (am_T ci) (am_nf ci), w ∈ am_Ts := by
  intro w hw
  have h1 := am_layW ci h w hw
  refine List.mem_filter.mpr ⟨?_, h1⟩
  simp only [am_w, Bool.and_eq_true, decide_eq_true_eq] at h1
  exact h1.1
theorem am_okf_of {y i ci k : Nat} (h : am_okf y i ci k = true) : k < am_nf ci ∧ (am_w (.fieldLink (am_ow y) i (am_T ci k).1 (am_T ci k).2.1 (am_T ci k).2.2.1) = true ∨ Jvm.Cond.fieldLinkNest (am_ow y) i (am_T ci k).1 (am_T ci k).2.1 (am_T ci k).2.2.1 am_host ∈ am_nst) := by
  simp only [am_okf, Bool.and_eq_true, Bool.or_eq_true, decide_eq_true_eq] at h
  exact h
set_option maxHeartbeats 4000000 in
theorem am_r_get {g : Nat × Nat} {D : va_G} {tys : List (ClassId × FieldType)} {d y pc a i ci k : Nat} {st fs : List Value} {v : Value} {σ : am_H} (hd : decode (am_by y) pc = .ok (.getfield i, 3)) (hok : am_okf y i ci k = true) (hci : ci < am_nc) (hc : σ.1 a = some (.inr (ci, fs))) (hv : fs[k]? = some v) : am_gh g D tys d y pc (.ref a :: st) σ (pc + 3) (v :: st) σ := by
  refine am_gh.ro fun p l e R s m args below meth c H locs cells slots Q ls hC hD kk => ?_
  obtain ⟨hx, hb, hml, hown, hts, hnm, hr, hlk, hG, hB⟩ := hC
  obtain ⟨hrep, hS⟩ := hD
  obtain ⟨hk, h1 | h1⟩ := am_okf_of hok
  · exact va_get hx hb (am_ts hts) (am_lay ci hci) hown hG.1 (hrep.one hc) 0 rfl (am_cl ci hci) k hk (hts _ h1) (fun _ q => q) hv hd kk
  · exact va_getN hx hb (am_ts hts) (am_lay ci hci) hown hG.1 (hrep.one hc) 0 rfl (am_cl ci hci) k hk (va_Nw.use rfl (hG.2.2.1 _ h1)) (fun _ q => q) hv hd kk
set_option maxHeartbeats 4000000 in
theorem am_r_put {g : Nat × Nat} {D : va_G} {tys : List (ClassId × FieldType)} {d y pc a i ci k : Nat} {st fs : List Value} {v : Value} {σ : am_H} (hd : decode (am_by y) pc = .ok (.putfield i, 3)) (hok : am_okf y i ci k = true) (hfin : (am_T ci k).2.2.2 = false ∨ (am_w (.fieldLink (am_ow y) i (am_T ci k).1 (am_T ci k).2.1 (am_T ci k).2.2.1) = true ∧ (am_yn y).name = "<init>" ∧ (am_T ci k).1 = am_ow y)) (hci : ci < am_nc) (ha : g.1 ≤ a) (hc : σ.1 a = some (.inr (ci, fs))) (hl : k < fs.length) (hn : narrow (am_ty ci k) v = v) (hfit : fits (am_ty ci k) v = true) : am_gh g D tys d y pc (v :: .ref a :: st) σ (pc + 3) st (am_set σ a (.inr (ci, fs.set k v))) := by
  refine am_gh.st fun p l e R s m args below meth c H locs cells slots Q ls hC hD kk => ?_
  obtain ⟨hx, hb, hml, hown, hts, hnm, hr, hlk, hG, hB⟩ := hC
  obtain ⟨hrep, hS⟩ := hD
  obtain ⟨hk, hlink⟩ := am_okf_of hok
  have hcl := am_cl ci hci
  have hap := va_apart (own := am_ow y) (am_ts hts) (am_lay ci hci) (am_ty ci) (am_tyok ci hci) (am_tynm ci hci) hG.1 hcl
  obtain ⟨r, h1, cell, q1, q2, q3, q4⟩ := hrep.obj hc
  have hr' : r = (am_cn ci, am_T ci, am_nf ci) := Option.some.inj (h1.symm.trans hcl)
  subst hr'
  obtain ⟨hS', hfc, kC, hkC, hkind⟩ := hG.1.1 ci _ hcl
  obtain ⟨cf, kf, fi, f, hi, hsl⟩ := hS' k hk
  have hlay := (am_ts hts) _ (am_lay ci hci _ (u_in_lay hk))
  have hst := (u_facts hfc hkC (u_lays (am_ts hts) (am_lay ci hci) hk) hi).1
  have fin : ∀ H' : Heap, H'[a]? = some (cell.setSlot f.slot v) → H'.size = H.size → (∀ q, q ≠ a → H'[q]? = H[q]?) → W p l e R s m args below meth c H' (locs ++ [⟨a, f.slot⟩]) cells slots Q (F0 m (pc + 3) ls st) := by
    intro H' e1 e2 e3
    rw [hsl] at e1
    exact kk H' _ ⟨hrep.set ha ⟨_, hcl, t_OB.to (V := updV (vp_V fs) k v) ⟨_, e1, q2, q3, t_set q4 hap hk v⟩ (fun j _ => vp_updV_set hl v j)⟩ e2 e3, hS.put e2 e3 ha⟩
  have hlt : f.slot < cell.slots.size := by rw [hsl]; exact k2_hasslot (q4 k hk)
  rcases Bool.eq_false_or_eq_true (am_T ci k).2.2.2 with hf | hf
  · obtain ⟨w1, w2, w3⟩ : am_w (.fieldLink (am_ow y) i (am_T ci k).1 (am_T ci k).2.1 (am_T ci k).2.2.1) = true ∧ (am_yn y).name = "<init>" ∧ (am_T ci k).1 = am_ow y := by
      rcases hfin with z | z
      · rw [hf] at z; cases z
      · exact z
    unfold u_lay at hlay
    rw [if_pos hf] at hlay
    have hcf : m.cls = cf := by
      obtain ⟨_, _, c', _, _, _, -, -, hf', -, -, -, hown2, -⟩ := Cond.laysFinal_spec hlay
      have e1 : c' = cf := by have := hi.symm.trans hf'; simp at this; exact this.1.symm
      rw [w3] at hown2
      rw [← e1]; exact Option.some.inj (hown.symm.trans hown2)
    have h6 := u_fits hfc hkC hkind (Or.inr hlay) hi (am_tyok ci hci k hk) hn hfit
    exact W.putFinK hx hb hown (hts _ w1) hi hst hcf (hnm.trans w2) (by rw [q2]; exact h6) q1 q3 hlt rfl rfl hd fin
  · unfold u_lay at hlay
    rw [if_neg (by rw [hf]; decide)] at hlay
    have h6 := u_store hfc hkC hkind hlay hi (am_tyok ci hci k hk) hn hfit
    rcases hlink with w1 | w1
    · exact W.putK hx hb (f := f) ⟨hown, hts _ w1, ⟨_, _, _, hi⟩, hst⟩ (by rw [q2]; exact h6) q1 q3 hlt rfl rfl hd fin
    · exact va_WputK hx hb (f := f) hown (va_Nw.use rfl (hG.2.2.1 _ w1)) hi hst (by rw [q2]; exact h6) q1 q3 hlt rfl rfl hd fin
theorem am_r_sta {g : Nat × Nat} {D : va_G} {tys : List (ClassId × FieldType)} {d y pc i : Nat} {st : List Value} {σ : am_H} (hd : decode (am_by y) pc = .ok (.getstatic i, 3)) (hok : am_w (.fieldLink (am_ow y) i am_stC am_stN am_stD) = true ∨ Jvm.Cond.fieldLinkNest (am_ow y) i am_stC am_stN am_stD am_host ∈ am_nst) : am_gh g D tys d y pc st σ (pc + 3) (.ref g.2 :: st) σ := by
  refine am_gh.ro fun p l e R s m args below meth c H locs cells slots Q ls hC hD kk => ?_
  obtain ⟨hx, hb, hml, hown, hts, hnm, hr, hlk, hG, hB⟩ := hC
  obtain ⟨hrep, hS⟩ := hD
  rcases hok with h1 | h1
  · exact va_gets hx hb hG.2.2.2.2.1 hS hown (hts _ h1) (fun _ q => q) hd kk
  · exact va_getsN hx hb hG.2.2.2.2.1 hS hown (va_Nw.use rfl (hG.2.2.1 _ h1)) (fun _ q => q) hd kk
theorem am_Sps {A : Nat → Prop} {H0 H H1 : Heap} {locs : List Loc} (hS : va_S A H0 H locs) (z : H1.size = H.size + 1) (o1 : ∀ q : Nat, q < H.size → H1[q]? = H[q]?) : va_S A H0 H1 locs := ⟨Nat.le_trans hS.1 (by omega), fun x h1 h2 => (o1 x (Nat.lt_of_lt_of_le h1 hS.1)).trans (hS.2.1 x h1 h2), hS.2.2⟩
theorem am_r_new {g : Nat × Nat} {D : va_G} {tys : List (ClassId × FieldType)} {d y pc i ci : Nat} {st : List Value} {σ : am_H} (hd : decode (am_by y) pc = .ok (.new i, 3)) (hok : am_w (.classLink (am_ow y) i (am_cn ci)) = true) (hci : ci < am_nc) : am_gh g D tys d y pc st σ (pc + 3) (.ref σ.2.1 :: st) (am_psh σ (.inr (ci, am_def ci)) (am_nf ci)) := by
  refine am_gh.ps fun p l e R s m args below meth c H locs cells slots Q ls hC hD hcl hsl kk => ?_
  obtain ⟨hx, hb, hml, hown, hts, hnm, hr, hlk, hG, hB⟩ := hC
  obtain ⟨hrep, hS⟩ := hD
  have hcl := am_cl ci hci
  have hKn := hG.1.1 ci _ hcl
  refine W.newcK hx hb hown (hts _ hok) (hts _ (am_ins ci hci)) (hts _ (am_ini ci hci)) rfl hd ‹_› ‹_› hKn.2.1 hrep.1 fun H1 kC hkC e1 z1 o1 => ?_
  rw [← hrep.1] at e1 z1 o1
  exact kk H1 locs ⟨hrep.push (Nat.le_trans hB hS.1) ⟨_, hcl, (u_born (am_ty ci) (am_ts hts) (am_lay ci hci) hKn hkC e1 (am_tyok ci hci)).to (am_dfl ci hci)⟩ z1 o1, am_Sps hS z1 o1⟩
theorem am_r_nwa {g : Nat × Nat} {D : va_G} {tys : List (ClassId × FieldType)} {d y pc t : Nat} {ty : ArrayType} {n : Int32} {st : List Value} {σ : am_H} (hd : decode (am_by y) pc = .ok (.newarray ty, 2)) (ht : am_tyl[t]? = some (newarray.typeOf ty)) (hw : am_w (.arrayClass (newarray.typeOf ty)) = true) (hdf : defaultValue (newarray.typeOf ty) = .int 0) (hcb : componentBytes (newarray.typeOf ty) ≤ 8) (hn : ¬ n < 0) (hm : n.toNatClampNeg ≤ 65536) : am_gh g D tys d y pc (.int n :: st) σ (pc + 2) (.ref σ.2.1 :: st) (am_psh σ (.inl (t, n.toNatClampNeg, .inl (fun _ => 0))) n.toNatClampNeg) := by
  refine am_gh.ps fun p l e R s m args below meth c H locs cells slots Q ls hC hD hcl hsl kk => ?_
  obtain ⟨hx, hb, hml, hown, hts, hnm, hr, hlk, hG, hB⟩ := hC
  obtain ⟨hrep, hS⟩ := hD
  obtain ⟨cA, hA⟩ := am_tyAt hG.2.1 ht
  refine va_newaK hx hb (hts _ hw) rfl hd rfl hn rfl (Nat.le_trans (Nat.mul_le_mul hm hcb) (by decide)) ‹_› ‹_› hrep.1 fun H1 cA' e1 z1 o1 hAr hNm => ?_
  rw [← hrep.1] at e1 z1 o1
  have e0 : cA' = cA := by
    have h2 := (hG.1.2 t _ hA).2
    have h3 : s.vm.findClass ("[" ++ (newarray.typeOf ty).toString) = some cA := by cases ty <;> exact h2
    exact Option.some.inj (hNm.symm.trans h3)
  subst e0
  refine kk H1 locs ⟨hrep.push (Nat.le_trans hB hS.1) ?_ z1 o1, am_Sps hS z1 o1⟩
  show H1[H.size]? = some (vp_cell (tys.getD t (0, .int)).1 _)
  rw [am_getD hA, vp_cell_i, e1, hdf]
theorem am_r_nwq {g : Nat × Nat} {D : va_G} {tys : List (ClassId × FieldType)} {d y pc i t : Nat} {C : String} {n : Int32} {st : List Value} {σ : am_H} (hd : decode (am_by y) pc = .ok (.anewarray i, 3)) (ht : am_tyl[t]? = some (.object C)) (hw : am_w (.classLink (am_ow y) i C) = true) (ho : C ∈ am_aos) (hn : ¬ n < 0) (hm : n.toNatClampNeg ≤ 65536) : am_gh g D tys d y pc (.int n :: st) σ (pc + 3) (.ref σ.2.1 :: st) (am_psh σ (.inl (t, n.toNatClampNeg, .inr (.inr (.inr (.inr (fun _ => none)))))) n.toNatClampNeg) := by
  refine am_gh.ps fun p l e R s m args below meth c H locs cells slots Q ls hC hD hcl hsl kk => ?_
  obtain ⟨hx, hb, hml, hown, hts, hnm, hr, hlk, hG, hB⟩ := hC
  obtain ⟨hrep, hS⟩ := hD
  obtain ⟨cA, hA⟩ := am_tyAt hG.2.1 ht
  refine W.anew hx hb hown (hts _ hw) (va_AO.use (hG.2.2.2.1 _ ho)) rfl hd rfl hn (Nat.le_trans (Nat.mul_le_mul hm (Nat.le_refl 4)) (by decide)) ‹_› ‹_› fun cA' kA comp f1 f2 f3 f4 => ?_
  have e0 : cA' = cA := by
    obtain ⟨kA', comp', -, -, -, h3⟩ := (hG.1.2 t _ hA).2
    exact Option.some.inj (f1.symm.trans h3)
  subst e0
  generalize hH1 : H.push ({ cls := cA', slots := Array.replicate n.toNatClampNeg .null, vm := .none } : Cell) = H1
  have z1 : H1.size = H.size + 1 := by rw [← hH1, Array.size_push]
  have e1 : H1[H.size]? = some (arrV cA' n.toNatClampNeg (fun _ => .null)) := by rw [← hH1, Array.getElem?_push_size, ← arrV_new]
  have o1 : ∀ q : Nat, q < H.size → H1[q]? = H[q]? := fun q hq => by rw [← hH1, Array.getElem?_push, if_neg (Nat.ne_of_lt hq)]
  have k2 := kk H1 locs ⟨hrep.push (Nat.le_trans hB hS.1) (by
    show H1[H.size]? = some (vp_cell (tys.getD t (0, .int)).1 _)
    rw [am_getD hA, vp_cell_q, e1]
    rfl) z1 o1, am_Sps hS z1 o1⟩
  rw [← hrep.1] at k2
  exact k2
theorem am_r_len {g : Nat × Nat} {D : va_G} {tys : List (ClassId × FieldType)} {d y pc a t : Nat} {st : List Value} {σ : am_H} {x : vp_A} {ty : FieldType} (hd : decode (am_by y) pc = .ok (.arraylength, 1)) (ht : am_tyl[t]? = some ty) (hx0 : (∃ f, x.2 = .inl f) ∨ (∃ f, x.2 = .inr (.inr (.inr (.inr f))))) (hc : σ.1 a = some (.inl (t, x))) : am_gh g D tys d y pc (.ref a :: st) σ (pc + 1) (.int (Int32.ofNat x.1) :: st) σ := by
  refine am_gh.ro fun p l e R s m args below meth c H locs cells slots Q ls hC hD kk => ?_
  obtain ⟨hx, hb, hml, hown, hts, hnm, hr, hlk, hG, hB⟩ := hC
  obtain ⟨hrep, hS⟩ := hD
  obtain ⟨cA, hA⟩ := am_tyAt hG.2.1 ht
  obtain ⟨n, x⟩ := x
  rcases hx0 with ⟨f, hf⟩ | ⟨f, hf⟩
  · dsimp only at hf
    subst hf
    obtain ⟨cell, c1, c2, c3, c4, c5, c6⟩ := hrep.arr hG.1 hc hA
    exact W.alen (n := Int32.ofNat n) hx hb c1 c2 c5 rfl rfl hd kk
  · dsimp only at hf
    subst hf
    have c1 := hrep.arq hc hA
    exact W.alen (n := Int32.ofNat n) hx hb c1 ((hG.1.2 t _ hA).1 n (fun j => va_rf (f j))) (by rw [vp_cell_q, arrV_size] <;> rfl) rfl rfl hd kk
theorem am_r_iald {g : Nat × Nat} {D : va_G} {tys : List (ClassId × FieldType)} {d y pc a t n : Nat} {i : Int32} {st : List Value} {σ : am_H} {f : Nat → Int32} (hd : decode (am_by y) pc = .ok (.iaload, 1)) (ht : am_tyl[t]? = some .int) (hc : σ.1 a = some (.inl (t, n, .inl f))) (hin : vp_in i n) : am_gh g D tys d y pc (.int i :: .ref a :: st) σ (pc + 1) (.int (f i.toNatClampNeg) :: st) σ := by
  refine am_gh.ro fun p l e R s m args below meth c H locs cells slots Q ls hC hD kk => ?_
  obtain ⟨hx, hb, hml, hown, hts, hnm, hr, hlk, hG, hB⟩ := hC
  obtain ⟨hrep, hS⟩ := hD
  obtain ⟨cA, hA⟩ := am_tyAt hG.2.1 ht
  obtain ⟨cell, c1, c2, c3, c4, c5, c6⟩ := hrep.arr hG.1 hc hA
  have hlt : i.toNatClampNeg < n := Nat.not_le.mp fun q => hin (Or.inr q)
  exact W.iald (v := .int (f i.toNatClampNeg)) hx hb c1 c2 c3 (fun q => hin (q.imp id (fun z => Nat.le_trans c4 z))) (c6 _ hlt) rfl rfl hd kk
theorem am_r_bald {g : Nat × Nat} {D : va_G} {tys : List (ClassId × FieldType)} {d y pc a t n : Nat} {i : Int32} {st : List Value} {σ : am_H} {f : Nat → Int32} (hd : decode (am_by y) pc = .ok (.baload, 1)) (ht : am_tyl[t]? = some .byte) (hc : σ.1 a = some (.inl (t, n, .inl f))) (hin : vp_in i n) : am_gh g D tys d y pc (.int i :: .ref a :: st) σ (pc + 1) (.int (f i.toNatClampNeg) :: st) σ := by
  refine am_gh.ro fun p l e R s m args below meth c H locs cells slots Q ls hC hD kk => ?_
  obtain ⟨hx, hb, hml, hown, hts, hnm, hr, hlk, hG, hB⟩ := hC
  obtain ⟨hrep, hS⟩ := hD
  obtain ⟨cA, hA⟩ := am_tyAt hG.2.1 ht
  obtain ⟨cell, c1, c2, c3, c4, c5, c6⟩ := hrep.arr hG.1 hc hA
  have hlt : i.toNatClampNeg < n := Nat.not_le.mp fun q => hin (Or.inr q)
  exact W.bald (v := .int (f i.toNatClampNeg)) hx hb c1 c2 c3 (fun q => hin (q.imp id (fun z => Nat.le_trans c4 z))) (c6 _ hlt) rfl rfl hd kk
theorem am_r_zald {g : Nat × Nat} {D : va_G} {tys : List (ClassId × FieldType)} {d y pc a t n : Nat} {i : Int32} {st : List Value} {σ : am_H} {f : Nat → Int32} (hd : decode (am_by y) pc = .ok (.baload, 1)) (ht : am_tyl[t]? = some .boolean) (hc : σ.1 a = some (.inl (t, n, .inl f))) (hin : vp_in i n) : am_gh g D tys d y pc (.int i :: .ref a :: st) σ (pc + 1) (.int (f i.toNatClampNeg) :: st) σ := by
  refine am_gh.ro fun p l e R s m args below meth c H locs cells slots Q ls hC hD kk => ?_
  obtain ⟨hx, hb, hml, hown, hts, hnm, hr, hlk, hG, hB⟩ := hC
  obtain ⟨hrep, hS⟩ := hD
  obtain ⟨cA, hA⟩ := am_tyAt hG.2.1 ht
  obtain ⟨cell, c1, c2, c3, c4, c5, c6⟩ := hrep.arr hG.1 hc hA
  have hlt : i.toNatClampNeg < n := Nat.not_le.mp fun q => hin (Or.inr q)
  exact W.zald (v := .int (f i.toNatClampNeg)) hx hb c1 c2 c3 (fun q => hin (q.imp id (fun z => Nat.le_trans c4 z))) (c6 _ hlt) rfl rfl hd kk
theorem am_r_aald {g : Nat × Nat} {D : va_G} {tys : List (ClassId × FieldType)} {d y pc a t n : Nat} {i : Int32} {st : List Value} {σ : am_H} {C : String} {f : Nat → Option Nat} (hd : decode (am_by y) pc = .ok (.aaload, 1)) (ht : am_tyl[t]? = some (.object C)) (hc : σ.1 a = some (.inl (t, n, .inr (.inr (.inr (.inr f)))))) (hin : vp_in i n) : am_gh g D tys d y pc (.int i :: .ref a :: st) σ (pc + 1) (va_rf (f i.toNatClampNeg) :: st) σ := by
  refine am_gh.ro fun p l e R s m args below meth c H locs cells slots Q ls hC hD kk => ?_
  obtain ⟨hx, hb, hml, hown, hts, hnm, hr, hlk, hG, hB⟩ := hC
  obtain ⟨hrep, hS⟩ := hD
  obtain ⟨cA, hA⟩ := am_tyAt hG.2.1 ht
  have hlt : i.toNatClampNeg < n := Nat.not_le.mp fun q => hin (Or.inr q)
  exact W.aald (v := va_rf (f i.toNatClampNeg)) (ty := .object C) hx hb (hrep.arq hc hA) ((hG.1.2 t _ hA).1 n (fun j => va_rf (f j))) rfl (fun q => by cases q) (by show ¬ (i < 0 ∨ (arrV _ _ _).slots.size ≤ _); rw [arrV_size]; exact hin) (by show (arrV _ _ _).slots[_]? = _; rw [arrV_read _ _ hlt]) rfl rfl hd kk
theorem am_r_iast {g : Nat × Nat} {D : va_G} {tys : List (ClassId × FieldType)} {d y pc a t n : Nat} {i : Int32} {st : List Value} {σ : am_H} {x : Int32} {f : Nat → Int32} (hd : decode (am_by y) pc = .ok (.iastore, 1)) (ht : am_tyl[t]? = some .int) (ha : g.1 ≤ a) (hc : σ.1 a = some (.inl (t, n, .inl f))) (hin : vp_in i n) : am_gh g D tys d y pc (.int x :: .int i :: .ref a :: st) σ (pc + 1) st (am_set σ a (.inl (t, n, .inl (upd f i.toNatClampNeg x)))) := by
  refine am_gh.st fun p l e R s m args below meth c H locs cells slots Q ls hC hD kk => ?_
  obtain ⟨hx, hb, hml, hown, hts, hnm, hr, hlk, hG, hB⟩ := hC
  obtain ⟨hrep, hS⟩ := hD
  obtain ⟨cA, hA⟩ := am_tyAt hG.2.1 ht
  have hat : H[a]? = some (vp_cell cA (n, .inl f)) := by
    have h1 : H[a]? = some (vp_cell (tys.getD t (0, .int)).1 (n, .inl f)) := hrep.own ha hc
    rw [am_getD hA] at h1
    exact h1
  refine W.iast hx hb hat ((hG.1.2 t _ hA).1 n (fun j => .int (f j))) (fun q => by cases q) (by show ¬ (i < 0 ∨ (arrV _ _ _).slots.size ≤ _); rw [arrV_size]; exact hin) rfl rfl hd fun H1 e1 z1 oq => ?_
  refine kk H1 _ ⟨hrep.set ha ?_ z1 oq, hS.put z1 oq ha⟩
  show H1[a]? = some (vp_cell (tys.getD t (0, .int)).1 _)
  rw [am_getD hA, e1, vp_cell_i, vp_cell_i, arrV_store]
  congr 2
  funext q
  by_cases hq : q = i.toNatClampNeg
  · subst hq
    simp [updV, upd, vp_nar]
    try rfl
  · simp [updV, upd, hq]
theorem am_r_bast {g : Nat × Nat} {D : va_G} {tys : List (ClassId × FieldType)} {d y pc a t n : Nat} {i : Int32} {st : List Value} {σ : am_H} {x : Int32} {f : Nat → Int32} (hd : decode (am_by y) pc = .ok (.bastore, 1)) (ht : am_tyl[t]? = some .byte) (ha : g.1 ≤ a) (hc : σ.1 a = some (.inl (t, n, .inl f))) (hin : vp_in i n) : am_gh g D tys d y pc (.int x :: .int i :: .ref a :: st) σ (pc + 1) st (am_set σ a (.inl (t, n, .inl (upd f i.toNatClampNeg (vp_nar .byte x))))) := by
  refine am_gh.st fun p l e R s m args below meth c H locs cells slots Q ls hC hD kk => ?_
  obtain ⟨hx, hb, hml, hown, hts, hnm, hr, hlk, hG, hB⟩ := hC
  obtain ⟨hrep, hS⟩ := hD
  obtain ⟨cA, hA⟩ := am_tyAt hG.2.1 ht
  have hat : H[a]? = some (vp_cell cA (n, .inl f)) := by
    have h1 : H[a]? = some (vp_cell (tys.getD t (0, .int)).1 (n, .inl f)) := hrep.own ha hc
    rw [am_getD hA] at h1
    exact h1
  refine W.bast hx hb hat ((hG.1.2 t _ hA).1 n (fun j => .int (f j))) (fun q => by cases q) (by show ¬ (i < 0 ∨ (arrV _ _ _).slots.size ≤ _); rw [arrV_size]; exact hin) rfl rfl hd fun H1 e1 z1 oq => ?_
  refine kk H1 _ ⟨hrep.set ha ?_ z1 oq, hS.put z1 oq ha⟩
  show H1[a]? = some (vp_cell (tys.getD t (0, .int)).1 _)
  rw [am_getD hA, e1, vp_cell_i, vp_cell_i, arrV_store]
  congr 2
  funext q
  by_cases hq : q = i.toNatClampNeg
  · subst hq
    simp [updV, upd, vp_nar]
    try rfl
  · simp [updV, upd, hq]
theorem am_r_zast {g : Nat × Nat} {D : va_G} {tys : List (ClassId × FieldType)} {d y pc a t n : Nat} {i : Int32} {st : List Value} {σ : am_H} {x : Int32} {f : Nat → Int32} (hd : decode (am_by y) pc = .ok (.bastore, 1)) (ht : am_tyl[t]? = some .boolean) (ha : g.1 ≤ a) (hc : σ.1 a = some (.inl (t, n, .inl f))) (hin : vp_in i n) : am_gh g D tys d y pc (.int x :: .int i :: .ref a :: st) σ (pc + 1) st (am_set σ a (.inl (t, n, .inl (upd f i.toNatClampNeg (vp_nar .boolean x))))) := by
  refine am_gh.st fun p l e R s m args below meth c H locs cells slots Q ls hC hD kk => ?_
  obtain ⟨hx, hb, hml, hown, hts, hnm, hr, hlk, hG, hB⟩ := hC
  obtain ⟨hrep, hS⟩ := hD
  obtain ⟨cA, hA⟩ := am_tyAt hG.2.1 ht
  have hat : H[a]? = some (vp_cell cA (n, .inl f)) := by
    have h1 : H[a]? = some (vp_cell (tys.getD t (0, .int)).1 (n, .inl f)) := hrep.own ha hc
    rw [am_getD hA] at h1
    exact h1
  refine W.zast hx hb hat ((hG.1.2 t _ hA).1 n (fun j => .int (f j))) (fun q => by cases q) (by show ¬ (i < 0 ∨ (arrV _ _ _).slots.size ≤ _); rw [arrV_size]; exact hin) rfl rfl hd fun H1 e1 z1 oq => ?_
  refine kk H1 _ ⟨hrep.set ha ?_ z1 oq, hS.put z1 oq ha⟩
  show H1[a]? = some (vp_cell (tys.getD t (0, .int)).1 _)
  rw [am_getD hA, e1, vp_cell_i, vp_cell_i, arrV_store]
  congr 2
  funext q
  by_cases hq : q = i.toNatClampNeg
  · subst hq
    simp [updV, upd, vp_nar]
    try rfl
  · simp [updV, upd, hq]
theorem am_r_aast {g : Nat × Nat} {D : va_G} {tys : List (ClassId × FieldType)} {d y pc a t n : Nat} {i : Int32} {st : List Value} {σ : am_H} {v ci : Nat} {f : Nat → Option Nat} {fs : List Value} (hd : decode (am_by y) pc = .ok (.aastore, 1)) (hci : ci < am_nc) (ht : am_tyl[t]? = some (.object (am_cn ci))) (ha : g.1 ≤ a) (hc : σ.1 a = some (.inl (t, n, .inr (.inr (.inr (.inr f)))))) (hv : σ.1 v = some (.inr (ci, fs))) (hin : vp_in i n) : am_gh g D tys d y pc (.ref v :: .int i :: .ref a :: st) σ (pc + 1) st (am_set σ a (.inl (t, n, .inr (.inr (.inr (.inr (va_up f i.toNatClampNeg (some v)))))))) := by
  refine am_gh.st fun p l e R s m args below meth c H locs cells slots Q ls hC hD kk => ?_
  obtain ⟨hx, hb, hml, hown, hts, hnm, hr, hlk, hG, hB⟩ := hC
  obtain ⟨hrep, hS⟩ := hD
  obtain ⟨cA, hA⟩ := am_tyAt hG.2.1 ht
  have hlt : i.toNatClampNeg < n := Nat.not_le.mp fun q => hin (Or.inr q)
  have h0 : ¬ i < 0 := fun q => hin (Or.inl q)
  obtain ⟨r', hr', cellV, g1, g2, g3, -⟩ := hrep.obj hv
  have hcls := (hG.1.1 ci _ (am_cl ci hci)).2
  obtain ⟨kA, comp, k1, k2, k3, -⟩ := (hG.1.2 t _ hA).2
  have hcomp : comp = D.1 ci := Option.some.inj (k3.symm.trans hcls.1)
  subst hcomp
  obtain ⟨kC, hkC, -⟩ := hcls.2
  refine W.aast hx hb (hrep.arq hc hA) (fun q h => by cases h) (fun h => by cases h) k1 k2 rfl hkC ⟨h0, by show _ < (arrV _ _ _).slots.size; rw [arrV_size]; exact hlt⟩ g1 (fun q h => by rw [g3] at h; cases h) (by rw [g2]; exact hkC) (by rw [g2]; exact va_assign hcls) rfl rfl hd fun H1 e1 z1 oq => ?_
  refine kk H1 _ ⟨hrep.set ha ?_ z1 oq, hS.put z1 oq ha⟩
  show H1[a]? = some (vp_cell (tys.getD t (0, .int)).1 _)
  rw [am_getD hA, e1, vp_cell_q, vp_cell_q, arrV_store]
  congr 2
  funext q
  by_cases hq : q = i.toNatClampNeg
  · subst hq
    simp [updV, va_up, va_rf]
  · simp [updV, va_up, hq]
theorem am_r_div {g : Nat × Nat} {D : va_G} {tys : List (ClassId × FieldType)} {d y pc : Nat} {x z : Int32} {st : List Value} {σ : am_H} (hd : decode (am_by y) pc = .ok (.idiv, 1)) (hz : ¬ z = 0) : am_gh g D tys d y pc (.int z :: .int x :: st) σ (pc + 1) (.int (x / z) :: st) σ := by
  refine am_gh.ro fun p l e R s m args below meth c H locs cells slots Q ls hC hD kk => ?_
  obtain ⟨hx, hb, hml, hown, hts, hnm, hr, hlk, hG, hB⟩ := hC
  obtain ⟨hrep, hS⟩ := hD
  exact lv_idiv hx hb hd hz kk
theorem am_r_rem {g : Nat × Nat} {D : va_G} {tys : List (ClassId × FieldType)} {d y pc : Nat} {x z : Int32} {st : List Value} {σ : am_H} (hd : decode (am_by y) pc = .ok (.irem, 1)) (hz : ¬ z = 0) : am_gh g D tys d y pc (.int z :: .int x :: st) σ (pc + 1) (.int (x - x / z * z) :: st) σ := by
  refine am_gh.ro fun p l e R s m args below meth c H locs cells slots Q ls hC hD kk => ?_
  obtain ⟨hx, hb, hml, hown, hts, hnm, hr, hlk, hG, hB⟩ := hC
  obtain ⟨hrep, hS⟩ := hD
  exact lv_irem hx hb hd hz kk
section AMO
variable {p : Program} {l : Launch} {e : Env} {R : Room} {s : State} {m : MethodId} {args : Array Value} {below : List Frame} {meth : Method} {c : Code} {H : Heap} {locs : List Loc} {cells slots : Nat} {Q : State → Prop}
theorem am_r_obj {y pc i a : Nat} {st : List Value} {ls : Array Slot} (hx : p.tables.exec = Jvm.exec) (hb : c.code = am_by y) (hown : s.vm.findClass (am_ow y) = some m.cls) (hts : ∀ w, am_w w = true → w.before args s = true) (hsz : ls.size = c.maxLocals) (hok : am_w (.methodLink (am_ow y) i objectInit) = true) (hd : decode (am_by y) pc = .ok (.invokespecial i, 3)) (hsum : (st.map fun v => v.category).sum ≤ 8) (hf : 1 ≤ R.frames) (hlo : 20 ≤ R.locals) (k : W p l e R s m args below meth c H locs cells slots Q (F0 m (pc + 3) ls st)) : W p l e R s m args below meth c H locs cells slots Q (F0 m pc ls (.ref a :: st)) :=
  W.objInit hx hb hown (hts _ hok) (hts _ am_oi1) (hts _ am_oi2) rfl hsz rfl hd hf (by show 2 * 0 + _ + 12 ≤ _; omega) k
end AMO
