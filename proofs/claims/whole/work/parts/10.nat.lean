theorem am_nmB {s : State} {D : va_G} {tys : List (ClassId × FieldType)} {cA : ClassId} (hK : va_K D am_vw tys s) (hA : tys[1]? = some (cA, .byte)) : s.vm.findClass "[B" = some cA := by
  have h := (hK.2 1 _ hA).2
  exact h
theorem am_r_cst {g : Nat × Nat} {D : va_G} {tys : List (ClassId × FieldType)} {d y pc a n i : Nat} {st : List Value} {σ : am_H} {f : Nat → Int32} (hd : decode (am_by y) pc = .ok (.checkcast i, 3)) (hok : am_w (.classLink (am_ow y) i "[B") = true) (ha : g.1 ≤ a) (hc : σ.1 a = some (.inl (1, n, .inl f))) : am_gh g D tys d y pc (.ref a :: st) σ (pc + 3) (.ref a :: st) σ := by
  refine am_gh.ro fun p l e R s m args below meth c H locs cells slots Q ls hC hD kk => ?_
  obtain ⟨hx, hb, hml, hown, hts, hnm, hr, hlk, hG, hB⟩ := hC
  obtain ⟨hrep, hS⟩ := hD
  obtain ⟨cA, hA⟩ := am_tyAt (t := 1) hG.2.1 rfl
  have hat : va_at D am_vw (a, .inl (cA, n, .inl f)) H := by
    have h1 := hrep.own ha hc
    have h2 : H[a]? = some (vp_cell (tys.getD 1 (0, .int)).1 (n, .inl f)) := h1
    rw [am_getD hA] at h2
    exact h2
  have hP : va_P D am_vw [(a, .inl (cA, n, .inl f))] H := by
    intro k q hk
    have hz : k < 1 := (List.getElem?_eq_some_iff.mp hk).1
    rw [show k = 0 by omega] at hk
    cases hk
    exact hat
  exact va_castA hx hb hown (hts _ hok) hP 0 rfl (am_nmB hG.1 hA) hd kk
section AMN
variable {p : Program} {l : Launch} {e : Env} {R : Room} {s : State} {m : MethodId} {args : Array Value} {below : List Frame} {meth : Method} {c : Code} {H : Heap} {locs : List Loc} {cells slots : Nat} {Q : State → Prop}
set_option maxHeartbeats 4000000 in
theorem am_r_cpy {gg : Nat × Nat} {D : va_G} {tys : List (ClassId × FieldType)} {y pc i a a0 n0 n1 : Nat} {n dp sp : Int32} {f f1 : Nat → Int32} {rest : List Value} {σ : am_H} {ls : Array Slot} (hC : am_Cx gg D tys y p s m args meth c) (hDx : am_Dx gg D tys s σ H locs) (hsz : ls.size = c.maxLocals) (hok : am_w (.methodLink (am_ow y) i arraycopyName) = true) (hd : decode (am_by y) pc = .ok (.invokestatic i, 3)) (hsum : (rest.map fun v => v.category).sum ≤ 8) (hfr : 1 ≤ R.frames) (hlo : 60 ≤ R.locals) (ha : gg.1 ≤ a) (ha0 : gg.1 ≤ a0) (hc0 : σ.1 a0 = some (.inl (1, n0, .inl f))) (hc : σ.1 a = some (.inl (1, n1, .inl f1))) (h1 : ¬ sp < 0) (h2 : ¬ dp < 0) (h3 : ¬ n < 0) (h4 : sp.toNatClampNeg + n.toNatClampNeg ≤ n0) (h5 : dp.toNatClampNeg + n.toNatClampNeg ≤ n1) (hfit : ∀ i, i < n.toNatClampNeg → fits .byte (.int (f (sp.toNatClampNeg + i))) = true)
    (kk : ∀ (H' : Heap) (locs' : List Loc), am_Dx gg D tys s (am_set σ a (.inl (1, n1, .inl (va_cpy f f1 sp.toNatClampNeg dp.toNatClampNeg n.toNatClampNeg)))) H' locs' → W p l e R s m args below meth c H' locs' cells slots Q (F0 m (pc + 3) ls rest)) : W p l e R s m args below meth c H locs cells slots Q (F0 m pc ls (.int n :: .int dp :: .ref a :: .int sp :: .ref a0 :: rest)) := by
  obtain ⟨hx, hb, hml, hown, hts, hnm, hr, hlk, hG, hB⟩ := hC
  obtain ⟨hrep, hS⟩ := hDx
  have nn : ∀ z : Int32, ¬ z < 0 → z.toInt = (z.toNatClampNeg : Int) := by
    intro z hz
    have hz0 : (0 : Int) ≤ z.toInt := by
      have := Int32.not_lt.mp hz
      simpa using Int32.le_iff_toInt_le.mp this
    show z.toInt = ((z.toInt.toNat : Nat) : Int)
    omega
  obtain ⟨cA, hA⟩ := am_tyAt (t := 1) hG.2.1 rfl
  have get : ∀ {b k : Nat} {q : Nat → Int32}, gg.1 ≤ b → σ.1 b = some (.inl (1, k, .inl q)) → H[b]? = some (vp_cell cA (k, .inl q)) := by
    intro b k q hb' hq
    have e1 : H[b]? = some (vp_cell (tys.getD 1 (0, .int)).1 (k, .inl q)) := hrep.own hb' hq
    rw [am_getD hA] at e1
    exact e1
  have g0 := get ha0 hc0
  have g1 := get ha hc
  intro T hT X
  obtain ⟨-, k0, hk0, cm0, hkk0⟩ := (hG.1.2 1 _ hA).1 n0 (fun j => .int (f j))
  obtain ⟨-, k1, hk1, cm1, hkk1⟩ := (hG.1.2 1 _ hA).1 n1 (fun j => .int (f1 j))
  have hw : nativeFrameWords "java/lang/System" "arraycopy" 5 + 11 + 8 ≤ 60 := by decide +kernel
  obtain ⟨vm', X', step⟩ := X.arraycopy hx hown (hts _ hok) (hts _ am_cp1.1) (hts _ am_cp1.2.1) (hts _ am_cp1.2.2) (src := a0) (dst := a) (cs := vp_cell cA (n0, .inl f)) (cd := vp_cell cA (n1, .inl f1)) (srcPos := sp) (destPos := dp) (n := n) (by rw [hT]; exact g0) (by rw [hT]; exact g1)
    (fun _ h => by cases h) (fun _ h => by cases h) (fun h => by cases h) (fun h => by cases h) hk0 hk1 hkk0 hkk1 (by simp [refKind]) h1 h2 h3
    (by rw [nn sp h1, nn n h3]; show ¬ _ > ((arrV cA n0 (fun j => .int (f j))).slots.size : Int); rw [arrV_size]; omega)
    (by rw [nn dp h2, nn n h3]; show ¬ _ > ((arrV cA n1 (fun j => .int (f1 j))).slots.size : Int); rw [arrV_size]; omega)
    (fun vm₁ _ i hi => by
      have e0 : (vp_cell cA (n0, .inl f)).slots.getD (sp.toNatClampNeg + i) .null = .int (f (sp.toNatClampNeg + i)) := by
        show (arrV cA n0 (fun j => .int (f j))).slots.getD _ _ = _
        rw [Array.getD_eq_getD_getElem?, arrV_read _ _ (by omega)]
        rfl
      rw [e0]
      exact ⟨hfit i hi, trivial⟩)
    (g := F0 m pc ls (.int n :: .int dp :: .ref a :: .int sp :: .ref a0 :: rest)) rfl hsz (rest := rest) rfl (by rw [hb]; exact hd) hfr (by show 2 * 0 + _ + _ ≤ _; omega)
  have e1 : copied (vp_cell cA (n0, .inl f)) (vp_cell cA (n1, .inl f1)) sp dp n = vp_cell cA (n1, .inl (va_cpy f f1 sp.toNatClampNeg dp.toNatClampNeg n.toNatClampNeg)) := va_copied (fun z => .int z) cA cA f f1 h4
  rw [e1] at X' step
  have hl : a < H.size := (Array.getElem?_eq_some_iff.mp g1).1
  generalize hnc : vp_cell cA (n1, .inl (va_cpy f f1 sp.toNatClampNeg dp.toNatClampNeg n.toNatClampNeg)) = nc at X' step
  have hheap : ((T.setVm vm').setCell a nc).heap = H.setIfInBounds a nc := by rw [← hT]; rfl
  have oq : ∀ q : Nat, q ≠ a → (H.setIfInBounds a nc)[q]? = H[q]? := fun q hq => by simp [Array.getElem?_setIfInBounds, Ne.symm hq]
  obtain ⟨t, a1, b1⟩ := kk _ _ ⟨hrep.set ha (show (H.setIfInBounds a nc)[a]? = some (vp_cell (tys.getD 1 (0, .int)).1 _) by rw [am_getD hA, hnc]; simp [Array.getElem?_setIfInBounds, hl]) (by simp) oq, ⟨by simp; exact hS.1, fun q g1 g2 => by
      rw [oq q (fun e => g2 (by rw [e]; exact ha))]
      exact hS.2.1 q g1 g2, fun q hq => by
      rcases List.mem_append.mp hq with h | h
      · exact hS.2.2 q h
      · obtain ⟨z, -, hz⟩ := List.mem_map.mp h
        rw [← hz]
        exact ha⟩⟩ _ hheap X'
  exact ⟨t, step t a1, b1⟩
set_option maxHeartbeats 4000000 in
theorem am_r_cln {gg : Nat × Nat} {D : va_G} {tys : List (ClassId × FieldType)} {y pc i a n : Nat} {f : Nat → Int32} {rest : List Value} {σ : am_H} {ls : Array Slot} (hC : am_Cx gg D tys y p s m args meth c) (hDx : am_Dx gg D tys s σ H locs) (hsz : ls.size = c.maxLocals) (hok : am_w (.methodLink (am_ow y) i ⟨"[B", "clone", "()Ljava/lang/Object;"⟩) = true) (hd : decode (am_by y) pc = .ok (.invokevirtual i, 3)) (hsum : (rest.map fun v => v.category).sum ≤ 8) (hfr : 1 ≤ R.frames) (hlo : 60 ≤ R.locals) (ha : gg.1 ≤ a) (hc : σ.1 a = some (.inl (1, n, .inl f))) (hfit : ∀ i, i < n → fits .byte (.int (f i)) = true) (hcells : cells + 1 ≤ R.cells) (hslots : slots + n ≤ R.slots)
    (kk : ∀ (H' : Heap) (locs' : List Loc), am_Dx gg D tys s (am_psh σ (.inl (1, n, .inl f)) n) H' locs' → W p l e R s m args below meth c H' locs' (cells + 1) (slots + n) Q (F0 m (pc + 3) ls (.ref σ.2.1 :: rest))) : W p l e R s m args below meth c H locs cells slots Q (F0 m pc ls (.ref a :: rest)) := by
  obtain ⟨hx, hb, hml, hown, hts, hnm, hr, hlk, hG, hB⟩ := hC
  obtain ⟨hrep, hS⟩ := hDx
  obtain ⟨cA, hA⟩ := am_tyAt (t := 1) hG.2.1 rfl
  have g1 : H[a]? = some (vp_cell cA (n, .inl f)) := by
    have e1 : H[a]? = some (vp_cell (tys.getD 1 (0, .int)).1 (n, .inl f)) := hrep.own ha hc
    rw [am_getD hA] at e1
    exact e1
  have hnB := am_nmB hG.1 hA
  have hszc : (vp_cell cA (n, .inl f)).slots.size = n := arrV_size _ _ _
  have hcellE : ({ cls := (vp_cell cA (n, .inl f)).cls, slots := (vp_cell cA (n, .inl f)).slots } : Cell) = vp_cell cA (n, .inl f) := rfl
  obtain ⟨c0, t0', f1, f2, f3⟩ := Cond.castable_spec (va_Nw.use (A := args) rfl hG.2.2.2.2.2)
  cases hnB.symm.trans f1
  intro T hT X
  have hcellT : T.heap[a]? = some (vp_cell cA (n, .inl f)) := by rw [hT]; exact g1
  obtain ⟨-, kA, hkA, comp, hkind⟩ := State.isArrayOf_alike X.warmed.alike ((hG.1.2 1 _ hA).1 0 (fun _ => .null))
  obtain ⟨-, kS, hkS, compS, hkindS⟩ := (hG.1.2 1 _ hA).1 0 (fun _ => .null)
  obtain ⟨vm', X', st⟩ := X.cloneArray hx hown (hts _ hok) (hts _ am_cn1.1) (hts _ am_cn1.2.1) (hts _ am_cn1.2.2.1) (hts _ am_cn1.2.2.2) (a := a) (cell := vp_cell cA (n, .inl f)) hcellT (fun k h => by cases h) (fun h => by cases h) hnB f2 f3
    (fun i v hv => by
      have hk' : T.vm.classes[cA]? = some kA := hkA
      have hlt : i < n := by
        have := (Array.getElem?_eq_some_iff.mp hv).1
        rw [hszc] at this
        exact this
      have e2 : (vp_cell cA (n, .inl f)).slots[i]? = some (.int (f i)) := by rw [vp_cell_i, arrV_read _ _ hlt]
      rw [e2] at hv
      cases hv
      show T.fitsSlot cA _ i _ = true
      simpa [State.fitsSlot, State.slotType?, hk', hkind] using hfit i hlt)
    (g := F0 m pc ls (.ref a :: rest)) rfl hsz rfl (by rw [hb]; exact hd) hfr (by show 2 * 0 + _ + 14 ≤ _; omega) hcells (by rw [hszc]; exact hslots) (hloader := Vm.clonesLoader_of_array hkS hkindS)
  rw [hcellE, hszc] at X'
  generalize hH1 : H.push (vp_cell cA (n, .inl f)) = H1
  have z1 : H1.size = H.size + 1 := by rw [← hH1, Array.size_push]
  have e1 : H1[H.size]? = some (vp_cell cA (n, .inl f)) := by rw [← hH1, Array.getElem?_push_size]
  have o1 : ∀ q : Nat, q < H.size → H1[q]? = H[q]? := fun q hq => by rw [← hH1, Array.getElem?_push, if_neg (Nat.ne_of_lt hq)]
  obtain ⟨t, b1, b2⟩ := kk H1 locs ⟨hrep.push (Nat.le_trans hB hS.1) (show H1[H.size]? = some (vp_cell (tys.getD 1 (0, .int)).1 _) by rw [am_getD hA]; exact e1) z1 o1, am_Sps hS z1 o1⟩
    ((T.setVm vm').pushCell (vp_cell cA (n, .inl f))) (by rw [← hH1, ← hT]; rfl) X'
  refine ⟨t, st t ?_, b2⟩
  rw [hcellE, hT, hrep.1]
  exact b1
end AMN
