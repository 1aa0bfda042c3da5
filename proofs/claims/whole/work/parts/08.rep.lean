/-! the cells in the machine's heap -/
def am_cc (tys : List (ClassId × FieldType)) (c : am_C) : va_E := match c with
  | .inl (t, x) => .inl ((tys.getD t (0, .int)).1, x)
  | .inr o => .inr o
def am_A (g : Nat × Nat) : Nat → Prop := fun q => g.1 ≤ q
def am_ro (g : Nat × Nat) (tys : List (ClassId × FieldType)) (a : Nat) (c : am_C) (U : State) (H : Heap) : Prop := ∃ (t n : Nat) (f : Nat → Int32) (cA : ClassId) (ty : FieldType), c = .inl (t, n, .inl f) ∧ tys[t]? = some (cA, ty) ∧ va_T ty a n (fun j => .int (f j)) (am_A g) U H
def am_rep (g : Nat × Nat) (D : va_G) (tys : List (ClassId × FieldType)) (U : State) (σ : am_H) (H : Heap) : Prop := H.size = σ.2.1 ∧ ∀ (a : Nat) (c : am_C), σ.1 a = some c → (g.1 ≤ a ∧ va_at D am_vw (a, am_cc tys c) H) ∨ am_ro g tys a c U H
theorem am_rep.moved {g : Nat × Nat} {D : va_G} {tys : List (ClassId × FieldType)} {u U : State} {σ : am_H} {H : Heap} (hvm : u.vm.Alike U.vm) (h : am_rep g D tys u σ H) : am_rep g D tys U σ H := by
  refine ⟨h.1, fun a c hc => ?_⟩
  rcases h.2 a c hc with h1 | ⟨t, n, f, cA, ty, e1, e2, h1⟩
  · exact Or.inl h1
  · exact Or.inr ⟨t, n, f, cA, ty, e1, e2, h1.moved hvm⟩
theorem am_rep.set {g : Nat × Nat} {D : va_G} {tys : List (ClassId × FieldType)} {U : State} {σ : am_H} {H H1 : Heap} {a : Nat} {c' : am_C} (h : am_rep g D tys U σ H) (ha : g.1 ≤ a) (he : va_at D am_vw (a, am_cc tys c') H1) (z : H1.size = H.size) (oq : ∀ q : Nat, q ≠ a → H1[q]? = H[q]?) : am_rep g D tys U (am_set σ a c') H1 := by
  refine ⟨z.trans h.1, fun q c hq => ?_⟩
  simp only [am_set, am_upd] at hq
  by_cases e : q = a
  · subst e
    rw [if_pos rfl] at hq
    cases hq
    exact Or.inl ⟨ha, he⟩
  · rw [if_neg e] at hq
    rcases h.2 q c hq with ⟨h1, h2⟩ | ⟨t, n, f, cA, ty, e1, e2, h3⟩
    · exact Or.inl ⟨h1, h2.kept (oq q e)⟩
    · exact Or.inr ⟨t, n, f, cA, ty, e1, e2, h3.kept (fun q' _ hA => oq q' (fun z => hA (by rw [z]; exact ha)))⟩
theorem am_rep.push {g : Nat × Nat} {D : va_G} {tys : List (ClassId × FieldType)} {U : State} {σ : am_H} {H H1 : Heap} {c' : am_C} {n' : Nat} (h : am_rep g D tys U σ H) (hB : g.1 ≤ H.size) (he : va_at D am_vw (H.size, am_cc tys c') H1) (z : H1.size = H.size + 1) (oq : ∀ q : Nat, q < H.size → H1[q]? = H[q]?) : am_rep g D tys U (am_psh σ c' n') H1 := by
  refine ⟨by rw [z, h.1]; rfl, fun q c hq => ?_⟩
  simp only [am_psh, am_upd] at hq
  by_cases e : q = σ.2.1
  · subst e
    rw [if_pos rfl] at hq
    cases hq
    rw [← h.1]
    exact Or.inl ⟨hB, he⟩
  · rw [if_neg e] at hq
    rcases h.2 q c hq with ⟨h1, h2⟩ | ⟨t, n, f, cA, ty, e1, e2, h3⟩
    · exact Or.inl ⟨h1, h2.kept (oq q h2.lt)⟩
    · exact Or.inr ⟨t, n, f, cA, ty, e1, e2, h3.kept (fun q' hl _ => oq q' hl)⟩
theorem am_rep.obj {g : Nat × Nat} {D : va_G} {tys : List (ClassId × FieldType)} {U : State} {σ : am_H} {H : Heap} {a ci : Nat} {fs : List Value} (h : am_rep g D tys U σ H) (hc : σ.1 a = some (.inr (ci, fs))) : va_at D am_vw (a, .inr (ci, fs)) H := by
  rcases h.2 a _ hc with ⟨-, h1⟩ | ⟨t, n, f, cA, ty, e1, -⟩
  · exact h1
  · cases e1
theorem am_rep.one {g : Nat × Nat} {D : va_G} {tys : List (ClassId × FieldType)} {U : State} {σ : am_H} {H : Heap} {a ci : Nat} {fs : List Value} (h : am_rep g D tys U σ H) (hc : σ.1 a = some (.inr (ci, fs))) : va_P D am_vw [(a, .inr (ci, fs))] H := by
  intro k q hk
  have hz : k < 1 := (List.getElem?_eq_some_iff.mp hk).1
  rw [show k = 0 by omega] at hk
  cases hk
  exact h.obj hc
theorem am_rep.own {g : Nat × Nat} {D : va_G} {tys : List (ClassId × FieldType)} {U : State} {σ : am_H} {H : Heap} {a : Nat} {c : am_C} (h : am_rep g D tys U σ H) (ha : g.1 ≤ a) (hc : σ.1 a = some c) : va_at D am_vw (a, am_cc tys c) H := by
  rcases h.2 a _ hc with ⟨-, h1⟩ | ⟨t, n, f, cA, ty, e1, e2, cell, -, -, -, -, -, -, h3⟩
  · exact h1
  · exact absurd ha h3
theorem am_getD {tys : List (ClassId × FieldType)} {t : Nat} {q : ClassId × FieldType} (h : tys[t]? = some q) : tys.getD t (0, .int) = q := by
  rw [List.getD_eq_getElem?_getD, h]
  rfl
theorem am_rep.arr {g : Nat × Nat} {D : va_G} {tys : List (ClassId × FieldType)} {U : State} {σ : am_H} {H : Heap} {a t n : Nat} {f : Nat → Int32} {cA : ClassId} {ty : FieldType} (h : am_rep g D tys U σ H) (hK : va_K D am_vw tys U) (hc : σ.1 a = some (.inl (t, n, .inl f))) (ht : tys[t]? = some (cA, ty)) : ∃ cell : Cell, H[a]? = some cell ∧ U.isArrayOf cell ty ∧ cell.vm ≠ .unknown ∧ n ≤ cell.slots.size ∧ cell.slots.size.toInt32 = Int32.ofNat n ∧ ∀ j : Nat, j < n → cell.slots[j]? = some (.int (f j)) := by
  rcases h.2 a _ hc with ⟨-, h1⟩ | ⟨t', n', f', cA', ty', e1, e2, h1⟩
  · have h2 : H[a]? = some (vp_cell (tys.getD t (0, .int)).1 (n, .inl f)) := h1
    rw [am_getD ht] at h2
    refine ⟨_, h2, (hK.2 t _ ht).1 n (fun j => .int (f j)), (fun q => by cases q), ?_, ?_, fun j hj => ?_⟩
    · rw [vp_cell_i, arrV_size]
      exact Nat.le_refl _
    · rw [vp_cell_i, arrV_size]
    · rw [vp_cell_i, arrV_read _ _ hj]
  · cases e1
    cases ht.symm.trans e2
    obtain ⟨cell, q1, q2, q3, q4, q5, q6, -⟩ := h1
    exact ⟨cell, q1, q2, q3, q4, q5, q6⟩
theorem am_rep.arq {g : Nat × Nat} {D : va_G} {tys : List (ClassId × FieldType)} {U : State} {σ : am_H} {H : Heap} {a t n : Nat} {f : Nat → Option Nat} {cA : ClassId} {ty : FieldType} (h : am_rep g D tys U σ H) (hc : σ.1 a = some (.inl (t, n, .inr (.inr (.inr (.inr f)))))) (ht : tys[t]? = some (cA, ty)) : H[a]? = some (vp_cell cA (n, .inr (.inr (.inr (.inr f))))) := by
  rcases h.2 a _ hc with ⟨-, h1⟩ | ⟨t', n', f', cA', ty', e1, -⟩
  · have h2 : H[a]? = some (vp_cell (tys.getD t (0, .int)).1 (n, .inr (.inr (.inr (.inr f))))) := h1
    rw [am_getD ht] at h2
    exact h2
  · cases e1
/-- what all states of the run have -/
def am_G (g : Nat × Nat) (D : va_G) (tys : List (ClassId × FieldType)) (U : State) (H : Heap) : Prop := va_K D am_vw tys U ∧ tys.map (fun q => q.2) = am_tyl ∧ (∀ w ∈ am_nst, va_Nw w U) ∧ (∀ C ∈ am_aos, va_AO C U) ∧ va_Z am_stC am_stN am_stD (.ref g.2) (am_A g) U H ∧ va_Nw (.castable "[B" "java/lang/Cloneable") U
theorem am_tyAt {tys : List (ClassId × FieldType)} (h : tys.map (fun q => q.2) = am_tyl) {t : Nat} {ty : FieldType} (ht : am_tyl[t]? = some ty) : ∃ cA, tys[t]? = some (cA, ty) := by
  rw [← h, List.getElem?_map] at ht
  cases hq : tys[t]? with
  | none => rw [hq] at ht; cases ht
  | some q =>
    rw [hq] at ht
    obtain ⟨cA, ty'⟩ := q
    cases ht
    exact ⟨cA, rfl⟩
def am_Cx (g : Nat × Nat) (D : va_G) (tys : List (ClassId × FieldType)) (y : Nat) (p : Program) (s : State) (m : MethodId) (args : Array Value) (meth : Method) (c : Code) : Prop :=
  p.tables.exec = Jvm.exec ∧ c.code = am_by y ∧ c.maxLocals = am_ml y ∧ s.vm.findClass (am_ow y) = some m.cls ∧ (∀ w, am_w w = true → w.before args s = true) ∧ meth.name = (am_yn y).name ∧ meth.sig.returnType = am_re y ∧ meth.locks = false ∧ am_G g D tys s s.heap ∧ g.1 ≤ s.heap.size
def am_Dx (g : Nat × Nat) (D : va_G) (tys : List (ClassId × FieldType)) (s : State) (σ : am_H) (H : Heap) (locs : List Loc) : Prop := am_rep g D tys s σ H ∧ va_S (am_A g) s.heap H locs
def am_gh (g : Nat × Nat) (D : va_G) (tys : List (ClassId × FieldType)) (d y pc : Nat) (st : List Value) (σ : am_H) (pc' : Nat) (st' : List Value) (σ' : am_H) : Prop := ∀ (p : Program) (l : Launch) (e : Env) (R : Room) (s : State) (m : MethodId) (args : Array Value) (below : List Frame) (meth : Method) (c : Code) (H : Heap) (locs : List Loc) (cells slots : Nat) (Q : State → Prop) (ls : Array Slot), am_Cx g D tys y p s m args meth c → am_Dx g D tys s σ H locs → ls.size = am_ml y → d ≤ R.frames → 60 * d ≤ R.locals → cells + (σ'.2.1 - σ.2.1) ≤ R.cells → slots + (σ'.2.2 - σ.2.2) ≤ R.slots →
  (∀ (H' : Heap) (locs' : List Loc), am_Dx g D tys s σ' H' locs' → W p l e R s m args below meth c H' locs' (cells + (σ'.2.1 - σ.2.1)) (slots + (σ'.2.2 - σ.2.2)) Q (F0 m pc' ls st')) → W p l e R s m args below meth c H locs cells slots Q (F0 m pc ls st)
