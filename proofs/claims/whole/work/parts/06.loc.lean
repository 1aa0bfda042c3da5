/-! locals -/
theorem am_ld_iff {L : am_L} {i : Nat} {v : Value} : am_ld L i = some v ↔ L[i]? = some (some v) := by
  unfold am_ld
  constructor
  · intro h
    split at h
    · rename_i w hw
      cases h
      exact hw
    · cases h
  · intro h
    rw [h]
theorem am_clr_len (L : am_L) (i : Nat) : (am_clr L i).length = L.length := by
  unfold am_clr
  split
  · rfl
  · split
    · split
      · simp
      · rfl
    · rfl
theorem am_clr_get {L : am_L} {i j : Nat} {w : Value} (h : (am_clr L i)[j]? = some (some w)) : L[j]? = some (some w) ∧ ¬ (j + 1 = i ∧ w.category = 2) := by
  unfold am_clr at h
  split at h
  · exact ⟨h, fun q => by omega⟩
  · rename_i k
    split at h
    · rename_i w0 hw
      split at h
      · by_cases hj : j = k
        · subst hj
          rw [List.getElem?_set] at h
          simp at h
        · rw [List.getElem?_set_ne (Ne.symm hj)] at h
          exact ⟨h, fun q => hj (by omega)⟩
      · rename_i hc
        refine ⟨h, fun q => ?_⟩
        have e : j = k := by omega
        subst e
        rw [am_ld_iff.mp hw] at h
        cases h
        exact hc q.2
    · rename_i hn
      refine ⟨h, fun q => ?_⟩
      have e : j = k := by omega
      subst e
      rw [am_ld_iff.mpr h] at hn
      cases hn
def am_has (ls : Array Slot) (nL : Nat) (L : am_L) : Prop := ls.size = nL ∧ lv_wf ls ∧ L.length = nL ∧ ∀ (i : Nat) (v : Value), L[i]? = some (some v) → ls[i]? = some (.val v)
theorem am_has.at {ls : Array Slot} {nL : Nat} {L : am_L} (h : am_has ls nL L) {i : Nat} {v : Value} (hv : am_ld L i = some v) : ls[i]? = some (.val v) := h.2.2.2 i v (am_ld_iff.mp hv)
def am_prs (L : am_L) : List (Nat × Value) := (List.range L.length).filterMap (fun i => (am_ld L i).map (fun v => (i, v)))
theorem am_prs_mem {L : am_L} {q : Nat × Value} : q ∈ am_prs L ↔ am_ld L q.1 = some q.2 := by
  unfold am_prs
  simp only [List.mem_filterMap, List.mem_range, Option.map_eq_some_iff]
  constructor
  · rintro ⟨i, hi, v, hv, rfl⟩
    exact hv
  · intro h
    exact ⟨q.1, (List.getElem?_eq_some_iff.mp (am_ld_iff.mp h)).1, q.2, h, rfl⟩
theorem am_has.lv {ls : Array Slot} {nL : Nat} {L : am_L} (h : am_has ls nL L) : lv_has ls nL (am_prs L) := ⟨h.1, h.2.1, fun q hq => h.at (am_prs_mem.mp hq)⟩
theorem am_has.s1 {ls ls' : Array Slot} {nL i : Nat} {L : am_L} {v : Value} (h : am_has ls nL L) (h' : lv_has ls' nL ((i, v) :: (am_prs L).filter (fun q => !(q.1 == i) && !(q.1 + 1 == i && q.2.category == 2)))) : am_has ls' nL (am_s1 L i v) := by
  refine ⟨h'.1, h'.2.1, by simp [am_s1, am_clr_len, h.2.2.1], fun j w hj => ?_⟩
  apply h'.2.2 (j, w)
  unfold am_s1 at hj
  by_cases e : j = i
  · subst e
    rw [List.getElem?_set] at hj
    simp at hj
    rw [hj.2]
    exact List.mem_cons_self
  · rw [List.getElem?_set_ne (Ne.symm e)] at hj
    obtain ⟨h1, h2⟩ := am_clr_get hj
    refine List.mem_cons_of_mem _ (List.mem_filter.mpr ⟨am_prs_mem.mpr (am_ld_iff.mpr h1), ?_⟩)
    simp only [Bool.and_eq_true, Bool.not_eq_true', beq_eq_false_iff_ne, ne_eq, Bool.and_eq_false_iff]
    refine ⟨e, ?_⟩
    by_cases q : j + 1 = i
    · exact Or.inr (fun z => h2 ⟨q, z⟩)
    · exact Or.inl q
theorem am_has.s2 {ls ls' : Array Slot} {nL i : Nat} {L : am_L} {v : Value} (h : am_has ls nL L) (h' : lv_has ls' nL ((i, v) :: (am_prs L).filter (fun q => !(q.1 == i) && (!(q.1 == i + 1) && !(q.1 + 1 == i && q.2.category == 2))))) : am_has ls' nL (am_s2 L i v) := by
  refine ⟨h'.1, h'.2.1, by simp [am_s2, am_clr_len, h.2.2.1], fun j w hj => ?_⟩
  apply h'.2.2 (j, w)
  unfold am_s2 at hj
  by_cases e1 : j = i + 1
  · subst e1
    rw [List.getElem?_set] at hj
    simp at hj
  · rw [List.getElem?_set_ne (Ne.symm e1)] at hj
    by_cases e : j = i
    · subst e
      rw [List.getElem?_set] at hj
      simp at hj
      rw [hj.2]
      exact List.mem_cons_self
    · rw [List.getElem?_set_ne (Ne.symm e)] at hj
      obtain ⟨h1, h2⟩ := am_clr_get hj
      refine List.mem_cons_of_mem _ (List.mem_filter.mpr ⟨am_prs_mem.mpr (am_ld_iff.mpr h1), ?_⟩)
      simp only [Bool.and_eq_true, Bool.not_eq_true', beq_eq_false_iff_ne, ne_eq, Bool.and_eq_false_iff]
      refine ⟨e, e1, ?_⟩
      by_cases q : j + 1 = i
      · exact Or.inr (fun z => h2 ⟨q, z⟩)
      · exact Or.inl q
theorem am_ent_len : ∀ vs : List Value, (am_ent vs).length = (lg_sl vs).length
  | [] => rfl
  | v :: r => by
    have ih := am_ent_len r
    unfold lg_sl at ih ⊢
    by_cases h : v.category = 2
    · simp [am_ent, h, ih]
    · simp [am_ent, h, ih]
theorem am_ent_get : ∀ (vs : List Value) (k i : Nat) (v : Value), (am_ent vs)[i]? = some (some v) → (k + i, v) ∈ lv_args k vs
  | [], k, i, v, h => by simp [am_ent] at h
  | w :: r, k, i, v, h => by
    by_cases hc : w.category = 2
    · simp only [am_ent, hc, if_true] at h
      simp only [lv_args, hc, if_true]
      match i with
      | 0 =>
        simp at h
        subst h
        exact List.mem_cons_self
      | 1 => simp at h
      | j + 2 =>
        have h' : (am_ent r)[j]? = some (some v) := by simpa using h
        have := am_ent_get r (k + 2) j v h'
        rw [show k + (j + 2) = k + 2 + j by omega]
        exact List.mem_cons_of_mem _ this
    · simp only [am_ent, hc, if_false] at h
      simp only [lv_args, hc, if_false]
      match i with
      | 0 =>
        simp at h
        subst h
        exact List.mem_cons_self
      | j + 1 =>
        have h' : (am_ent r)[j]? = some (some v) := by simpa using h
        have := am_ent_get r (k + 1) j v h'
        rw [show k + (j + 1) = k + 1 + j by omega]
        exact List.mem_cons_of_mem _ this
theorem am_entry (vs : List Value) {n : Nat} (h : (am_ent vs).length ≤ n) : am_has ((lg_sl vs ++ List.replicate (n - (lg_sl vs).length) Slot.unset).toArray) n (am_pad (am_ent vs) n) := by
  have h' : (lg_sl vs).length ≤ n := by rw [← am_ent_len]; exact h
  obtain ⟨h1, h2, h3⟩ := lv_entry vs h'
  refine ⟨h1, h2, by simp [am_pad]; omega, fun i v hi => ?_⟩
  unfold am_pad at hi
  by_cases hl : i < (am_ent vs).length
  · rw [List.getElem?_append_left hl] at hi
    have := am_ent_get vs 0 i v hi
    rw [Nat.zero_add] at this
    exact h3 _ this
  · rw [List.getElem?_append_right (by omega)] at hi
    have := List.eq_of_mem_replicate (List.mem_of_getElem? hi)
    cases this
