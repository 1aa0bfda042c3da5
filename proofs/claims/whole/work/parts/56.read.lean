/-! read -/
theorem sp_ofL_hgt {k : Nat} : ∀ {l : List sp_V}, (∀ v ∈ l, sp_hgt v.2 + 1 ≤ k) → sp_hgt (sp_ofL l) ≤ k
  | [], _ => Nat.zero_le _
  | v :: l, h => by
    have h1 := h v List.mem_cons_self
    have h2 := sp_ofL_hgt (l := l) (fun w hw => h w (List.mem_cons_of_mem _ hw))
    show sp_hgt (.inner 0 v.1 () v.2 (sp_ofL l)) ≤ k
    rw [sp_hgt_in]
    omega
/-- what is read is not deeper than it may be -/
def dpE (E : Nat → Bool → Nat → Nat → List sp_V → Option (List sp_V)) : Prop := ∀ (dep : Nat) (row : Bool) (p e : Nat) (seen l : List sp_V), E dep row p e seen = some l → dep ≤ 16 → (∀ v ∈ seen, sp_hgt v.2 + dep ≤ 16) → ∀ v ∈ l, sp_hgt v.2 + dep ≤ 16
theorem sp_nst_hgt {E : Nat → Bool → Nat → Nat → List sp_V → Option (List sp_V)} (hE : dpE E) {β : Nat → Nat} {dep p e q : Nat} {row : Bool} {c : sp_F} (h : sp_nst E β dep row p e = some (c, q)) : dep ≤ 16 ∧ sp_hgt c + dep ≤ 17 := by
  unfold sp_nst at h
  split at h
  · cases h
  · rename_i h1
    split at h
    · cases h
    · split at h
      · cases h
      · rename_i l hl
        split at h
        · have hq := Option.some.inj h
          have hc : sp_ofL l = c := (Prod.mk.inj hq).1
          have hd : dep ≤ 16 := by omega
          have hv := hE dep row _ _ [] l hl hd (fun v hv => by cases hv)
          have := sp_ofL_hgt (k := 17 - dep) (l := l) (fun v hv' => by have := hv v hv'; omega)
          rw [hc] at this
          omega
        · cases h
theorem sp_el_hgt {E : Nat → Bool → Nat → Nat → List sp_V → Option (List sp_V)} (hE : dpE E) {β : Nat → Nat} {dep p e q : Nat} {v : sp_V} (hd : dep ≤ 16) (h : sp_el (sp_nst E β) β dep p e = some (v, q)) : sp_hgt v.2 + dep ≤ 16 := by
  have lf : ∀ {b : sp_B} {q' : Nat}, some ((b, (.leaf : sp_F)), q') = some (v, q) → sp_hgt v.2 + dep ≤ 16 := by
    intro b q' hq
    have : v = (b, .leaf) := ((Prod.mk.inj (Option.some.inj hq)).1).symm
    rw [this]
    show 0 + dep ≤ 16
    omega
  unfold sp_el at h
  split at h
  · cases h
  · split at h
    · cases h
    · split at h
      · split at h
        · exact lf h
        · cases h
      · split at h
        · split at h
          · exact lf h
          · cases h
        · split at h
          · split at h
            · exact lf h
            · cases h
          · split at h
            · exact lf h
            · split at h
              · split at h
                · exact lf h
                · cases h
              · split at h
                · split at h
                  · cases h
                  · rename_i c q' hn
                    have := sp_nst_hgt hE hn
                    have hv : v = ((3, sp_sub β (p + 1) _, 0, []), c) := ((Prod.mk.inj (Option.some.inj h)).1).symm
                    rw [hv]
                    show sp_hgt c + dep ≤ 16
                    omega
                · split at h
                  · split at h
                    · cases h
                    · rename_i c q' hn
                      have := sp_nst_hgt hE hn
                      have hv : v = ((4, sp_sub β (p + 1) _, 0, []), c) := ((Prod.mk.inj (Option.some.inj h)).1).symm
                      rw [hv]
                      show sp_hgt c + dep ≤ 16
                      omega
                  · cases h
theorem sp_es_hgt (β : Nat → Nat) : ∀ n, dpE (sp_es β n)
  | 0 => by
    intro dep row p e seen l h
    cases h
  | n + 1 => by
    intro dep row p e seen l h hd hs
    unfold sp_es at h
    split at h
    · split at h
      · cases h
        exact hs
      · cases h
    · split at h
      · cases h
      · rename_i v q hv
        split at h
        · refine sp_es_hgt β n dep row q e (seen ++ [v]) l h hd (fun w hw => ?_)
          rcases List.mem_append.mp hw with z | z
          · exact hs w z
          · rw [List.mem_singleton.mp z]
            exact sp_el_hgt (sp_es_hgt β n) hd hv
        · cases h
theorem sp_doc_hgt {β : Nat → Nat} {e : Nat} {c : sp_F} (h : sp_doc β e = some c) : sp_hgt c ≤ 16 := by
  unfold sp_doc at h
  split at h
  · cases h
  · rename_i c' q hn
    have := sp_nst_hgt (sp_es_hgt β 2000) hn
    split at h
    · have hc : c' = c := Option.some.inj h
      rw [← hc]
      omega
    · cases h
def sets (F : Nat → sp_F) (i : Nat) (c : sp_F) : Nat → sp_F := fun j => if j = i then c else F j
def sp_read (S : sp_S) (slot n : Int32) : sp_S × Int32 := match sp_ix slot 4, sp_ix n (S.2.1 + 1) with
  | some i, some k => (match sp_doc S.1 k with
    | none => ((S.1, 0, S.2.2), -1)
    | some c => ((S.1, 0, sets S.2.2.1 i c, S.2.2.2), nI (sp_len c)))
  | _, _ => (S, -2)
