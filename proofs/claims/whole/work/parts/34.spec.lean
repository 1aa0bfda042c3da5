/-! documents read from bytes: what is meant -/
def sp_s32 (u : Nat) : Int := if u < 2 ^ 31 then (u : Int) else (u : Int) - 2 ^ 32
def sp_s64 (u : Nat) : Int := if u < 2 ^ 63 then (u : Int) else (u : Int) - 2 ^ 64
def sp_el (G : Nat → Bool → Nat → Nat → Option (sp_F × Nat)) (β : Nat → Nat) (dep p e : Nat) : Option (sp_V × Nat) :=
  if e ≤ p then none else match sp_nm β (p + 1) e with
  | none => none
  | some s =>
    if β p = 16 then (if s + 5 ≤ e then some (((16, sp_sub β (p + 1) s, sp_s32 (sp_le β (s + 1) 4), []), .leaf), s + 5) else none)
    else if β p = 18 then (if s + 9 ≤ e then some (((18, sp_sub β (p + 1) s, sp_s64 (sp_le β (s + 1) 8), []), .leaf), s + 9) else none)
    else if β p = 8 then (if s + 2 ≤ e ∧ β (s + 1) ≤ 1 then some (((8, sp_sub β (p + 1) s, (β (s + 1) : Int), []), .leaf), s + 2) else none)
    else if β p = 10 then some (((10, sp_sub β (p + 1) s, 0, []), .leaf), s + 1)
    else if β p = 2 then (if sp_txc β (s + 1) e then some (((2, sp_sub β (p + 1) s, 0, sp_sub β (s + 1 + 4) (s + 1 + 3 + sp_le β (s + 1) 4)), .leaf), s + 1 + 4 + sp_le β (s + 1) 4) else none)
    else if β p = 3 then (match G (dep + 1) false (s + 1) e with
      | none => none
      | some (c, q) => some (((3, sp_sub β (p + 1) s, 0, []), c), q))
    else if β p = 4 then (match G (dep + 1) true (s + 1) e with
      | none => none
      | some (c, q) => some (((4, sp_sub β (p + 1) s, 0, []), c), q))
    else none
/-- a name in decimal digits -/
def sp_decF : Nat → Nat → List Nat
  | 0, _ => []
  | n + 1, k => if k < 10 then [48 + k] else sp_decF n (k / 10) ++ [48 + k % 10]
def sp_dec (k : Nat) : List Nat := sp_decF (k + 1) k
abbrev sp_adm (row : Bool) (seen : List sp_V) (nm : List Nat) : Prop := if row = true then nm = sp_dec seen.length else sp_fnd nm (sp_ofL seen) = none
def sp_nst (E : Nat → Bool → Nat → Nat → List sp_V → Option (List sp_V)) (β : Nat → Nat) (dep : Nat) (row : Bool) (p e : Nat) : Option (sp_F × Nat) :=
  if 16 < dep ∨ e < p + 5 then none
  else if sp_le β p 4 < 5 ∨ e < p + sp_le β p 4 then none
  else match E dep row (p + 4) (p + sp_le β p 4 - 1) [] with
    | none => none
    | some l => if β (p + sp_le β p 4 - 1) = 0 then some (sp_ofL l, p + sp_le β p 4) else none
def sp_es (β : Nat → Nat) : Nat → Nat → Bool → Nat → Nat → List sp_V → Option (List sp_V)
  | 0, _, _, _, _, _ => none
  | n + 1, dep, row, p, e, seen => if e ≤ p then (if p = e then some seen else none) else match sp_el (sp_nst (sp_es β n) β) β dep p e with
    | none => none
    | some (v, q) => if sp_adm row seen v.1.2.1 then sp_es β n dep row q e (seen ++ [v]) else none
theorem sp_nst_le {E : Nat → Bool → Nat → Nat → List sp_V → Option (List sp_V)} {β : Nat → Nat} {dep p e q : Nat} {row : Bool} {c : sp_F} (h : sp_nst E β dep row p e = some (c, q)) : p + 5 ≤ q ∧ q ≤ e := by
  unfold sp_nst at h
  split at h
  · cases h
  · split at h
    · cases h
    · split at h
      · cases h
      · split at h
        · cases h
          omega
        · cases h
/-- what the reader needs of the heap -/
def rok (g : Nat × Nat) (σ : am_H) (r t N p : Nat) (β : Nat → Nat) : Prop := g.1 ≤ r ∧ g.1 ≤ t ∧ g.1 ≤ σ.2.1 ∧ g.2 < g.1 ∧ wf σ ∧ σ.1 r = some (.inr (3, [.ref t, .int (nI p)])) ∧ byf σ.1 t N β ∧ bya σ.1 g.2 []
theorem rok.rt {g : Nat × Nat} {σ : am_H} {r t N p : Nat} {β : Nat → Nat} (h : rok g σ r t N p β) : t ≠ r := by
  obtain ⟨-, -, -, -, -, h1, ⟨-, f, h2, -⟩, -⟩ := h
  intro q
  subst q
  rw [h1] at h2
  cases h2
theorem rok.go {g : Nat × Nat} {σ σ' : am_H} {r t N p p' k m : Nat} {β : Nat → Nat} (h : rok g σ r t N p β) (h' : rdx g r t σ σ' p' k m) : rok g σ' r t N p' β := by
  have hrt := h.rt
  obtain ⟨a1, a2, a3, a4, a5, a6, a7, a8⟩ := h
  obtain ⟨b1, b2, b3, b4, b5, b6, b7⟩ := h'
  have ht : t < σ.2.1 := by
    obtain ⟨-, f, q, -⟩ := id a7
    exact a5 _ _ q
  have hn : g.2 < σ.2.1 := by
    obtain ⟨-, -, f, q, -⟩ := id a8
    exact a5 _ _ q
  exact ⟨a1, a2, by omega, a4, b7, b1, a7.kept (b2 t ht hrt), a8.kept (b2 _ hn (by omega))⟩
theorem rok.self {g : Nat × Nat} {σ : am_H} {r t N p : Nat} {β : Nat → Nat} (h : rok g σ r t N p β) : rdx g r t σ σ p 0 0 := by
  obtain ⟨a1, a2, a3, a4, a5, a6, a7, a8⟩ := h
  exact ⟨a6, fun _ _ _ => rfl, Nat.le_refl _, Nat.le_refl _, Nat.le_refl _, Nat.le_refl _, a5⟩
/-- an element out of a leaf that was made, and its name -/
theorem elz_lf {g : Nat × Nat} {σ σ' : am_H} {lo x k na : Nat} {num : Int64} {nm txt : List Nat} (hk : kd k) (hlo : lo ≤ σ.2.1) (hn : bya σ'.1 na nm) (hz : (lo ≤ na ∧ na < σ.2.1) ∨ na = g.2) (hxg : g.2 < lo) (h : lfx g σ' σ.2.1 x k na num txt) : elz g σ'.1 lo σ'.2.1 x ((k, nm, num.toInt, txt), .leaf) none := by
  obtain ⟨h1, h2, ba, h3, h4, h5⟩ := h
  refine ⟨by omega, h2, none, none, ⟨hk, ?_, na, ba, num, ?_, ?_, ?_, rfl, hn, h4⟩, rfl⟩
  · have := h4.1
    show txt.length + 0 < 65536
    omega
  · rcases hz with ⟨a, b⟩ | a
    · exact Or.inl ⟨a, by omega, by omega⟩
    · exact Or.inr a
  · rcases h3 with ⟨a, b, c⟩ | a
    · exact Or.inl ⟨by omega, b, c⟩
    · exact Or.inr a
  · exact h5
