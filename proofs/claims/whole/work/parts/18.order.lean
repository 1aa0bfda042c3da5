/-! values as trees: an element has a kind, a name, a number, a text; what lies in it; what comes behind it -/
abbrev sp_B : Type := Nat × List Nat × Int × List Nat
abbrev sp_F : Type := Std.DTreeMap.Internal.Impl sp_B (fun _ => Unit)
abbrev sp_V : Type := sp_B × sp_F
def sp_cls (k : Nat) : Nat := if k = 10 then 1 else if k = 16 ∨ k = 18 then 2 else if k = 2 then 3 else if k = 3 then 4 else if k = 4 then 5 else if k = 8 then 6 else 0
def sp_nc (a b : Nat) : Int32 := if a < b then -1 else if a = b then 0 else 1
def sp_ic (a b : Int) : Int32 := if a < b then -1 else if a = b then 0 else 1
def sp_or (a b : Int32) : Int32 := if a = 0 then b else a
def sp_bc : List Nat → List Nat → Int32
  | [], [] => 0
  | [], _ :: _ => -1
  | _ :: _, [] => 1
  | a :: x, b :: y => sp_or (sp_nc a b) (sp_bc x y)
def sp_fc : sp_F → sp_F → Int32
  | .leaf, .leaf => 0
  | .leaf, .inner _ _ _ _ _ => -1
  | .inner _ _ _ _ _, .leaf => 1
  | .inner _ b _ c r, .inner _ b' _ c' r' => sp_or (sp_nc (sp_cls b.1) (sp_cls b'.1)) (sp_or (sp_bc b.2.1 b'.2.1) (sp_or (sp_or (sp_ic b.2.2.1 b'.2.2.1) (sp_or (sp_bc b.2.2.2 b'.2.2.2) (sp_fc c c'))) (sp_fc r r')))
def sp_vc (v w : sp_V) : Int32 := sp_or (sp_nc (sp_cls v.1.1) (sp_cls w.1.1)) (sp_or (sp_ic v.1.2.2.1 w.1.2.2.1) (sp_or (sp_bc v.1.2.2.2 w.1.2.2.2) (sp_fc v.2 w.2)))
/-- how three answers hang together -/
def sp_tr (x y z : Int32) : Prop := (x = 0 → z = y) ∧ (y = 0 → z = x) ∧ (x = y → z = x)
theorem sp_or_0 (b : Int32) : sp_or 0 b = b := rfl
theorem sp_or_n {a : Int32} (h : a ≠ 0) (b : Int32) : sp_or a b = a := by simp [sp_or, h]
theorem sp_tr_or {x y z x' y' z' : Int32} (h : sp_tr x y z) (h' : sp_tr x' y' z') : sp_tr (sp_or x x') (sp_or y y') (sp_or z z') := by
  obtain ⟨h1, h2, h3⟩ := h
  by_cases hx : x = 0
  · have hz := h1 hx
    subst hz
    subst hx
    by_cases hy : z = 0
    · subst hy
      exact h'
    · rw [sp_or_0, sp_or_n hy, sp_or_n hy]
      exact ⟨fun _ => rfl, fun q => absurd q hy, fun q => q.symm⟩
  · by_cases hy : y = 0
    · have hz := h2 hy
      subst hz
      subst hy
      rw [sp_or_0, sp_or_n hx, sp_or_n hx]
      exact ⟨fun q => absurd q hx, fun _ => rfl, fun _ => rfl⟩
    · rw [sp_or_n hx, sp_or_n hy]
      refine ⟨fun q => absurd q hx, fun q => absurd q hy, fun q => ?_⟩
      rw [h3 q, sp_or_n hx]
theorem sp_or_neg (x y : Int32) : sp_or (-x) (-y) = -sp_or x y := by
  by_cases hx : x = 0
  · subst hx
    rfl
  · have h2 : -x ≠ 0 := fun q => hx (by rw [← Int32.neg_neg (a := x), q]; rfl)
    rw [sp_or_n hx, sp_or_n h2]
theorem sp_nc_tr (a b c : Nat) : sp_tr (sp_nc a b) (sp_nc b c) (sp_nc a c) := by
  unfold sp_tr sp_nc
  rcases Nat.lt_trichotomy a b with h | h | h <;> rcases Nat.lt_trichotomy b c with h' | h' | h' <;> rcases Nat.lt_trichotomy a c with h2 | h2 | h2 <;> first | omega | (simp [h, h', h2, Nat.lt_asymm, Nat.ne_of_gt, Nat.not_lt_of_gt, Nat.ne_of_lt]; try decide)
theorem sp_nc_neg (a b : Nat) : sp_nc b a = -sp_nc a b := by
  unfold sp_nc
  rcases Nat.lt_trichotomy a b with h | h | h
  · rw [if_pos h, if_neg (by omega), if_neg (by omega)]
    decide
  · subst h
    simp
  · rw [if_pos h, if_neg (by omega), if_neg (by omega)]
theorem sp_ic_tr (a b c : Int) : sp_tr (sp_ic a b) (sp_ic b c) (sp_ic a c) := by
  have key : ∀ p q : Int, (p < q ∧ sp_ic p q = -1) ∨ (p = q ∧ sp_ic p q = 0) ∨ (q < p ∧ sp_ic p q = 1) := by
    intro p q
    unfold sp_ic
    by_cases h : p < q
    · exact Or.inl ⟨h, if_pos h⟩
    · by_cases h2 : p = q
      · exact Or.inr (Or.inl ⟨h2, by rw [if_neg h, if_pos h2]⟩)
      · exact Or.inr (Or.inr ⟨by omega, by rw [if_neg h, if_neg h2]⟩)
  unfold sp_tr
  rcases key a b with ⟨h, e⟩ | ⟨h, e⟩ | ⟨h, e⟩ <;> rcases key b c with ⟨h', e'⟩ | ⟨h', e'⟩ | ⟨h', e'⟩ <;> rcases key a c with ⟨h2, e2⟩ | ⟨h2, e2⟩ | ⟨h2, e2⟩ <;> first | omega | (rw [e, e', e2]; decide)
theorem sp_ic_neg (a b : Int) : sp_ic b a = -sp_ic a b := by
  unfold sp_ic
  rcases Int.lt_trichotomy a b with h | h | h
  · rw [if_pos h, if_neg (by omega), if_neg (by omega)]
    decide
  · subst h
    simp
  · rw [if_pos h, if_neg (by omega), if_neg (by omega)]
theorem sp_tr_000 : sp_tr 0 0 0 := ⟨fun _ => rfl, fun _ => rfl, fun _ => rfl⟩
theorem sp_bc_tr : ∀ a b c : List Nat, sp_tr (sp_bc a b) (sp_bc b c) (sp_bc a c)
  | [], [], [] => by unfold sp_tr sp_bc; decide
  | [], [], _ :: _ => by unfold sp_tr; simp only [sp_bc]; decide
  | [], _ :: _, [] => by unfold sp_tr; simp only [sp_bc]; decide
  | [], _ :: _, _ :: _ => by
    simp only [sp_bc]
    refine ⟨fun q => absurd q (by decide), fun _ => rfl, fun _ => rfl⟩
  | _ :: _, [], [] => by unfold sp_tr; simp only [sp_bc]; decide
  | _ :: _, [], _ :: _ => by
    simp only [sp_bc]
    refine ⟨fun q => absurd q (by decide), fun q => absurd q (by decide), fun q => absurd q (by decide)⟩
  | _ :: _, _ :: _, [] => by
    simp only [sp_bc]
    refine ⟨fun _ => rfl, fun q => absurd q (by decide), fun q => q.symm⟩
  | a :: x, b :: y, c :: z => by
    simp only [sp_bc]
    exact sp_tr_or (sp_nc_tr a b c) (sp_bc_tr x y z)
theorem sp_bc_neg : ∀ a b : List Nat, sp_bc b a = -sp_bc a b
  | [], [] => rfl
  | [], _ :: _ => by simp only [sp_bc]; decide
  | _ :: _, [] => by simp only [sp_bc]
  | a :: x, b :: y => by simp only [sp_bc]; rw [sp_nc_neg a b, sp_bc_neg x y, sp_or_neg]
theorem sp_fc_tr : ∀ a b c : sp_F, sp_tr (sp_fc a b) (sp_fc b c) (sp_fc a c)
  | .leaf, .leaf, .leaf => by unfold sp_tr; simp only [sp_fc]; decide
  | .leaf, .leaf, .inner _ _ _ _ _ => by unfold sp_tr; simp only [sp_fc]; decide
  | .leaf, .inner _ _ _ _ _, .leaf => by unfold sp_tr; simp only [sp_fc]; decide
  | .leaf, .inner _ _ _ _ _, .inner _ _ _ _ _ => by
    refine ⟨fun q => ?_, fun _ => ?_, fun _ => ?_⟩
    · simp only [sp_fc] at q
      exact absurd q (by decide)
    · simp only [sp_fc]
    · simp only [sp_fc]
  | .inner _ _ _ _ _, .leaf, .leaf => by unfold sp_tr; simp only [sp_fc]; decide
  | .inner _ _ _ _ _, .leaf, .inner _ _ _ _ _ => by
    refine ⟨fun q => ?_, fun q => ?_, fun q => ?_⟩ <;> (simp only [sp_fc] at q; exact absurd q (by decide))
  | .inner _ _ _ _ _, .inner _ _ _ _ _, .leaf => by
    refine ⟨fun _ => ?_, fun q => ?_, fun q => ?_⟩
    · simp only [sp_fc]
    · simp only [sp_fc] at q
      exact absurd q (by decide)
    · rw [q]
      simp only [sp_fc]
  | .inner _ b _ c r, .inner _ b' _ c' r', .inner _ b'' _ c'' r'' => by
    simp only [sp_fc]
    exact sp_tr_or (sp_nc_tr _ _ _) (sp_tr_or (sp_bc_tr _ _ _) (sp_tr_or (sp_tr_or (sp_ic_tr _ _ _) (sp_tr_or (sp_bc_tr _ _ _) (sp_fc_tr c c' c''))) (sp_fc_tr r r' r'')))
theorem sp_fc_neg : ∀ a b : sp_F, sp_fc b a = -sp_fc a b
  | .leaf, .leaf => by simp only [sp_fc]; decide
  | .leaf, .inner _ _ _ _ _ => by simp only [sp_fc]; decide
  | .inner _ _ _ _ _, .leaf => by simp only [sp_fc]
  | .inner _ b _ c r, .inner _ b' _ c' r' => by
    simp only [sp_fc]
    rw [sp_nc_neg (sp_cls b.1) (sp_cls b'.1), sp_bc_neg b.2.1 b'.2.1, sp_ic_neg b.2.2.1 b'.2.2.1, sp_bc_neg b.2.2.2 b'.2.2.2, sp_fc_neg c c', sp_fc_neg r r', sp_or_neg, sp_or_neg, sp_or_neg, sp_or_neg, sp_or_neg]
theorem sp_vc_tr (u v w : sp_V) : sp_tr (sp_vc u v) (sp_vc v w) (sp_vc u w) := sp_tr_or (sp_nc_tr _ _ _) (sp_tr_or (sp_ic_tr _ _ _) (sp_tr_or (sp_bc_tr _ _ _) (sp_fc_tr _ _ _)))
theorem sp_vc_neg (v w : sp_V) : sp_vc w v = -sp_vc v w := by
  unfold sp_vc
  rw [sp_nc_neg (sp_cls v.1.1), sp_ic_neg v.1.2.2.1, sp_bc_neg v.1.2.2.2, sp_fc_neg v.2, sp_or_neg, sp_or_neg, sp_or_neg]
