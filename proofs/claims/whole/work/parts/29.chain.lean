/-! values in a zone of the heap, chains that are being built -/
def ndz (Z : Nat → Prop) (h : Nat → Option am_C) (a : Nat) (b : sp_B) (cnt : Nat) (fi la nx : Option Nat) : Prop := kd b.1 ∧ cnt < 65536 ∧ ∃ (na ba : Nat) (num : Int64), Z na ∧ Z ba ∧ h a = some (.inr (1, [.int (nI b.1), .ref na, .long num, .ref ba, .int (nI cnt), va_rf fi, va_rf la, va_rf nx])) ∧ num.toInt = b.2.2.1 ∧ bya h na b.2.1 ∧ bya h ba b.2.2.2
def frz (Z : Nat → Prop) (h : Nat → Option am_C) : sp_F → Option Nat → Prop
  | .leaf, o => o = none
  | .inner _ b _ c r, o => ∃ (a : Nat) (fi la nx : Option Nat), o = some a ∧ Z a ∧ ndz Z h a b (b.2.2.2.length + sp_len c) fi la nx ∧ frz Z h c fi ∧ frz Z h r nx
def vlz (Z : Nat → Prop) (h : Nat → Option am_C) (a : Nat) (v : sp_V) : Prop := Z a ∧ ∃ (fi la nx : Option Nat), ndz Z h a v.1 (v.1.2.2.2.length + sp_len v.2) fi la nx ∧ frz Z h v.2 fi
theorem ndz.nd {Z : Nat → Prop} {h : Nat → Option am_C} {a : Nat} {b : sp_B} {cnt : Nat} {fi la nx : Option Nat} (q : ndz Z h a b cnt fi la nx) : nd h a b cnt fi la nx := by
  obtain ⟨h1, h2, na, ba, num, -, -, h3⟩ := q
  exact ⟨h1, h2, na, ba, num, h3⟩
theorem frz.fr {Z : Nat → Prop} {h : Nat → Option am_C} : ∀ {c : sp_F} {o : Option Nat}, frz Z h c o → fr h c o
  | .leaf, _, q => q
  | .inner _ _ _ _ _, _, q => by
    obtain ⟨a, fi, la, nx, h1, -, h2, h3, h4⟩ := q
    exact ⟨a, fi, la, nx, h1, h2.nd, frz.fr h3, frz.fr h4⟩
theorem vlz.vl {Z : Nat → Prop} {h : Nat → Option am_C} {a : Nat} {v : sp_V} (q : vlz Z h a v) : vl h a v := by
  obtain ⟨-, fi, la, nx, h1, h2⟩ := q
  exact ⟨fi, la, nx, h1.nd, h2.fr⟩
theorem bya.kept {h h' : Nat → Option am_C} {a : Nat} {l : List Nat} (q : bya h a l) (e : h' a = h a) : bya h' a l := by
  obtain ⟨h1, h2, f, h3, h4⟩ := q
  exact ⟨h1, h2, f, e.trans h3, h4⟩
theorem byf.kept {h h' : Nat → Option am_C} {a n : Nat} {β : Nat → Nat} (q : byf h a n β) (e : h' a = h a) : byf h' a n β := by
  obtain ⟨h1, f, h3, h4⟩ := q
  exact ⟨h1, f, e.trans h3, h4⟩
theorem ndz.kept {Z Z' : Nat → Prop} {h h' : Nat → Option am_C} {a : Nat} {b : sp_B} {cnt : Nat} {fi la nx : Option Nat} (q : ndz Z h a b cnt fi la nx) (ea : h' a = h a) (e : ∀ x, Z x → h' x = h x) (hZ : ∀ x, Z x → Z' x) : ndz Z' h' a b cnt fi la nx := by
  obtain ⟨h1, h2, na, ba, num, z1, z2, h3, h4, h5, h6⟩ := q
  exact ⟨h1, h2, na, ba, num, hZ _ z1, hZ _ z2, ea.trans h3, h4, h5.kept (e _ z1), h6.kept (e _ z2)⟩
theorem frz.kept {Z Z' : Nat → Prop} {h h' : Nat → Option am_C} (e : ∀ x, Z x → h' x = h x) (hZ : ∀ x, Z x → Z' x) : ∀ {c : sp_F} {o : Option Nat}, frz Z h c o → frz Z' h' c o
  | .leaf, _, q => q
  | .inner _ _ _ _ _, _, q => by
    obtain ⟨a, fi, la, nx, h1, z, h2, h3, h4⟩ := q
    exact ⟨a, fi, la, nx, h1, hZ _ z, h2.kept (e _ z) e hZ, frz.kept e hZ h3, frz.kept e hZ h4⟩
theorem vlz.kept {Z Z' : Nat → Prop} {h h' : Nat → Option am_C} {a : Nat} {v : sp_V} (q : vlz Z h a v) (e : ∀ x, Z x → h' x = h x) (hZ : ∀ x, Z x → Z' x) : vlz Z' h' a v := by
  obtain ⟨z, fi, la, nx, h1, h2⟩ := q
  exact ⟨hZ _ z, fi, la, nx, h1.kept (e _ z) e hZ, h2.kept e hZ⟩
def sp_ofL : List sp_V → sp_F
  | [] => .leaf
  | v :: l => .inner 0 v.1 () v.2 (sp_ofL l)
def sp_toL : sp_F → List sp_V
  | .leaf => []
  | .inner _ b _ c r => (b, c) :: sp_toL r
theorem sp_len_ofL : ∀ l : List sp_V, sp_len (sp_ofL l) = l.length
  | [] => rfl
  | _ :: l => by simp [sp_ofL, sp_len, sp_len_ofL l]
/-- the zone of one element: its cells but its own -/
def zx (g : Nat × Nat) (lo hi x : Nat) : Nat → Prop := fun a => (lo ≤ a ∧ a < hi ∧ a ≠ x) ∨ a = g.2
def zn (g : Nat × Nat) (lo hi : Nat) : Nat → Prop := fun a => (lo ≤ a ∧ a < hi) ∨ a = g.2
def elz (g : Nat × Nat) (h : Nat → Option am_C) (lo hi x : Nat) (v : sp_V) (nx : Option Nat) : Prop := lo ≤ x ∧ x < hi ∧ ∃ (fi la : Option Nat), ndz (zx g lo hi x) h x v.1 (v.1.2.2.2.length + sp_len v.2) fi la nx ∧ frz (zx g lo hi x) h v.2 fi
def chn (g : Nat × Nat) (h : Nat → Option am_C) : List sp_V → List Nat → Nat → Nat → Prop
  | [], [], lo, hi => lo ≤ hi
  | v :: l, x :: as, lo, hi => ∃ mid, elz g h lo mid x v as.head? ∧ chn g h l as mid hi
  | _, _, _, _ => False
theorem chn.le {g : Nat × Nat} {h : Nat → Option am_C} : ∀ {l : List sp_V} {as : List Nat} {lo hi : Nat}, chn g h l as lo hi → lo ≤ hi
  | [], [], _, _, q => q
  | _ :: _, _ :: _, _, _, ⟨mid, ⟨h1, h2, _⟩, q⟩ => by
    have := chn.le q
    omega
  | [], _ :: _, _, _, q => q.elim
  | _ :: _, [], _, _, q => q.elim
theorem elz.kept {g : Nat × Nat} {h h' : Nat → Option am_C} {lo hi x : Nat} {v : sp_V} {nx : Option Nat} (q : elz g h lo hi x v nx) (e : ∀ a, lo ≤ a → a < hi → h' a = h a) (eg : h' g.2 = h g.2) : elz g h' lo hi x v nx := by
  obtain ⟨h1, h2, fi, la, h3, h4⟩ := q
  have ez : ∀ a, zx g lo hi x a → h' a = h a := by
    intro a ha
    rcases ha with ⟨a1, a2, -⟩ | rfl
    · exact e a a1 a2
    · exact eg
  exact ⟨h1, h2, fi, la, h3.kept (e x h1 h2) ez (fun _ z => z), h4.kept ez (fun _ z => z)⟩
theorem elz.vlz {g : Nat × Nat} {h : Nat → Option am_C} {lo hi x : Nat} {v : sp_V} {nx : Option Nat} (q : elz g h lo hi x v nx) : vlz (zn g lo hi) h x v := by
  obtain ⟨h1, h2, fi, la, h3, h4⟩ := q
  have ez : ∀ a, zx g lo hi x a → zn g lo hi a := by
    intro a ha
    rcases ha with ⟨a1, a2, -⟩ | rfl
    · exact Or.inl ⟨a1, a2⟩
    · exact Or.inr rfl
  exact ⟨Or.inl ⟨h1, h2⟩, fi, la, nx, h3.kept rfl (fun _ _ => rfl) ez, h4.kept (fun _ _ => rfl) ez⟩
theorem chn.kept {g : Nat × Nat} {h h' : Nat → Option am_C} (eg : h' g.2 = h g.2) : ∀ {l : List sp_V} {as : List Nat} {lo hi : Nat}, (∀ a, lo ≤ a → a < hi → h' a = h a) → chn g h l as lo hi → chn g h' l as lo hi
  | [], [], _, _, _, q => q
  | _ :: _, _ :: _, lo, hi, e, ⟨mid, h1, q⟩ => by
    have hl := q.le
    have := h1.1
    have := h1.2.1
    exact ⟨mid, h1.kept (fun a a1 a2 => e a a1 (by omega)) eg, chn.kept eg (fun a a1 a2 => e a (by omega) a2) q⟩
  | [], _ :: _, _, _, _, q => q.elim
  | _ :: _, [], _, _, _, q => q.elim
theorem chn.frz {g : Nat × Nat} {h : Nat → Option am_C} : ∀ {l : List sp_V} {as : List Nat} {lo hi : Nat}, chn g h l as lo hi → frz (zn g lo hi) h (sp_ofL l) as.head?
  | [], [], _, _, _ => rfl
  | v :: l, x :: as, lo, hi, ⟨mid, h1, q⟩ => by
    have hl := q.le
    have ih := chn.frz q
    obtain ⟨a1, a2, fi, la, h3, h4⟩ := h1
    have e1 : ∀ a, zx g lo mid x a → zn g lo hi a := by
      intro a ha
      rcases ha with ⟨b1, b2, -⟩ | rfl
      · exact Or.inl ⟨b1, by omega⟩
      · exact Or.inr rfl
    have e2 : ∀ a, zn g mid hi a → zn g lo hi a := by
      intro a ha
      rcases ha with ⟨b1, b2⟩ | rfl
      · exact Or.inl ⟨by omega, b2⟩
      · exact Or.inr rfl
    exact ⟨x, fi, la, as.head?, rfl, Or.inl ⟨a1, by omega⟩, h3.kept rfl (fun _ _ => rfl) e1, h4.kept (fun _ _ => rfl) e1, ih.kept (fun _ _ => rfl) e2⟩
  | [], _ :: _, _, _, q => q.elim
  | _ :: _, [], _, _, q => q.elim
/-- the cell of the last one, and what comes when its next is set -/
theorem chn.app {g : Nat × Nat} {h h' : Nat → Option am_C} {x : Nat} {v : sp_V} {mid hi : Nat} (hgm : g.2 < mid) (eg : h' g.2 = h g.2) (hx : elz g h' mid hi x v none) : ∀ {l : List sp_V} {as : List Nat} {lo : Nat}, g.2 < lo → chn g h l as lo mid →
    (∀ a, lo ≤ a → a < mid → as.getLast? ≠ some a → h' a = h a) → (∀ y, as.getLast? = some y → ∀ w : List Value, h y = some (.inr (1, w)) → h' y = some (.inr (1, w.set 7 (.ref x)))) → chn g h' (l ++ [v]) (as ++ [x]) lo hi
  | [], [], lo, _, q, _, _ => by
    have hl : lo ≤ mid := q
    refine ⟨hi, ?_, Nat.le_refl _⟩
    obtain ⟨a1, a2, fi, la, h3, h4⟩ := hx
    have ez : ∀ a, zx g mid hi x a → zx g lo hi x a := by
      intro a ha
      rcases ha with ⟨b1, b2, b3⟩ | rfl
      · exact Or.inl ⟨by omega, b2, b3⟩
      · exact Or.inr rfl
    exact ⟨by omega, a2, fi, la, h3.kept rfl (fun _ _ => rfl) ez, h4.kept (fun _ _ => rfl) ez⟩
  | [v0], [y], lo, hg, ⟨m1, h1, q⟩, e, el => by
    have hl : m1 ≤ mid := q
    obtain ⟨a1, a2, fi, la, h3, h4⟩ := h1
    have ez : ∀ a, zx g lo m1 y a → h' a = h a := by
      intro a ha
      rcases ha with ⟨b1, b2, b3⟩ | rfl
      · exact e a b1 (by omega) (fun z => b3 (by simpa using z.symm))
      · exact eg
    refine ⟨mid, ⟨a1, by omega, fi, la, ?_, ?_⟩, hi, ?_, Nat.le_refl _⟩
    · obtain ⟨k1, k2, na, ba, num, z1, z2, k3, k4, k5, k6⟩ := h3
      have ez2 : ∀ a, zx g lo m1 y a → zx g lo mid y a := by
        intro a ha
        rcases ha with ⟨b1, b2, b3⟩ | rfl
        · exact Or.inl ⟨b1, by omega, b3⟩
        · exact Or.inr rfl
      exact ⟨k1, k2, na, ba, num, ez2 _ z1, ez2 _ z2, el y rfl _ k3, k4, k5.kept (ez _ z1), k6.kept (ez _ z2)⟩
    · refine h4.kept ez ?_
      intro a ha
      rcases ha with ⟨b1, b2, b3⟩ | rfl
      · exact Or.inl ⟨b1, by omega, b3⟩
      · exact Or.inr rfl
    · exact hx
  | v0 :: v1 :: l, y :: y1 :: as, lo, hg, ⟨m1, h1, q⟩, e, el => by
    have hl := q.le
    have b1 := h1.1
    have b2 := h1.2.1
    have lastin : ∀ {l : List sp_V} {as : List Nat} {lo hi : Nat} {z : Nat}, chn g h l as lo hi → as.getLast? = some z → lo ≤ z := by
      intro l
      induction l with
      | nil =>
        intro as lo hi z q hz
        cases as with
        | nil => cases hz
        | cons _ _ => exact q.elim
      | cons v l ih =>
        intro as lo hi z q hz
        cases as with
        | nil => exact q.elim
        | cons y as =>
          obtain ⟨m, ⟨c1, c2, -⟩, q⟩ := q
          cases as with
          | nil =>
            simp at hz
            omega
          | cons y2 as =>
            have := ih q (by simpa using hz)
            omega
    refine ⟨m1, h1.kept (fun a a1 a2 => e a a1 (by omega) (fun z => ?_)) eg, ?_⟩
    · have := lastin q (z := a) (by simpa using z)
      omega
    · refine chn.app hgm eg hx (l := v1 :: l) (as := y1 :: as) (by omega) q (fun a a1 a2 a3 => e a (by omega) a2 (fun z => a3 (by simpa using z))) (fun z hz w hw => el z (by simpa using hz) w hw)
  | [], _ :: _, _, _, q, _, _ => q.elim
  | _ :: _, [], _, _, q, _, _ => q.elim
  | [_], _ :: _ :: _, _, _, ⟨_, _, q⟩, _, _ => q.elim
  | _ :: _ :: _, [_], _, _, ⟨_, _, q⟩, _, _ => q.elim
