/-! how a document lies in bytes -/
def nmd (β : Nat → Nat) (p s : Nat) : Prop := p ≤ s ∧ β s = 0 ∧ ∀ i, p ≤ i → i < s → β i ≠ 0
def ly1 (β : Nat → Nat) (b : sp_B) (c : sp_F) (L : Nat → Nat → Prop) (p q : Nat) : Prop :=
  (b.1 = 16 ∧ q = p + 4 ∧ b.2.2 = (sp_s32 (sp_le β p 4), []) ∧ c = .leaf) ∨
  (b.1 = 18 ∧ q = p + 8 ∧ b.2.2 = (sp_s64 (sp_le β p 8), []) ∧ c = .leaf) ∨
  (b.1 = 8 ∧ q = p + 1 ∧ β p ≤ 1 ∧ b.2.2 = ((β p : Int), []) ∧ c = .leaf) ∨
  (b.1 = 10 ∧ q = p ∧ b.2.2 = (0, []) ∧ c = .leaf) ∨
  (b.1 = 2 ∧ 1 ≤ sp_le β p 4 ∧ q = p + 4 + sp_le β p 4 ∧ b.2.2 = (0, sp_sub β (p + 4) (p + 3 + sp_le β p 4)) ∧ c = .leaf) ∨
  ((b.1 = 3 ∨ b.1 = 4) ∧ 5 ≤ sp_le β p 4 ∧ q = p + sp_le β p 4 ∧ b.2.2 = (0, []) ∧ L (p + 4) (q - 1))
/-- elements, from one on: the place of the first, the end of all, its number -/
def lyF (β : Nat → Nat) : sp_F → Bool → Nat → Nat → Nat → Prop
  | .leaf, _, _, p, e => p = e
  | .inner _ b _ c r, row, i, p, e => ∃ s q, nmd β (p + 1) s ∧ s < e ∧ β p = b.1 ∧ b.2.1 = sp_sub β (p + 1) s ∧ (row = true → b.2.1 = sp_dec i) ∧ ly1 β b c (lyF β c (decide (b.1 = 4)) 0) (s + 1) q ∧ q ≤ e ∧ lyF β r row (i + 1) q e
def lyV (β : Nat → Nat) (v : sp_V) (p q : Nat) : Prop := ly1 β v.1 v.2 (lyF β v.2 (decide (v.1.1 = 4)) 0) p q
theorem ly1.le {β : Nat → Nat} {b : sp_B} {c : sp_F} {L : Nat → Nat → Prop} {p q : Nat} (h : ly1 β b c L p q) : p ≤ q := by
  unfold ly1 at h
  omega
theorem ly1.kd {β : Nat → Nat} {b : sp_B} {c : sp_F} {L : Nat → Nat → Prop} {p q : Nat} (h : ly1 β b c L p q) : b.1 = 16 ∨ b.1 = 18 ∨ b.1 = 8 ∨ b.1 = 10 ∨ b.1 = 2 ∨ b.1 = 3 ∨ b.1 = 4 := by
  unfold ly1 at h
  omega
theorem lyF.le {β : Nat → Nat} : ∀ {F : sp_F} {row : Bool} {i p e : Nat}, lyF β F row i p e → p ≤ e
  | .leaf, _, _, _, _, h => Nat.le_of_eq h
  | .inner _ b _ c r, row, i, p, e, ⟨s, q, h1, h2, h3, h4, h5, h6, h7, h8⟩ => by
    have a1 := h1.1
    have a2 := h6.le
    omega
/-- moved bytes -/
theorem le_sh {β β' : Nat → Nat} {P P' n : Nat} (h : ∀ j, j < n → β' (P' + j) = β (P + j)) {x : Nat} : ∀ {w : Nat}, x + w ≤ n → sp_le β' (P' + x) w = sp_le β (P + x) w
  | 0, _ => rfl
  | w + 1, hw => by
    simp only [sp_le]
    rw [le_sh h (w := w) (by omega), Nat.add_assoc P', Nat.add_assoc P, h (x + w) (by omega)]
theorem sub_sh {β β' : Nat → Nat} {P P' n : Nat} (h : ∀ j, j < n → β' (P' + j) = β (P + j)) {x y : Nat} (hy : y ≤ n) : sp_sub β' (P' + x) (P' + y) = sp_sub β (P + x) (P + y) := by
  unfold sp_sub
  rw [Nat.add_sub_add_left, Nat.add_sub_add_left]
  apply List.map_congr_left
  intro i hi
  have hi' := List.mem_range.mp hi
  rw [Nat.add_assoc P', Nat.add_assoc P]
  exact h _ (by omega)
theorem lyF.sh {β β' : Nat → Nat} {P P' n : Nat} (h : ∀ j, j < n → β' (P' + j) = β (P + j)) : ∀ {F : sp_F} {row : Bool} {i x y : Nat}, y ≤ n → lyF β F row i (P + x) (P + y) → lyF β' F row i (P' + x) (P' + y)
  | .leaf, _, _, x, y, _, q => by
    have q' : P + x = P + y := q
    show P' + x = P' + y
    omega
  | .inner _ b _ c r, row, i, x, y, hy, ⟨s, q, h1, h2, h3, h4, h5, h6, h7, h8⟩ => by
    have a1 := h1.1
    have a2 := h6.le
    obtain ⟨s', rfl⟩ : ∃ s', s = P + s' := ⟨s - P, by omega⟩
    obtain ⟨q', rfl⟩ : ∃ q', q = P + q' := ⟨q - P, by omega⟩
    refine ⟨P' + s', P' + q', ⟨by omega, ?_, fun i h1' h2' => ?_⟩, by omega, ?_, ?_, h5, ?_, by omega, lyF.sh h hy h8⟩
    · rw [h _ (by omega)]; exact h1.2.1
    · obtain ⟨j, rfl⟩ : ∃ j, i = P' + j := ⟨i - P', by omega⟩
      rw [h _ (by omega)]
      exact h1.2.2 _ (by omega) (by omega)
    · rw [h _ (by omega)]; exact h3
    · rw [h4, Nat.add_assoc P', Nat.add_assoc P, sub_sh h (by omega)]
    · rw [Nat.add_assoc P'] 
      rw [Nat.add_assoc P] at h6
      unfold ly1 at h6 ⊢
      rcases h6 with ⟨z1, z2, z3, z4⟩ | ⟨z1, z2, z3, z4⟩ | ⟨z1, z2, z3, z4, z5⟩ | ⟨z1, z2, z3, z4⟩ | ⟨z1, z2, z3, z4, z5⟩ | ⟨z1, z2, z3, z4, z5⟩
      · exact Or.inl ⟨z1, by omega, by rw [le_sh h (by omega)]; exact z3, z4⟩
      · exact Or.inr (Or.inl ⟨z1, by omega, by rw [le_sh h (by omega)]; exact z3, z4⟩)
      · exact Or.inr (Or.inr (Or.inl ⟨z1, by omega, by rw [h _ (by omega)]; exact z3, by rw [h _ (by omega)]; exact z4, z5⟩))
      · exact Or.inr (Or.inr (Or.inr (Or.inl ⟨z1, by omega, z3, z4⟩)))
      · have e := le_sh h (x := s' + 1) (w := 4) (by omega)
        refine Or.inr (Or.inr (Or.inr (Or.inr (Or.inl ⟨z1, by omega, by omega, ?_, z5⟩))))
        rw [e, z4, Nat.add_assoc P', Nat.add_assoc P, Nat.add_assoc P', Nat.add_assoc P, Nat.add_assoc P' _ (sp_le _ _ _), Nat.add_assoc P _ (sp_le _ _ _), sub_sh h (by omega)]
      · have e := le_sh h (x := s' + 1) (w := 4) (by omega)
        refine Or.inr (Or.inr (Or.inr (Or.inr (Or.inr ⟨z1, by omega, by omega, z4, ?_⟩))))
        have hl := z5.le
        have z6 : lyF β c (decide (b.1 = 4)) 0 (P + (s' + 1 + 4)) (P + (q' - 1)) := by
          rw [show P + (s' + 1 + 4) = P + (s' + 1) + 4 by omega, show P + (q' - 1) = P + q' - 1 by omega]
          exact z5
        have z7 := lyF.sh h (by omega) z6
        rw [show P' + (s' + 1) + 4 = P' + (s' + 1 + 4) by omega, show P' + q' - 1 = P' + (q' - 1) by omega]
        exact z7
theorem lyV.sh {β β' : Nat → Nat} {P P' n : Nat} (h : ∀ j, j < n → β' (P' + j) = β (P + j)) {v : sp_V} {x y : Nat} (hy : y ≤ n) (h6 : lyV β v (P + x) (P + y)) : lyV β' v (P' + x) (P' + y) := by
  unfold lyV ly1 at h6 ⊢
  rcases h6 with ⟨z1, z2, z3, z4⟩ | ⟨z1, z2, z3, z4⟩ | ⟨z1, z2, z3, z4, z5⟩ | ⟨z1, z2, z3, z4⟩ | ⟨z1, z2, z3, z4, z5⟩ | ⟨z1, z2, z3, z4, z5⟩
  · exact Or.inl ⟨z1, by omega, by rw [le_sh h (by omega)]; exact z3, z4⟩
  · exact Or.inr (Or.inl ⟨z1, by omega, by rw [le_sh h (by omega)]; exact z3, z4⟩)
  · exact Or.inr (Or.inr (Or.inl ⟨z1, by omega, by rw [h _ (by omega)]; exact z3, by rw [h _ (by omega)]; exact z4, z5⟩))
  · exact Or.inr (Or.inr (Or.inr (Or.inl ⟨z1, by omega, z3, z4⟩)))
  · have e := le_sh h (x := x) (w := 4) (by omega)
    refine Or.inr (Or.inr (Or.inr (Or.inr (Or.inl ⟨z1, by omega, by omega, ?_, z5⟩))))
    rw [e, z4, Nat.add_assoc P', Nat.add_assoc P, Nat.add_assoc P' x 3, Nat.add_assoc P x 3, Nat.add_assoc P' _ (sp_le _ _ _), Nat.add_assoc P _ (sp_le _ _ _), sub_sh h (by omega)]
  · have e := le_sh h (x := x) (w := 4) (by omega)
    refine Or.inr (Or.inr (Or.inr (Or.inr (Or.inr ⟨z1, by omega, by omega, z4, ?_⟩))))
    have hl := z5.le
    have z6 : lyF β v.2 (decide (v.1.1 = 4)) 0 (P + (x + 4)) (P + (y - 1)) := by
      rw [show P + (x + 4) = P + x + 4 by omega, show P + (y - 1) = P + y - 1 by omega]
      exact z5
    have z7 := lyF.sh h (by omega) z6
    rw [show P' + x + 4 = P' + (x + 4) by omega, show P' + y - 1 = P' + (y - 1) by omega]
    exact z7
/-- how many elements there are in all -/
def sp_all : sp_F → Nat
  | .leaf => 0
  | .inner _ _ _ c r => 1 + sp_all c + sp_all r
theorem lyF.all {β : Nat → Nat} : ∀ {F : sp_F} {row : Bool} {i p e : Nat}, lyF β F row i p e → 2 * sp_all F ≤ e - p
  | .leaf, _, _, _, _, h => by simp [sp_all]
  | .inner _ b _ c r, row, i, p, e, ⟨s, q, h1, h2, h3, h4, h5, h6, h7, h8⟩ => by
    have a1 := h1.1
    have a2 := h6.le
    have a3 := lyF.all h8
    have a4 := h8.le
    unfold ly1 at h6
    simp only [sp_all]
    have hc : 2 * sp_all c ≤ q - (s + 1) := by
      rcases h6 with ⟨z1, z2, z3, z4⟩ | ⟨z1, z2, z3, z4⟩ | ⟨z1, z2, z3, z4, z5⟩ | ⟨z1, z2, z3, z4⟩ | ⟨z1, z2, z3, z4, z5⟩ | ⟨z1, z2, z3, z4, z5⟩
      · rw [z4]; simp [sp_all]
      · rw [z4]; simp [sp_all]
      · rw [z5]; simp [sp_all]
      · rw [z4]; simp [sp_all]
      · rw [z5]; simp [sp_all]
      · have := lyF.all z5
        omega
    omega
/-- one more behind -/
theorem lyF.app {β : Nat → Nat} {row : Bool} {v : sp_V} {e : Nat} : ∀ {l : List sp_V} {i p q : Nat}, lyF β (sp_ofL l) row i p q → lyF β (sp_ofL [v]) row (i + l.length) q e → lyF β (sp_ofL (l ++ [v])) row i p e
  | [], i, p, q, h, h' => by
    have hp : p = q := h
    subst hp
    exact h'
  | w :: l, i, p, q, ⟨s, t, h1, h2, h3, h4, h5, h6, h7, h8⟩, h' => by
    have hl := h'.le
    refine ⟨s, t, h1, by omega, h3, h4, h5, h6, ?_, lyF.app h8 (by rw [show i + 1 + l.length = i + (w :: l).length by simp; omega]; exact h')⟩
    have := h8.le
    omega

/-! the same bytes elsewhere -/
theorem ne_sf (β : Nat → Nat) (B : Nat) : ∀ (n s e : Nat), sp_ne β n (B + s) (B + e) = (sp_ne (fun i => β (B + i)) n s e).map (B + ·)
  | 0, _, _ => rfl
  | n + 1, s, e => by
    simp only [sp_ne]
    by_cases h : e ≤ s
    · rw [if_pos h, if_pos (by omega)]; rfl
    · rw [if_neg h, if_neg (by omega)]
      by_cases h2 : β (B + s) = 0
      · rw [if_pos h2, if_pos h2]; rfl
      · rw [if_neg h2, if_neg h2, Nat.add_assoc, ne_sf β B n (s + 1) e]
theorem chr_sf (β : Nat → Nat) (B k e : Nat) : sp_chr β (B + k) (B + e) = sp_chr (fun i => β (B + i)) k e := by
  unfold sp_chr
  simp only [sp_isc, Nat.add_assoc, Nat.add_le_add_iff_left]
theorem tx_sf (β : Nat → Nat) (B : Nat) : ∀ (n k e : Nat), sp_tx β n (B + k) (B + e) = sp_tx (fun i => β (B + i)) n k e
  | 0, _, _ => rfl
  | n + 1, k, e => by
    simp only [sp_tx, Nat.add_le_add_iff_left]
    rw [chr_sf, Nat.add_assoc, tx_sf β B n]
theorem nm_sf (β : Nat → Nat) (B p e : Nat) : sp_nm β (B + p) (B + e) = (sp_nm (fun i => β (B + i)) p e).map (B + ·) := by
  unfold sp_nm
  rw [Nat.add_sub_add_left, ne_sf]
  cases h : sp_ne (fun i => β (B + i)) (e - p + 1) p e with
  | none => rfl
  | some s =>
    simp only [Option.map_some]
    rw [Nat.add_sub_add_left, tx_sf]
    split <;> rfl
theorem le_sf (β : Nat → Nat) (B p : Nat) : ∀ w, sp_le β (B + p) w = sp_le (fun i => β (B + i)) p w
  | 0 => rfl
  | w + 1 => by simp only [sp_le]; rw [le_sf β B p w, Nat.add_assoc]
theorem sub_sf (β : Nat → Nat) (B s e : Nat) : sp_sub β (B + s) (B + e) = sp_sub (fun i => β (B + i)) s e := by
  unfold sp_sub
  rw [Nat.add_sub_add_left]
  apply List.map_congr_left
  intro i _
  rw [Nat.add_assoc]
theorem txc_sf (β : Nat → Nat) (B p e : Nat) : sp_txc β (B + p) (B + e) ↔ sp_txc (fun i => β (B + i)) p e := by
  unfold sp_txc
  rw [le_sf]
  generalize sp_le (fun i => β (B + i)) p 4 = L
  rw [show B + p + 4 + L = B + (p + 4 + L) by omega, show B + p + 4 = B + (p + 4) by omega, show B + p + 3 + L = B + (p + 3 + L) by omega, tx_sf]
  simp only [Nat.add_le_add_iff_left]
theorem el_sf {β : Nat → Nat} {B : Nat} {G G' : Nat → Bool → Nat → Nat → Option (sp_F × Nat)} (hG : ∀ d r x y, G d r (B + x) (B + y) = (G' d r x y).map (fun z => (z.1, B + z.2))) (dep p e : Nat) : sp_el G β dep (B + p) (B + e) = (sp_el G' (fun i => β (B + i)) dep p e).map (fun z => (z.1, B + z.2)) := by
  unfold sp_el
  rw [Nat.add_assoc B p 1, nm_sf]
  by_cases h : e ≤ p
  · rw [if_pos h, if_pos (by omega)]; rfl
  · rw [if_neg h, if_neg (by omega)]
    cases hn : sp_nm (fun i => β (B + i)) (p + 1) e with
    | none => rfl
    | some s =>
      simp only [Option.map_some]
      rw [sub_sf]
      by_cases k1 : β (B + p) = 16
      · rw [if_pos k1, if_pos k1, Nat.add_assoc B s 1, le_sf]
        by_cases q : s + 5 ≤ e
        · rw [if_pos q, if_pos (by omega)]; rfl
        · rw [if_neg q, if_neg (by omega)]; rfl
      rw [if_neg k1, if_neg k1]
      by_cases k1 : β (B + p) = 18
      · rw [if_pos k1, if_pos k1, Nat.add_assoc B s 1, le_sf]
        by_cases q : s + 9 ≤ e
        · rw [if_pos q, if_pos (by omega)]; rfl
        · rw [if_neg q, if_neg (by omega)]; rfl
      rw [if_neg k1, if_neg k1]
      by_cases k1 : β (B + p) = 8
      · rw [if_pos k1, if_pos k1, Nat.add_assoc B s 1]
        by_cases q : s + 2 ≤ e ∧ β (B + (s + 1)) ≤ 1
        · rw [if_pos q, if_pos ⟨by omega, q.2⟩]; rfl
        · rw [if_neg q, if_neg (fun z => q ⟨by omega, z.2⟩)]; rfl
      rw [if_neg k1, if_neg k1]
      by_cases k1 : β (B + p) = 10
      · rw [if_pos k1, if_pos k1]; rfl
      rw [if_neg k1, if_neg k1]
      by_cases k1 : β (B + p) = 2
      · rw [if_pos k1, if_pos k1, Nat.add_assoc B s 1]
        by_cases q : sp_txc (fun i => β (B + i)) (s + 1) e
        · rw [if_pos q, if_pos ((txc_sf β B _ _).mpr q), le_sf, Nat.add_assoc B (s + 1) 4, Nat.add_assoc B (s + 1) 3, Nat.add_assoc B (s + 1 + 3), sub_sf, Nat.add_assoc B (s + 1 + 4)]; rfl
        · rw [if_neg q, if_neg (fun z => q ((txc_sf β B _ _).mp z))]; rfl
      rw [if_neg k1, if_neg k1]
      by_cases k1 : β (B + p) = 3
      · rw [if_pos k1, if_pos k1, Nat.add_assoc B s 1, hG]
        cases G' (dep + 1) false (s + 1) e <;> rfl
      rw [if_neg k1, if_neg k1]
      by_cases k1 : β (B + p) = 4
      · rw [if_pos k1, if_pos k1, Nat.add_assoc B s 1, hG]
        cases G' (dep + 1) true (s + 1) e <;> rfl
      rw [if_neg k1, if_neg k1]
      rfl
theorem nst_sf {β : Nat → Nat} {B : Nat} {E E' : Nat → Bool → Nat → Nat → List sp_V → Option (List sp_V)} (hE : ∀ d r x y l, E d r (B + x) (B + y) l = E' d r x y l) (dep : Nat) (row : Bool) (p e : Nat) : sp_nst E β dep row (B + p) (B + e) = (sp_nst E' (fun i => β (B + i)) dep row p e).map (fun z => (z.1, B + z.2)) := by
  unfold sp_nst
  rw [le_sf, Nat.add_assoc B p, Nat.add_assoc B p, Nat.add_assoc B p]
  simp only [Nat.add_lt_add_iff_left]
  by_cases h1 : 16 < dep ∨ e < p + 5
  · rw [if_pos h1, if_pos h1]; rfl
  · rw [if_neg h1, if_neg h1]
    by_cases h2 : sp_le (fun i => β (B + i)) p 4 < 5 ∨ e < p + sp_le (fun i => β (B + i)) p 4
    · rw [if_pos h2, if_pos h2]; rfl
    · rw [if_neg h2, if_neg h2, show B + (p + sp_le (fun i => β (B + i)) p 4) - 1 = B + (p + sp_le (fun i => β (B + i)) p 4 - 1) by omega, hE]
      cases E' dep row (p + 4) (p + sp_le (fun i => β (B + i)) p 4 - 1) [] with
      | none => rfl
      | some l =>
        show (if _ then _ else _) = _
        split
        · rename_i h3
          simp [h3]
        · rename_i h3
          simp [h3]
theorem es_sf (β : Nat → Nat) (B : Nat) : ∀ (n d : Nat) (r : Bool) (x y : Nat) (l : List sp_V), sp_es β n d r (B + x) (B + y) l = sp_es (fun i => β (B + i)) n d r x y l
  | 0, _, _, _, _, _ => rfl
  | n + 1, d, r, x, y, l => by
    simp only [sp_es, Nat.add_le_add_iff_left]
    rw [el_sf (nst_sf (es_sf β B n))]
    by_cases h : y ≤ x
    · rw [if_pos h, if_pos h]
      by_cases h2 : x = y
      · rw [if_pos h2, if_pos (by omega)]
      · rw [if_neg h2, if_neg (by omega)]
    · rw [if_neg h, if_neg h]
      cases sp_el (sp_nst (sp_es (fun i => β (B + i)) n) fun i => β (B + i)) (fun i => β (B + i)) d x y with
      | none => rfl
      | some z =>
        simp only [Option.map_some]
        rw [es_sf β B n]

/-! what was read lies so -/
def lyE (β : Nat → Nat) (E : Nat → Bool → Nat → Nat → List sp_V → Option (List sp_V)) : Prop := ∀ (dep : Nat) (row : Bool) (p e : Nat) (seen l : List sp_V), E dep row p e seen = some l → ∃ l', l = seen ++ l' ∧ lyF β (sp_ofL l') row seen.length p e
theorem nst_ly {β : Nat → Nat} {E : Nat → Bool → Nat → Nat → List sp_V → Option (List sp_V)} (hE : lyE β E) {dep p e q : Nat} {row : Bool} {c : sp_F} (h : sp_nst E β dep row p e = some (c, q)) : 5 ≤ sp_le β p 4 ∧ q = p + sp_le β p 4 ∧ q ≤ e ∧ lyF β c row 0 (p + 4) (q - 1) := by
  unfold sp_nst at h
  split at h
  · cases h
  · split at h
    · cases h
    · split at h
      · cases h
      · rename_i h1 h2 l hl
        split at h
        · cases h
          obtain ⟨l', rfl, h3⟩ := hE _ _ _ _ _ _ hl
          exact ⟨by omega, rfl, by omega, h3⟩
        · cases h
theorem el_ly {β : Nat → Nat} {E : Nat → Bool → Nat → Nat → List sp_V → Option (List sp_V)} (hE : lyE β E) {dep p e q : Nat} {v : sp_V} (h : sp_el (sp_nst E β) β dep p e = some (v, q)) : ∃ s, nmd β (p + 1) s ∧ s < e ∧ β p = v.1.1 ∧ v.1.2.1 = sp_sub β (p + 1) s ∧ lyV β v (s + 1) q ∧ q ≤ e := by
  unfold sp_el at h
  split at h
  · cases h
  · split at h
    · cases h
    · rename_i s hs
      obtain ⟨a1, a2, a3, a4, a5⟩ := sp_nm_of hs
      refine ⟨s, ⟨a1, a3, a4⟩, a2, ?_⟩
      by_cases k : β p = 16
      · rw [if_pos k] at h
        split at h
        · cases h
          exact ⟨k, rfl, Or.inl ⟨rfl, rfl, rfl, rfl⟩, by omega⟩
        · cases h
      rw [if_neg k] at h
      by_cases k : β p = 18
      · rw [if_pos k] at h
        split at h
        · cases h
          exact ⟨k, rfl, Or.inr (Or.inl ⟨rfl, rfl, rfl, rfl⟩), by omega⟩
        · cases h
      rw [if_neg k] at h
      by_cases k : β p = 8
      · rw [if_pos k] at h
        split at h
        · rename_i z
          cases h
          exact ⟨k, rfl, Or.inr (Or.inr (Or.inl ⟨rfl, rfl, z.2, rfl, rfl⟩)), by omega⟩
        · cases h
      rw [if_neg k] at h
      by_cases k : β p = 10
      · rw [if_pos k] at h
        cases h
        exact ⟨k, rfl, Or.inr (Or.inr (Or.inr (Or.inl ⟨rfl, rfl, rfl, rfl⟩))), by omega⟩
      rw [if_neg k] at h
      by_cases k : β p = 2
      · rw [if_pos k] at h
        split at h
        · rename_i z
          cases h
          exact ⟨k, rfl, Or.inr (Or.inr (Or.inr (Or.inr (Or.inl ⟨rfl, z.2.1, rfl, rfl, rfl⟩)))), z.2.2.1⟩
        · cases h
      rw [if_neg k] at h
      by_cases k : β p = 3
      · rw [if_pos k] at h
        split at h
        · cases h
        · rename_i c q' hn
          cases h
          obtain ⟨b1, b2, b3, b4⟩ := nst_ly hE hn
          exact ⟨k, rfl, Or.inr (Or.inr (Or.inr (Or.inr (Or.inr ⟨Or.inl rfl, b1, b2, rfl, b4⟩)))), b3⟩
      rw [if_neg k] at h
      by_cases k : β p = 4
      · rw [if_pos k] at h
        split at h
        · cases h
        · rename_i c q' hn
          cases h
          obtain ⟨b1, b2, b3, b4⟩ := nst_ly hE hn
          exact ⟨k, rfl, Or.inr (Or.inr (Or.inr (Or.inr (Or.inr ⟨Or.inr rfl, b1, b2, rfl, b4⟩)))), b3⟩
      rw [if_neg k] at h
      cases h
theorem es_ly (β : Nat → Nat) : ∀ n, lyE β (sp_es β n)
  | 0 => fun _ _ _ _ _ _ h => by cases h
  | n + 1 => by
    intro dep row p e seen l h
    simp only [sp_es] at h
    split at h
    · split at h
      · rename_i hp
        cases h
        exact ⟨[], (List.append_nil _).symm, hp⟩
      · cases h
    · split at h
      · cases h
      · rename_i v q hv
        split at h
        · rename_i ha
          obtain ⟨l', rfl, h3⟩ := es_ly β n _ _ _ _ _ _ h
          obtain ⟨s, b1, b2, b3, b4, b5, b6⟩ := el_ly (es_ly β n) hv
          refine ⟨v :: l', by simp, s, q, b1, b2, b3, b4, ?_, b5, b6, ?_⟩
          · intro hr
            subst hr
            exact ha
          · simpa using h3
        · cases h
theorem doc_ly {β : Nat → Nat} {n : Nat} {c : sp_F} (h : sp_doc β n = some c) : lyV β (sp_dv c) 0 n ∧ sp_le β 0 4 = n := by
  unfold sp_doc at h
  split at h
  · cases h
  · rename_i c' q hn
    split at h
    · rename_i hq
      cases h
      obtain ⟨b1, b2, b3, b4⟩ := nst_ly (es_ly β 2000) hn
      refine ⟨Or.inr (Or.inr (Or.inr (Or.inr (Or.inr ⟨Or.inl rfl, b1, by omega, rfl, ?_⟩)))), by omega⟩
      rw [← hq]
      exact b4
    · cases h
/-! decimal digits -/
def dg1 (z w x : Nat) : Nat := 10 * w + x - z
def dgv (z : Nat) : Nat → List Nat → Nat
  | w, [] => w
  | w, x :: l => dgv z (dg1 z w x) l
theorem dgv_c (z w x : Nat) (l : List Nat) : dgv z w (x :: l) = dgv z (dg1 z w x) l := rfl
theorem dgv_n (z w : Nat) : dgv z w [] = w := rfl
theorem dgv_app (z : Nat) (l l' : List Nat) : ∀ w, dgv z w (l ++ l') = dgv z (dgv z w l) l' := by
  induction l with
  | nil => intro w; rfl
  | cons x l ih => intro w; exact ih _
theorem dgv_ge (z : Nat) (l : List Nat) : ∀ w, (∀ x ∈ l, z ≤ x) → w ≤ dgv z w l := by
  induction l with
  | nil => intro w _; exact Nat.le_refl _
  | cons x l ih =>
    intro w h
    have h1 := ih (dg1 z w x) (fun y hy => h y (List.mem_cons_of_mem _ hy))
    have h2 := h x List.mem_cons_self
    rw [dgv_c]
    have h3 : w ≤ dg1 z w x := by unfold dg1; omega
    omega
theorem decF_st : ∀ (n m k : Nat), k < n → k < m → sp_decF n k = sp_decF m k
  | 0, _, _, h, _ => by omega
  | n + 1, 0, _, _, h => by omega
  | n + 1, m + 1, k, h, h' => by
    simp only [sp_decF]
    by_cases q : k < 10
    · rw [if_pos q, if_pos q]
    · rw [if_neg q, if_neg q, decF_st n m (k / 10) (by omega) (by omega)]
theorem dec_lt {k : Nat} (h : k < 10) : sp_dec k = [48 + k] := by simp [sp_dec, sp_decF, h]
theorem dec_ge {k : Nat} (h : ¬ k < 10) : sp_dec k = sp_dec (k / 10) ++ [48 + k % 10] := by
  unfold sp_dec
  rw [sp_decF, if_neg h, decF_st k (k / 10 + 1) (k / 10) (by omega) (by omega)]
theorem dec_ne (k : Nat) : sp_dec k ≠ [] := by
  by_cases h : k < 10
  · rw [dec_lt h]; simp
  · rw [dec_ge h]; simp
theorem dec_ok (n : Nat) : ∀ k, k < n → (∀ x ∈ sp_dec k, 48 ≤ x ∧ x ≤ 57) ∧ dgv 48 0 (sp_dec k) = k ∧ ((sp_dec k).length = 1 ∨ (sp_dec k).head? ≠ some 48) := by
  induction n with
  | zero => intro k h; omega
  | succ n ih =>
    intro k h
    by_cases q : k < 10
    · rw [dec_lt q]
      refine ⟨fun x hx => ?_, ?_, Or.inl rfl⟩
      · have hx' := List.mem_singleton.mp hx
        omega
      · rw [dgv_c, dgv_n]
        unfold dg1
        omega
    · obtain ⟨a1, a2, a3⟩ := ih (k / 10) (by omega)
      rw [dec_ge q]
      refine ⟨fun x hx => ?_, ?_, Or.inr ?_⟩
      · rcases List.mem_append.mp hx with z | z
        · exact a1 x z
        · have z' := List.mem_singleton.mp z
          omega
      · rw [dgv_app, a2, dgv_c, dgv_n]
        unfold dg1
        omega
      · have hne := dec_ne (k / 10)
        revert a2 a3 hne
        generalize sp_dec (k / 10) = D
        intro a2 a3 hne
        cases D with
        | nil => exact absurd rfl hne
        | cons y l =>
          show some y ≠ some 48
          rcases a3 with z | z
          · have hl : l = [] := List.length_eq_zero_iff.mp (by simpa using z)
            subst hl
            rw [dgv_c, dgv_n] at a2
            unfold dg1 at a2
            intro w
            cases w
            omega
          · exact z
/-- the number's digits, by their value -/
theorem dec_of (n : Nat) : ∀ (l : List Nat) (k : Nat), l.length ≤ n → (∀ x ∈ l, 48 ≤ x ∧ x ≤ 57) → l ≠ [] → (l.length = 1 ∨ l.head? ≠ some 48) → dgv 48 0 l = k → l = sp_dec k := by
  induction n with
  | zero => intro l k h _ hne _ _; exact absurd (List.length_eq_zero_iff.mp (by omega)) hne
  | succ n ih =>
    intro l k h hd hne hh hv
    obtain ⟨l', x, rfl⟩ : ∃ l' x, l = l' ++ [x] := ⟨l.dropLast, l.getLast hne, (List.dropLast_concat_getLast hne).symm⟩
    have hx := hd x (by simp)
    rw [dgv_app, dgv_c, dgv_n] at hv
    unfold dg1 at hv
    by_cases e : l' = []
    · subst e
      rw [dgv_n] at hv
      rw [dec_lt (k := k) (by omega)]
      show [x] = [48 + k]
      rw [show x = 48 + k by omega]
    · have hl : 0 < l'.length := List.length_pos_iff.mpr e
      have hh' : l'.head? ≠ some 48 := by
        rcases hh with z | z
        · exact absurd (by simpa using z) e
        · intro w
          apply z
          cases l' with
          | nil => exact absurd rfl e
          | cons y l2 => exact w
      have hpos : 1 ≤ dgv 48 0 l' := by
        cases l' with
        | nil => exact absurd rfl e
        | cons y l2 =>
          have hy := hd y (by simp)
          have hy2 : y ≠ 48 := fun w => hh' (by rw [w]; rfl)
          have h3 := dgv_ge 48 l2 (dg1 48 0 y) (fun z hz => (hd z (by simp [hz])).1)
          have h4 : 1 ≤ dg1 48 0 y := by unfold dg1; omega
          rw [dgv_c]
          omega
      have h1 := ih l' (k / 10) (by simp at h; omega) (fun y hy => hd y (by simp [hy])) e (Or.inr hh') (by omega)
      rw [dec_ge (k := k) (by omega), ← h1, show x = 48 + k % 10 by omega]
theorem dec_iff {l : List Nat} {k : Nat} : l = sp_dec k ↔ (∀ x ∈ l, 48 ≤ x ∧ x ≤ 57) ∧ l ≠ [] ∧ (l.length = 1 ∨ l.head? ≠ some 48) ∧ dgv 48 0 l = k := by
  constructor
  · intro h
    obtain ⟨a1, a2, a3⟩ := dec_ok (k + 1) k (by omega)
    rw [h]
    exact ⟨a1, dec_ne k, a3, a2⟩
  · intro ⟨a, b, c, d⟩
    exact dec_of l.length l k (Nat.le_refl _) a b c d
