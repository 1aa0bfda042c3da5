/-! lists of values -/
abbrev sp_X := List (sp_V × Nat)
def sp_miss : sp_V := ((0, [], 0, []), .leaf)
def sp_add (S : sp_X × Bool) (v : sp_V) : sp_X × Bool := if S.1.length < 500 then (S.1 ++ [(v, S.1.length)], S.2) else (S.1, true)
def sp_adds : sp_X × Bool → List sp_V → sp_X × Bool
  | S, [] => S
  | S, v :: L => if S.2 = true then S else sp_adds (sp_add S v) L
theorem sp_adds_ov {S : sp_X × Bool} (h : S.2 = true) : ∀ L, sp_adds S L = S
  | [] => rfl
  | _ :: _ => if_pos h
theorem sp_adds_cons {S : sp_X × Bool} {v : sp_V} {L : List sp_V} (h : ¬ S.2 = true) : sp_adds S (v :: L) = sp_adds (sp_add S v) L := if_neg h
theorem sp_adds_app : ∀ (L L' : List sp_V) (S : sp_X × Bool), sp_adds S (L ++ L') = sp_adds (sp_adds S L) L'
  | [], _, _ => rfl
  | v :: L, L', S => by
    by_cases h : S.2 = true
    · rw [sp_adds_ov h, sp_adds_ov h, sp_adds_ov h]
    · rw [List.cons_append, sp_adds_cons h, sp_adds_cons h, sp_adds_app L L']
theorem sp_adds_one {S : sp_X × Bool} {v : sp_V} (h : ¬ S.2 = true) : sp_adds S [v] = sp_add S v := by rw [sp_adds_cons h]; rfl
theorem sp_adds_all : ∀ (L : List sp_V) (X : sp_X), X.length ≤ 500 → (X.length + L.length ≤ 500 → sp_adds (X, false) L = (X ++ L.zipIdx X.length, false)) ∧ (500 < X.length + L.length → (sp_adds (X, false) L).2 = true)
  | [], X, h => ⟨fun _ => by simp [sp_adds], fun q => by simp at q; omega⟩
  | v :: L, X, h => by
    rw [sp_adds_cons (by simp)]
    unfold sp_add
    dsimp only
    by_cases q : X.length < 500
    · rw [if_pos q]
      have ih := sp_adds_all L (X ++ [(v, X.length)]) (by simp; omega)
      simp only [List.length_append, List.length_cons, List.length_nil] at ih
      refine ⟨fun z => ?_, fun z => ih.2 (by simp at z; omega)⟩
      rw [ih.1 (by simp at z; omega)]
      simp [List.zipIdx_cons]
    · rw [if_neg q]
      refine ⟨fun z => by simp at z; omega, fun z => ?_⟩
      rw [sp_adds_ov rfl]
def bI (b : Bool) : Int32 := if b = true then 1 else 0
/-- a list in the heap h, its values in the heap h0 -/
def ls (Z : Nat → Prop) (h0 h : Nat → Option am_C) (w va oa sa pa : Nat) (S : sp_X × Bool) : Prop := S.1.length ≤ 500 ∧ ∃ (fv : Nat → Option Nat) (fo : Nat → Int32), h w = some (.inr (2, [.ref va, .ref oa, .ref sa, .ref pa, .int (nI S.1.length), .int (bI S.2)])) ∧ h va = some (.inl (3, 500, .inr (.inr (.inr (.inr fv))))) ∧ h oa = some (.inl (0, 500, .inl fo)) ∧ ∀ i v o, S.1[i]? = some (v, o) → ∃ a, fv i = some a ∧ vlz Z h0 a v ∧ fo i = nI o
/-- what is changed when a list is filled -/
def fil (σ0 σ : am_H) (w va oa : Nat) : Prop := (∀ a, a ≠ w → a ≠ va → a ≠ oa → σ.1 a = σ0.1 a) ∧ σ.2 = σ0.2
def fwk (g : Nat × Nat) (Z : Nat → Prop) (w va oa : Nat) : Prop := g.1 ≤ w ∧ g.1 ≤ va ∧ g.1 ≤ oa ∧ w ≠ va ∧ w ≠ oa ∧ va ≠ oa ∧ ¬ Z w ∧ ¬ Z va ∧ ¬ Z oa
theorem fil.set {σ0 σ : am_H} {w va oa a : Nat} {c : am_C} (h : fil σ0 σ w va oa) (ha : a = w ∨ a = va ∨ a = oa) : fil σ0 (am_set σ a c) w va oa :=
  ⟨fun b h1 h2 h3 => by
    have hne : b ≠ a := by rcases ha with q | q | q <;> rw [q] <;> assumption
    rw [am_set_ne _ _ hne]
    exact h.1 b h1 h2 h3, h.2⟩
theorem fil.z {g : Nat × Nat} {Z : Nat → Prop} {σ0 σ : am_H} {w va oa : Nat} (h : fil σ0 σ w va oa) (hf : fwk g Z w va oa) : ∀ a, Z a → σ.1 a = σ0.1 a := by
  obtain ⟨-, -, -, -, -, -, z1, z2, z3⟩ := hf
  exact fun a ha => h.1 a (fun q => z1 (q ▸ ha)) (fun q => z2 (q ▸ ha)) (fun q => z3 (q ▸ ha))
theorem vlz.cell {Z : Nat → Prop} {h : Nat → Option am_C} {a : Nat} {v : sp_V} (q : vlz Z h a v) : ∃ w0 w1 w2 w3 w4 w5 w6 w7, h a = some (.inr (1, [w0, w1, w2, w3, w4, w5, w6, w7])) := by
  obtain ⟨-, fi, la, nx, ⟨-, -, na, ba, num, -, -, h3, -⟩, -⟩ := q
  exact ⟨_, _, _, _, _, _, _, _, h3⟩
section P39
variable {g : Nat × Nat} {d : Nat} {σ : am_H} {Q : Option Value → am_H → Prop}
/-- ValueList.add -/
theorem c_add {Z : Nat → Prop} {σ0 : am_H} {w va oa sa pa x : Nat} {v : sp_V} {S : sp_X × Bool} (hf : fwk g Z w va oa) (hfil : fil σ0 σ w va oa) (hls : ls Z σ0.1 σ.1 w va oa sa pa S) (hx : vlz Z σ0.1 x v) (hQ : ∀ σ' : am_H, fil σ0 σ' w va oa → ls Z σ0.1 σ'.1 w va oa sa pa (sp_add S v) → Q none σ') : AW g d 42 (0, [some (.ref w), some (.ref x)], []) σ Q := by
  have hZ := hfil.z hf
  obtain ⟨g1, g2, g3, n1, n2, n3, z1, z2, z3⟩ := hf
  obtain ⟨hl, fv, fo, hw, hva, hoa, hv⟩ := hls
  obtain ⟨w0, w1, w2, w3, w4, w5, w6, w7, hxc⟩ := (hx.kept hZ (fun _ z => z)).cell
  have hxz := hx.1
  have hxa : x ≠ va := fun q => z2 (q ▸ hxz)
  have hxw : x ≠ w := fun q => z1 (q ▸ hxz)
  refine aw_run 1 (F' := (1, [some (.ref w), some (.ref x)], [.ref w])) rfl ?_
  refine aw_get rfl hw rfl ?_
  refine aw_run 1 (F' := (5, [some (.ref w), some (.ref x)], [.ref w, .int (nI S.1.length)])) rfl ?_
  refine aw_get rfl hw rfl ?_
  refine aw_lenq rfl hva (by decide) ?_
  refine aw_clt rfl (fun q => ?_) (fun q => ?_)
  · have q' := (nI_ltI (a := S.1.length) (b := 500) (by omega) (by omega)).mp q
    unfold sp_add at hQ
    rw [if_pos q'] at hQ
    refine aw_run 1 (F' := (19, [some (.ref w), some (.ref x)], [.ref w])) rfl ?_
    refine aw_get rfl hw rfl ?_
    refine aw_run 1 (F' := (23, [some (.ref w), some (.ref x)], [.ref w, .ref va])) rfl ?_
    refine aw_get rfl hw rfl ?_
    refine aw_run 1 (F' := (27, [some (.ref w), some (.ref x)], [.ref x, .int (nI S.1.length), .ref va])) rfl ?_
    refine aw_aast rfl g2 hva rfl hxc (vp_in_nI q' (by omega)) ?_
    rw [nI_clamp (by omega)]
    have hw1 := (am_set_ne σ (.inl (3, 500, .inr (.inr (.inr (.inr (va_up fv S.1.length (some x))))))) n1).trans hw
    have hoa1 := (am_set_ne σ (.inl (3, 500, .inr (.inr (.inr (.inr (va_up fv S.1.length (some x))))))) (Ne.symm n3)).trans hoa
    refine aw_run 1 (F' := (29, [some (.ref w), some (.ref x)], [.ref w])) rfl ?_
    refine aw_get rfl hw1 rfl ?_
    refine aw_run 1 (F' := (33, [some (.ref w), some (.ref x)], [.ref w, .ref oa])) rfl ?_
    refine aw_get rfl hw1 rfl ?_
    refine aw_run 1 (F' := (37, [some (.ref w), some (.ref x)], [.ref w, .int (nI S.1.length), .ref oa])) rfl ?_
    refine aw_get rfl hw1 rfl ?_
    refine aw_iast rfl g3 hoa1 (vp_in_nI q' (by omega)) ?_
    rw [nI_clamp (by omega)]
    have hw2 := (am_set_ne (am_set σ va (.inl (3, 500, .inr (.inr (.inr (.inr (va_up fv S.1.length (some x)))))))) (.inl (0, 500, .inl (upd fo S.1.length (nI S.1.length)))) n2).trans hw1
    refine aw_run 2 (F' := (43, [some (.ref w), some (.ref x)], [.ref w, .ref w])) rfl ?_
    refine aw_get rfl hw2 rfl ?_
    refine aw_run 2 (F' := (48, [some (.ref w), some (.ref x)], [.int (nI S.1.length + 1), .ref w])) rfl ?_
    rw [nI_1]
    refine aw_put rfl g1 hw2 (Nat.le_of_ble_eq_true rfl) rfl rfl ?_
    refine aw_vret rfl rfl (hQ _ (((hfil.set (Or.inr (Or.inl rfl))).set (Or.inr (Or.inr rfl))).set (Or.inl rfl)) ⟨by simp; omega, _, _, (am_set_same _ _ _).trans ?_, (am_set_ne _ _ (Ne.symm n1)).trans ((am_set_ne _ _ n3).trans (am_set_same _ _ _)), (am_set_ne _ _ (Ne.symm n2)).trans (am_set_same _ _ _), fun i v' o hi => ?_⟩)
    · simp
    · dsimp only at hi
      rw [List.getElem?_append] at hi
      by_cases hil : i < S.1.length
      · rw [if_pos hil] at hi
        obtain ⟨a, e1, e2, e3⟩ := hv i v' o hi
        refine ⟨a, ?_, e2, ?_⟩
        · show (if i = S.1.length then _ else _) = _
          rw [if_neg (by omega)]
          exact e1
        · rw [pk_un (by omega)]
          exact e3
      · rw [if_neg hil] at hi
        have hi0 : i - S.1.length = 0 := by
          cases hk : i - S.1.length with
          | zero => rfl
          | succ k => rw [hk] at hi; simp at hi
        rw [hi0] at hi
        simp at hi
        obtain ⟨rfl, rfl⟩ := hi
        have hie : i = S.1.length := by omega
        subst hie
        refine ⟨x, ?_, hx, ?_⟩
        · show (if S.1.length = S.1.length then _ else _) = _
          rw [if_pos rfl]
        · rw [pk_us]
  · have q' : ¬ S.1.length < 500 := fun z => q ((nI_ltI (a := S.1.length) (b := 500) (by omega) (by omega)).mpr z)
    unfold sp_add at hQ
    rw [if_neg q'] at hQ
    refine aw_run 2 (F' := (14, [some (.ref w), some (.ref x)], [.int 1, .ref w])) rfl ?_
    refine aw_put rfl g1 hw (Nat.le_of_ble_eq_true rfl) rfl rfl ?_
    refine aw_vret rfl rfl (hQ _ (hfil.set (Or.inl rfl)) ⟨hl, fv, fo, (am_set_same _ _ _).trans rfl, (am_set_ne _ _ (Ne.symm n1)).trans hva, (am_set_ne _ _ (Ne.symm n2)).trans hoa, hv⟩)
/-- ValueList.clear -/
theorem c_clr {Z : Nat → Prop} {σ0 : am_H} {w va oa sa pa : Nat} {S : sp_X × Bool} (hf : fwk g Z w va oa) (hfil : fil σ0 σ w va oa) (hls : ls Z σ0.1 σ.1 w va oa sa pa S) (hQ : ∀ σ' : am_H, fil σ0 σ' w va oa → ls Z σ0.1 σ'.1 w va oa sa pa ([], false) → Q none σ') : AW g d 38 (0, [some (.ref w)], []) σ Q := by
  obtain ⟨g1, g2, g3, n1, n2, n3, z1, z2, z3⟩ := hf
  obtain ⟨hl, fv, fo, hw, hva, hoa, hv⟩ := hls
  refine aw_run 2 (F' := (2, [some (.ref w)], [.int (nI 0), .ref w])) rfl ?_
  refine aw_put rfl g1 hw (Nat.le_of_ble_eq_true rfl) rfl rfl ?_
  refine aw_run 2 (F' := (7, [some (.ref w)], [.int 0, .ref w])) rfl ?_
  refine aw_put rfl g1 (am_set_same _ _ _) (Nat.le_of_ble_eq_true rfl) rfl rfl ?_
  rw [am_set_set]
  refine aw_vret rfl rfl (hQ _ (hfil.set (Or.inl rfl)) ⟨by simp, fv, fo, (am_set_same _ _ _).trans rfl, (am_set_ne _ _ (Ne.symm n1)).trans hva, (am_set_ne _ _ (Ne.symm n2)).trans hoa, fun i v o hi => by simp at hi⟩)
end P39
