/-! decimal digits, from the last on -/
def dkp (l : List Nat) : Nat → Nat → Prop
  | 0, r => r = 0 ∧ 0 < l.length
  | c + 1, r => ¬ (r = 0 ∧ c + 1 < l.length) ∧ l.getD c 0 = 48 + r % 10 ∧ dkp l c (r / 10)
theorem take_s {l : List Nat} {c : Nat} (h : c < l.length) : l.take (c + 1) = l.take c ++ [l.getD c 0] := by
  rw [List.take_succ_eq_append_getElem h, List.getD_eq_getElem?_getD, List.getElem?_eq_getElem h]
  rfl
theorem dkp_st {l : List Nat} {c r : Nat} (h : c < l.length) : (l.take c ++ [l.getD c 0] = sp_dec r) ↔ (l.getD c 0 = 48 + r % 10 ∧ ((c = 0 ∧ r / 10 = 0) ∨ (0 < r / 10 ∧ l.take c = sp_dec (r / 10)))) := by
  by_cases q : r < 10
  · rw [dec_lt q]
    constructor
    · intro z
      have hl := congrArg List.length z
      rw [List.length_append, List.length_take] at hl
      have hl2 : min c l.length + 1 = 1 := hl
      have hc : c = 0 := by omega
      subst hc
      simp at z
      exact ⟨by simp; omega, Or.inl ⟨rfl, by omega⟩⟩
    · intro ⟨z1, z2⟩
      have hc : c = 0 := by
        rcases z2 with z | z
        · exact z.1
        · omega
      subst hc
      rw [z1, show r % 10 = r by omega]
      rfl
  · rw [dec_ge q]
    constructor
    · intro z
      have := List.append_inj' z rfl
      exact ⟨by simpa using this.2, Or.inr ⟨by omega, this.1⟩⟩
    · intro ⟨z1, z2⟩
      rcases z2 with z | z
      · omega
      · rw [z.2, z1]
theorem dkp_lt {l : List Nat} : ∀ (c r : Nat), c < l.length → (dkp l c r ↔ (c = 0 ∧ r = 0) ∨ (0 < r ∧ l.take c = sp_dec r))
  | 0, r, h => by
    simp only [dkp]
    constructor
    · intro z; exact Or.inl ⟨trivial, z.1⟩
    · intro z
      rcases z with z | z
      · exact ⟨z.2, h⟩
      · exact absurd z.2.symm (dec_ne r)
  | c + 1, r, h => by
    simp only [dkp]
    rw [dkp_lt c (r / 10) (by omega), take_s (show c < l.length by omega), dkp_st (show c < l.length by omega)]
    constructor
    · intro ⟨z1, z2, z3⟩
      exact Or.inr ⟨by omega, z2, z3⟩
    · intro z
      rcases z with z | ⟨z1, z2, z3⟩
      · omega
      · exact ⟨by omega, z2, z3⟩
theorem dkp_iff {l : List Nat} {k : Nat} : dkp l l.length k ↔ l = sp_dec k := by
  cases hl : l.length with
  | zero =>
    have : l = [] := List.length_eq_zero_iff.mp hl
    subst this
    simp only [dkp]
    constructor
    · intro z; exact absurd z.2 (by simp)
    · intro z; exact absurd z.symm (dec_ne k)
  | succ n =>
    simp only [dkp]
    rw [dkp_lt n (k / 10) (by omega)]
    have ht : l = l.take n ++ [l.getD n 0] := by
      rw [← take_s (by omega), List.take_of_length_le (by omega)]
    constructor
    · intro ⟨_, z2, z3⟩
      rw [ht]
      exact (dkp_st (by omega)).mpr ⟨z2, z3⟩
    · intro z
      rw [ht] at z
      have := (dkp_st (by omega)).mp z
      exact ⟨by omega, this.1, this.2⟩
theorem sb_dig : ∀ x, x < 256 → ∀ d, d < 10 → (sb_b x = nI (48 + d) ↔ x = 48 + d) := by decide +kernel
section P96
variable {g : Nat × Nat} {d : Nat} {σ : am_H} {Q : Option Value → am_H → Prop}
theorem c_decL {a : Nat} {l : List Nat} {k : Nat} (hb : bya σ.1 a l) : ∀ (c r : Nat) (I : Int32) (x4 : Option Value), I = nI c - 1 → c ≤ l.length → r < 65536 → (dkp l c r → Q (some (.int 1)) σ) → (¬ dkp l c r → Q (some (.int 0)) σ) → AW g d 24 (7, [some (.ref a), some (.int (nI k)), some (.int (nI r)), some (.int I), x4], []) σ Q := by
  obtain ⟨n1, n2, f, ha, hf⟩ := hb
  intro c
  induction c with
  | zero =>
    intro r I x4 hI hc hr g1 g0
    have hI1 : I = -1 := hI
    subst hI1
    refine aw_run 1 (F' := (8, [some (.ref a), some (.int (nI k)), some (.int (nI r)), some (.int (-1)), x4], [.int (-1)])) rfl ?_
    refine aw_zlt rfl (fun _ => ?_) (fun z => absurd (by decide) z)
    refine aw_run 1 (F' := (62, [some (.ref a), some (.int (nI k)), some (.int (nI r)), some (.int (-1)), x4], [.int (nI r)])) rfl ?_
    refine an_zne rfl (by omega) (fun h1 => ?_) (fun h1 => ?_)
    · refine aw_run 1 (F' := (75, [some (.ref a), some (.int (nI k)), some (.int (nI r)), some (.int (-1)), x4], [.int 0])) rfl ?_
      exact aw_iret rfl ⟨_, rfl, rfl⟩ (g0 (fun z => h1 z.1))
    · refine aw_run 1 (F' := (66, [some (.ref a), some (.int (nI k)), some (.int (nI r)), some (.int (-1)), x4], [.ref a])) rfl ?_
      refine aw_len rfl ha (by decide) ?_
      refine an_zle (a := l.length) rfl (by omega) (fun h2 => ?_) (fun h2 => ?_)
      · refine aw_run 1 (F' := (75, [some (.ref a), some (.int (nI k)), some (.int (nI r)), some (.int (-1)), x4], [.int 0])) rfl ?_
        exact aw_iret rfl ⟨_, rfl, rfl⟩ (g0 (fun z => by have := z.2; omega))
      · refine aw_run 2 (F' := (75, [some (.ref a), some (.int (nI k)), some (.int (nI r)), some (.int (-1)), x4], [.int 1])) rfl ?_
        exact aw_iret rfl ⟨_, rfl, rfl⟩ (g1 ⟨h1, h2⟩)
  | succ c ih =>
    intro r I x4 hI hc hr g1 g0
    have hI1 : I = nI c := by rw [hI]; exact nI_pred c
    subst hI1
    have hx := bya_lt n2 (show c < l.length by omega)
    have e1 : f (nI c).toNatClampNeg = sb_b (l.getD c 0) := by rw [nI_clamp (by omega), hf c (by omega)]
    refine aw_run 1 (F' := (8, [some (.ref a), some (.int (nI k)), some (.int (nI r)), some (.int (nI c)), x4], [.int (nI c)])) rfl ?_
    refine an_zlt rfl (by omega) ?_
    have body : ¬ (r = 0 ∧ c + 1 < l.length) → ∀ z4 : Nat, z4 = 0 → AW g d 24 (28, [some (.ref a), some (.int (nI k)), some (.int (nI r)), some (.int (nI c)), x4], [.int (nI z4)]) σ Q := by
      intro hz z4 hz4
      subst hz4
      refine aw_run 2 (F' := (32, [some (.ref a), some (.int (nI k)), some (.int (nI r)), some (.int (nI c)), some (.int (nI 0))], [.int (nI 0)])) rfl ?_
      refine an_zne rfl (by omega) (fun z => absurd rfl z) (fun _ => ?_)
      refine aw_run 2 (F' := (37, [some (.ref a), some (.int (nI k)), some (.int (nI r)), some (.int (nI c)), some (.int (nI 0))], [.int (nI c), .ref a])) rfl ?_
      refine aw_bald rfl ha (vp_in_nI (by omega) (by omega)) ?_
      rw [e1]
      refine aw_run 3 (F' := (43, [some (.ref a), some (.int (nI k)), some (.int (nI r)), some (.int (nI c)), some (.int (nI 0))], [.int (nI 10), .int (nI r), .int (nI 48), .int (sb_b (l.getD c 0))])) rfl ?_
      refine aw_rem rfl (by decide) ?_
      rw [pk_div (by omega) (by omega) (by omega), nI_mul, nI_sub (by omega), show r - r / 10 * 10 = r % 10 by omega]
      refine aw_run 1 (F' := (45, [some (.ref a), some (.int (nI k)), some (.int (nI r)), some (.int (nI c)), some (.int (nI 0))], [.int (nI 48 + nI (r % 10)), .int (sb_b (l.getD c 0))])) rfl ?_
      rw [nI_add]
      refine aw_ceq rfl (fun h3 => ?_) (fun h3 => ?_)
      · have h3' := (sb_dig _ hx (r % 10) (by omega)).mp h3
        refine aw_run 2 (F' := (53, [some (.ref a), some (.int (nI k)), some (.int (nI r)), some (.int (nI c)), some (.int (nI 0))], [.int (nI 10), .int (nI r)])) rfl ?_
        refine aw_div rfl (by decide) ?_
        rw [pk_div (by omega) (by omega) (by omega)]
        refine aw_run 3 (F' := (7, [some (.ref a), some (.int (nI k)), some (.int (nI (r / 10))), some (.int (nI c + -1)), some (.int (nI 0))], [])) rfl ?_
        exact ih (r / 10) _ _ (Int32.sub_eq_add_neg _ _).symm (by omega) (by omega) (fun z => g1 ⟨hz, h3', z⟩) (fun z => g0 (fun y => z y.2.2))
      · refine aw_run 1 (F' := (49, [some (.ref a), some (.int (nI k)), some (.int (nI r)), some (.int (nI c)), some (.int (nI 0))], [.int 0])) rfl ?_
        exact aw_iret rfl ⟨_, rfl, rfl⟩ (g0 (fun y => h3 ((sb_dig _ hx (r % 10) (by omega)).mpr y.2.1)))
    refine aw_run 1 (F' := (12, [some (.ref a), some (.int (nI k)), some (.int (nI r)), some (.int (nI c)), x4], [.int (nI r)])) rfl ?_
    refine an_zne rfl (by omega) (fun h1 => ?_) (fun h1 => ?_)
    · refine aw_run 1 (F' := (28, [some (.ref a), some (.int (nI k)), some (.int (nI r)), some (.int (nI c)), x4], [.int (nI 0)])) rfl ?_
      exact body (fun z => h1 z.1) 0 rfl
    · refine aw_run 2 (F' := (17, [some (.ref a), some (.int (nI k)), some (.int (nI r)), some (.int (nI c)), x4], [.ref a, .int (nI c)])) rfl ?_
      refine aw_len rfl ha (by decide) ?_
      refine aw_run 2 (F' := (20, [some (.ref a), some (.int (nI k)), some (.int (nI r)), some (.int (nI c)), x4], [.int (nI l.length - nI 1), .int (nI c)])) rfl ?_
      rw [nI_sub (by omega)]
      refine an_cge rfl (by omega) (by omega) (fun h2 => ?_) (fun h2 => ?_)
      · refine aw_run 1 (F' := (28, [some (.ref a), some (.int (nI k)), some (.int (nI r)), some (.int (nI c)), x4], [.int (nI 0)])) rfl ?_
        exact body (fun z => by have := z.2; omega) 0 rfl
      · refine aw_run 4 (F' := (32, [some (.ref a), some (.int (nI k)), some (.int (nI r)), some (.int (nI c)), some (.int (nI 1))], [.int (nI 1)])) rfl ?_
        refine an_zne rfl (by omega) (fun _ => ?_) (fun z => absurd z (by omega))
        refine aw_run 1 (F' := (49, [some (.ref a), some (.int (nI k)), some (.int (nI r)), some (.int (nI c)), some (.int (nI 1))], [.int 0])) rfl ?_
        exact aw_iret rfl ⟨_, rfl, rfl⟩ (g0 (fun y => y.1 ⟨h1, by omega⟩))
theorem dec_OK : decOK := by
  intro g d σ Q a k l hb hk hQ
  have hb' := hb
  obtain ⟨n1, n2, f, ha, hf⟩ := hb'
  refine aw_run 3 (F' := (3, [some (.ref a), some (.int (nI k)), some (.int (nI k)), none, none], [.ref a])) rfl ?_
  refine aw_len rfl ha (by decide) ?_
  refine aw_run 3 (F' := (7, [some (.ref a), some (.int (nI k)), some (.int (nI k)), some (.int (nI l.length - 1)), none], [])) rfl ?_
  refine c_decL hb l.length k _ none rfl (Nat.le_refl _) hk (fun z => ?_) (fun z => ?_)
  · rw [if_pos (dkp_iff.mp z)] at hQ
    exact hQ
  · rw [if_neg (fun y => z (dkp_iff.mpr y))] at hQ
    exact hQ
end P96
