/-! values in the heap -/
def kd (k : Nat) : Prop := k = 0 ∨ k = 2 ∨ k = 3 ∨ k = 4 ∨ k = 8 ∨ k = 10 ∨ k = 16 ∨ k = 18
def sp_len : sp_F → Nat
  | .leaf => 0
  | .inner _ _ _ _ r => sp_len r + 1
def sp_hgt : sp_F → Nat
  | .leaf => 0
  | .inner _ _ _ c r => max (sp_hgt c + 1) (sp_hgt r)
/-- a value's cell, with the cells of its bytes -/
def nd (h : Nat → Option am_C) (a : Nat) (b : sp_B) (cnt : Nat) (fi la nx : Option Nat) : Prop := kd b.1 ∧ cnt < 65536 ∧ ∃ (na ba : Nat) (num : Int64), h a = some (.inr (1, [.int (nI b.1), .ref na, .long num, .ref ba, .int (nI cnt), va_rf fi, va_rf la, va_rf nx])) ∧ num.toInt = b.2.2.1 ∧ bya h na b.2.1 ∧ bya h ba b.2.2.2
/-- elements, from one on -/
def fr (h : Nat → Option am_C) : sp_F → Option Nat → Prop
  | .leaf, o => o = none
  | .inner _ b _ c r, o => ∃ (a : Nat) (fi la nx : Option Nat), o = some a ∧ nd h a b (b.2.2.2.length + sp_len c) fi la nx ∧ fr h c fi ∧ fr h r nx
def vl (h : Nat → Option am_C) (a : Nat) (v : sp_V) : Prop := ∃ (fi la nx : Option Nat), nd h a v.1 (v.1.2.2.2.length + sp_len v.2) fi la nx ∧ fr h v.2 fi
theorem sp_cls_lt (k : Nat) : sp_cls k < 2 ^ 31 := by
  unfold sp_cls
  repeat' split
  all_goals decide
section P21
variable {g : Nat × Nat} {d : Nat} {σ : am_H} {Q : Option Value → am_H → Prop}
/-- Long.compare -/
theorem c_lcmp (x z : Int64) (h : Q (some (.int (sp_ic x.toInt z.toInt))) σ) : AW g d 104 (0, [some (.long x), none, some (.long z), none], []) σ Q := by
  have key : (lg_cmp x z = -1 ∧ sp_ic x.toInt z.toInt = -1) ∨ (lg_cmp x z = 0 ∧ sp_ic x.toInt z.toInt = 0) ∨ (lg_cmp x z = 1 ∧ sp_ic x.toInt z.toInt = 1) := by
    unfold lg_cmp sp_ic
    by_cases h1 : x.toInt < z.toInt
    · left
      have n1 : ¬ x > z := fun q => by have := Int64.lt_iff_toInt_lt.mp q; omega
      have n2 : ¬ x = z := fun q => by rw [q] at h1; omega
      rw [if_neg n1, if_neg n2, if_pos h1]
      exact ⟨rfl, rfl⟩
    · by_cases h2 : x.toInt = z.toInt
      · right; left
        have e : x = z := Int64.toInt_inj.mp h2
        subst e
        have n1 : ¬ x > x := fun q => by have := Int64.lt_iff_toInt_lt.mp q; omega
        rw [if_neg n1, if_pos rfl, if_neg h1, if_pos rfl]
        exact ⟨rfl, rfl⟩
      · right; right
        have n1 : x > z := Int64.lt_iff_toInt_lt.mpr (by omega)
        rw [if_pos n1, if_neg h1, if_neg h2]
        exact ⟨rfl, rfl⟩
  refine aw_run 3 (F' := (3, [some (.long x), none, some (.long z), none], [.int (lg_cmp x z)])) rfl ?_
  rcases key with ⟨e1, e2⟩ | ⟨e1, e2⟩ | ⟨e1, e2⟩ <;> rw [e2] at h <;> refine aw_zge rfl (fun h1 => ?_) (fun h1 => ?_) <;> rw [e1] at h1
  · exact absurd h1 (by decide)
  · refine aw_run 2 (F' := (21, [some (.long x), none, some (.long z), none], [.int (-1)])) rfl ?_
    exact aw_iret rfl ⟨_, rfl, rfl⟩ h
  · refine aw_run 3 (F' := (13, [some (.long x), none, some (.long z), none], [.int (lg_cmp x z)])) rfl ?_
    refine aw_zne rfl (fun h2 => ?_) (fun h2 => ?_)
    · exact absurd e1 h2
    · refine aw_run 2 (F' := (21, [some (.long x), none, some (.long z), none], [.int 0])) rfl ?_
      exact aw_iret rfl ⟨_, rfl, rfl⟩ h
  · exact absurd (by decide) h1
  · refine aw_run 3 (F' := (13, [some (.long x), none, some (.long z), none], [.int (lg_cmp x z)])) rfl ?_
    refine aw_zne rfl (fun h2 => ?_) (fun h2 => ?_)
    · refine aw_run 1 (F' := (21, [some (.long x), none, some (.long z), none], [.int 1])) rfl ?_
      exact aw_iret rfl ⟨_, rfl, rfl⟩ h
    · exact absurd (by rw [e1]; decide) h2
  · exact absurd (by decide) h1
/-- Value.rank -/
theorem c_rank {a : Nat} {b : sp_B} {cnt : Nat} {fi la nx : Option Nat} (hn : nd σ.1 a b cnt fi la nx) (h : Q (some (.int (nI (sp_cls b.1)))) σ) : AW g d 33 (0, [some (.ref a)], []) σ Q := by
  obtain ⟨hk, -, na, ba, num, ha, -⟩ := hn
  refine aw_run 1 (F' := (1, [some (.ref (a))], [.ref (a)])) rfl ?_
  refine aw_get rfl ha rfl ?_
  rcases hk with e | e | e | e | e | e | e | e <;> rw [e] at h ⊢
  · refine aw_tsw 101 rfl (Or.inl ⟨by decide, by decide⟩) ?_
    refine aw_run 1 (F' := (102, [some (.ref (a))], [.int 0])) rfl ?_
    exact aw_iret rfl ⟨_, rfl, rfl⟩ h
  · refine aw_tsw 92 rfl (Or.inr ⟨by decide, by decide, _, rfl, by decide⟩) ?_
    refine aw_run 1 (F' := (93, [some (.ref (a))], [.int 3])) rfl ?_
    exact aw_iret rfl ⟨_, rfl, rfl⟩ h
  · refine aw_tsw 94 rfl (Or.inr ⟨by decide, by decide, _, rfl, by decide⟩) ?_
    refine aw_run 1 (F' := (95, [some (.ref (a))], [.int 4])) rfl ?_
    exact aw_iret rfl ⟨_, rfl, rfl⟩ h
  · refine aw_tsw 96 rfl (Or.inr ⟨by decide, by decide, _, rfl, by decide⟩) ?_
    refine aw_run 1 (F' := (97, [some (.ref (a))], [.int 5])) rfl ?_
    exact aw_iret rfl ⟨_, rfl, rfl⟩ h
  · refine aw_tsw 98 rfl (Or.inr ⟨by decide, by decide, _, rfl, by decide⟩) ?_
    refine aw_run 1 (F' := (100, [some (.ref (a))], [.int 6])) rfl ?_
    exact aw_iret rfl ⟨_, rfl, rfl⟩ h
  · refine aw_tsw 88 rfl (Or.inr ⟨by decide, by decide, _, rfl, by decide⟩) ?_
    refine aw_run 1 (F' := (89, [some (.ref (a))], [.int 1])) rfl ?_
    exact aw_iret rfl ⟨_, rfl, rfl⟩ h
  · refine aw_tsw 90 rfl (Or.inr ⟨by decide, by decide, _, rfl, by decide⟩) ?_
    refine aw_run 1 (F' := (91, [some (.ref (a))], [.int 2])) rfl ?_
    exact aw_iret rfl ⟨_, rfl, rfl⟩ h
  · refine aw_tsw 90 rfl (Or.inr ⟨by decide, by decide, _, rfl, by decide⟩) ?_
    refine aw_run 1 (F' := (91, [some (.ref (a))], [.int 2])) rfl ?_
    exact aw_iret rfl ⟨_, rfl, rfl⟩ h
end P21
