/-! bytes and numbers -/
/-- an array of bytes that holds a list -/
def bya (h : Nat → Option am_C) (a : Nat) (l : List Nat) : Prop := l.length < 65536 ∧ (∀ x ∈ l, x < 256) ∧ ∃ f : Nat → Int32, h a = some (.inl (1, l.length, .inl f)) ∧ ∀ i, i < l.length → f i = sb_b (l.getD i 0)
theorem sb_inj : ∀ x, x < 256 → ∀ y, y < 256 → sb_b x = sb_b y → x = y := by
  intro x hx y hy h
  have h1 := (sb_byte x hx).1
  have h2 := (sb_byte y hy).1
  rw [h, h2] at h1
  exact ((nI_eq (by omega) (by omega)).mp h1).symm
theorem bya_lt {l : List Nat} (h : ∀ x ∈ l, x < 256) {i : Nat} (hi : i < l.length) : l.getD i 0 < 256 := by
  rw [List.getD_eq_getElem?_getD, List.getElem?_eq_getElem hi]
  exact h _ (List.getElem_mem hi)
theorem drop_getD {l : List Nat} {i : Nat} (hi : i < l.length) : l.drop i = l.getD i 0 :: l.drop (i + 1) := by
  rw [List.getD_eq_getElem?_getD, List.getElem?_eq_getElem hi]
  exact List.drop_eq_getElem_cons hi
theorem sp_bc_end {l l' : List Nat} {i : Nat} (h1 : i ≤ l.length) (h2 : i ≤ l'.length) (h : i = l.length ∨ i = l'.length) : sp_bc (l.drop i) (l'.drop i) = sp_nc l.length l'.length := by
  unfold sp_nc
  by_cases e : l.length < l'.length
  · have hi : i = l.length := by omega
    subst hi
    rw [List.drop_length, if_pos e, drop_getD e]
    rfl
  · by_cases e2 : l.length = l'.length
    · have hi : i = l.length := by omega
      subst hi
      rw [List.drop_length, if_neg e, if_pos e2, e2, List.drop_length]
      rfl
    · have hi : i = l'.length := by omega
      subst hi
      rw [List.drop_length, if_neg e, if_neg e2, drop_getD (show l'.length < l.length by omega)]
      rfl
section P20
variable {g : Nat × Nat} {d : Nat} {σ : am_H} {Q : Option Value → am_H → Prop}
/-- Integer.compare -/
theorem c_icmp (x z : Int32) (h : Q (some (.int (if x < z then -1 else if x = z then 0 else 1))) σ) : AW g d 103 (0, [some (.int x), some (.int z)], []) σ Q := by
  refine aw_run 2 (F' := (2, [some (.int (x)), some (.int (z))], [.int (z), .int (x)])) rfl ?_
  refine aw_cge rfl (fun h1 => ?_) (fun h1 => ?_)
  · refine aw_run 2 (F' := (11, [some (.int (x)), some (.int (z))], [.int (z), .int (x)])) rfl ?_
    rw [if_neg (Int32.not_lt.mpr h1)] at h
    refine aw_cne rfl (fun h2 => ?_) (fun h2 => ?_)
    · refine aw_run 1 (F' := (19, [some (.int (x)), some (.int (z))], [.int (1)])) rfl ?_
      rw [if_neg h2] at h
      exact aw_iret rfl ⟨_, rfl, rfl⟩ h
    · refine aw_run 2 (F' := (19, [some (.int (x)), some (.int (z))], [.int (0)])) rfl ?_
      rw [if_pos (Decidable.of_not_not h2)] at h
      exact aw_iret rfl ⟨_, rfl, rfl⟩ h
  · refine aw_run 2 (F' := (19, [some (.int (x)), some (.int (z))], [.int ((-1))])) rfl ?_
    rw [if_pos (Int32.not_le.mp h1)] at h
    exact aw_iret rfl ⟨_, rfl, rfl⟩ h
theorem c_icmpN {a b : Nat} (ha : a < 2 ^ 31) (hb : b < 2 ^ 31) (h : Q (some (.int (sp_nc a b))) σ) : AW g d 103 (0, [some (.int (nI a)), some (.int (nI b))], []) σ Q := by
  refine c_icmp _ _ ?_
  have e : (if nI a < nI b then (-1 : Int32) else if nI a = nI b then 0 else 1) = sp_nc a b := by
    unfold sp_nc
    simp only [nI_ltI ha hb, nI_eq ha hb]
  rw [e]
  exact h
/-- Order.ofBytes -/
theorem c_ofBytesL {a b : Nat} {l l' : List Nat} (hl : bya σ.1 a l) (hl' : bya σ.1 b l') : ∀ (k i : Nat), l.length - i < k → i ≤ l.length → i ≤ l'.length → Q (some (.int (sp_bc (l.drop i) (l'.drop i)))) σ → AW g (d + 1) 26 (2, [some (.ref a), some (.ref b), some (.int (nI i))], []) σ Q := by
  obtain ⟨n1, n2, f, ha, hf⟩ := hl
  obtain ⟨m1, m2, f2, hb, hf2⟩ := hl'
  intro k
  induction k with
  | zero => intro i hk; omega
  | succ k ih =>
    intro i hk hi hi' hQ
    have fin : (i = l.length ∨ i = l'.length) → AW g (d + 1) 26 (47, [some (.ref a), some (.ref b), some (.int (nI i))], []) σ Q := by
      intro he
      refine aw_run 1 (F' := (48, [some (.ref (a)), some (.ref (b)), some (.int (nI i))], [.ref (a)])) rfl ?_
      refine aw_len rfl ha (by decide) ?_
      refine aw_run 1 (F' := (50, [some (.ref (a)), some (.ref (b)), some (.int (nI i))], [.ref (b), .int (nI l.length)])) rfl ?_
      refine aw_len rfl hb (by decide) ?_
      refine aw_s [.int (nI l.length), .int (nI l'.length)] [] rfl ⟨by decide, by decide⟩ rfl rfl (Nat.le_of_ble_eq_true rfl) (Nat.le_of_ble_eq_true rfl) ?_
      refine c_icmpN (by omega) (by omega) ?_
      rw [sp_bc_end hi hi' he] at hQ
      exact aw_iret rfl ⟨_, rfl, rfl⟩ hQ
    refine aw_run 2 (F' := (4, [some (.ref (a)), some (.ref (b)), some (.int (nI i))], [.ref (a), .int (nI i)])) rfl ?_
    refine aw_len rfl ha (by decide) ?_
    refine aw_cge rfl (fun h1 => ?_) (fun h1 => ?_)
    · have h1' := (nI_leI (by omega) (by omega)).mp h1
      exact fin (Or.inl (by omega))
    · have h1' : ¬ l.length ≤ i := fun q => h1 ((nI_leI (by omega) (by omega)).mpr q)
      refine aw_run 2 (F' := (10, [some (.ref (a)), some (.ref (b)), some (.int (nI i))], [.ref (b), .int (nI i)])) rfl ?_
      refine aw_len rfl hb (by decide) ?_
      refine aw_cge rfl (fun h2 => ?_) (fun h2 => ?_)
      · have h2' := (nI_leI (by omega) (by omega)).mp h2
        exact fin (Or.inr (by omega))
      · have h2' : ¬ l'.length ≤ i := fun q => h2 ((nI_leI (by omega) (by omega)).mpr q)
        have hx := bya_lt n2 (show i < l.length by omega)
        have hy := bya_lt m2 (show i < l'.length by omega)
        have e1 : f (nI i).toNatClampNeg = sb_b (l.getD i 0) := by rw [nI_clamp (by omega), hf i (by omega)]
        have e2 : f2 (nI i).toNatClampNeg = sb_b (l'.getD i 0) := by rw [nI_clamp (by omega), hf2 i (by omega)]
        rw [drop_getD (show i < l.length by omega), drop_getD (show i < l'.length by omega)] at hQ
        simp only [sp_bc] at hQ
        refine aw_run 2 (F' := (16, [some (.ref (a)), some (.ref (b)), some (.int (nI i))], [.int (nI i), .ref (a)])) rfl ?_
        refine aw_bald rfl ha (vp_in_nI (by omega) (by omega)) ?_
        refine aw_run 2 (F' := (19, [some (.ref (a)), some (.ref (b)), some (.int (nI i))], [.int (nI i), .ref (b), .int (f (Int32.toNatClampNeg (nI i)))])) rfl ?_
        refine aw_bald rfl hb (vp_in_nI (by omega) (by omega)) ?_
        refine aw_ceq rfl (fun h3 => ?_) (fun h3 => ?_)
        · rw [e1, e2] at h3
          have h3' := sb_inj _ hx _ hy h3
          refine aw_run 2 (F' := (2, [some (.ref (a)), some (.ref (b)), some (.int ((nI i) + 1))], [])) rfl ?_
          rw [nI_1]
          refine ih (i + 1) (by omega) (by omega) (by omega) ?_
          rw [h3', show sp_nc (l'.getD i 0) (l'.getD i 0) = 0 by simp [sp_nc], sp_or_0] at hQ
          exact hQ
        · have hne : l.getD i 0 ≠ l'.getD i 0 := by
            intro q
            apply h3
            rw [e1, e2, q]
          refine aw_run 2 (F' := (25, [some (.ref (a)), some (.ref (b)), some (.int (nI i))], [.int (nI i), .ref (a)])) rfl ?_
          refine aw_bald rfl ha (vp_in_nI (by omega) (by omega)) ?_
          refine aw_run 4 (F' := (32, [some (.ref (a)), some (.ref (b)), some (.int (nI i))], [.int (nI i), .ref (b), .int ((f (Int32.toNatClampNeg (nI i))) &&& 255)])) rfl ?_
          refine aw_bald rfl hb (vp_in_nI (by omega) (by omega)) ?_
          refine aw_run 2 (F' := (37, [some (.ref (a)), some (.ref (b)), some (.int (nI i))], [.int ((f2 (Int32.toNatClampNeg (nI i))) &&& 255), .int ((f (Int32.toNatClampNeg (nI i))) &&& 255)])) rfl ?_
          rw [e1, e2, (sb_byte _ hx).1, (sb_byte _ hy).1]
          refine aw_s [.int (nI (l.getD i 0)), .int (nI (l'.getD i 0))] [] rfl ⟨by decide, by decide⟩ rfl rfl (Nat.le_of_ble_eq_true rfl) (Nat.le_of_ble_eq_true rfl) ?_
          refine c_icmpN (by omega) (by omega) ?_
          have hn : sp_nc (l.getD i 0) (l'.getD i 0) ≠ 0 := by
            unfold sp_nc
            by_cases q : l.getD i 0 < l'.getD i 0
            · rw [if_pos q]; decide
            · rw [if_neg q, if_neg hne]; decide
          rw [sp_or_n hn] at hQ
          exact aw_iret rfl ⟨_, rfl, rfl⟩ hQ
theorem c_ofBytes {a b : Nat} {l l' : List Nat} (hl : bya σ.1 a l) (hl' : bya σ.1 b l') (hQ : Q (some (.int (sp_bc l l'))) σ) : AW g (d + 1) 26 (0, [some (.ref a), some (.ref b), none], []) σ Q := by
  refine aw_run 2 (F' := (2, [some (.ref (a)), some (.ref (b)), some (.int (nI 0))], [])) rfl ?_
  exact c_ofBytesL hl hl' _ 0 (Nat.lt_succ_self _) (Nat.zero_le _) (Nat.zero_le _) hQ
end P20
