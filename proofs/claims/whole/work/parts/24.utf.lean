/-! right texts -/
/-- an array of bytes that holds a row of numbers -/
def byf (h : Nat → Option am_C) (a n : Nat) (β : Nat → Nat) : Prop := n < 65536 ∧ ∃ f : Nat → Int32, h a = some (.inl (1, n, .inl f)) ∧ ∀ i, i < n → β i < 256 ∧ f i = sb_b (β i)
theorem nx_or (a b : Nat) : nI a ||| nI b = nI (a ||| b) := by
  apply Int32.toBitVec_inj.1
  show BitVec.ofNat 32 a ||| BitVec.ofNat 32 b = BitVec.ofNat 32 (a ||| b)
  apply BitVec.eq_of_getLsbD_eq
  intro i hi
  simp [hi]
theorem sb_m192 : ∀ b, b < 256 → (sb_b b &&& 192 = 128 ↔ 128 ≤ b ∧ b < 192) := by decide +kernel
theorem sb_m63 : ∀ b, b < 256 → 128 ≤ b ∧ b < 192 → sb_b b &&& 63 = nI (b - 128) := by decide +kernel
theorem sb_l2 : ∀ b, b < 256 → 192 ≤ b ∧ b < 224 → sb_b b &&& ((127 : Int32) >>> (nI 2 &&& 31)) = nI (b - 192) := by decide +kernel
theorem sb_l3 : ∀ b, b < 256 → 224 ≤ b ∧ b < 240 → sb_b b &&& ((127 : Int32) >>> (nI 3 &&& 31)) = nI (b - 224) := by decide +kernel
theorem sb_l4 : ∀ b, b < 256 → 240 ≤ b ∧ b < 248 → sb_b b &&& ((127 : Int32) >>> (nI 4 &&& 31)) = nI (b - 240) := by decide +kernel
theorem sb_app {v w : Nat} (hv : v < 2 ^ 24) (hw : w < 64) : (nI v <<< ((6 : Int32) &&& 31)) ||| nI w = nI (v * 64 + w) := by
  rw [pk_shlN (k := 6) _ (by decide) (by omega), nx_or]
  have h := Nat.two_pow_add_eq_or_of_lt (i := 6) (b := w) (by omega) v
  rw [show v * 2 ^ 6 = 2 ^ 6 * v by omega, ← h, show 2 ^ 6 * v + w = v * 64 + w by omega]
abbrev sp_cb (b : Nat) : Prop := 128 ≤ b ∧ b < 192
abbrev sp_rng (lo v : Nat) : Prop := lo ≤ v ∧ v ≤ 1114111 ∧ ¬ (55296 ≤ v ∧ v ≤ 57343)
def sp_ll (b : Nat) : Nat := if b < 128 then 1 else if b < 192 then 0 else if b < 224 then 2 else if b < 240 then 3 else if b < 248 then 4 else 0
/-- is the character at k one, its length by its first byte being n -/
abbrev sp_isc (β : Nat → Nat) (k n : Nat) : Prop :=
  n = 1 ∨ (n = 2 ∧ sp_cb (β (k + 1)) ∧ sp_rng 128 ((β k - 192) * 64 + (β (k + 1) - 128))) ∨
  (n = 3 ∧ sp_cb (β (k + 1)) ∧ sp_cb (β (k + 2)) ∧ sp_rng 2048 (((β k - 224) * 64 + (β (k + 1) - 128)) * 64 + (β (k + 2) - 128))) ∨
  (n = 4 ∧ sp_cb (β (k + 1)) ∧ sp_cb (β (k + 2)) ∧ sp_cb (β (k + 3)) ∧ sp_rng 65536 ((((β k - 240) * 64 + (β (k + 1) - 128)) * 64 + (β (k + 2) - 128)) * 64 + (β (k + 3) - 128)))
def sp_chr (β : Nat → Nat) (k e : Nat) : Nat := if k + sp_ll (β k) ≤ e ∧ sp_isc β k (sp_ll (β k)) then sp_ll (β k) else 0
/-- right UTF-8 from k to e -/
def sp_tx (β : Nat → Nat) : Nat → Nat → Nat → Bool
  | 0, _, _ => true
  | n + 1, k, e => if e ≤ k then true else if sp_chr β k e = 0 then false else sp_tx β n (k + sp_chr β k e) e
theorem sp_tx_end (β : Nat → Nat) (n k e : Nat) (h : e ≤ k) : sp_tx β n k e = true := by
  cases n with
  | zero => rfl
  | succ n => simp [sp_tx, h]
theorem sp_tx_fuel (β : Nat → Nat) : ∀ (n m k e : Nat), e - k ≤ n → e - k ≤ m → sp_tx β n k e = sp_tx β m k e := by
  intro n
  induction n with
  | zero =>
    intro m k e h1 h2
    rw [sp_tx_end β 0 k e (by omega), sp_tx_end β m k e (by omega)]
  | succ n ih =>
    intro m k e h1 h2
    by_cases he : e ≤ k
    · rw [sp_tx_end β _ k e he, sp_tx_end β m k e he]
    · obtain ⟨m, rfl⟩ : ∃ m', m = m' + 1 := ⟨m - 1, by omega⟩
      simp only [sp_tx, if_neg he]
      by_cases hc : sp_chr β k e = 0
      · rw [if_pos hc, if_pos hc]
      · rw [if_neg hc, if_neg hc]
        exact ih m _ e (by omega) (by omega)
section P24
variable {g : Nat × Nat} {d : Nat} {σ : am_H} {Q : Option Value → am_H → Prop}
theorem c_lead {b : Nat} (hb : b < 256) (h : Q (some (.int (nI (sp_ll b)))) σ) : AW g d 17 (0, [some (.int (nI b))], []) σ Q := by
  unfold sp_ll at h
  refine aw_run 2 (F' := (4, [some (.int (nI b))], [.int (nI 128), .int (nI b)])) rfl ?_
  refine aw_cge rfl (fun h1 => ?_) (fun h1 => ?_)
  · rw [if_neg (Nat.not_lt.mpr ((nI_leI (by omega) (by omega)).mp h1))] at h
    refine aw_run 2 (F' := (13, [some (.int (nI b))], [.int (nI 192), .int (nI b)])) rfl ?_
    refine aw_cge rfl (fun h2 => ?_) (fun h2 => ?_)
    · rw [if_neg (Nat.not_lt.mpr ((nI_leI (by omega) (by omega)).mp h2))] at h
      refine aw_run 2 (F' := (22, [some (.int (nI b))], [.int (nI 224), .int (nI b)])) rfl ?_
      refine aw_cge rfl (fun h3 => ?_) (fun h3 => ?_)
      · rw [if_neg (Nat.not_lt.mpr ((nI_leI (by omega) (by omega)).mp h3))] at h
        refine aw_run 2 (F' := (31, [some (.int (nI b))], [.int (nI 240), .int (nI b)])) rfl ?_
        refine aw_cge rfl (fun h4 => ?_) (fun h4 => ?_)
        · rw [if_neg (Nat.not_lt.mpr ((nI_leI (by omega) (by omega)).mp h4))] at h
          refine aw_run 2 (F' := (40, [some (.int (nI b))], [.int (nI 248), .int (nI b)])) rfl ?_
          refine aw_cge rfl (fun h5 => ?_) (fun h5 => ?_)
          · rw [if_neg (Nat.not_lt.mpr ((nI_leI (by omega) (by omega)).mp h5))] at h
            refine aw_run 1 (F' := (48, [some (.int (nI b))], [.int (nI 0)])) rfl ?_
            exact aw_iret rfl ⟨_, rfl, rfl⟩ h
          · rw [if_pos (Nat.lt_of_not_le (fun q => h5 ((nI_leI (by omega) (by omega)).mpr q)))] at h
            refine aw_run 2 (F' := (48, [some (.int (nI b))], [.int (nI 4)])) rfl ?_
            exact aw_iret rfl ⟨_, rfl, rfl⟩ h
        · rw [if_pos (Nat.lt_of_not_le (fun q => h4 ((nI_leI (by omega) (by omega)).mpr q)))] at h
          refine aw_run 1 (F' := (35, [some (.int (nI b))], [.int (nI 3)])) rfl ?_
          exact aw_iret rfl ⟨_, rfl, rfl⟩ h
      · rw [if_pos (Nat.lt_of_not_le (fun q => h3 ((nI_leI (by omega) (by omega)).mpr q)))] at h
        refine aw_run 1 (F' := (26, [some (.int (nI b))], [.int (nI 2)])) rfl ?_
        exact aw_iret rfl ⟨_, rfl, rfl⟩ h
    · rw [if_pos (Nat.lt_of_not_le (fun q => h2 ((nI_leI (by omega) (by omega)).mpr q)))] at h
      refine aw_run 1 (F' := (17, [some (.int (nI b))], [.int (nI 0)])) rfl ?_
      exact aw_iret rfl ⟨_, rfl, rfl⟩ h
  · rw [if_pos (Nat.lt_of_not_le (fun q => h1 ((nI_leI (by omega) (by omega)).mpr q)))] at h
    refine aw_run 1 (F' := (8, [some (.int (nI b))], [.int (nI 1)])) rfl ?_
    exact aw_iret rfl ⟨_, rfl, rfl⟩ h
/-- isCharacter: one more byte -/
theorem c_isc_it {a N k n v i : Nat} {β : Nat → Nat} {x5 : Option Value} (hb : byf σ.1 a N β) (hi : i < k + n) (hN : k + n ≤ N) (hv : v < 2 ^ 18) (h1 : sp_cb (β i) → AW g d 18 (21, [some (.ref a), some (.int (nI k)), some (.int (nI n)), some (.int (nI (v * 64 + (β i - 128)))), some (.int (nI (i + 1))), x5], []) σ Q) (h2 : ¬ sp_cb (β i) → Q (some (.int 0)) σ) : AW g d 18 (21, [some (.ref a), some (.int (nI k)), some (.int (nI n)), some (.int (nI v)), some (.int (nI i)), x5], []) σ Q := by
  obtain ⟨n1, f, ha, hf⟩ := hb
  obtain ⟨hbi, hfi⟩ := hf i (by omega)
  have e1 : f (nI i).toNatClampNeg = sb_b (β i) := by rw [nI_clamp (by omega), hfi]
  refine aw_run 4 (F' := (26, [some (.ref a), some (.int (nI k)), some (.int (nI n)), some (.int (nI v)), some (.int (nI i)), x5], [.int (nI k + nI n), .int (nI i)])) rfl ?_
  rw [nI_add]
  refine aw_cge rfl (fun q => absurd ((nI_leI (by omega) (by omega)).mp q) (by omega)) (fun _ => ?_)
  refine aw_run 2 (F' := (32, [some (.ref a), some (.int (nI k)), some (.int (nI n)), some (.int (nI v)), some (.int (nI i)), x5], [.ref a, .int (nI i)])) rfl ?_
  refine aw_len rfl ha (by decide) ?_
  refine aw_cge rfl (fun q => absurd ((nI_leI (by omega) (by omega)).mp q) (by omega)) (fun _ => ?_)
  refine aw_run 2 (F' := (39, [some (.ref a), some (.int (nI k)), some (.int (nI n)), some (.int (nI v)), some (.int (nI i)), x5], [.int (nI i), .ref a])) rfl ?_
  refine aw_bald rfl ha (vp_in_nI (by omega) (by omega)) ?_
  refine aw_run 3 (F' := (47, [some (.ref a), some (.int (nI k)), some (.int (nI n)), some (.int (nI v)), some (.int (nI i)), x5], [.int 128, .int (f (nI i).toNatClampNeg &&& 192)])) rfl ?_
  rw [e1]
  refine aw_ceq rfl (fun q => ?_) (fun q => ?_)
  · have hc := (sb_m192 _ hbi).mp q
    refine aw_run 5 (F' := (59, [some (.ref a), some (.int (nI k)), some (.int (nI n)), some (.int (nI v)), some (.int (nI i)), x5], [.int (nI i), .ref a, .int (nI v <<< ((6 : Int32) &&& 31))])) rfl ?_
    refine aw_bald rfl ha (vp_in_nI (by omega) (by omega)) ?_
    refine aw_run 6 (F' := (21, [some (.ref a), some (.int (nI k)), some (.int (nI n)), some (.int ((nI v <<< ((6 : Int32) &&& 31)) ||| (f (nI i).toNatClampNeg &&& 63))), some (.int (nI i + 1)), x5], [])) rfl ?_
    rw [e1, sb_m63 _ hbi hc, sb_app (by omega) (by omega), nI_1]
    exact h1 hc
  · refine aw_run 1 (F' := (51, [some (.ref a), some (.int (nI k)), some (.int (nI n)), some (.int (nI v)), some (.int (nI i)), x5], [.int 0])) rfl ?_
    exact aw_iret rfl ⟨_, rfl, rfl⟩ (h2 (fun hc => q ((sb_m192 _ hbi).mpr hc)))
/-- isCharacter: its end -/
theorem c_isc_end {a N k n v lo : Nat} {β : Nat → Nat} {x5 : Option Value} (hb : byf σ.1 a N β) (hN : k + n ≤ N) (hn : (n = 2 ∧ lo = 128) ∨ (n = 3 ∧ lo = 2048) ∨ (n = 4 ∧ lo = 65536)) (hv : v < 2 ^ 30) (h1 : sp_rng lo v → Q (some (.int 1)) σ) (h2 : ¬ sp_rng lo v → Q (some (.int 0)) σ) : AW g d 18 (21, [some (.ref a), some (.int (nI k)), some (.int (nI n)), some (.int (nI v)), some (.int (nI (k + n))), x5], []) σ Q := by
  obtain ⟨n1, f, ha, hf⟩ := hb
  refine aw_run 4 (F' := (26, [some (.ref a), some (.int (nI k)), some (.int (nI n)), some (.int (nI v)), some (.int (nI (k + n))), x5], [.int (nI k + nI n), .int (nI (k + n))])) rfl ?_
  rw [nI_add]
  refine aw_cge rfl (fun _ => ?_) (fun q => absurd (Int32.le_refl _) q)
  have fin : ∀ s : Nat, ((s = 1 ∧ 55296 ≤ v ∧ v ≤ 57343) ∨ (s = 0 ∧ ¬ (55296 ≤ v ∧ v ≤ 57343))) → AW g d 18 (114, [some (.ref a), some (.int (nI k)), some (.int (nI n)), some (.int (nI v)), some (.int (nI s)), x5], [.int (nI lo)]) σ Q := by
    intro s hs
    refine aw_run 3 (F' := (119, [some (.ref a), some (.int (nI k)), some (.int (nI n)), some (.int (nI v)), some (.int (nI s)), some (.int (nI lo))], [.int (nI lo), .int (nI v)])) rfl ?_
    have no : ¬ sp_rng lo v → AW g d 18 (137, [some (.ref a), some (.int (nI k)), some (.int (nI n)), some (.int (nI v)), some (.int (nI s)), some (.int (nI lo))], []) σ Q := by
      intro q
      refine aw_run 1 (F' := (138, [some (.ref a), some (.int (nI k)), some (.int (nI n)), some (.int (nI v)), some (.int (nI s)), some (.int (nI lo))], [.int 0])) rfl ?_
      exact aw_iret rfl ⟨_, rfl, rfl⟩ (h2 q)
    refine aw_clt rfl (fun q => ?_) (fun q => ?_)
    · have q' := (nI_ltI (by omega) (by omega)).mp q
      exact no (fun z => by have := z.1; omega)
    · have q' : ¬ v < lo := fun z => q ((nI_ltI (by omega) (by omega)).mpr z)
      refine aw_run 2 (F' := (125, [some (.ref a), some (.int (nI k)), some (.int (nI n)), some (.int (nI v)), some (.int (nI s)), some (.int (nI lo))], [.int (nI 1114111), .int (nI v)])) rfl ?_
      refine aw_cgt rfl (fun r => ?_) (fun r => ?_)
      · have r' := (nI_ltI (by omega) (by omega)).mp r
        exact no (fun z => by have := z.2.1; omega)
      · have r' : ¬ 1114111 < v := fun z => r ((nI_ltI (by omega) (by omega)).mpr z)
        refine aw_run 1 (F' := (130, [some (.ref a), some (.int (nI k)), some (.int (nI n)), some (.int (nI v)), some (.int (nI s)), some (.int (nI lo))], [.int (nI s)])) rfl ?_
        refine aw_zne rfl (fun t => ?_) (fun t => ?_)
        · rcases hs with ⟨rfl, z⟩ | ⟨rfl, z⟩
          · exact no (fun w => w.2.2 z)
          · exact absurd rfl t
        · rcases hs with ⟨rfl, z⟩ | ⟨rfl, z⟩
          · exact absurd (by decide) t
          · refine aw_run 2 (F' := (138, [some (.ref a), some (.int (nI k)), some (.int (nI n)), some (.int (nI v)), some (.int (nI 0)), some (.int (nI lo))], [.int 1])) rfl ?_
            exact aw_iret rfl ⟨_, rfl, rfl⟩ (h1 ⟨by omega, by omega, z⟩)
  have mid : ∀ s : Nat, ((s = 1 ∧ 55296 ≤ v ∧ v ≤ 57343) ∨ (s = 0 ∧ ¬ (55296 ≤ v ∧ v ≤ 57343))) → AW g d 18 (88, [some (.ref a), some (.int (nI k)), some (.int (nI n)), some (.int (nI v)), some (.int (nI (k + n))), x5], [.int (nI s)]) σ Q := by
    intro s hs
    refine aw_run 3 (F' := (92, [some (.ref a), some (.int (nI k)), some (.int (nI n)), some (.int (nI v)), some (.int (nI s)), x5], [.int (nI 2), .int (nI n)])) rfl ?_
    rcases hn with ⟨rfl, rfl⟩ | ⟨rfl, rfl⟩ | ⟨rfl, rfl⟩
    · refine aw_cne rfl (fun q => absurd rfl q) (fun _ => ?_)
      refine aw_run 2 (F' := (114, [some (.ref a), some (.int (nI k)), some (.int (nI 2)), some (.int (nI v)), some (.int (nI s)), x5], [.int (nI 128)])) rfl ?_
      exact fin s hs
    · refine aw_cne rfl (fun _ => ?_) (fun q => absurd (by decide) q)
      refine aw_run 2 (F' := (103, [some (.ref a), some (.int (nI k)), some (.int (nI 3)), some (.int (nI v)), some (.int (nI s)), x5], [.int (nI 3), .int (nI 3)])) rfl ?_
      refine aw_cne rfl (fun q => absurd rfl q) (fun _ => ?_)
      refine aw_run 2 (F' := (114, [some (.ref a), some (.int (nI k)), some (.int (nI 3)), some (.int (nI v)), some (.int (nI s)), x5], [.int (nI 2048)])) rfl ?_
      exact fin s hs
    · refine aw_cne rfl (fun _ => ?_) (fun q => absurd (by decide) q)
      refine aw_run 2 (F' := (103, [some (.ref a), some (.int (nI k)), some (.int (nI 4)), some (.int (nI v)), some (.int (nI s)), x5], [.int (nI 3), .int (nI 4)])) rfl ?_
      refine aw_cne rfl (fun _ => ?_) (fun q => absurd (by decide) q)
      refine aw_run 1 (F' := (114, [some (.ref a), some (.int (nI k)), some (.int (nI 4)), some (.int (nI v)), some (.int (nI s)), x5], [.int (nI 65536)])) rfl ?_
      exact fin s hs
  refine aw_run 2 (F' := (74, [some (.ref a), some (.int (nI k)), some (.int (nI n)), some (.int (nI v)), some (.int (nI (k + n))), x5], [.int (nI 55296), .int (nI v)])) rfl ?_
  refine aw_clt rfl (fun q => ?_) (fun q => ?_)
  · have q' := (nI_ltI (by omega) (by omega)).mp q
    refine aw_run 1 (F' := (88, [some (.ref a), some (.int (nI k)), some (.int (nI n)), some (.int (nI v)), some (.int (nI (k + n))), x5], [.int (nI 0)])) rfl ?_
    exact mid 0 (Or.inr ⟨rfl, by omega⟩)
  · have q' : ¬ v < 55296 := fun z => q ((nI_ltI (by omega) (by omega)).mpr z)
    refine aw_run 2 (F' := (80, [some (.ref a), some (.int (nI k)), some (.int (nI n)), some (.int (nI v)), some (.int (nI (k + n))), x5], [.int (nI 57343), .int (nI v)])) rfl ?_
    refine aw_cgt rfl (fun r => ?_) (fun r => ?_)
    · have r' := (nI_ltI (by omega) (by omega)).mp r
      refine aw_run 1 (F' := (88, [some (.ref a), some (.int (nI k)), some (.int (nI n)), some (.int (nI v)), some (.int (nI (k + n))), x5], [.int (nI 0)])) rfl ?_
      exact mid 0 (Or.inr ⟨rfl, by omega⟩)
    · have r' : ¬ 57343 < v := fun z => r ((nI_ltI (by omega) (by omega)).mpr z)
      refine aw_run 2 (F' := (88, [some (.ref a), some (.int (nI k)), some (.int (nI n)), some (.int (nI v)), some (.int (nI (k + n))), x5], [.int (nI 1)])) rfl ?_
      exact mid 1 (Or.inl ⟨rfl, by omega, by omega⟩)
end P24
