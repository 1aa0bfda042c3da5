/-! the reference's state: its numbers and rows by the number of their field -/
abbrev sp_M := Nat → Nat → Nat
def mup (μ : sp_M) (k i v : Nat) : sp_M := fun k' i' => if k' = k ∧ i' = i then v else μ k' i'
theorem mup_s (μ : sp_M) (k i v : Nat) : mup μ k i v k i = v := if_pos ⟨rfl, rfl⟩
theorem mup_k (μ : sp_M) {k k' : Nat} (i v : Nat) (h : k' ≠ k) : mup μ k i v k' = μ k' := funext fun _ => if_neg (fun q => h q.1)
theorem mup_i (μ : sp_M) (k : Nat) {i i' : Nat} (v : Nat) (h : i' ≠ i) : mup μ k i v k i' = μ k i' := if_neg (fun q => h q.2)
def mfl (m : Nat) (μ : sp_M) : List Value := [.int 0, .ref (m + 1), .int (nI (μ 2 0)), .int (nI (μ 3 0)), .ref (m + 2), .ref (m + 3), .ref (m + 4), .ref (m + 5), .ref (m + 6), .ref (m + 7), .int (nI (μ 10 0)), .ref (m + 8), .ref (m + 9), .int (nI (μ 13 0)), .ref (m + 10), .ref (m + 11), .ref (m + 12), .int (nI (μ 17 0)), .ref (m + 13), .ref (m + 14), .ref (m + 15), .ref (m + 16), .ref (m + 17), .ref (m + 18)]
/-- rows: field, place, kind, length -/
def mtb : List (Nat × Nat × Nat × Nat) := [(1, 1, 1, 14000), (4, 2, 0, 10), (5, 3, 1, 2010), (6, 4, 0, 2), (7, 5, 0, 1000), (8, 6, 0, 1000), (9, 7, 0, 1000), (11, 8, 0, 1000), (12, 9, 0, 1000), (14, 10, 0, 3000), (15, 11, 0, 3000), (16, 12, 0, 3000), (18, 13, 0, 20), (19, 14, 0, 20), (20, 15, 0, 20), (21, 16, 0, 20), (22, 17, 2, 20), (23, 18, 0, 20)]
def mval (t v : Nat) : Int32 := if t = 1 then sb_b v else nI v
def mrw (h : Nat → Option am_C) (m : Nat) (μ : sp_M) (q : Nat × Nat × Nat × Nat) : Prop := ∃ f : Nat → Int32, h (m + q.2.1) = some (.inl (q.2.2.1, q.2.2.2, .inl f)) ∧ ∀ i, i < q.2.2.2 → f i = mval q.2.2.1 (μ q.1 i) ∧ (q.2.2.1 = 1 → μ q.1 i < 256)
def MS (g : Nat × Nat) (m : Nat) (σ0 σ : am_H) (μ : sp_M) : Prop := g.1 ≤ m ∧ wf σ ∧ (∀ a, a < m ∨ m + 19 ≤ a → σ.1 a = σ0.1 a) ∧ σ.2 = σ0.2 ∧ σ.1 m = some (.inr (6, mfl m μ)) ∧ ∀ q ∈ mtb, mrw σ.1 m μ q
theorem mtb_ok : ∀ q ∈ mtb, 1 ≤ q.2.1 ∧ q.2.1 < 19 ∧ q.2.2.2 ≤ 14000 ∧ q.1 ≠ 2 ∧ q.1 ≠ 3 ∧ q.1 ≠ 10 ∧ q.1 ≠ 13 ∧ q.1 ≠ 17 := by decide
theorem mtb_un : ∀ q ∈ mtb, ∀ q' ∈ mtb, q.2.1 = q'.2.1 ∨ q.1 = q'.1 → q = q' := by decide
theorem mfl_up {m : Nat} {μ : sp_M} {k i v : Nat} (h : k ≠ 2 ∧ k ≠ 3 ∧ k ≠ 10 ∧ k ≠ 13 ∧ k ≠ 17) : mfl m (mup μ k i v) = mfl m μ := by
  unfold mfl
  rw [mup_k μ i v (Ne.symm h.1), mup_k μ i v (Ne.symm h.2.1), mup_k μ i v (Ne.symm h.2.2.1), mup_k μ i v (Ne.symm h.2.2.2.1), mup_k μ i v (Ne.symm h.2.2.2.2)]
theorem nI_sub {a b : Nat} (h : b ≤ a) : nI a - nI b = nI (a - b) := by
  have e := nI_add (a - b) b
  rw [Nat.sub_add_cancel h] at e
  rw [← e, Int32.add_sub_cancel]
theorem nI_mul (a b : Nat) : nI a * nI b = nI (a * b) := (Int32.ofNat_mul a b).symm
section P65
variable {g : Nat × Nat} {d y pc : Nat} {L : am_L} {st : List Value} {σ0 σ : am_H} {Q : Option Value → am_H → Prop} {m : Nat} {μ : sp_M}
theorem MS.o (h : MS g m σ0 σ μ) : σ.1 m = some (.inr (6, mfl m μ)) := h.2.2.2.2.1
theorem MS.by (h : MS g m σ0 σ μ) {i : Nat} (hi : i < 14000) : μ 1 i < 256 := by
  obtain ⟨f, -, h2⟩ := h.2.2.2.2.2 (1, 1, 1, 14000) (by decide)
  exact (h2 i hi).2 rfl
theorem MS.by5 (h : MS g m σ0 σ μ) {i : Nat} (hi : i < 2010) : μ 5 i < 256 := by
  obtain ⟨f, -, h2⟩ := h.2.2.2.2.2 (5, 3, 1, 2010) (by decide)
  exact (h2 i hi).2 rfl
/-- a row's cell set anew -/
theorem MS.row (hM : MS g m σ0 σ μ) {k o t n i v : Nat} {f : Nat → Int32} {x : Int32} (hk : (k, o, t, n) ∈ mtb) (hc : σ.1 (m + o) = some (.inl (t, n, .inl f))) (hf : ∀ j, j < n → f j = mval t (μ k j) ∧ (t = 1 → μ k j < 256)) (hx : x = mval t v) (hv : t = 1 → v < 256) : MS g m σ0 (am_set σ (m + o) (.inl (t, n, .inl (upd f i x)))) (mup μ k i v) := by
  obtain ⟨a1, a2, a3, a4, a5, a6⟩ := hM
  obtain ⟨b1, b2, b3, b4, b5, b6, b7, b8⟩ := mtb_ok _ hk
  have c1 : 1 ≤ o := b1
  have c2 : o < 19 := b2
  refine ⟨a1, a2.set hc, fun a ha => ?_, a4, ?_, fun q hq => ?_⟩
  · rw [am_set_ne _ _ (by omega)]
    exact a3 a ha
  · rw [am_set_ne _ _ (by omega), mfl_up ⟨b4, b5, b6, b7, b8⟩]
    exact a5
  · by_cases e : q = (k, o, t, n)
    · subst e
      refine ⟨upd f i x, am_set_same _ _ _, fun j hj => ?_⟩
      show upd f i x j = mval t (mup μ k i v k j) ∧ (t = 1 → mup μ k i v k j < 256)
      by_cases ej : j = i
      · subst ej
        rw [mup_s]
        exact ⟨by simp [upd, hx], hv⟩
      · rw [mup_i μ k v ej]
        exact ⟨by simp only [upd, if_neg ej]; exact (hf j hj).1, (hf j hj).2⟩
    · obtain ⟨f', h1, h2⟩ := a6 q hq
      have hne : q.2.1 ≠ o := fun z => e (mtb_un q hq _ hk (Or.inl z))
      have hne' : q.1 ≠ k := fun z => e (mtb_un q hq _ hk (Or.inr z))
      refine ⟨f', by rw [am_set_ne _ _ (by omega)]; exact h1, fun j hj => ?_⟩
      rw [mup_k μ i v hne']
      exact h2 j hj
theorem ms_ild (hM : MS g m σ0 σ μ) {k o n i len b0 b1 : Nat} {v0 : Value} (hr : am_find (am_code y) pc = some (.iaload, len, v0, b0, b1)) (hk : (k, o, 0, n) ∈ mtb) (hi : i < n) (h : AW g d y (pc + 1, L, .int (nI (μ k i)) :: st) σ Q) : AW g d y (pc, L, .int (nI i) :: .ref (m + o) :: st) σ Q := by
  obtain ⟨f, h1, h2⟩ := hM.2.2.2.2.2 _ hk
  have hn : n ≤ 14000 := (mtb_ok _ hk).2.2.1
  refine aw_iald hr h1 (show vp_in (nI i) n from vp_in_nI hi (by omega)) ?_
  rw [nI_clamp (by omega), (h2 i hi).1]
  exact h
theorem ms_bld (hM : MS g m σ0 σ μ) {k o n i len b0 b1 : Nat} {v0 : Value} (hr : am_find (am_code y) pc = some (.baload, len, v0, b0, b1)) (hk : (k, o, 1, n) ∈ mtb) (hi : i < n) (h : AW g d y (pc + 1, L, .int (sb_b (μ k i)) :: st) σ Q) : AW g d y (pc, L, .int (nI i) :: .ref (m + o) :: st) σ Q := by
  obtain ⟨f, h1, h2⟩ := hM.2.2.2.2.2 _ hk
  have hn : n ≤ 14000 := (mtb_ok _ hk).2.2.1
  refine aw_bald hr h1 (show vp_in (nI i) n from vp_in_nI hi (by omega)) ?_
  rw [nI_clamp (by omega), (h2 i hi).1]
  exact h
theorem ms_zld (hM : MS g m σ0 σ μ) {k o n i len b0 b1 : Nat} {v0 : Value} (hr : am_find (am_code y) pc = some (.baload, len, v0, b0, b1)) (hk : (k, o, 2, n) ∈ mtb) (hi : i < n) (h : AW g d y (pc + 1, L, .int (nI (μ k i)) :: st) σ Q) : AW g d y (pc, L, .int (nI i) :: .ref (m + o) :: st) σ Q := by
  obtain ⟨f, h1, h2⟩ := hM.2.2.2.2.2 _ hk
  have hn : n ≤ 14000 := (mtb_ok _ hk).2.2.1
  refine aw_zald hr h1 (show vp_in (nI i) n from vp_in_nI hi (by omega)) ?_
  rw [nI_clamp (by omega), (h2 i hi).1]
  exact h
theorem ms_ist (hM : MS g m σ0 σ μ) {k o n i v len b0 b1 : Nat} {v0 : Value} (hr : am_find (am_code y) pc = some (.iastore, len, v0, b0, b1)) (hk : (k, o, 0, n) ∈ mtb) (hi : i < n) (h : ∀ σ', MS g m σ0 σ' (mup μ k i v) → AW g d y (pc + 1, L, st) σ' Q) : AW g d y (pc, L, .int (nI v) :: .int (nI i) :: .ref (m + o) :: st) σ Q := by
  obtain ⟨f, h1, h2⟩ := hM.2.2.2.2.2 _ hk
  have hn : n ≤ 14000 := (mtb_ok _ hk).2.2.1
  refine aw_iast hr (Nat.le_trans hM.1 (Nat.le_add_right _ _)) h1 (show vp_in (nI i) n from vp_in_nI hi (by omega)) ?_
  rw [nI_clamp (by omega)]
  exact h _ (hM.row hk h1 h2 rfl (fun z => by cases z))
theorem ms_zst (hM : MS g m σ0 σ μ) {k o n i v len b0 b1 : Nat} {v0 : Value} (hr : am_find (am_code y) pc = some (.bastore, len, v0, b0, b1)) (hk : (k, o, 2, n) ∈ mtb) (hi : i < n) (hv : v ≤ 1) (h : ∀ σ', MS g m σ0 σ' (mup μ k i v) → AW g d y (pc + 1, L, st) σ' Q) : AW g d y (pc, L, .int (nI v) :: .int (nI i) :: .ref (m + o) :: st) σ Q := by
  obtain ⟨f, h1, h2⟩ := hM.2.2.2.2.2 _ hk
  have hn : n ≤ 14000 := (mtb_ok _ hk).2.2.1
  refine aw_zast hr (Nat.le_trans hM.1 (Nat.le_add_right _ _)) h1 (show vp_in (nI i) n from vp_in_nI hi (by omega)) ?_
  rw [nI_clamp (by omega)]
  refine h _ (hM.row hk h1 h2 ?_ (fun z => by cases z))
  rcases (by omega : v = 0 ∨ v = 1) with rfl | rfl <;> decide
theorem ms_bst (hM : MS g m σ0 σ μ) {k o n i v len b0 b1 : Nat} {x : Int32} {v0 : Value} (hr : am_find (am_code y) pc = some (.bastore, len, v0, b0, b1)) (hk : (k, o, 1, n) ∈ mtb) (hi : i < n) (hx : vp_nar .byte x = sb_b v) (hv : v < 256) (h : ∀ σ', MS g m σ0 σ' (mup μ k i v) → AW g d y (pc + 1, L, st) σ' Q) : AW g d y (pc, L, .int x :: .int (nI i) :: .ref (m + o) :: st) σ Q := by
  obtain ⟨f, h1, h2⟩ := hM.2.2.2.2.2 _ hk
  have hn : n ≤ 14000 := (mtb_ok _ hk).2.2.1
  refine aw_bast hr (Nat.le_trans hM.1 (Nat.le_add_right _ _)) h1 (show vp_in (nI i) n from vp_in_nI hi (by omega)) ?_
  rw [nI_clamp (by omega)]
  exact h _ (hM.row hk h1 h2 hx (fun _ => hv))
theorem MS.fld (hM : MS g m σ0 σ μ) {k v : Nat} (hk : k = 2 ∨ k = 3 ∨ k = 10 ∨ k = 13 ∨ k = 17) : MS g m σ0 (am_set σ m (.inr (6, (mfl m μ).set k (.int (nI v))))) (mup μ k 0 v) := by
  obtain ⟨a1, a2, a3, a4, a5, a6⟩ := hM
  refine ⟨a1, a2.set a5, fun a ha => ?_, a4, ?_, fun q hq => ?_⟩
  · rw [am_set_ne _ _ (by omega)]
    exact a3 a ha
  · rw [am_set_same]
    rcases hk with rfl | rfl | rfl | rfl | rfl <;> rfl
  · obtain ⟨b1, b2, b3, b4, b5, b6, b7, b8⟩ := mtb_ok _ hq
    obtain ⟨f', h1, h2⟩ := a6 q hq
    refine ⟨f', by rw [am_set_ne _ _ (by omega)]; exact h1, fun j hj => ?_⟩
    rw [mup_k μ 0 v (by omega)]
    exact h2 j hj
theorem ms_put (hM : MS g m σ0 σ μ) {i k v len : Nat} {v0 : Value} (hr : am_find (am_code y) pc = some (.putfield i, len, v0, 6, k)) (hk : k = 2 ∨ k = 3 ∨ k = 10 ∨ k = 13 ∨ k = 17) (h : ∀ σ', MS g m σ0 σ' (mup μ k 0 v) → AW g d y (pc + 3, L, st) σ' Q) : AW g d y (pc, L, .int (nI v) :: .ref m :: st) σ Q := by
  have h1 := h _ (hM.fld (v := v) hk)
  rcases hk with rfl | rfl | rfl | rfl | rfl <;> exact aw_put hr hM.1 hM.o (Nat.le_of_ble_eq_true rfl) rfl rfl h1
/-! branches on numbers -/
theorem an_ceq {a b t b1 : Nat} {o : Int} {v : Value} (hr : am_find (am_code y) pc = some (.if_icmp .eq o, 3, v, t, b1)) (ha : a < 2 ^ 31) (hb : b < 2 ^ 31) (h1 : a = b → AW g d y (t, L, st) σ Q) (h2 : ¬ a = b → AW g d y (pc + 3, L, st) σ Q) : AW g d y (pc, L, .int (nI b) :: .int (nI a) :: st) σ Q := aw_ceq hr (fun q => h1 ((nI_eq ha hb).mp q)) (fun q => h2 (fun z => q (by rw [z])))
theorem an_cne {a b t b1 : Nat} {o : Int} {v : Value} (hr : am_find (am_code y) pc = some (.if_icmp .ne o, 3, v, t, b1)) (ha : a < 2 ^ 31) (hb : b < 2 ^ 31) (h1 : ¬ a = b → AW g d y (t, L, st) σ Q) (h2 : a = b → AW g d y (pc + 3, L, st) σ Q) : AW g d y (pc, L, .int (nI b) :: .int (nI a) :: st) σ Q := aw_cne hr (fun q => h1 (fun z => q (by rw [z]))) (fun q => h2 ((nI_eq ha hb).mp (Decidable.of_not_not q)))
theorem an_clt {a b t b1 : Nat} {o : Int} {v : Value} (hr : am_find (am_code y) pc = some (.if_icmp .lt o, 3, v, t, b1)) (ha : a < 2 ^ 31) (hb : b < 2 ^ 31) (h1 : a < b → AW g d y (t, L, st) σ Q) (h2 : b ≤ a → AW g d y (pc + 3, L, st) σ Q) : AW g d y (pc, L, .int (nI b) :: .int (nI a) :: st) σ Q := aw_clt hr (fun q => h1 ((nI_ltI ha hb).mp q)) (fun q => h2 (Nat.not_lt.mp (fun z => q ((nI_ltI ha hb).mpr z))))
theorem an_cge {a b t b1 : Nat} {o : Int} {v : Value} (hr : am_find (am_code y) pc = some (.if_icmp .ge o, 3, v, t, b1)) (ha : a < 2 ^ 31) (hb : b < 2 ^ 31) (h1 : b ≤ a → AW g d y (t, L, st) σ Q) (h2 : a < b → AW g d y (pc + 3, L, st) σ Q) : AW g d y (pc, L, .int (nI b) :: .int (nI a) :: st) σ Q := aw_cge hr (fun q => h1 ((nI_leI hb ha).mp q)) (fun q => h2 (Nat.not_le.mp (fun z => q ((nI_leI hb ha).mpr z))))
theorem an_cgt {a b t b1 : Nat} {o : Int} {v : Value} (hr : am_find (am_code y) pc = some (.if_icmp .gt o, 3, v, t, b1)) (ha : a < 2 ^ 31) (hb : b < 2 ^ 31) (h1 : b < a → AW g d y (t, L, st) σ Q) (h2 : a ≤ b → AW g d y (pc + 3, L, st) σ Q) : AW g d y (pc, L, .int (nI b) :: .int (nI a) :: st) σ Q := aw_cgt hr (fun q => h1 ((nI_ltI hb ha).mp q)) (fun q => h2 (Nat.not_lt.mp (fun z => q ((nI_ltI hb ha).mpr z))))
theorem an_cle {a b t b1 : Nat} {o : Int} {v : Value} (hr : am_find (am_code y) pc = some (.if_icmp .le o, 3, v, t, b1)) (ha : a < 2 ^ 31) (hb : b < 2 ^ 31) (h1 : a ≤ b → AW g d y (t, L, st) σ Q) (h2 : b < a → AW g d y (pc + 3, L, st) σ Q) : AW g d y (pc, L, .int (nI b) :: .int (nI a) :: st) σ Q := aw_cle hr (fun q => h1 ((nI_leI ha hb).mp q)) (fun q => h2 (Nat.not_le.mp (fun z => q ((nI_leI ha hb).mpr z))))
theorem an_zeq {a t b1 : Nat} {o : Int} {v : Value} (hr : am_find (am_code y) pc = some (.ifCond .eq o, 3, v, t, b1)) (ha : a < 2 ^ 31) (h1 : a = 0 → AW g d y (t, L, st) σ Q) (h2 : ¬ a = 0 → AW g d y (pc + 3, L, st) σ Q) : AW g d y (pc, L, .int (nI a) :: st) σ Q := aw_zeq hr (fun q => h1 ((nI_eq ha (by omega)).mp (q.trans nI_0.symm))) (fun q => h2 (fun z => q (by rw [z, nI_0])))
theorem an_zne {a t b1 : Nat} {o : Int} {v : Value} (hr : am_find (am_code y) pc = some (.ifCond .ne o, 3, v, t, b1)) (ha : a < 2 ^ 31) (h1 : ¬ a = 0 → AW g d y (t, L, st) σ Q) (h2 : a = 0 → AW g d y (pc + 3, L, st) σ Q) : AW g d y (pc, L, .int (nI a) :: st) σ Q := aw_zne hr (fun q => h1 (fun z => q (by rw [z, nI_0]))) (fun q => h2 ((nI_eq ha (by omega)).mp ((Decidable.of_not_not q).trans nI_0.symm)))
theorem an_zlt {a t b1 : Nat} {o : Int} {v : Value} (hr : am_find (am_code y) pc = some (.ifCond .lt o, 3, v, t, b1)) (ha : a < 2 ^ 31) (h2 : AW g d y (pc + 3, L, st) σ Q) : AW g d y (pc, L, .int (nI a) :: st) σ Q := aw_zlt hr (fun q => absurd q (nI_pos ha)) (fun _ => h2)
theorem an_zge {a t b1 : Nat} {o : Int} {v : Value} (hr : am_find (am_code y) pc = some (.ifCond .ge o, 3, v, t, b1)) (ha : a < 2 ^ 31) (h2 : AW g d y (t, L, st) σ Q) : AW g d y (pc, L, .int (nI a) :: st) σ Q := aw_zge hr (fun _ => h2) (fun q => absurd (Int32.not_lt.mp (nI_pos ha)) q)
theorem an_zgt {a t b1 : Nat} {o : Int} {v : Value} (hr : am_find (am_code y) pc = some (.ifCond .gt o, 3, v, t, b1)) (ha : a < 2 ^ 31) (h1 : 0 < a → AW g d y (t, L, st) σ Q) (h2 : a = 0 → AW g d y (pc + 3, L, st) σ Q) : AW g d y (pc, L, .int (nI a) :: st) σ Q := aw_zgt hr (fun q => h1 ((nI_ltI (a := 0) (by omega) ha).mp (by rw [nI_0]; exact q))) (fun q => h2 (Nat.eq_zero_of_not_pos (fun z => q (by have := (nI_ltI (a := 0) (by omega) ha).mpr z; rw [nI_0] at this; exact this))))
theorem an_zle {a t b1 : Nat} {o : Int} {v : Value} (hr : am_find (am_code y) pc = some (.ifCond .le o, 3, v, t, b1)) (ha : a < 2 ^ 31) (h1 : a = 0 → AW g d y (t, L, st) σ Q) (h2 : 0 < a → AW g d y (pc + 3, L, st) σ Q) : AW g d y (pc, L, .int (nI a) :: st) σ Q := aw_zle hr (fun q => h1 (by have := (nI_leI (b := 0) ha (by omega)).mp (by rw [nI_0]; exact q); omega)) (fun q => h2 (Nat.pos_of_ne_zero (fun z => q (by rw [z, nI_0]; exact Int32.le_refl _))))
theorem ab_zeq {x t b1 : Nat} {o : Int} {v : Value} (hr : am_find (am_code y) pc = some (.ifCond .eq o, 3, v, t, b1)) (hx : x < 256) (h1 : x = 0 → AW g d y (t, L, st) σ Q) (h2 : ¬ x = 0 → AW g d y (pc + 3, L, st) σ Q) : AW g d y (pc, L, .int (sb_b x) :: st) σ Q := aw_zeq hr (fun q => h1 (sb_inj _ hx _ (by decide) (q.trans (show (0 : Int32) = sb_b 0 by decide)))) (fun q => h2 (fun z => q (by rw [z]; decide)))
theorem ab_zne {x t b1 : Nat} {o : Int} {v : Value} (hr : am_find (am_code y) pc = some (.ifCond .ne o, 3, v, t, b1)) (hx : x < 256) (h1 : ¬ x = 0 → AW g d y (t, L, st) σ Q) (h2 : x = 0 → AW g d y (pc + 3, L, st) σ Q) : AW g d y (pc, L, .int (sb_b x) :: st) σ Q := aw_zne hr (fun q => h1 (fun z => q (by rw [z]; decide))) (fun q => h2 (sb_inj _ hx _ (by decide) ((Decidable.of_not_not q).trans (show (0 : Int32) = sb_b 0 by decide))))
theorem ab_cne {x z t b1 : Nat} {o : Int} {v : Value} (hr : am_find (am_code y) pc = some (.if_icmp .ne o, 3, v, t, b1)) (hx : x < 256) (hz : z < 256) (h1 : ¬ x = z → AW g d y (t, L, st) σ Q) (h2 : x = z → AW g d y (pc + 3, L, st) σ Q) : AW g d y (pc, L, .int (sb_b z) :: .int (sb_b x) :: st) σ Q := aw_cne hr (fun q => h1 (fun w => q (by rw [w]))) (fun q => h2 (sb_inj _ hx _ hz (Decidable.of_not_not q)))
theorem sb_nar0 : ∀ x, x < 256 → vp_nar .byte (sb_b x) = sb_b x := by decide +kernel
theorem sb_255n (x : Nat) (h : x < 256) : sb_b x &&& nI 255 = nI x := sb_255 x h
theorem sb_nar00 : vp_nar .byte (nI 0) = sb_b 0 := by decide
end P65
