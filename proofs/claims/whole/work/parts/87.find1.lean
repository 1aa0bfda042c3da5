/-! finding: names of steps, the pile, the leaves -/
def lvl (β : Nat → Nat) (v : sp_V) (lo wd p : Nat) : Prop := sp_hgt v.2 ≤ 16 ∧ lo ≤ p ∧ ∃ q, q ≤ lo + wd ∧ lyV β v p q
def plx (μ : sp_M) (β : Nat → Nat) (lo wd : Nat) (bs : List (sp_V × Nat)) : Prop := ∀ t x, bs[t]? = some x → μ 14 t = x.1.1.1 ∧ μ 16 t = x.2 ∧ lvl β x.1 lo wd (μ 15 t)
def lfs (μ : sp_M) (β : Nat → Nat) (lo wd base : Nat) (L : List sp_V) : Prop := μ 10 0 = L.length ∧ ∀ k v, k < 500 → L[k]? = some v → μ 11 (base + k) = v.1.1 ∧ lvd β v lo wd (μ 12 (base + k))
/-- what finding leaves as it was -/
def ffr (base : Nat) (μ μ' : sp_M) : Prop := (∀ f, f < 10 ∨ 17 ≤ f → μ' f = μ f) ∧ ∀ i, i < base ∨ base + 500 ≤ i → μ' 11 i = μ 11 i ∧ μ' 12 i = μ 12 i
theorem ffr.rf {base : Nat} {μ : sp_M} : ffr base μ μ := ⟨fun _ _ => rfl, fun _ _ => ⟨rfl, rfl⟩⟩
theorem ffr.tr {base : Nat} {μ μ' μ'' : sp_M} (h : ffr base μ μ') (h' : ffr base μ' μ'') : ffr base μ μ'' := ⟨fun f hf => (h'.1 f hf).trans (h.1 f hf), fun i hi => ⟨(h'.2 i hi).1.trans (h.2 i hi).1, (h'.2 i hi).2.trans (h.2 i hi).2⟩⟩
theorem ffr.up {base : Nat} {μ μ' : sp_M} {k i v : Nat} (h : ffr base μ μ') (hk : k = 10 ∨ k = 13 ∨ k = 14 ∨ k = 15 ∨ k = 16) : ffr base μ (mup μ' k i v) := by
  refine ⟨fun f hf => ?_, fun j hj => ?_⟩
  · rw [mup_k _ _ _ (by omega)]
    exact h.1 f hf
  · rw [mup_k _ _ _ (by omega), mup_k _ _ _ (by omega)]
    exact h.2 j hj
theorem ffr.up2 {base : Nat} {μ μ' : sp_M} {k i v : Nat} (h : ffr base μ μ') (hk : k = 11 ∨ k = 12) (hi : base ≤ i ∧ i < base + 500) : ffr base μ (mup μ' k i v) := by
  refine ⟨fun f hf => ?_, fun j hj => ?_⟩
  · rw [mup_k _ _ _ (by omega)]
    exact h.1 f hf
  · have hji : j ≠ i := by omega
    have := h.2 j hj
    rcases hk with rfl | rfl
    · rw [mup_i _ _ _ hji, mup_k _ _ _ (by decide)]
      exact this
    · rw [mup_i _ _ _ hji, mup_k _ _ _ (by decide)]
      exact this
theorem plx.kept {μ μ' : sp_M} {β : Nat → Nat} {lo wd : Nat} {bs : List (sp_V × Nat)} (h : plx μ β lo wd bs) (e : ∀ t, t < bs.length → μ' 14 t = μ 14 t ∧ μ' 15 t = μ 15 t ∧ μ' 16 t = μ 16 t) : plx μ' β lo wd bs := by
  intro t x hx
  have ht := (List.getElem?_eq_some_iff.mp hx).1
  obtain ⟨e1, e2, e3⟩ := e t ht
  rw [e1, e2, e3]
  exact h t x hx
theorem plx.pre {μ : sp_M} {β : Nat → Nat} {lo wd : Nat} {bs cs : List (sp_V × Nat)} (h : plx μ β lo wd (bs ++ cs)) : plx μ β lo wd bs := fun t x hx => h t x (by rw [List.getElem?_append_left (List.getElem?_eq_some_iff.mp hx).1]; exact hx)
theorem plx.push {μ : sp_M} {β : Nat → Nat} {lo wd p : Nat} {bs : List (sp_V × Nat)} {v : sp_V} {s : Nat} (h : plx μ β lo wd bs) (hv : lvl β v lo wd p) : plx (mup (mup (mup (mup μ 14 bs.length v.1.1) 15 bs.length p) 16 bs.length s) 13 0 (bs.length + 1)) β lo wd (bs ++ [(v, s)]) := by
  intro t x hx
  rw [mup_k _ _ _ (show (14 : Nat) ≠ 13 by decide), mup_k _ _ _ (show (15 : Nat) ≠ 13 by decide), mup_k _ _ _ (show (16 : Nat) ≠ 13 by decide), mup_k _ _ _ (show (14 : Nat) ≠ 16 by decide), mup_k _ _ _ (show (15 : Nat) ≠ 16 by decide), mup_k _ _ _ (show (14 : Nat) ≠ 15 by decide)]
  by_cases e : t = bs.length
  · subst e
    rw [app_eq] at hx
    cases hx
    rw [mup_s, mup_s, mup_s]
    exact ⟨rfl, rfl, hv⟩
  · have ht : t < bs.length := by
      have := (List.getElem?_eq_some_iff.mp hx).1
      simp at this
      omega
    rw [List.getElem?_append_left ht] at hx
    rw [mup_i _ _ _ e, mup_i _ _ _ e, mup_i _ _ _ e, mup_k _ _ _ (show (15 : Nat) ≠ 14 by decide), mup_k _ _ _ (show (16 : Nat) ≠ 15 by decide), mup_k _ _ _ (show (16 : Nat) ≠ 14 by decide)]
    exact h t x hx
theorem lfs.add {μ : sp_M} {β : Nat → Nat} {lo wd base p : Nat} {L : List sp_V} {v : sp_V} (h : lfs μ β lo wd base L) (hl : L.length < 500) (hv : lvd β v lo wd p) : lfs (mup (mup (mup μ 11 (base + L.length) v.1.1) 12 (base + L.length) p) 10 0 (L.length + 1)) β lo wd base (L ++ [v]) := by
  refine ⟨by rw [mup_s]; simp, fun k x hk hx => ?_⟩
  rw [mup_k _ _ _ (show (11 : Nat) ≠ 10 by decide), mup_k _ _ _ (show (12 : Nat) ≠ 10 by decide), mup_k _ _ _ (show (11 : Nat) ≠ 12 by decide)]
  by_cases e : k = L.length
  · subst e
    rw [app_eq] at hx
    cases hx
    rw [mup_s, mup_s]
    exact ⟨rfl, hv⟩
  · have ht : k < L.length := by
      have := (List.getElem?_eq_some_iff.mp hx).1
      simp at this
      omega
    rw [List.getElem?_append_left ht] at hx
    rw [mup_i _ _ _ (by omega), mup_i _ _ _ (by omega), mup_k _ _ _ (show (12 : Nat) ≠ 11 by decide)]
    exact h.2 k x hk hx
theorem lfs.over {μ : sp_M} {β : Nat → Nat} {lo wd base : Nat} {L : List sp_V} {v : sp_V} (h : lfs μ β lo wd base L) (hl : 500 ≤ L.length) : lfs (mup μ 10 0 (L.length + 1)) β lo wd base (L ++ [v]) := by
  refine ⟨by rw [mup_s]; simp, fun k x hk hx => ?_⟩
  rw [mup_k _ _ _ (by decide), mup_k _ _ _ (by decide)]
  rw [List.getElem?_append_left (by omega)] at hx
  exact h.2 k x hk hx
theorem lfs.kept {μ μ' : sp_M} {β : Nat → Nat} {lo wd base : Nat} {L : List sp_V} (h : lfs μ β lo wd base L) (e1 : μ' 10 = μ 10) (e2 : μ' 11 = μ 11) (e3 : μ' 12 = μ 12) : lfs μ' β lo wd base L := by
  unfold lfs
  rw [e1, e2, e3]
  exact h
theorem lvl.d {β : Nat → Nat} {v : sp_V} {lo wd p : Nat} (h : lvl β v lo wd p) (hl : lo + wd ≤ 14000) : lvd β v lo wd p := by
  obtain ⟨h1, h2, q, h3, h4⟩ := h
  have := ly1.le h4
  exact ⟨h1, by omega, Or.inr ⟨h2, q, h3, h4⟩⟩
theorem miss_d {β : Nat → Nat} {lo wd : Nat} : lvd β sp_miss lo wd 0 := ⟨Nat.zero_le _, Nat.zero_le _, Or.inl rfl⟩
section P87
variable {g : Nat × Nat} {d : Nat} {σ0 σ : am_H} {Q : Option Value → am_H → Prop} {m : Nat} {μ : sp_M}
/-- isStep -/
theorem m_isL (hM : MS g m σ0 σ μ) {a s step c t : Nat} (ha : nmd (μ 1) a s) (hc : μ 4 step = c) (hb : nmd (μ 5) c t) (hs : s < 14000) (ht : t < 2010) (hst : step < 10) (g1 : sp_sub (μ 1) a s = sp_sub (μ 5) c t → Q (some (.int 1)) σ) (g0 : ¬ sp_sub (μ 1) a s = sp_sub (μ 5) c t → Q (some (.int 0)) σ) : ∀ (n k : Nat), s - (a + k) < n → a + k ≤ s → c + k ≤ t → (∀ i, i < k → μ 1 (a + i) = μ 5 (c + i)) → AW g d 89 (2, [some (.ref m), some (.int (nI a)), some (.int (nI step)), some (.int (nI k))], []) σ Q := by
  intro n
  induction n with
  | zero => intro k hk; omega
  | succ n ih =>
    intro k hk h5 h6 hp
    refine aw_run 1 (F' := (3, [some (.ref m), some (.int (nI a)), some (.int (nI step)), some (.int (nI k))], [.ref m])) rfl ?_
    refine aw_get rfl hM.o rfl ?_
    refine aw_run 3 (F' := (9, [some (.ref m), some (.int (nI a)), some (.int (nI step)), some (.int (nI k))], [.int (nI a + nI k), .ref (m + 1)])) rfl ?_
    rw [nI_add]
    refine ms_bld hM rfl (k := 1) (n := 14000) (by decide) (by omega) ?_
    refine aw_run 1 (F' := (11, [some (.ref m), some (.int (nI a)), some (.int (nI step)), some (.int (nI k))], [.ref m, .int (sb_b (μ 1 (a + k)))])) rfl ?_
    refine aw_get rfl hM.o rfl ?_
    refine aw_run 1 (F' := (15, [some (.ref m), some (.int (nI a)), some (.int (nI step)), some (.int (nI k))], [.ref m, .ref (m + 3), .int (sb_b (μ 1 (a + k)))])) rfl ?_
    refine aw_get rfl hM.o rfl ?_
    refine aw_run 1 (F' := (19, [some (.ref m), some (.int (nI a)), some (.int (nI step)), some (.int (nI k))], [.int (nI step), .ref (m + 2), .ref (m + 3), .int (sb_b (μ 1 (a + k)))])) rfl ?_
    refine ms_ild hM rfl (k := 4) (n := 10) (by decide) (by omega) ?_
    rw [show μ 4 step = c from hc]
    refine aw_run 2 (F' := (22, [some (.ref m), some (.int (nI a)), some (.int (nI step)), some (.int (nI k))], [.int (nI c + nI k), .ref (m + 3), .int (sb_b (μ 1 (a + k)))])) rfl ?_
    rw [nI_add]
    refine ms_bld hM rfl (k := 5) (n := 2010) (by decide) (by omega) ?_
    refine ab_cne rfl (hM.by (by omega)) (hM.by5 (by omega)) (fun h1 => ?_) (fun h1 => ?_)
    · refine aw_run 1 (F' := (44, [some (.ref m), some (.int (nI a)), some (.int (nI step)), some (.int (nI k))], [.ref m])) rfl ?_
      refine aw_get rfl hM.o rfl ?_
      refine aw_run 3 (F' := (50, [some (.ref m), some (.int (nI a)), some (.int (nI step)), some (.int (nI k))], [.int (nI a + nI k), .ref (m + 1)])) rfl ?_
      rw [nI_add]
      refine ms_bld hM rfl (k := 1) (n := 14000) (by decide) (by omega) ?_
      refine aw_run 1 (F' := (52, [some (.ref m), some (.int (nI a)), some (.int (nI step)), some (.int (nI k))], [.ref m, .int (sb_b (μ 1 (a + k)))])) rfl ?_
      refine aw_get rfl hM.o rfl ?_
      refine aw_run 1 (F' := (56, [some (.ref m), some (.int (nI a)), some (.int (nI step)), some (.int (nI k))], [.ref m, .ref (m + 3), .int (sb_b (μ 1 (a + k)))])) rfl ?_
      refine aw_get rfl hM.o rfl ?_
      refine aw_run 1 (F' := (60, [some (.ref m), some (.int (nI a)), some (.int (nI step)), some (.int (nI k))], [.int (nI step), .ref (m + 2), .ref (m + 3), .int (sb_b (μ 1 (a + k)))])) rfl ?_
      refine ms_ild hM rfl (k := 4) (n := 10) (by decide) (by omega) ?_
      rw [show μ 4 step = c from hc]
      refine aw_run 2 (F' := (63, [some (.ref m), some (.int (nI a)), some (.int (nI step)), some (.int (nI k))], [.int (nI c + nI k), .ref (m + 3), .int (sb_b (μ 1 (a + k)))])) rfl ?_
      rw [nI_add]
      refine ms_bld hM rfl (k := 5) (n := 2010) (by decide) (by omega) ?_
      refine ab_cne rfl (hM.by (by omega)) (hM.by5 (by omega)) (fun h2 => ?_) (fun h2 => ?_)
      · refine aw_run 1 (F' := (72, [some (.ref m), some (.int (nI a)), some (.int (nI step)), some (.int (nI k))], [.int (nI 0)])) rfl ?_
        exact aw_iret rfl ⟨_, rfl, rfl⟩ (g0 (sub_ne ha hb h5 h6 (by assumption)))
      · exact absurd h2 h1
    · refine aw_run 1 (F' := (27, [some (.ref m), some (.int (nI a)), some (.int (nI step)), some (.int (nI k))], [.ref m])) rfl ?_
      refine aw_get rfl hM.o rfl ?_
      refine aw_run 3 (F' := (33, [some (.ref m), some (.int (nI a)), some (.int (nI step)), some (.int (nI k))], [.int (nI a + nI k), .ref (m + 1)])) rfl ?_
      rw [nI_add]
      refine ms_bld hM rfl (k := 1) (n := 14000) (by decide) (by omega) ?_
      refine ab_zeq rfl (hM.by (by omega)) (fun h3 => ?_) (fun h3 => ?_)
      · refine aw_run 1 (F' := (44, [some (.ref m), some (.int (nI a)), some (.int (nI step)), some (.int (nI k))], [.ref m])) rfl ?_
        refine aw_get rfl hM.o rfl ?_
        refine aw_run 3 (F' := (50, [some (.ref m), some (.int (nI a)), some (.int (nI step)), some (.int (nI k))], [.int (nI a + nI k), .ref (m + 1)])) rfl ?_
        rw [nI_add]
        refine ms_bld hM rfl (k := 1) (n := 14000) (by decide) (by omega) ?_
        refine aw_run 1 (F' := (52, [some (.ref m), some (.int (nI a)), some (.int (nI step)), some (.int (nI k))], [.ref m, .int (sb_b (μ 1 (a + k)))])) rfl ?_
        refine aw_get rfl hM.o rfl ?_
        refine aw_run 1 (F' := (56, [some (.ref m), some (.int (nI a)), some (.int (nI step)), some (.int (nI k))], [.ref m, .ref (m + 3), .int (sb_b (μ 1 (a + k)))])) rfl ?_
        refine aw_get rfl hM.o rfl ?_
        refine aw_run 1 (F' := (60, [some (.ref m), some (.int (nI a)), some (.int (nI step)), some (.int (nI k))], [.int (nI step), .ref (m + 2), .ref (m + 3), .int (sb_b (μ 1 (a + k)))])) rfl ?_
        refine ms_ild hM rfl (k := 4) (n := 10) (by decide) (by omega) ?_
        rw [show μ 4 step = c from hc]
        refine aw_run 2 (F' := (63, [some (.ref m), some (.int (nI a)), some (.int (nI step)), some (.int (nI k))], [.int (nI c + nI k), .ref (m + 3), .int (sb_b (μ 1 (a + k)))])) rfl ?_
        rw [nI_add]
        refine ms_bld hM rfl (k := 5) (n := 2010) (by decide) (by omega) ?_
        refine ab_cne rfl (hM.by (by omega)) (hM.by5 (by omega)) (fun h4 => ?_) (fun h4 => ?_)
        · exact absurd h1 h4
        · refine aw_run 2 (F' := (72, [some (.ref m), some (.int (nI a)), some (.int (nI step)), some (.int (nI k))], [.int (nI 1)])) rfl ?_
          exact aw_iret rfl ⟨_, rfl, rfl⟩ (g1 (sub_eq ha hb h5 h6 hp (by assumption) (by assumption)))
      · refine aw_run 1 (F' := (40, [some (.ref m), some (.int (nI a)), some (.int (nI step)), some (.int (nI k + nI 1))], [])) rfl ?_
        rw [nI_add]
        refine aw_run 1 (F' := (2, [some (.ref m), some (.int (nI a)), some (.int (nI step)), some (.int (nI (k + 1)))], [])) rfl ?_
        refine ih (k + 1) ?_ (ha.st h5 h3) (hb.st h6 (fun z => h3 (h1.trans z))) (fun i hi => ?_)
        · have := ha.st h5 h3
          omega
        · by_cases e : i = k
          · rw [e]; exact h1
          · exact hp i (by omega)
theorem m_is (hM : MS g m σ0 σ μ) {a s step t : Nat} (ha : nmd (μ 1) a s) (hb : nmd (μ 5) (μ 4 step) t) (hs : s < 14000) (ht : t < 2010) (hst : step < 10) (g1 : sp_sub (μ 1) a s = sp_sub (μ 5) (μ 4 step) t → Q (some (.int 1)) σ) (g0 : ¬ sp_sub (μ 1) a s = sp_sub (μ 5) (μ 4 step) t → Q (some (.int 0)) σ) : AW g d 89 (0, [some (.ref m), some (.int (nI a)), some (.int (nI step)), none], []) σ Q := by
  refine aw_run 2 (F' := (2, [some (.ref m), some (.int (nI a)), some (.int (nI step)), some (.int (nI 0))], [])) rfl ?_
  exact m_isL hM ha rfl hb hs ht hst g1 g0 _ 0 (Nat.lt_succ_self _) ha.1 hb.1 (fun i hi => by omega)
/-- named -/
theorem m_nmdL (hM : MS g m σ0 σ μ) {f e step t : Nat} {row : Bool} {nm : List Nat} (hb : nmd (μ 5) (μ 4 step) t) (ht : t < 2010) (hst : step < 10) (hnm : sp_sub (μ 5) (μ 4 step) t = nm) (he : e ≤ 14000) : ∀ (F : sp_F) (i k : Nat), lyF (μ 1) F row i k e → (sp_fnd nm F = none → Q (some (.int (-1))) σ) → (∀ w k' s q, sp_fnd nm F = some w → k ≤ k' → nmd (μ 1) (k' + 1) s → μ 1 k' = w.1.1 → lyV (μ 1) w (s + 1) q → q ≤ e → s < e → Q (some (.int (nI k'))) σ) → AW g (d + 3) 88 (15, [some (.ref m), some (.int (nI f)), some (.int (nI step)), some (.int (nI e)), some (.int (nI k))], []) σ Q := by
  intro F
  induction F with
  | leaf =>
    intro i k hl g0 g1
    have hl' : k = e := hl
    subst hl'
    refine aw_run 2 (F' := (18, [some (.ref m), some (.int (nI f)), some (.int (nI step)), some (.int (nI k)), some (.int (nI k))], [.int (nI k), .int (nI k)])) rfl ?_
    refine an_cge rfl (by omega) (by omega) (fun h1 => ?_) (fun h1 => ?_)
    · refine aw_run 1 (F' := (63, [some (.ref m), some (.int (nI f)), some (.int (nI step)), some (.int (nI k)), some (.int (nI k))], [.int ((-1))])) rfl ?_
      exact aw_iret rfl ⟨_, rfl, rfl⟩ (g0 rfl)
    · omega
  | inner sz b u c r ih1 ih2 =>
    intro i k hl g0 g1
    obtain ⟨s', q, z1, z2, z3, z4, z5, z6, z7, z8⟩ := hl
    have y1 := z1.1
    have y2 := z6.le
    have y3 := z6.bh
    have y4 : b.1 = 2 ∨ b.1 = 3 ∨ b.1 = 4 → s' + 1 + 3 < 14000 := by
      unfold ly1 at z6
      omega
    refine aw_run 2 (F' := (18, [some (.ref m), some (.int (nI f)), some (.int (nI step)), some (.int (nI e)), some (.int (nI k))], [.int (nI e), .int (nI k)])) rfl ?_
    refine an_cge rfl (by omega) (by omega) (fun h1 => ?_) (fun h1 => ?_)
    · omega
    · refine aw_run 4 (F' := (26, [some (.ref m), some (.int (nI f)), some (.int (nI step)), some (.int (nI e)), some (.int (nI k))], [.int (nI k + nI 1), .ref m])) rfl ?_
      rw [nI_add]
      refine aw_run 1 (F' := (27, [some (.ref m), some (.int (nI f)), some (.int (nI step)), some (.int (nI e)), some (.int (nI k))], [.int (nI step), .int (nI (k + 1)), .ref m])) rfl ?_
      refine aw_v [.ref m, .int (nI (k + 1)), .int (nI step)] [] rfl (by decide) rfl hM.o rfl rfl (Nat.le_of_ble_eq_true rfl) (Nat.le_of_ble_eq_true rfl) ?_
      refine m_is hM z1 hb (by omega) ht hst (fun y => ?_) (fun y => ?_)
      · rw [hnm, ← z4] at y
        show AW g _ 88 (30, [some (.ref m), some (.int (nI f)), some (.int (nI step)), some (.int (nI e)), some (.int (nI k))], [.int (nI 1)]) σ _
        refine an_zeq rfl (by omega) (fun z => absurd z (by omega)) (fun _ => ?_)
        refine aw_run 1 (F' := (35, [some (.ref m), some (.int (nI f)), some (.int (nI step)), some (.int (nI e)), some (.int (nI k))], [.int (nI k)])) rfl ?_
        exact aw_iret rfl ⟨_, rfl, rfl⟩ (g1 (b, c) k s' q (if_pos y) (Nat.le_refl _) z1 z3 z6 z7 z2)
      · rw [hnm, ← z4] at y
        show AW g _ 88 (30, [some (.ref m), some (.int (nI f)), some (.int (nI step)), some (.int (nI e)), some (.int (nI k))], [.int (nI 0)]) σ _
        refine an_zeq rfl (by omega) (fun _ => ?_) (fun z => absurd z (by omega))
        refine aw_run 3 (F' := (40, [some (.ref m), some (.int (nI f)), some (.int (nI step)), some (.int (nI e)), some (.int (nI k))], [.int (nI k), .ref m, .ref m])) rfl ?_
        refine aw_v [.ref m, .int (nI k)] [.ref m] rfl (by decide) rfl hM.o rfl rfl (Nat.le_of_ble_eq_true rfl) (Nat.le_of_ble_eq_true rfl) ?_
        have hB1 := hM.by (i := k) (by omega)
        refine m_at hM (by omega) ?_
        show AW g _ 88 (43, [some (.ref m), some (.int (nI f)), some (.int (nI step)), some (.int (nI e)), some (.int (nI k))], [.int (nI (μ 1 k)), .ref m]) σ _
        refine aw_run 4 (F' := (48, [some (.ref m), some (.int (nI f)), some (.int (nI step)), some (.int (nI e)), some (.int (nI k))], [.int (nI k + nI 1), .ref m, .int (nI (μ 1 k)), .ref m])) rfl ?_
        rw [nI_add]
        refine aw_run 1 (F' := (49, [some (.ref m), some (.int (nI f)), some (.int (nI step)), some (.int (nI e)), some (.int (nI k))], [.int (nI e), .int (nI (k + 1)), .ref m, .int (nI (μ 1 k)), .ref m])) rfl ?_
        refine aw_v [.ref m, .int (nI (k + 1)), .int (nI e)] [.int (nI (μ 1 k)), .ref m] rfl (by decide) rfl hM.o rfl rfl (Nat.le_of_ble_eq_true rfl) (Nat.le_of_ble_eq_true rfl) ?_
        refine m_nes hM he z1 z2 ?_
        show AW g _ 88 (52, [some (.ref m), some (.int (nI f)), some (.int (nI step)), some (.int (nI e)), some (.int (nI k))], [.int (nI s'), .int (nI (μ 1 k)), .ref m]) σ _
        refine aw_run 2 (F' := (54, [some (.ref m), some (.int (nI f)), some (.int (nI step)), some (.int (nI e)), some (.int (nI k))], [.int (nI s' + nI 1), .int (nI (μ 1 k)), .ref m])) rfl ?_
        rw [nI_add]
        refine aw_v [.ref m, .int (nI (μ 1 k)), .int (nI (s' + 1))] [] rfl (by decide) rfl hM.o rfl rfl (Nat.le_of_ble_eq_true rfl) (Nat.le_of_ble_eq_true rfl) ?_
        refine m_bhd hM (by have := hM.by (i := k) (by omega); omega) (by rw [z3]; exact y4) ?_
        rw [z3, y3]
        show AW g _ 88 (57, [some (.ref m), some (.int (nI f)), some (.int (nI step)), some (.int (nI e)), some (.int (nI k))], [.int (nI q)]) σ _
        refine aw_run 2 (F' := (15, [some (.ref m), some (.int (nI f)), some (.int (nI step)), some (.int (nI e)), some (.int (nI q))], [])) rfl ?_
        have ef : sp_fnd nm (.inner sz b u c r) = sp_fnd nm r := if_neg y
        refine ih2 (i + 1) q z8 (fun z => g0 (ef.trans z)) (fun w k' s q' z a1 a2 a3 a4 a5 a6 => g1 w k' s q' (ef.trans z) (by omega) a2 a3 a4 a5 a6)
theorem m_nmd (hM : MS g m σ0 σ μ) {v : sp_V} {p q step t : Nat} {nm : List Nat} (hl : lyV (μ 1) v p q) (hk : v.1.1 = 3 ∨ v.1.1 = 4) (hq : q ≤ 14000) (hb : nmd (μ 5) (μ 4 step) t) (ht : t < 2010) (hst : step < 10) (hnm : sp_sub (μ 5) (μ 4 step) t = nm) (g0 : sp_fnd nm v.2 = none → Q (some (.int (-1))) σ) (g1 : ∀ w k' s q', sp_fnd nm v.2 = some w → p ≤ k' → nmd (μ 1) (k' + 1) s → μ 1 k' = w.1.1 → lyV (μ 1) w (s + 1) q' → q' ≤ q → s < q → Q (some (.int (nI k'))) σ) : AW g (d + 3) 88 (0, [some (.ref m), some (.int (nI p)), some (.int (nI step)), none, none], []) σ Q := by
  obtain ⟨-, -, n1, n2, n3⟩ := ly_nst hl hk
  refine aw_run 3 (F' := (3, [some (.ref m), some (.int (nI p)), some (.int (nI step)), none, none], [.int (nI p), .ref m, .int (nI p)])) rfl ?_
  refine aw_v [.ref m, .int (nI p)] [.int (nI p)] rfl (by decide) rfl hM.o rfl rfl (Nat.le_of_ble_eq_true rfl) (Nat.le_of_ble_eq_true rfl) ?_
  refine m_whole hM (by omega) ?_
  show AW g _ 88 (6, [some (.ref m), some (.int (nI p)), some (.int (nI step)), none, none], [.int (nI (sp_le (μ 1) p 4)), .int (nI p)]) σ _
  refine aw_run 1 (F' := (7, [some (.ref m), some (.int (nI p)), some (.int (nI step)), none, none], [.int (nI p + nI (sp_le (μ 1) p 4))])) rfl ?_
  rw [nI_add]
  refine aw_run 2 (F' := (9, [some (.ref m), some (.int (nI p)), some (.int (nI step)), none, none], [.int (nI (p + (sp_le (μ 1) p 4)) - nI 1)])) rfl ?_
  rw [nI_sub (by omega)]
  refine aw_run 4 (F' := (13, [some (.ref m), some (.int (nI p)), some (.int (nI step)), some (.int (nI ((p + (sp_le (μ 1) p 4)) - 1))), none], [.int (nI p + nI 4)])) rfl ?_
  rw [nI_add]
  refine aw_run 1 (F' := (15, [some (.ref m), some (.int (nI p)), some (.int (nI step)), some (.int (nI ((p + (sp_le (μ 1) p 4)) - 1))), some (.int (nI (p + 4)))], [])) rfl ?_
  rw [show p + sp_le (μ 1) p 4 - 1 = q - 1 by omega]
  exact m_nmdL hM hb ht hst hnm (by omega) v.2 0 (p + 4) n3 g0 (fun w k' s q' z a1 a2 a3 a4 a5 a6 => g1 w k' s q' z (by omega) a2 a3 a4 (by omega) (by omega))
/-- push -/
theorem m_push (hM : MS g m σ0 σ μ) {kd k s L : Nat} (hL : μ 13 0 = L) (hl : L < 3000) (hQ : ∀ σ', MS g m σ0 σ' (mup (mup (mup (mup μ 14 L kd) 15 L k) 16 L s) 13 0 (L + 1)) → Q none σ') : AW g d 85 (0, [some (.ref m), some (.int (nI kd)), some (.int (nI k)), some (.int (nI s))], []) σ Q := by
  refine aw_run 1 (F' := (1, [some (.ref m), some (.int (nI kd)), some (.int (nI k)), some (.int (nI s))], [.ref m])) rfl ?_
  refine aw_get rfl hM.o rfl ?_
  refine aw_run 1 (F' := (5, [some (.ref m), some (.int (nI kd)), some (.int (nI k)), some (.int (nI s))], [.ref m, .ref (m + 10)])) rfl ?_
  refine aw_get rfl hM.o rfl ?_
  rw [show μ 13 0 = L from hL]
  refine aw_run 1 (F' := (9, [some (.ref m), some (.int (nI kd)), some (.int (nI k)), some (.int (nI s))], [.int (nI kd), .int (nI L), .ref (m + 10)])) rfl ?_
  refine ms_ist hM rfl (k := 14) (n := 3000) (by decide) (by omega) (fun s1 hM1 => ?_)
  refine aw_run 1 (F' := (11, [some (.ref m), some (.int (nI kd)), some (.int (nI k)), some (.int (nI s))], [.ref m])) rfl ?_
  refine aw_get rfl hM1.o rfl ?_
  refine aw_run 1 (F' := (15, [some (.ref m), some (.int (nI kd)), some (.int (nI k)), some (.int (nI s))], [.ref m, .ref (m + 11)])) rfl ?_
  refine aw_get rfl hM1.o rfl ?_
  rw [show (mup μ 14 L kd) 13 0 = L from hL]
  refine aw_run 1 (F' := (19, [some (.ref m), some (.int (nI kd)), some (.int (nI k)), some (.int (nI s))], [.int (nI k), .int (nI L), .ref (m + 11)])) rfl ?_
  refine ms_ist hM1 rfl (k := 15) (n := 3000) (by decide) (by omega) (fun s2 hM2 => ?_)
  refine aw_run 1 (F' := (21, [some (.ref m), some (.int (nI kd)), some (.int (nI k)), some (.int (nI s))], [.ref m])) rfl ?_
  refine aw_get rfl hM2.o rfl ?_
  refine aw_run 1 (F' := (25, [some (.ref m), some (.int (nI kd)), some (.int (nI k)), some (.int (nI s))], [.ref m, .ref (m + 12)])) rfl ?_
  refine aw_get rfl hM2.o rfl ?_
  rw [show (mup (mup μ 14 L kd) 15 L k) 13 0 = L from hL]
  refine aw_run 1 (F' := (29, [some (.ref m), some (.int (nI kd)), some (.int (nI k)), some (.int (nI s))], [.int (nI s), .int (nI L), .ref (m + 12)])) rfl ?_
  refine ms_ist hM2 rfl (k := 16) (n := 3000) (by decide) (by omega) (fun s3 hM3 => ?_)
  refine aw_run 2 (F' := (32, [some (.ref m), some (.int (nI kd)), some (.int (nI k)), some (.int (nI s))], [.ref m, .ref m])) rfl ?_
  refine aw_get rfl hM3.o rfl ?_
  rw [show (mup (mup (mup μ 14 L kd) 15 L k) 16 L s) 13 0 = L from hL]
  refine aw_run 2 (F' := (37, [some (.ref m), some (.int (nI kd)), some (.int (nI k)), some (.int (nI s))], [.int (nI L + nI 1), .ref m])) rfl ?_
  rw [nI_add]
  refine ms_put hM3 rfl (by decide) (fun s4 hM4 => ?_)
  exact aw_vret rfl rfl (hQ _ hM4)
/-- leaf -/
theorem m_leaf (hM : MS g m σ0 σ μ) {base p lo wd kd : Nat} {β : Nat → Nat} {L : List sp_V} {v : sp_V} (hb : base ≤ 500) (hL : lfs μ β lo wd base L) (hl : L.length < 10000) (hv : lvd β v lo wd p) (hkd : kd = v.1.1) (hQ : ∀ σ' μ', MS g m σ0 σ' μ' → ffr base μ μ' → (∀ f, 13 ≤ f → μ' f = μ f) → lfs μ' β lo wd base (L ++ [v]) → Q none σ') : AW g d 87 (0, [some (.ref m), some (.int (nI base)), some (.int (nI kd)), some (.int (nI p))], []) σ Q := by
  subst hkd
  have hL0 := hL.1
  refine aw_run 1 (F' := (1, [some (.ref m), some (.int (nI base)), some (.int (nI v.1.1)), some (.int (nI p))], [.ref m])) rfl ?_
  refine aw_get rfl hM.o rfl ?_
  rw [show μ 10 0 = L.length from hL0]
  refine aw_run 1 (F' := (7, [some (.ref m), some (.int (nI base)), some (.int (nI v.1.1)), some (.int (nI p))], [.int (nI 500), .int (nI L.length)])) rfl ?_
  refine an_cge rfl (by omega) (by omega) (fun h1 => ?_) (fun h1 => ?_)
  · refine aw_run 2 (F' := (36, [some (.ref m), some (.int (nI base)), some (.int (nI v.1.1)), some (.int (nI p))], [.ref m, .ref m])) rfl ?_
    refine aw_get rfl hM.o rfl ?_
    rw [show μ 10 0 = L.length from hL0]
    refine aw_run 2 (F' := (41, [some (.ref m), some (.int (nI base)), some (.int (nI v.1.1)), some (.int (nI p))], [.int (nI L.length + nI 1), .ref m])) rfl ?_
    rw [nI_add]
    refine ms_put hM rfl (by decide) (fun s1 hM1 => ?_)
    exact aw_vret rfl rfl (hQ _ _ hM1 (ffr.up ffr.rf (by decide)) (fun f hf => mup_k _ _ _ (by omega)) (hL.over (by omega)))
  · refine aw_run 1 (F' := (11, [some (.ref m), some (.int (nI base)), some (.int (nI v.1.1)), some (.int (nI p))], [.ref m])) rfl ?_
    refine aw_get rfl hM.o rfl ?_
    refine aw_run 2 (F' := (16, [some (.ref m), some (.int (nI base)), some (.int (nI v.1.1)), some (.int (nI p))], [.ref m, .int (nI base), .ref (m + 8)])) rfl ?_
    refine aw_get rfl hM.o rfl ?_
    rw [show μ 10 0 = L.length from hL0]
    refine aw_run 1 (F' := (20, [some (.ref m), some (.int (nI base)), some (.int (nI v.1.1)), some (.int (nI p))], [.int (nI base + nI L.length), .ref (m + 8)])) rfl ?_
    rw [nI_add]
    refine aw_run 1 (F' := (21, [some (.ref m), some (.int (nI base)), some (.int (nI v.1.1)), some (.int (nI p))], [.int (nI v.1.1), .int (nI (base + L.length)), .ref (m + 8)])) rfl ?_
    refine ms_ist hM rfl (k := 11) (n := 1000) (by decide) (by omega) (fun s2 hM2 => ?_)
    refine aw_run 1 (F' := (23, [some (.ref m), some (.int (nI base)), some (.int (nI v.1.1)), some (.int (nI p))], [.ref m])) rfl ?_
    refine aw_get rfl hM2.o rfl ?_
    refine aw_run 2 (F' := (28, [some (.ref m), some (.int (nI base)), some (.int (nI v.1.1)), some (.int (nI p))], [.ref m, .int (nI base), .ref (m + 9)])) rfl ?_
    refine aw_get rfl hM2.o rfl ?_
    rw [show (mup μ 11 (base + L.length) v.1.1) 10 0 = L.length from hL0]
    refine aw_run 1 (F' := (32, [some (.ref m), some (.int (nI base)), some (.int (nI v.1.1)), some (.int (nI p))], [.int (nI base + nI L.length), .ref (m + 9)])) rfl ?_
    rw [nI_add]
    refine aw_run 1 (F' := (33, [some (.ref m), some (.int (nI base)), some (.int (nI v.1.1)), some (.int (nI p))], [.int (nI p), .int (nI (base + L.length)), .ref (m + 9)])) rfl ?_
    refine ms_ist hM2 rfl (k := 12) (n := 1000) (by decide) (by omega) (fun s3 hM3 => ?_)
    refine aw_run 2 (F' := (36, [some (.ref m), some (.int (nI base)), some (.int (nI v.1.1)), some (.int (nI p))], [.ref m, .ref m])) rfl ?_
    refine aw_get rfl hM3.o rfl ?_
    rw [show (mup (mup μ 11 (base + L.length) v.1.1) 12 (base + L.length) p) 10 0 = L.length from hL0]
    refine aw_run 2 (F' := (41, [some (.ref m), some (.int (nI base)), some (.int (nI v.1.1)), some (.int (nI p))], [.int (nI L.length + nI 1), .ref m])) rfl ?_
    rw [nI_add]
    refine ms_put hM3 rfl (by decide) (fun s4 hM4 => ?_)
    exact aw_vret rfl rfl (hQ _ _ hM4 (ffr.up (ffr.up2 (ffr.up2 ffr.rf (by decide) (by omega)) (by decide) (by omega)) (by decide)) (fun f hf => by rw [mup_k _ _ _ (by omega), mup_k _ _ _ (by omega), mup_k _ _ _ (by omega)]) (hL.add (by omega) hv))
end P87
