/-! the order, with a stack of pairs -/
def ofr (μ : sp_M) (β : Nat → Nat) (t : Nat) (x : sp_F × sp_F) : Prop := ∃ (row : Bool) (i : Nat), lyF β x.1 row i (μ 18 t) (μ 19 t) ∧ lyF β x.2 row i (μ 20 t) (μ 21 t) ∧ μ 22 t = (if row = true then 1 else 0) ∧ μ 19 t ≤ 14000 ∧ μ 21 t ≤ 14000 ∧ sp_hgt x.1 + t ≤ 16
def ofs (μ : sp_M) (β : Nat → Nat) : List (sp_F × sp_F) → Prop
  | [] => True
  | x :: fs => ofr μ β fs.length x ∧ ofs μ β fs
def ores : List (sp_F × sp_F) → Int32
  | [] => 0
  | x :: fs => sp_or (sp_fc x.1 x.2) (ores fs)
def omes : List (sp_F × sp_F) → Nat
  | [] => 0
  | x :: fs => 2 * sp_all x.1 + 1 + omes fs
theorem ofs.kept {μ μ' : sp_M} {β : Nat → Nat} {t : Nat} (h : ∀ k, 18 ≤ k → k ≤ 22 → ∀ j, j < t → μ' k j = μ k j) : ∀ {fs : List (sp_F × sp_F)}, fs.length ≤ t → ofs μ β fs → ofs μ' β fs
  | [], _, _ => trivial
  | x :: fs, hl, ⟨⟨row, i, h1, h2, h3, h4, h5, h6⟩, h7⟩ => by
    have hl' : fs.length < t := hl
    refine ⟨⟨row, i, ?_, ?_, ?_, ?_, ?_, h6⟩, ofs.kept h (by omega) h7⟩
    · rw [h 18 (by omega) (by omega) _ hl', h 19 (by omega) (by omega) _ hl']; exact h1
    · rw [h 20 (by omega) (by omega) _ hl', h 21 (by omega) (by omega) _ hl']; exact h2
    · rw [h 22 (by omega) (by omega) _ hl']; exact h3
    · rw [h 19 (by omega) (by omega) _ hl']; exact h4
    · rw [h 21 (by omega) (by omega) _ hl']; exact h5
theorem sp_or_as (a b c : Int32) : sp_or (sp_or a b) c = sp_or a (sp_or b c) := by
  by_cases h : a = 0
  · rw [h, sp_or_0, sp_or_0]
  · rw [sp_or_n h, sp_or_n h, sp_or_n h]
theorem fc_st (s s' : Nat) (u u' : Unit) (b b' : sp_B) (c c' r r' : sp_F) : sp_fc (.inner s b u c r) (.inner s' b' u' c' r') = sp_or (sp_or (sp_nc (sp_cls b.1) (sp_cls b'.1)) (sp_bc b.2.1 b'.2.1)) (sp_or (sp_vc (b, c) (b', c')) (sp_fc r r')) := by
  show sp_or (sp_nc (sp_cls b.1) (sp_cls b'.1)) (sp_or (sp_bc b.2.1 b'.2.1) (sp_or (sp_or (sp_ic b.2.2.1 b'.2.2.1) (sp_or (sp_bc b.2.2.2 b'.2.2.2) (sp_fc c c'))) (sp_fc r r'))) = _
  by_cases h : sp_nc (sp_cls b.1) (sp_cls b'.1) = 0
  · unfold sp_vc
    rw [h, sp_or_0, sp_or_0, sp_or_0]
  · rw [sp_or_n h, sp_or_as, sp_or_n h]
theorem hgt_in (s : Nat) (b : sp_B) (u : Unit) (c r : sp_F) : sp_hgt c + 1 ≤ sp_hgt (.inner s b u c r) ∧ sp_hgt r ≤ sp_hgt (.inner s b u c r) := ⟨Nat.le_max_left _ _, Nat.le_max_right _ _⟩
theorem ly_b3 {β : Nat → Nat} {v : sp_V} {p q : Nat} (h : lyV β v p q) (hk : v.1.1 = 2 ∨ v.1.1 = 3 ∨ v.1.1 = 4) (hq : q ≤ 14000) : p + 3 < 14000 := by
  unfold lyV ly1 at h
  omega
section P81
variable {g : Nat × Nat} {d : Nat} {σ0 σ : am_H} {Q : Option Value → am_H → Prop} {m : Nat} {μ : sp_M}
variable {kA a kB b : Nat}
/-- the loop's end -/
theorem m_ordE {x6 x7 x8 x9 x10 x11 x12 x13 x14 : Option Value} {gt : Int32} (h : gt ≠ 0) (hQ : Q (some (.int gt)) σ) : AW g d 78 (16, [some (.ref m), some (.int (nI kA)), some (.int (nI a)), some (.int (nI kB)), some (.int (nI b)), some (.int (gt)), x6, x7, x8, x9, x10, x11, x12, x13, x14], []) σ Q := by
  refine aw_run 1 (F' := (18, [some (.ref m), some (.int (nI kA)), some (.int (nI a)), some (.int (nI kB)), some (.int (nI b)), some (.int (gt)), x6, x7, x8, x9, x10, x11, x12, x13, x14], [.int (gt)])) rfl ?_
  refine aw_zne rfl (fun h1 => ?_) (fun h1 => ?_)
  · refine aw_run 1 (F' := (339, [some (.ref m), some (.int (nI kA)), some (.int (nI a)), some (.int (nI kB)), some (.int (nI b)), some (.int (gt)), x6, x7, x8, x9, x10, x11, x12, x13, x14], [.int (gt)])) rfl ?_
    exact aw_iret rfl ⟨_, rfl, rfl⟩ (hQ)
  · exact absurd (Decidable.of_not_not h1) h
theorem m_ord0 {x6 x7 x8 x9 x10 x11 x12 x13 x14 : Option Value} (hM : MS g m σ0 σ μ) (h : μ 17 0 = 0) (hQ : Q (some (.int 0)) σ) : AW g d 78 (16, [some (.ref m), some (.int (nI kA)), some (.int (nI a)), some (.int (nI kB)), some (.int (nI b)), some (.int (nI 0)), x6, x7, x8, x9, x10, x11, x12, x13, x14], []) σ Q := by
  refine aw_run 1 (F' := (18, [some (.ref m), some (.int (nI kA)), some (.int (nI a)), some (.int (nI kB)), some (.int (nI b)), some (.int (nI 0)), x6, x7, x8, x9, x10, x11, x12, x13, x14], [.int (nI 0)])) rfl ?_
  refine an_zne rfl (by omega) (fun z => absurd z (by omega)) (fun _ => ?_)
  refine aw_run 1 (F' := (22, [some (.ref m), some (.int (nI kA)), some (.int (nI a)), some (.int (nI kB)), some (.int (nI b)), some (.int (nI 0)), x6, x7, x8, x9, x10, x11, x12, x13, x14], [.ref m])) rfl ?_
  refine aw_get rfl hM.o rfl ?_
  rw [show μ 17 0 = 0 from h]
  refine an_zle rfl (by omega) (fun _ => ?_) (fun z => absurd z (by omega))
  refine aw_run 1 (F' := (339, [some (.ref m), some (.int (nI kA)), some (.int (nI a)), some (.int (nI kB)), some (.int (nI b)), some (.int (nI 0)), x6, x7, x8, x9, x10, x11, x12, x13, x14], [.int (nI 0)])) rfl ?_
  exact aw_iret rfl ⟨_, rfl, rfl⟩ (hQ)
theorem m_ordLL (hM : MS g m σ0 σ μ) {t pA eA pB eB : Nat} (f17 : μ 17 0 = t + 1) (ht : t ≤ 16) (fA : μ 18 t = pA) (gA : μ 19 t = eA) (fB : μ 20 t = pB) (gB : μ 21 t = eB) (hA : eA ≤ 14000) (hB : eB ≤ 14000) {x6 x7 x8 x9 x10 x11 x12 x13 x14 : Option Value} (hc : pA = eA) (hc' : pB = eB) (h : ∀ σ', MS g m σ0 σ' (mup μ 17 0 t) → ∀ x6 x7 x8 x9 x10 x11 x12 x13 x14 : Option Value, AW g d 78 (16, [some (.ref m), some (.int (nI kA)), some (.int (nI a)), some (.int (nI kB)), some (.int (nI b)), some (.int (nI 0)), x6, x7, x8, x9, x10, x11, x12, x13, x14], []) σ' Q) : AW g d 78 (16, [some (.ref m), some (.int (nI kA)), some (.int (nI a)), some (.int (nI kB)), some (.int (nI b)), some (.int (nI 0)), x6, x7, x8, x9, x10, x11, x12, x13, x14], []) σ Q := by
  refine aw_run 1 (F' := (18, [some (.ref m), some (.int (nI kA)), some (.int (nI a)), some (.int (nI kB)), some (.int (nI b)), some (.int (nI 0)), x6, x7, x8, x9, x10, x11, x12, x13, x14], [.int (nI 0)])) rfl ?_
  refine an_zne rfl (by omega) (fun z => absurd z (by omega)) (fun _ => ?_)
  refine aw_run 1 (F' := (22, [some (.ref m), some (.int (nI kA)), some (.int (nI a)), some (.int (nI kB)), some (.int (nI b)), some (.int (nI 0)), x6, x7, x8, x9, x10, x11, x12, x13, x14], [.ref m])) rfl ?_
  refine aw_get rfl hM.o rfl ?_
  rw [show μ 17 0 = t + 1 from f17]
  refine an_zle rfl (by omega) (fun h2 => ?_) (fun h2 => ?_)
  · omega
  · refine aw_run 1 (F' := (29, [some (.ref m), some (.int (nI kA)), some (.int (nI a)), some (.int (nI kB)), some (.int (nI b)), some (.int (nI 0)), x6, x7, x8, x9, x10, x11, x12, x13, x14], [.ref m])) rfl ?_
    refine aw_get rfl hM.o rfl ?_
    rw [show μ 17 0 = t + 1 from f17]
    refine aw_run 2 (F' := (34, [some (.ref m), some (.int (nI kA)), some (.int (nI a)), some (.int (nI kB)), some (.int (nI b)), some (.int (nI 0)), x6, x7, x8, x9, x10, x11, x12, x13, x14], [.int (nI (t + 1) - nI 1)])) rfl ?_
    rw [nI_sub (by omega)]
    rw [show (t + 1) - 1 = t from rfl]
    refine aw_run 2 (F' := (37, [some (.ref m), some (.int (nI kA)), some (.int (nI a)), some (.int (nI kB)), some (.int (nI b)), some (.int (nI 0)), some (.int (nI t)), x7, x8, x9, x10, x11, x12, x13, x14], [.ref m])) rfl ?_
    refine aw_get rfl hM.o rfl ?_
    refine aw_run 1 (F' := (42, [some (.ref m), some (.int (nI kA)), some (.int (nI a)), some (.int (nI kB)), some (.int (nI b)), some (.int (nI 0)), some (.int (nI t)), x7, x8, x9, x10, x11, x12, x13, x14], [.int (nI t), .ref (m + 13)])) rfl ?_
    refine ms_ild hM rfl (k := 18) (n := 20) (by decide) (by omega) ?_
    rw [show μ 18 t = pA from fA]
    refine aw_run 2 (F' := (46, [some (.ref m), some (.int (nI kA)), some (.int (nI a)), some (.int (nI kB)), some (.int (nI b)), some (.int (nI 0)), some (.int (nI t)), some (.int (nI pA)), x8, x9, x10, x11, x12, x13, x14], [.ref m])) rfl ?_
    refine aw_get rfl hM.o rfl ?_
    refine aw_run 1 (F' := (51, [some (.ref m), some (.int (nI kA)), some (.int (nI a)), some (.int (nI kB)), some (.int (nI b)), some (.int (nI 0)), some (.int (nI t)), some (.int (nI pA)), x8, x9, x10, x11, x12, x13, x14], [.int (nI t), .ref (m + 15)])) rfl ?_
    refine ms_ild hM rfl (k := 20) (n := 20) (by decide) (by omega) ?_
    rw [show μ 20 t = pB from fB]
    refine aw_run 3 (F' := (57, [some (.ref m), some (.int (nI kA)), some (.int (nI a)), some (.int (nI kB)), some (.int (nI b)), some (.int (nI 0)), some (.int (nI t)), some (.int (nI pA)), some (.int (nI pB)), x9, x10, x11, x12, x13, x14], [.ref m, .int (nI pA)])) rfl ?_
    refine aw_get rfl hM.o rfl ?_
    refine aw_run 1 (F' := (62, [some (.ref m), some (.int (nI kA)), some (.int (nI a)), some (.int (nI kB)), some (.int (nI b)), some (.int (nI 0)), some (.int (nI t)), some (.int (nI pA)), some (.int (nI pB)), x9, x10, x11, x12, x13, x14], [.int (nI t), .ref (m + 14), .int (nI pA)])) rfl ?_
    refine ms_ild hM rfl (k := 19) (n := 20) (by decide) (by omega) ?_
    rw [show μ 19 t = eA from gA]
    refine an_cne rfl (by omega) (by omega) (fun h3 => ?_) (fun h3 => ?_)
    · omega
    · refine aw_run 5 (F' := (76, [some (.ref m), some (.int (nI kA)), some (.int (nI a)), some (.int (nI kB)), some (.int (nI b)), some (.int (nI 0)), some (.int (nI t)), some (.int (nI pA)), some (.int (nI pB)), some (.int (nI 1)), x10, x11, x12, x13, x14], [.ref m, .int (nI pB)])) rfl ?_
      refine aw_get rfl hM.o rfl ?_
      refine aw_run 1 (F' := (81, [some (.ref m), some (.int (nI kA)), some (.int (nI a)), some (.int (nI kB)), some (.int (nI b)), some (.int (nI 0)), some (.int (nI t)), some (.int (nI pA)), some (.int (nI pB)), some (.int (nI 1)), x10, x11, x12, x13, x14], [.int (nI t), .ref (m + 16), .int (nI pB)])) rfl ?_
      refine ms_ild hM rfl (k := 21) (n := 20) (by decide) (by omega) ?_
      rw [show μ 21 t = eB from gB]
      refine an_cne rfl (by omega) (by omega) (fun h4 => ?_) (fun h4 => ?_)
      · omega
      · refine aw_run 4 (F' := (94, [some (.ref m), some (.int (nI kA)), some (.int (nI a)), some (.int (nI kB)), some (.int (nI b)), some (.int (nI 0)), some (.int (nI t)), some (.int (nI pA)), some (.int (nI pB)), some (.int (nI 1)), some (.int (nI 1)), x11, x12, x13, x14], [.int (nI 1)])) rfl ?_
        refine an_zne rfl (by omega) (fun _ => ?_) (fun z => absurd z (by omega))
        refine aw_run 2 (F' := (104, [some (.ref m), some (.int (nI kA)), some (.int (nI a)), some (.int (nI kB)), some (.int (nI b)), some (.int (nI 0)), some (.int (nI t)), some (.int (nI pA)), some (.int (nI pB)), some (.int (nI 1)), some (.int (nI 1)), x11, x12, x13, x14], [.ref m, .ref m])) rfl ?_
        refine aw_get rfl hM.o rfl ?_
        rw [show μ 17 0 = t + 1 from f17]
        refine aw_run 2 (F' := (109, [some (.ref m), some (.int (nI kA)), some (.int (nI a)), some (.int (nI kB)), some (.int (nI b)), some (.int (nI 0)), some (.int (nI t)), some (.int (nI pA)), some (.int (nI pB)), some (.int (nI 1)), some (.int (nI 1)), x11, x12, x13, x14], [.int (nI (t + 1) - nI 1), .ref m])) rfl ?_
        rw [nI_sub (by omega)]
        rw [show (t + 1) - 1 = t from rfl]
        refine ms_put hM rfl (by decide) (fun s1 hM1 => ?_)
        refine aw_run 1 (F' := (114, [some (.ref m), some (.int (nI kA)), some (.int (nI a)), some (.int (nI kB)), some (.int (nI b)), some (.int (nI 0)), some (.int (nI t)), some (.int (nI pA)), some (.int (nI pB)), some (.int (nI 1)), some (.int (nI 1)), x11, x12, x13, x14], [.int (nI 1)])) rfl ?_
        refine an_zeq rfl (by omega) (fun z => absurd z (by omega)) (fun _ => ?_)
        refine aw_run 1 (F' := (119, [some (.ref m), some (.int (nI kA)), some (.int (nI a)), some (.int (nI kB)), some (.int (nI b)), some (.int (nI 0)), some (.int (nI t)), some (.int (nI pA)), some (.int (nI pB)), some (.int (nI 1)), some (.int (nI 1)), x11, x12, x13, x14], [.int (nI 1)])) rfl ?_
        refine an_zeq rfl (by omega) (fun z => absurd z (by omega)) (fun _ => ?_)
        refine aw_run 4 (F' := (16, [some (.ref m), some (.int (nI kA)), some (.int (nI a)), some (.int (nI kB)), some (.int (nI b)), some (.int (nI 0)), some (.int (nI t)), some (.int (nI pA)), some (.int (nI pB)), some (.int (nI 1)), some (.int (nI 1)), x11, x12, x13, x14], [])) rfl ?_
        exact h _ hM1 _ _ _ _ _ _ _ _ _
theorem m_ordLI (hM : MS g m σ0 σ μ) {t pA eA pB eB : Nat} (f17 : μ 17 0 = t + 1) (ht : t ≤ 16) (fA : μ 18 t = pA) (gA : μ 19 t = eA) (fB : μ 20 t = pB) (gB : μ 21 t = eB) (hA : eA ≤ 14000) (hB : eB ≤ 14000) {x6 x7 x8 x9 x10 x11 x12 x13 x14 : Option Value} (hc : pA = eA) (hc' : pB < eB) (h : ∀ σ', MS g m σ0 σ' (mup μ 17 0 t) → ∀ x6 x7 x8 x9 x10 x11 x12 x13 x14 : Option Value, AW g d 78 (16, [some (.ref m), some (.int (nI kA)), some (.int (nI a)), some (.int (nI kB)), some (.int (nI b)), some (.int (-1)), x6, x7, x8, x9, x10, x11, x12, x13, x14], []) σ' Q) : AW g d 78 (16, [some (.ref m), some (.int (nI kA)), some (.int (nI a)), some (.int (nI kB)), some (.int (nI b)), some (.int (nI 0)), x6, x7, x8, x9, x10, x11, x12, x13, x14], []) σ Q := by
  refine aw_run 1 (F' := (18, [some (.ref m), some (.int (nI kA)), some (.int (nI a)), some (.int (nI kB)), some (.int (nI b)), some (.int (nI 0)), x6, x7, x8, x9, x10, x11, x12, x13, x14], [.int (nI 0)])) rfl ?_
  refine an_zne rfl (by omega) (fun z => absurd z (by omega)) (fun _ => ?_)
  refine aw_run 1 (F' := (22, [some (.ref m), some (.int (nI kA)), some (.int (nI a)), some (.int (nI kB)), some (.int (nI b)), some (.int (nI 0)), x6, x7, x8, x9, x10, x11, x12, x13, x14], [.ref m])) rfl ?_
  refine aw_get rfl hM.o rfl ?_
  rw [show μ 17 0 = t + 1 from f17]
  refine an_zle rfl (by omega) (fun h2 => ?_) (fun h2 => ?_)
  · omega
  · refine aw_run 1 (F' := (29, [some (.ref m), some (.int (nI kA)), some (.int (nI a)), some (.int (nI kB)), some (.int (nI b)), some (.int (nI 0)), x6, x7, x8, x9, x10, x11, x12, x13, x14], [.ref m])) rfl ?_
    refine aw_get rfl hM.o rfl ?_
    rw [show μ 17 0 = t + 1 from f17]
    refine aw_run 2 (F' := (34, [some (.ref m), some (.int (nI kA)), some (.int (nI a)), some (.int (nI kB)), some (.int (nI b)), some (.int (nI 0)), x6, x7, x8, x9, x10, x11, x12, x13, x14], [.int (nI (t + 1) - nI 1)])) rfl ?_
    rw [nI_sub (by omega)]
    rw [show (t + 1) - 1 = t from rfl]
    refine aw_run 2 (F' := (37, [some (.ref m), some (.int (nI kA)), some (.int (nI a)), some (.int (nI kB)), some (.int (nI b)), some (.int (nI 0)), some (.int (nI t)), x7, x8, x9, x10, x11, x12, x13, x14], [.ref m])) rfl ?_
    refine aw_get rfl hM.o rfl ?_
    refine aw_run 1 (F' := (42, [some (.ref m), some (.int (nI kA)), some (.int (nI a)), some (.int (nI kB)), some (.int (nI b)), some (.int (nI 0)), some (.int (nI t)), x7, x8, x9, x10, x11, x12, x13, x14], [.int (nI t), .ref (m + 13)])) rfl ?_
    refine ms_ild hM rfl (k := 18) (n := 20) (by decide) (by omega) ?_
    rw [show μ 18 t = pA from fA]
    refine aw_run 2 (F' := (46, [some (.ref m), some (.int (nI kA)), some (.int (nI a)), some (.int (nI kB)), some (.int (nI b)), some (.int (nI 0)), some (.int (nI t)), some (.int (nI pA)), x8, x9, x10, x11, x12, x13, x14], [.ref m])) rfl ?_
    refine aw_get rfl hM.o rfl ?_
    refine aw_run 1 (F' := (51, [some (.ref m), some (.int (nI kA)), some (.int (nI a)), some (.int (nI kB)), some (.int (nI b)), some (.int (nI 0)), some (.int (nI t)), some (.int (nI pA)), x8, x9, x10, x11, x12, x13, x14], [.int (nI t), .ref (m + 15)])) rfl ?_
    refine ms_ild hM rfl (k := 20) (n := 20) (by decide) (by omega) ?_
    rw [show μ 20 t = pB from fB]
    refine aw_run 3 (F' := (57, [some (.ref m), some (.int (nI kA)), some (.int (nI a)), some (.int (nI kB)), some (.int (nI b)), some (.int (nI 0)), some (.int (nI t)), some (.int (nI pA)), some (.int (nI pB)), x9, x10, x11, x12, x13, x14], [.ref m, .int (nI pA)])) rfl ?_
    refine aw_get rfl hM.o rfl ?_
    refine aw_run 1 (F' := (62, [some (.ref m), some (.int (nI kA)), some (.int (nI a)), some (.int (nI kB)), some (.int (nI b)), some (.int (nI 0)), some (.int (nI t)), some (.int (nI pA)), some (.int (nI pB)), x9, x10, x11, x12, x13, x14], [.int (nI t), .ref (m + 14), .int (nI pA)])) rfl ?_
    refine ms_ild hM rfl (k := 19) (n := 20) (by decide) (by omega) ?_
    rw [show μ 19 t = eA from gA]
    refine an_cne rfl (by omega) (by omega) (fun h3 => ?_) (fun h3 => ?_)
    · omega
    · refine aw_run 5 (F' := (76, [some (.ref m), some (.int (nI kA)), some (.int (nI a)), some (.int (nI kB)), some (.int (nI b)), some (.int (nI 0)), some (.int (nI t)), some (.int (nI pA)), some (.int (nI pB)), some (.int (nI 1)), x10, x11, x12, x13, x14], [.ref m, .int (nI pB)])) rfl ?_
      refine aw_get rfl hM.o rfl ?_
      refine aw_run 1 (F' := (81, [some (.ref m), some (.int (nI kA)), some (.int (nI a)), some (.int (nI kB)), some (.int (nI b)), some (.int (nI 0)), some (.int (nI t)), some (.int (nI pA)), some (.int (nI pB)), some (.int (nI 1)), x10, x11, x12, x13, x14], [.int (nI t), .ref (m + 16), .int (nI pB)])) rfl ?_
      refine ms_ild hM rfl (k := 21) (n := 20) (by decide) (by omega) ?_
      rw [show μ 21 t = eB from gB]
      refine an_cne rfl (by omega) (by omega) (fun h4 => ?_) (fun h4 => ?_)
      · refine aw_run 3 (F' := (94, [some (.ref m), some (.int (nI kA)), some (.int (nI a)), some (.int (nI kB)), some (.int (nI b)), some (.int (nI 0)), some (.int (nI t)), some (.int (nI pA)), some (.int (nI pB)), some (.int (nI 1)), some (.int (nI 0)), x11, x12, x13, x14], [.int (nI 1)])) rfl ?_
        refine an_zne rfl (by omega) (fun _ => ?_) (fun z => absurd z (by omega))
        refine aw_run 2 (F' := (104, [some (.ref m), some (.int (nI kA)), some (.int (nI a)), some (.int (nI kB)), some (.int (nI b)), some (.int (nI 0)), some (.int (nI t)), some (.int (nI pA)), some (.int (nI pB)), some (.int (nI 1)), some (.int (nI 0)), x11, x12, x13, x14], [.ref m, .ref m])) rfl ?_
        refine aw_get rfl hM.o rfl ?_
        rw [show μ 17 0 = t + 1 from f17]
        refine aw_run 2 (F' := (109, [some (.ref m), some (.int (nI kA)), some (.int (nI a)), some (.int (nI kB)), some (.int (nI b)), some (.int (nI 0)), some (.int (nI t)), some (.int (nI pA)), some (.int (nI pB)), some (.int (nI 1)), some (.int (nI 0)), x11, x12, x13, x14], [.int (nI (t + 1) - nI 1), .ref m])) rfl ?_
        rw [nI_sub (by omega)]
        rw [show (t + 1) - 1 = t from rfl]
        refine ms_put hM rfl (by decide) (fun s1 hM1 => ?_)
        refine aw_run 1 (F' := (114, [some (.ref m), some (.int (nI kA)), some (.int (nI a)), some (.int (nI kB)), some (.int (nI b)), some (.int (nI 0)), some (.int (nI t)), some (.int (nI pA)), some (.int (nI pB)), some (.int (nI 1)), some (.int (nI 0)), x11, x12, x13, x14], [.int (nI 1)])) rfl ?_
        refine an_zeq rfl (by omega) (fun z => absurd z (by omega)) (fun _ => ?_)
        refine aw_run 1 (F' := (119, [some (.ref m), some (.int (nI kA)), some (.int (nI a)), some (.int (nI kB)), some (.int (nI b)), some (.int (nI 0)), some (.int (nI t)), some (.int (nI pA)), some (.int (nI pB)), some (.int (nI 1)), some (.int (nI 0)), x11, x12, x13, x14], [.int (nI 0)])) rfl ?_
        refine an_zeq rfl (by omega) (fun _ => ?_) (fun z => absurd z (by omega))
        refine aw_run 1 (F' := (128, [some (.ref m), some (.int (nI kA)), some (.int (nI a)), some (.int (nI kB)), some (.int (nI b)), some (.int (nI 0)), some (.int (nI t)), some (.int (nI pA)), some (.int (nI pB)), some (.int (nI 1)), some (.int (nI 0)), x11, x12, x13, x14], [.int (nI 1)])) rfl ?_
        refine an_zeq rfl (by omega) (fun z => absurd z (by omega)) (fun _ => ?_)
        refine aw_run 4 (F' := (16, [some (.ref m), some (.int (nI kA)), some (.int (nI a)), some (.int (nI kB)), some (.int (nI b)), some (.int ((-1))), some (.int (nI t)), some (.int (nI pA)), some (.int (nI pB)), some (.int (nI 1)), some (.int (nI 0)), x11, x12, x13, x14], [])) rfl ?_
        exact h _ hM1 _ _ _ _ _ _ _ _ _
      · omega
theorem m_ordIL (hM : MS g m σ0 σ μ) {t pA eA pB eB : Nat} (f17 : μ 17 0 = t + 1) (ht : t ≤ 16) (fA : μ 18 t = pA) (gA : μ 19 t = eA) (fB : μ 20 t = pB) (gB : μ 21 t = eB) (hA : eA ≤ 14000) (hB : eB ≤ 14000) {x6 x7 x8 x9 x10 x11 x12 x13 x14 : Option Value} (hc : pA < eA) (hc' : pB = eB) (h : ∀ σ', MS g m σ0 σ' (mup μ 17 0 t) → ∀ x6 x7 x8 x9 x10 x11 x12 x13 x14 : Option Value, AW g d 78 (16, [some (.ref m), some (.int (nI kA)), some (.int (nI a)), some (.int (nI kB)), some (.int (nI b)), some (.int (nI 1)), x6, x7, x8, x9, x10, x11, x12, x13, x14], []) σ' Q) : AW g d 78 (16, [some (.ref m), some (.int (nI kA)), some (.int (nI a)), some (.int (nI kB)), some (.int (nI b)), some (.int (nI 0)), x6, x7, x8, x9, x10, x11, x12, x13, x14], []) σ Q := by
  refine aw_run 1 (F' := (18, [some (.ref m), some (.int (nI kA)), some (.int (nI a)), some (.int (nI kB)), some (.int (nI b)), some (.int (nI 0)), x6, x7, x8, x9, x10, x11, x12, x13, x14], [.int (nI 0)])) rfl ?_
  refine an_zne rfl (by omega) (fun z => absurd z (by omega)) (fun _ => ?_)
  refine aw_run 1 (F' := (22, [some (.ref m), some (.int (nI kA)), some (.int (nI a)), some (.int (nI kB)), some (.int (nI b)), some (.int (nI 0)), x6, x7, x8, x9, x10, x11, x12, x13, x14], [.ref m])) rfl ?_
  refine aw_get rfl hM.o rfl ?_
  rw [show μ 17 0 = t + 1 from f17]
  refine an_zle rfl (by omega) (fun h2 => ?_) (fun h2 => ?_)
  · omega
  · refine aw_run 1 (F' := (29, [some (.ref m), some (.int (nI kA)), some (.int (nI a)), some (.int (nI kB)), some (.int (nI b)), some (.int (nI 0)), x6, x7, x8, x9, x10, x11, x12, x13, x14], [.ref m])) rfl ?_
    refine aw_get rfl hM.o rfl ?_
    rw [show μ 17 0 = t + 1 from f17]
    refine aw_run 2 (F' := (34, [some (.ref m), some (.int (nI kA)), some (.int (nI a)), some (.int (nI kB)), some (.int (nI b)), some (.int (nI 0)), x6, x7, x8, x9, x10, x11, x12, x13, x14], [.int (nI (t + 1) - nI 1)])) rfl ?_
    rw [nI_sub (by omega)]
    rw [show (t + 1) - 1 = t from rfl]
    refine aw_run 2 (F' := (37, [some (.ref m), some (.int (nI kA)), some (.int (nI a)), some (.int (nI kB)), some (.int (nI b)), some (.int (nI 0)), some (.int (nI t)), x7, x8, x9, x10, x11, x12, x13, x14], [.ref m])) rfl ?_
    refine aw_get rfl hM.o rfl ?_
    refine aw_run 1 (F' := (42, [some (.ref m), some (.int (nI kA)), some (.int (nI a)), some (.int (nI kB)), some (.int (nI b)), some (.int (nI 0)), some (.int (nI t)), x7, x8, x9, x10, x11, x12, x13, x14], [.int (nI t), .ref (m + 13)])) rfl ?_
    refine ms_ild hM rfl (k := 18) (n := 20) (by decide) (by omega) ?_
    rw [show μ 18 t = pA from fA]
    refine aw_run 2 (F' := (46, [some (.ref m), some (.int (nI kA)), some (.int (nI a)), some (.int (nI kB)), some (.int (nI b)), some (.int (nI 0)), some (.int (nI t)), some (.int (nI pA)), x8, x9, x10, x11, x12, x13, x14], [.ref m])) rfl ?_
    refine aw_get rfl hM.o rfl ?_
    refine aw_run 1 (F' := (51, [some (.ref m), some (.int (nI kA)), some (.int (nI a)), some (.int (nI kB)), some (.int (nI b)), some (.int (nI 0)), some (.int (nI t)), some (.int (nI pA)), x8, x9, x10, x11, x12, x13, x14], [.int (nI t), .ref (m + 15)])) rfl ?_
    refine ms_ild hM rfl (k := 20) (n := 20) (by decide) (by omega) ?_
    rw [show μ 20 t = pB from fB]
    refine aw_run 3 (F' := (57, [some (.ref m), some (.int (nI kA)), some (.int (nI a)), some (.int (nI kB)), some (.int (nI b)), some (.int (nI 0)), some (.int (nI t)), some (.int (nI pA)), some (.int (nI pB)), x9, x10, x11, x12, x13, x14], [.ref m, .int (nI pA)])) rfl ?_
    refine aw_get rfl hM.o rfl ?_
    refine aw_run 1 (F' := (62, [some (.ref m), some (.int (nI kA)), some (.int (nI a)), some (.int (nI kB)), some (.int (nI b)), some (.int (nI 0)), some (.int (nI t)), some (.int (nI pA)), some (.int (nI pB)), x9, x10, x11, x12, x13, x14], [.int (nI t), .ref (m + 14), .int (nI pA)])) rfl ?_
    refine ms_ild hM rfl (k := 19) (n := 20) (by decide) (by omega) ?_
    rw [show μ 19 t = eA from gA]
    refine an_cne rfl (by omega) (by omega) (fun h3 => ?_) (fun h3 => ?_)
    · refine aw_run 4 (F' := (76, [some (.ref m), some (.int (nI kA)), some (.int (nI a)), some (.int (nI kB)), some (.int (nI b)), some (.int (nI 0)), some (.int (nI t)), some (.int (nI pA)), some (.int (nI pB)), some (.int (nI 0)), x10, x11, x12, x13, x14], [.ref m, .int (nI pB)])) rfl ?_
      refine aw_get rfl hM.o rfl ?_
      refine aw_run 1 (F' := (81, [some (.ref m), some (.int (nI kA)), some (.int (nI a)), some (.int (nI kB)), some (.int (nI b)), some (.int (nI 0)), some (.int (nI t)), some (.int (nI pA)), some (.int (nI pB)), some (.int (nI 0)), x10, x11, x12, x13, x14], [.int (nI t), .ref (m + 16), .int (nI pB)])) rfl ?_
      refine ms_ild hM rfl (k := 21) (n := 20) (by decide) (by omega) ?_
      rw [show μ 21 t = eB from gB]
      refine an_cne rfl (by omega) (by omega) (fun h4 => ?_) (fun h4 => ?_)
      · omega
      · refine aw_run 4 (F' := (94, [some (.ref m), some (.int (nI kA)), some (.int (nI a)), some (.int (nI kB)), some (.int (nI b)), some (.int (nI 0)), some (.int (nI t)), some (.int (nI pA)), some (.int (nI pB)), some (.int (nI 0)), some (.int (nI 1)), x11, x12, x13, x14], [.int (nI 0)])) rfl ?_
        refine an_zne rfl (by omega) (fun z => absurd z (by omega)) (fun _ => ?_)
        refine aw_run 1 (F' := (99, [some (.ref m), some (.int (nI kA)), some (.int (nI a)), some (.int (nI kB)), some (.int (nI b)), some (.int (nI 0)), some (.int (nI t)), some (.int (nI pA)), some (.int (nI pB)), some (.int (nI 0)), some (.int (nI 1)), x11, x12, x13, x14], [.int (nI 1)])) rfl ?_
        refine an_zeq rfl (by omega) (fun z => absurd z (by omega)) (fun _ => ?_)
        refine aw_run 2 (F' := (104, [some (.ref m), some (.int (nI kA)), some (.int (nI a)), some (.int (nI kB)), some (.int (nI b)), some (.int (nI 0)), some (.int (nI t)), some (.int (nI pA)), some (.int (nI pB)), some (.int (nI 0)), some (.int (nI 1)), x11, x12, x13, x14], [.ref m, .ref m])) rfl ?_
        refine aw_get rfl hM.o rfl ?_
        rw [show μ 17 0 = t + 1 from f17]
        refine aw_run 2 (F' := (109, [some (.ref m), some (.int (nI kA)), some (.int (nI a)), some (.int (nI kB)), some (.int (nI b)), some (.int (nI 0)), some (.int (nI t)), some (.int (nI pA)), some (.int (nI pB)), some (.int (nI 0)), some (.int (nI 1)), x11, x12, x13, x14], [.int (nI (t + 1) - nI 1), .ref m])) rfl ?_
        rw [nI_sub (by omega)]
        rw [show (t + 1) - 1 = t from rfl]
        refine ms_put hM rfl (by decide) (fun s1 hM1 => ?_)
        refine aw_run 1 (F' := (114, [some (.ref m), some (.int (nI kA)), some (.int (nI a)), some (.int (nI kB)), some (.int (nI b)), some (.int (nI 0)), some (.int (nI t)), some (.int (nI pA)), some (.int (nI pB)), some (.int (nI 0)), some (.int (nI 1)), x11, x12, x13, x14], [.int (nI 0)])) rfl ?_
        refine an_zeq rfl (by omega) (fun _ => ?_) (fun z => absurd z (by omega))
        refine aw_run 1 (F' := (128, [some (.ref m), some (.int (nI kA)), some (.int (nI a)), some (.int (nI kB)), some (.int (nI b)), some (.int (nI 0)), some (.int (nI t)), some (.int (nI pA)), some (.int (nI pB)), some (.int (nI 0)), some (.int (nI 1)), x11, x12, x13, x14], [.int (nI 0)])) rfl ?_
        refine an_zeq rfl (by omega) (fun _ => ?_) (fun z => absurd z (by omega))
        refine aw_run 3 (F' := (16, [some (.ref m), some (.int (nI kA)), some (.int (nI a)), some (.int (nI kB)), some (.int (nI b)), some (.int (nI 1)), some (.int (nI t)), some (.int (nI pA)), some (.int (nI pB)), some (.int (nI 0)), some (.int (nI 1)), x11, x12, x13, x14], [])) rfl ?_
        exact h _ hM1 _ _ _ _ _ _ _ _ _
    · omega
theorem m_ordT (hM : MS g m σ0 σ μ) {t pA eA pB eB : Nat} (f17 : μ 17 0 = t + 1) (ht : t ≤ 16) (fA : μ 18 t = pA) (gA : μ 19 t = eA) (fB : μ 20 t = pB) (gB : μ 21 t = eB) (hA : eA ≤ 14000) (hB : eB ≤ 14000) {v w : sp_V} {sA qA sB qB : Nat} (nA : nmd (μ 1) (pA + 1) sA) (sA2 : sA < eA) (bA : μ 1 pA = v.1.1) (lA : lyV (μ 1) v (sA + 1) qA) (qA2 : qA ≤ eA) (nB : nmd (μ 1) (pB + 1) sB) (sB2 : sB < eB) (bB : μ 1 pB = w.1.1) (lB : lyV (μ 1) w (sB + 1) qB) (qB2 : qB ≤ eB) {x13 x14 : Option Value} {gt : Int32} (hne : gt ≠ 0 → ∀ σ', MS g m σ0 σ' (mup (mup μ 18 t qA) 20 t qB) → ∀ x6 x7 x8 x9 x10 x11 x12 x13 x14 : Option Value, AW g (d + 4) 78 (16, [some (.ref m), some (.int (nI kA)), some (.int (nI a)), some (.int (nI kB)), some (.int (nI b)), some (.int (gt)), x6, x7, x8, x9, x10, x11, x12, x13, x14], []) σ' Q) (kk1 : gt = 0 → ∀ σ', MS g m σ0 σ' (mup (mup μ 18 t qA) 20 t qB) → ∀ x6 x7 x8 x9 x10 x11 x12 x13 x14 : Option Value, AW g (d + 4) 78 (16, [some (.ref m), some (.int (nI kA)), some (.int (nI a)), some (.int (nI kB)), some (.int (nI b)), some (.int (sp_vc v w)), x6, x7, x8, x9, x10, x11, x12, x13, x14], []) σ' Q) (kk2 : gt = 0 → ∀ r : Bool, v.1.1 = (if r = true then 4 else 3) → w.1.1 = (if r = true then 4 else 3) → ∀ σ', MS g m σ0 σ' (mps (mup (mup μ 18 t qA) 20 t qB) (sA + 1) (sp_le (μ 1) (sA + 1) 4) (sB + 1) (sp_le (μ 1) (sB + 1) 4) (if r = true then 1 else 0)) → ∀ x6 x7 x8 x9 x10 x11 x12 x13 x14 : Option Value, AW g (d + 4) 78 (16, [some (.ref m), some (.int (nI kA)), some (.int (nI a)), some (.int (nI kB)), some (.int (nI b)), some (.int (nI 0)), x6, x7, x8, x9, x10, x11, x12, x13, x14], []) σ' Q) : AW g (d + 4) 78 (261, [some (.ref m), some (.int (nI kA)), some (.int (nI a)), some (.int (nI kB)), some (.int (nI b)), some (.int (gt)), some (.int (nI t)), some (.int (nI pA)), some (.int (nI pB)), some (.int (nI 0)), some (.int (nI 0)), some (.int (nI sA)), some (.int (nI sB)), x13, x14], []) σ Q := by
  have kA' := lA.kd
  have kB' := lB.kd
  have dA := nA.1
  have dB := nB.1
  have leA := ly1.le lA
  have leB := ly1.le lB
  refine aw_run 1 (F' := (262, [some (.ref m), some (.int (nI kA)), some (.int (nI a)), some (.int (nI kB)), some (.int (nI b)), some (.int (gt)), some (.int (nI t)), some (.int (nI pA)), some (.int (nI pB)), some (.int (nI 0)), some (.int (nI 0)), some (.int (nI sA)), some (.int (nI sB)), x13, x14], [.ref m])) rfl ?_
  refine aw_get rfl hM.o rfl ?_
  refine aw_run 4 (F' := (271, [some (.ref m), some (.int (nI kA)), some (.int (nI a)), some (.int (nI kB)), some (.int (nI b)), some (.int (gt)), some (.int (nI t)), some (.int (nI pA)), some (.int (nI pB)), some (.int (nI 0)), some (.int (nI 0)), some (.int (nI sA)), some (.int (nI sB)), x13, x14], [.int (nI pA), .ref m, .ref m, .int (nI t), .ref (m + 13)])) rfl ?_
  refine aw_v [.ref m, .int (nI pA)] [.ref m, .int (nI t), .ref (m + 13)] rfl (by decide) rfl hM.o rfl rfl (Nat.le_of_ble_eq_true rfl) (Nat.le_of_ble_eq_true rfl) ?_
  have hB1 := hM.by (i := pA) (by omega)
  rw [show μ 1 pA = v.1.1 from bA] at hB1
  refine m_at hM (by omega) ?_
  rw [show μ 1 pA = v.1.1 from bA]
  show AW g _ 78 (274, [some (.ref m), some (.int (nI kA)), some (.int (nI a)), some (.int (nI kB)), some (.int (nI b)), some (.int (gt)), some (.int (nI t)), some (.int (nI pA)), some (.int (nI pB)), some (.int (nI 0)), some (.int (nI 0)), some (.int (nI sA)), some (.int (nI sB)), x13, x14], [.int (nI v.1.1), .ref m, .int (nI t), .ref (m + 13)]) σ _
  refine aw_run 3 (F' := (278, [some (.ref m), some (.int (nI kA)), some (.int (nI a)), some (.int (nI kB)), some (.int (nI b)), some (.int (gt)), some (.int (nI t)), some (.int (nI pA)), some (.int (nI pB)), some (.int (nI 0)), some (.int (nI 0)), some (.int (nI sA)), some (.int (nI sB)), x13, x14], [.int (nI sA + nI 1), .int (nI v.1.1), .ref m, .int (nI t), .ref (m + 13)])) rfl ?_
  rw [nI_add]
  refine aw_v [.ref m, .int (nI v.1.1), .int (nI (sA + 1))] [.int (nI t), .ref (m + 13)] rfl (by decide) rfl hM.o rfl rfl (Nat.le_of_ble_eq_true rfl) (Nat.le_of_ble_eq_true rfl) ?_
  refine m_bhd hM (by omega) (fun z => ly_b3 lA z (by omega)) ?_
  rw [show bhd (μ 1) v.1.1 (sA + 1) = qA from ly1.bh lA]
  show AW g _ 78 (281, [some (.ref m), some (.int (nI kA)), some (.int (nI a)), some (.int (nI kB)), some (.int (nI b)), some (.int (gt)), some (.int (nI t)), some (.int (nI pA)), some (.int (nI pB)), some (.int (nI 0)), some (.int (nI 0)), some (.int (nI sA)), some (.int (nI sB)), x13, x14], [.int (nI qA), .int (nI t), .ref (m + 13)]) σ _
  refine ms_ist hM rfl (k := 18) (n := 20) (by decide) (by omega) (fun s1 hM1 => ?_)
  refine aw_run 1 (F' := (283, [some (.ref m), some (.int (nI kA)), some (.int (nI a)), some (.int (nI kB)), some (.int (nI b)), some (.int (gt)), some (.int (nI t)), some (.int (nI pA)), some (.int (nI pB)), some (.int (nI 0)), some (.int (nI 0)), some (.int (nI sA)), some (.int (nI sB)), x13, x14], [.ref m])) rfl ?_
  refine aw_get rfl hM1.o rfl ?_
  refine aw_run 4 (F' := (292, [some (.ref m), some (.int (nI kA)), some (.int (nI a)), some (.int (nI kB)), some (.int (nI b)), some (.int (gt)), some (.int (nI t)), some (.int (nI pA)), some (.int (nI pB)), some (.int (nI 0)), some (.int (nI 0)), some (.int (nI sA)), some (.int (nI sB)), x13, x14], [.int (nI pB), .ref m, .ref m, .int (nI t), .ref (m + 15)])) rfl ?_
  refine aw_v [.ref m, .int (nI pB)] [.ref m, .int (nI t), .ref (m + 15)] rfl (by decide) rfl hM1.o rfl rfl (Nat.le_of_ble_eq_true rfl) (Nat.le_of_ble_eq_true rfl) ?_
  have hB2 := hM1.by (i := pB) (by omega)
  rw [show (mup μ 18 t qA) 1 pB = w.1.1 from bB] at hB2
  refine m_at hM1 (by omega) ?_
  rw [show (mup μ 18 t qA) 1 pB = w.1.1 from bB]
  show AW g _ 78 (295, [some (.ref m), some (.int (nI kA)), some (.int (nI a)), some (.int (nI kB)), some (.int (nI b)), some (.int (gt)), some (.int (nI t)), some (.int (nI pA)), some (.int (nI pB)), some (.int (nI 0)), some (.int (nI 0)), some (.int (nI sA)), some (.int (nI sB)), x13, x14], [.int (nI w.1.1), .ref m, .int (nI t), .ref (m + 15)]) s1 _
  refine aw_run 3 (F' := (299, [some (.ref m), some (.int (nI kA)), some (.int (nI a)), some (.int (nI kB)), some (.int (nI b)), some (.int (gt)), some (.int (nI t)), some (.int (nI pA)), some (.int (nI pB)), some (.int (nI 0)), some (.int (nI 0)), some (.int (nI sA)), some (.int (nI sB)), x13, x14], [.int (nI sB + nI 1), .int (nI w.1.1), .ref m, .int (nI t), .ref (m + 15)])) rfl ?_
  rw [nI_add]
  refine aw_v [.ref m, .int (nI w.1.1), .int (nI (sB + 1))] [.int (nI t), .ref (m + 15)] rfl (by decide) rfl hM1.o rfl rfl (Nat.le_of_ble_eq_true rfl) (Nat.le_of_ble_eq_true rfl) ?_
  refine m_bhd hM1 (by omega) (fun z => ly_b3 lB z (by omega)) ?_
  rw [show bhd ((mup μ 18 t qA) 1) w.1.1 (sB + 1) = qB from ly1.bh lB]
  show AW g _ 78 (302, [some (.ref m), some (.int (nI kA)), some (.int (nI a)), some (.int (nI kB)), some (.int (nI b)), some (.int (gt)), some (.int (nI t)), some (.int (nI pA)), some (.int (nI pB)), some (.int (nI 0)), some (.int (nI 0)), some (.int (nI sA)), some (.int (nI sB)), x13, x14], [.int (nI qB), .int (nI t), .ref (m + 15)]) s1 _
  refine ms_ist hM1 rfl (k := 20) (n := 20) (by decide) (by omega) (fun s2 hM2 => ?_)
  refine aw_run 1 (F' := (305, [some (.ref m), some (.int (nI kA)), some (.int (nI a)), some (.int (nI kB)), some (.int (nI b)), some (.int (gt)), some (.int (nI t)), some (.int (nI pA)), some (.int (nI pB)), some (.int (nI 0)), some (.int (nI 0)), some (.int (nI sA)), some (.int (nI sB)), x13, x14], [.int (gt)])) rfl ?_
  refine aw_zne rfl (fun h1 => ?_) (fun h1 => ?_)
  · refine aw_run 1 (F' := (16, [some (.ref m), some (.int (nI kA)), some (.int (nI a)), some (.int (nI kB)), some (.int (nI b)), some (.int (gt)), some (.int (nI t)), some (.int (nI pA)), some (.int (nI pB)), some (.int (nI 0)), some (.int (nI 0)), some (.int (nI sA)), some (.int (nI sB)), x13, x14], [])) rfl ?_
    exact hne (by assumption) _ hM2 _ _ _ _ _ _ _ _ _
  · have hg0 : gt = 0 := Decidable.of_not_not h1
    refine aw_run 3 (F' := (312, [some (.ref m), some (.int (nI kA)), some (.int (nI a)), some (.int (nI kB)), some (.int (nI b)), some (.int (gt)), some (.int (nI t)), some (.int (nI pA)), some (.int (nI pB)), some (.int (nI 0)), some (.int (nI 0)), some (.int (nI sA)), some (.int (nI sB)), x13, x14], [.int (nI pA), .ref m, .ref m])) rfl ?_
    refine aw_v [.ref m, .int (nI pA)] [.ref m] rfl (by decide) rfl hM2.o rfl rfl (Nat.le_of_ble_eq_true rfl) (Nat.le_of_ble_eq_true rfl) ?_
    have hB3 := hM2.by (i := pA) (by omega)
    rw [show (mup (mup μ 18 t qA) 20 t qB) 1 pA = v.1.1 from bA] at hB3
    refine m_at hM2 (by omega) ?_
    rw [show (mup (mup μ 18 t qA) 20 t qB) 1 pA = v.1.1 from bA]
    show AW g _ 78 (315, [some (.ref m), some (.int (nI kA)), some (.int (nI a)), some (.int (nI kB)), some (.int (nI b)), some (.int (gt)), some (.int (nI t)), some (.int (nI pA)), some (.int (nI pB)), some (.int (nI 0)), some (.int (nI 0)), some (.int (nI sA)), some (.int (nI sB)), x13, x14], [.int (nI v.1.1), .ref m]) s2 _
    refine aw_run 3 (F' := (319, [some (.ref m), some (.int (nI kA)), some (.int (nI a)), some (.int (nI kB)), some (.int (nI b)), some (.int (gt)), some (.int (nI t)), some (.int (nI pA)), some (.int (nI pB)), some (.int (nI 0)), some (.int (nI 0)), some (.int (nI sA)), some (.int (nI sB)), x13, x14], [.int (nI sA + nI 1), .int (nI v.1.1), .ref m])) rfl ?_
    rw [nI_add]
    refine aw_run 2 (F' := (322, [some (.ref m), some (.int (nI kA)), some (.int (nI a)), some (.int (nI kB)), some (.int (nI b)), some (.int (gt)), some (.int (nI t)), some (.int (nI pA)), some (.int (nI pB)), some (.int (nI 0)), some (.int (nI 0)), some (.int (nI sA)), some (.int (nI sB)), x13, x14], [.int (nI pB), .ref m, .int (nI (sA + 1)), .int (nI v.1.1), .ref m])) rfl ?_
    refine aw_v [.ref m, .int (nI pB)] [.int (nI (sA + 1)), .int (nI v.1.1), .ref m] rfl (by decide) rfl hM2.o rfl rfl (Nat.le_of_ble_eq_true rfl) (Nat.le_of_ble_eq_true rfl) ?_
    have hB4 := hM2.by (i := pB) (by omega)
    rw [show (mup (mup μ 18 t qA) 20 t qB) 1 pB = w.1.1 from bB] at hB4
    refine m_at hM2 (by omega) ?_
    rw [show (mup (mup μ 18 t qA) 20 t qB) 1 pB = w.1.1 from bB]
    show AW g _ 78 (325, [some (.ref m), some (.int (nI kA)), some (.int (nI a)), some (.int (nI kB)), some (.int (nI b)), some (.int (gt)), some (.int (nI t)), some (.int (nI pA)), some (.int (nI pB)), some (.int (nI 0)), some (.int (nI 0)), some (.int (nI sA)), some (.int (nI sB)), x13, x14], [.int (nI w.1.1), .int (nI (sA + 1)), .int (nI v.1.1), .ref m]) s2 _
    refine aw_run 3 (F' := (329, [some (.ref m), some (.int (nI kA)), some (.int (nI a)), some (.int (nI kB)), some (.int (nI b)), some (.int (gt)), some (.int (nI t)), some (.int (nI pA)), some (.int (nI pB)), some (.int (nI 0)), some (.int (nI 0)), some (.int (nI sA)), some (.int (nI sB)), x13, x14], [.int (nI sB + nI 1), .int (nI w.1.1), .int (nI (sA + 1)), .int (nI v.1.1), .ref m])) rfl ?_
    rw [nI_add]
    refine aw_v [.ref m, .int (nI v.1.1), .int (nI (sA + 1)), .int (nI w.1.1), .int (nI (sB + 1))] [] rfl (by decide) rfl hM2.o rfl rfl (Nat.le_of_ble_eq_true rfl) (Nat.le_of_ble_eq_true rfl) ?_
    refine m_one hM2 (v := v) (w := w) (Or.inr ⟨qA, by omega, lA⟩) (Or.inr ⟨qB, by omega, lB⟩) (by omega) (by omega) (show μ 17 0 < 20 by omega) ?_ (fun r u1 u2 s9 hM9 => ?_)
    · skip
      show AW g _ 78 (332, [some (.ref m), some (.int (nI kA)), some (.int (nI a)), some (.int (nI kB)), some (.int (nI b)), some (.int (gt)), some (.int (nI t)), some (.int (nI pA)), some (.int (nI pB)), some (.int (nI 0)), some (.int (nI 0)), some (.int (nI sA)), some (.int (nI sB)), x13, x14], [.int (sp_vc v w)]) s2 _
      refine aw_run 2 (F' := (16, [some (.ref m), some (.int (nI kA)), some (.int (nI a)), some (.int (nI kB)), some (.int (nI b)), some (.int (sp_vc v w)), some (.int (nI t)), some (.int (nI pA)), some (.int (nI pB)), some (.int (nI 0)), some (.int (nI 0)), some (.int (nI sA)), some (.int (nI sB)), x13, x14], [])) rfl ?_
      exact kk1 hg0 _ hM2 _ _ _ _ _ _ _ _ _
    · skip
      show AW g _ 78 (332, [some (.ref m), some (.int (nI kA)), some (.int (nI a)), some (.int (nI kB)), some (.int (nI b)), some (.int (gt)), some (.int (nI t)), some (.int (nI pA)), some (.int (nI pB)), some (.int (nI 0)), some (.int (nI 0)), some (.int (nI sA)), some (.int (nI sB)), x13, x14], [.int (nI 0)]) s9 _
      refine aw_run 2 (F' := (16, [some (.ref m), some (.int (nI kA)), some (.int (nI a)), some (.int (nI kB)), some (.int (nI b)), some (.int (nI 0)), some (.int (nI t)), some (.int (nI pA)), some (.int (nI pB)), some (.int (nI 0)), some (.int (nI 0)), some (.int (nI sA)), some (.int (nI sB)), x13, x14], [])) rfl ?_
      exact kk2 hg0 r u1 u2 _ hM9 _ _ _ _ _ _ _ _ _
theorem m_ordS (hM : MS g m σ0 σ μ) {t pA eA pB eB : Nat} (f17 : μ 17 0 = t + 1) (ht : t ≤ 16) (fA : μ 18 t = pA) (gA : μ 19 t = eA) (fB : μ 20 t = pB) (gB : μ 21 t = eB) (hA : eA ≤ 14000) (hB : eB ≤ 14000) {v w : sp_V} {sA qA sB qB : Nat} (nA : nmd (μ 1) (pA + 1) sA) (sA2 : sA < eA) (bA : μ 1 pA = v.1.1) (lA : lyV (μ 1) v (sA + 1) qA) (qA2 : qA ≤ eA) (nB : nmd (μ 1) (pB + 1) sB) (sB2 : sB < eB) (bB : μ 1 pB = w.1.1) (lB : lyV (μ 1) w (sB + 1) qB) (qB2 : qB ≤ eB) {row : Bool} (fR : μ 22 t = (if row = true then 1 else 0)) (hrow : row = true → sp_bc (sp_sub (μ 1) (pA + 1) sA) (sp_sub (μ 1) (pB + 1) sB) = 0) {x6 x7 x8 x9 x10 x11 x12 x13 x14 : Option Value} (h : ∀ (x13 x14 : Option Value), AW g (d + 4) 78 (261, [some (.ref m), some (.int (nI kA)), some (.int (nI a)), some (.int (nI kB)), some (.int (nI b)), some (.int (sp_or (sp_nc (sp_cls v.1.1) (sp_cls w.1.1)) (sp_bc (sp_sub (μ 1) (pA + 1) sA) (sp_sub (μ 1) (pB + 1) sB)))), some (.int (nI t)), some (.int (nI pA)), some (.int (nI pB)), some (.int (nI 0)), some (.int (nI 0)), some (.int (nI sA)), some (.int (nI sB)), x13, x14], []) σ Q) : AW g (d + 4) 78 (16, [some (.ref m), some (.int (nI kA)), some (.int (nI a)), some (.int (nI kB)), some (.int (nI b)), some (.int (nI 0)), x6, x7, x8, x9, x10, x11, x12, x13, x14], []) σ Q := by
  have kA' := lA.kd
  have kB' := lB.kd
  have dA := nA.1
  have dB := nB.1
  have leA := ly1.le lA
  have leB := ly1.le lB
  have cv := cls_k (k := v.1.1) rfl
  have cw := cls_k (k := w.1.1) rfl
  cases row with
  | true =>
    refine aw_run 1 (F' := (18, [some (.ref m), some (.int (nI kA)), some (.int (nI a)), some (.int (nI kB)), some (.int (nI b)), some (.int (nI 0)), x6, x7, x8, x9, x10, x11, x12, x13, x14], [.int (nI 0)])) rfl ?_
    refine an_zne rfl (by omega) (fun z => absurd z (by omega)) (fun _ => ?_)
    refine aw_run 1 (F' := (22, [some (.ref m), some (.int (nI kA)), some (.int (nI a)), some (.int (nI kB)), some (.int (nI b)), some (.int (nI 0)), x6, x7, x8, x9, x10, x11, x12, x13, x14], [.ref m])) rfl ?_
    refine aw_get rfl hM.o rfl ?_
    rw [show μ 17 0 = t + 1 from f17]
    refine an_zle rfl (by omega) (fun h2 => ?_) (fun h2 => ?_)
    · omega
    · refine aw_run 1 (F' := (29, [some (.ref m), some (.int (nI kA)), some (.int (nI a)), some (.int (nI kB)), some (.int (nI b)), some (.int (nI 0)), x6, x7, x8, x9, x10, x11, x12, x13, x14], [.ref m])) rfl ?_
      refine aw_get rfl hM.o rfl ?_
      rw [show μ 17 0 = t + 1 from f17]
      refine aw_run 2 (F' := (34, [some (.ref m), some (.int (nI kA)), some (.int (nI a)), some (.int (nI kB)), some (.int (nI b)), some (.int (nI 0)), x6, x7, x8, x9, x10, x11, x12, x13, x14], [.int (nI (t + 1) - nI 1)])) rfl ?_
      rw [nI_sub (by omega)]
      rw [show (t + 1) - 1 = t from rfl]
      refine aw_run 2 (F' := (37, [some (.ref m), some (.int (nI kA)), some (.int (nI a)), some (.int (nI kB)), some (.int (nI b)), some (.int (nI 0)), some (.int (nI t)), x7, x8, x9, x10, x11, x12, x13, x14], [.ref m])) rfl ?_
      refine aw_get rfl hM.o rfl ?_
      refine aw_run 1 (F' := (42, [some (.ref m), some (.int (nI kA)), some (.int (nI a)), some (.int (nI kB)), some (.int (nI b)), some (.int (nI 0)), some (.int (nI t)), x7, x8, x9, x10, x11, x12, x13, x14], [.int (nI t), .ref (m + 13)])) rfl ?_
      refine ms_ild hM rfl (k := 18) (n := 20) (by decide) (by omega) ?_
      rw [show μ 18 t = pA from fA]
      refine aw_run 2 (F' := (46, [some (.ref m), some (.int (nI kA)), some (.int (nI a)), some (.int (nI kB)), some (.int (nI b)), some (.int (nI 0)), some (.int (nI t)), some (.int (nI pA)), x8, x9, x10, x11, x12, x13, x14], [.ref m])) rfl ?_
      refine aw_get rfl hM.o rfl ?_
      refine aw_run 1 (F' := (51, [some (.ref m), some (.int (nI kA)), some (.int (nI a)), some (.int (nI kB)), some (.int (nI b)), some (.int (nI 0)), some (.int (nI t)), some (.int (nI pA)), x8, x9, x10, x11, x12, x13, x14], [.int (nI t), .ref (m + 15)])) rfl ?_
      refine ms_ild hM rfl (k := 20) (n := 20) (by decide) (by omega) ?_
      rw [show μ 20 t = pB from fB]
      refine aw_run 3 (F' := (57, [some (.ref m), some (.int (nI kA)), some (.int (nI a)), some (.int (nI kB)), some (.int (nI b)), some (.int (nI 0)), some (.int (nI t)), some (.int (nI pA)), some (.int (nI pB)), x9, x10, x11, x12, x13, x14], [.ref m, .int (nI pA)])) rfl ?_
      refine aw_get rfl hM.o rfl ?_
      refine aw_run 1 (F' := (62, [some (.ref m), some (.int (nI kA)), some (.int (nI a)), some (.int (nI kB)), some (.int (nI b)), some (.int (nI 0)), some (.int (nI t)), some (.int (nI pA)), some (.int (nI pB)), x9, x10, x11, x12, x13, x14], [.int (nI t), .ref (m + 14), .int (nI pA)])) rfl ?_
      refine ms_ild hM rfl (k := 19) (n := 20) (by decide) (by omega) ?_
      rw [show μ 19 t = eA from gA]
      refine an_cne rfl (by omega) (by omega) (fun h3 => ?_) (fun h3 => ?_)
      · refine aw_run 4 (F' := (76, [some (.ref m), some (.int (nI kA)), some (.int (nI a)), some (.int (nI kB)), some (.int (nI b)), some (.int (nI 0)), some (.int (nI t)), some (.int (nI pA)), some (.int (nI pB)), some (.int (nI 0)), x10, x11, x12, x13, x14], [.ref m, .int (nI pB)])) rfl ?_
        refine aw_get rfl hM.o rfl ?_
        refine aw_run 1 (F' := (81, [some (.ref m), some (.int (nI kA)), some (.int (nI a)), some (.int (nI kB)), some (.int (nI b)), some (.int (nI 0)), some (.int (nI t)), some (.int (nI pA)), some (.int (nI pB)), some (.int (nI 0)), x10, x11, x12, x13, x14], [.int (nI t), .ref (m + 16), .int (nI pB)])) rfl ?_
        refine ms_ild hM rfl (k := 21) (n := 20) (by decide) (by omega) ?_
        rw [show μ 21 t = eB from gB]
        refine an_cne rfl (by omega) (by omega) (fun h4 => ?_) (fun h4 => ?_)
        · refine aw_run 3 (F' := (94, [some (.ref m), some (.int (nI kA)), some (.int (nI a)), some (.int (nI kB)), some (.int (nI b)), some (.int (nI 0)), some (.int (nI t)), some (.int (nI pA)), some (.int (nI pB)), some (.int (nI 0)), some (.int (nI 0)), x11, x12, x13, x14], [.int (nI 0)])) rfl ?_
          refine an_zne rfl (by omega) (fun z => absurd z (by omega)) (fun _ => ?_)
          refine aw_run 1 (F' := (99, [some (.ref m), some (.int (nI kA)), some (.int (nI a)), some (.int (nI kB)), some (.int (nI b)), some (.int (nI 0)), some (.int (nI t)), some (.int (nI pA)), some (.int (nI pB)), some (.int (nI 0)), some (.int (nI 0)), x11, x12, x13, x14], [.int (nI 0)])) rfl ?_
          refine an_zeq rfl (by omega) (fun _ => ?_) (fun z => absurd z (by omega))
          refine aw_run 4 (F' := (146, [some (.ref m), some (.int (nI kA)), some (.int (nI a)), some (.int (nI kB)), some (.int (nI b)), some (.int (nI 0)), some (.int (nI t)), some (.int (nI pA)), some (.int (nI pB)), some (.int (nI 0)), some (.int (nI 0)), x11, x12, x13, x14], [.int (nI pA + nI 1), .ref m])) rfl ?_
          rw [nI_add]
          refine aw_run 1 (F' := (147, [some (.ref m), some (.int (nI kA)), some (.int (nI a)), some (.int (nI kB)), some (.int (nI b)), some (.int (nI 0)), some (.int (nI t)), some (.int (nI pA)), some (.int (nI pB)), some (.int (nI 0)), some (.int (nI 0)), x11, x12, x13, x14], [.ref m, .int (nI (pA + 1)), .ref m])) rfl ?_
          refine aw_get rfl hM.o rfl ?_
          refine aw_run 1 (F' := (152, [some (.ref m), some (.int (nI kA)), some (.int (nI a)), some (.int (nI kB)), some (.int (nI b)), some (.int (nI 0)), some (.int (nI t)), some (.int (nI pA)), some (.int (nI pB)), some (.int (nI 0)), some (.int (nI 0)), x11, x12, x13, x14], [.int (nI t), .ref (m + 14), .int (nI (pA + 1)), .ref m])) rfl ?_
          refine ms_ild hM rfl (k := 19) (n := 20) (by decide) (by omega) ?_
          rw [show μ 19 t = eA from gA]
          refine aw_v [.ref m, .int (nI (pA + 1)), .int (nI eA)] [] rfl (by decide) rfl hM.o rfl rfl (Nat.le_of_ble_eq_true rfl) (Nat.le_of_ble_eq_true rfl) ?_
          refine m_nes hM (by omega) nA sA2 ?_
          show AW g _ 78 (156, [some (.ref m), some (.int (nI kA)), some (.int (nI a)), some (.int (nI kB)), some (.int (nI b)), some (.int (nI 0)), some (.int (nI t)), some (.int (nI pA)), some (.int (nI pB)), some (.int (nI 0)), some (.int (nI 0)), x11, x12, x13, x14], [.int (nI sA)]) σ _
          refine aw_run 5 (F' := (163, [some (.ref m), some (.int (nI kA)), some (.int (nI a)), some (.int (nI kB)), some (.int (nI b)), some (.int (nI 0)), some (.int (nI t)), some (.int (nI pA)), some (.int (nI pB)), some (.int (nI 0)), some (.int (nI 0)), some (.int (nI sA)), x12, x13, x14], [.int (nI pB + nI 1), .ref m])) rfl ?_
          rw [nI_add]
          refine aw_run 1 (F' := (164, [some (.ref m), some (.int (nI kA)), some (.int (nI a)), some (.int (nI kB)), some (.int (nI b)), some (.int (nI 0)), some (.int (nI t)), some (.int (nI pA)), some (.int (nI pB)), some (.int (nI 0)), some (.int (nI 0)), some (.int (nI sA)), x12, x13, x14], [.ref m, .int (nI (pB + 1)), .ref m])) rfl ?_
          refine aw_get rfl hM.o rfl ?_
          refine aw_run 1 (F' := (169, [some (.ref m), some (.int (nI kA)), some (.int (nI a)), some (.int (nI kB)), some (.int (nI b)), some (.int (nI 0)), some (.int (nI t)), some (.int (nI pA)), some (.int (nI pB)), some (.int (nI 0)), some (.int (nI 0)), some (.int (nI sA)), x12, x13, x14], [.int (nI t), .ref (m + 16), .int (nI (pB + 1)), .ref m])) rfl ?_
          refine ms_ild hM rfl (k := 21) (n := 20) (by decide) (by omega) ?_
          rw [show μ 21 t = eB from gB]
          refine aw_v [.ref m, .int (nI (pB + 1)), .int (nI eB)] [] rfl (by decide) rfl hM.o rfl rfl (Nat.le_of_ble_eq_true rfl) (Nat.le_of_ble_eq_true rfl) ?_
          refine m_nes hM (by omega) nB sB2 ?_
          show AW g _ 78 (173, [some (.ref m), some (.int (nI kA)), some (.int (nI a)), some (.int (nI kB)), some (.int (nI b)), some (.int (nI 0)), some (.int (nI t)), some (.int (nI pA)), some (.int (nI pB)), some (.int (nI 0)), some (.int (nI 0)), some (.int (nI sA)), x12, x13, x14], [.int (nI sB)]) σ _
          refine aw_run 3 (F' := (178, [some (.ref m), some (.int (nI kA)), some (.int (nI a)), some (.int (nI kB)), some (.int (nI b)), some (.int (nI 0)), some (.int (nI t)), some (.int (nI pA)), some (.int (nI pB)), some (.int (nI 0)), some (.int (nI 0)), some (.int (nI sA)), some (.int (nI sB)), x13, x14], [.int (nI pA), .ref m])) rfl ?_
          refine aw_v [.ref m, .int (nI pA)] [] rfl (by decide) rfl hM.o rfl rfl (Nat.le_of_ble_eq_true rfl) (Nat.le_of_ble_eq_true rfl) ?_
          have hB5 := hM.by (i := pA) (by omega)
          rw [show μ 1 pA = v.1.1 from bA] at hB5
          refine m_at hM (by omega) ?_
          rw [show μ 1 pA = v.1.1 from bA]
          show AW g _ 78 (181, [some (.ref m), some (.int (nI kA)), some (.int (nI a)), some (.int (nI kB)), some (.int (nI b)), some (.int (nI 0)), some (.int (nI t)), some (.int (nI pA)), some (.int (nI pB)), some (.int (nI 0)), some (.int (nI 0)), some (.int (nI sA)), some (.int (nI sB)), x13, x14], [.int (nI v.1.1)]) σ _
          refine aw_s [.int (nI v.1.1)] [] rfl ⟨by decide, by decide⟩ rfl rfl (Nat.le_of_ble_eq_true rfl) (Nat.le_of_ble_eq_true rfl) ?_
          refine m_cls (by omega) ?_
          show AW g _ 78 (184, [some (.ref m), some (.int (nI kA)), some (.int (nI a)), some (.int (nI kB)), some (.int (nI b)), some (.int (nI 0)), some (.int (nI t)), some (.int (nI pA)), some (.int (nI pB)), some (.int (nI 0)), some (.int (nI 0)), some (.int (nI sA)), some (.int (nI sB)), x13, x14], [.int (nI (sp_cls v.1.1))]) σ _
          refine aw_run 3 (F' := (189, [some (.ref m), some (.int (nI kA)), some (.int (nI a)), some (.int (nI kB)), some (.int (nI b)), some (.int (nI 0)), some (.int (nI t)), some (.int (nI pA)), some (.int (nI pB)), some (.int (nI 0)), some (.int (nI 0)), some (.int (nI sA)), some (.int (nI sB)), some (.int (nI (sp_cls v.1.1))), x14], [.int (nI pB), .ref m])) rfl ?_
          refine aw_v [.ref m, .int (nI pB)] [] rfl (by decide) rfl hM.o rfl rfl (Nat.le_of_ble_eq_true rfl) (Nat.le_of_ble_eq_true rfl) ?_
          have hB6 := hM.by (i := pB) (by omega)
          rw [show μ 1 pB = w.1.1 from bB] at hB6
          refine m_at hM (by omega) ?_
          rw [show μ 1 pB = w.1.1 from bB]
          show AW g _ 78 (192, [some (.ref m), some (.int (nI kA)), some (.int (nI a)), some (.int (nI kB)), some (.int (nI b)), some (.int (nI 0)), some (.int (nI t)), some (.int (nI pA)), some (.int (nI pB)), some (.int (nI 0)), some (.int (nI 0)), some (.int (nI sA)), some (.int (nI sB)), some (.int (nI (sp_cls v.1.1))), x14], [.int (nI w.1.1)]) σ _
          refine aw_s [.int (nI w.1.1)] [] rfl ⟨by decide, by decide⟩ rfl rfl (Nat.le_of_ble_eq_true rfl) (Nat.le_of_ble_eq_true rfl) ?_
          refine m_cls (by omega) ?_
          show AW g _ 78 (195, [some (.ref m), some (.int (nI kA)), some (.int (nI a)), some (.int (nI kB)), some (.int (nI b)), some (.int (nI 0)), some (.int (nI t)), some (.int (nI pA)), some (.int (nI pB)), some (.int (nI 0)), some (.int (nI 0)), some (.int (nI sA)), some (.int (nI sB)), some (.int (nI (sp_cls v.1.1))), x14], [.int (nI (sp_cls w.1.1))]) σ _
          refine aw_run 3 (F' := (201, [some (.ref m), some (.int (nI kA)), some (.int (nI a)), some (.int (nI kB)), some (.int (nI b)), some (.int (nI 0)), some (.int (nI t)), some (.int (nI pA)), some (.int (nI pB)), some (.int (nI 0)), some (.int (nI 0)), some (.int (nI sA)), some (.int (nI sB)), some (.int (nI (sp_cls v.1.1))), some (.int (nI (sp_cls w.1.1)))], [.int (nI (sp_cls w.1.1)), .int (nI (sp_cls v.1.1))])) rfl ?_
          refine an_cge rfl (by omega) (by omega) (fun h7 => ?_) (fun h7 => ?_)
          · refine aw_run 2 (F' := (212, [some (.ref m), some (.int (nI kA)), some (.int (nI a)), some (.int (nI kB)), some (.int (nI b)), some (.int (nI 0)), some (.int (nI t)), some (.int (nI pA)), some (.int (nI pB)), some (.int (nI 0)), some (.int (nI 0)), some (.int (nI sA)), some (.int (nI sB)), some (.int (nI (sp_cls v.1.1))), some (.int (nI (sp_cls w.1.1)))], [.int (nI (sp_cls w.1.1)), .int (nI (sp_cls v.1.1))])) rfl ?_
            refine an_cle rfl (by omega) (by omega) (fun h8 => ?_) (fun h8 => ?_)
            · refine aw_run 1 (F' := (220, [some (.ref m), some (.int (nI kA)), some (.int (nI a)), some (.int (nI kB)), some (.int (nI b)), some (.int (nI 0)), some (.int (nI t)), some (.int (nI pA)), some (.int (nI pB)), some (.int (nI 0)), some (.int (nI 0)), some (.int (nI sA)), some (.int (nI sB)), some (.int (nI (sp_cls v.1.1))), some (.int (nI (sp_cls w.1.1)))], [.ref m])) rfl ?_
              refine aw_get rfl hM.o rfl ?_
              refine aw_run 1 (F' := (225, [some (.ref m), some (.int (nI kA)), some (.int (nI a)), some (.int (nI kB)), some (.int (nI b)), some (.int (nI 0)), some (.int (nI t)), some (.int (nI pA)), some (.int (nI pB)), some (.int (nI 0)), some (.int (nI 0)), some (.int (nI sA)), some (.int (nI sB)), some (.int (nI (sp_cls v.1.1))), some (.int (nI (sp_cls w.1.1)))], [.int (nI t), .ref (m + 17)])) rfl ?_
              refine ms_zld hM rfl (k := 22) (n := 20) (by decide) (by omega) ?_
              rw [show μ 22 t = 1 from fR]
              refine an_zeq rfl (by omega) (fun z => absurd z (by omega)) (fun _ => ?_)
              refine aw_run 3 (F' := (261, [some (.ref m), some (.int (nI kA)), some (.int (nI a)), some (.int (nI kB)), some (.int (nI b)), some (.int (nI 0)), some (.int (nI t)), some (.int (nI pA)), some (.int (nI pB)), some (.int (nI 0)), some (.int (nI 0)), some (.int (nI sA)), some (.int (nI sB)), some (.int (nI (sp_cls v.1.1))), some (.int (nI (sp_cls w.1.1)))], [])) rfl ?_
              rw [show sp_nc (sp_cls v.1.1) (sp_cls w.1.1) = 0 from by unfold sp_nc; rw [if_neg (by omega), if_pos (by omega)], sp_or_0] at h
              rw [hrow rfl] at h
              exact h _ _
            · refine aw_run 3 (F' := (261, [some (.ref m), some (.int (nI kA)), some (.int (nI a)), some (.int (nI kB)), some (.int (nI b)), some (.int (nI 1)), some (.int (nI t)), some (.int (nI pA)), some (.int (nI pB)), some (.int (nI 0)), some (.int (nI 0)), some (.int (nI sA)), some (.int (nI sB)), some (.int (nI (sp_cls v.1.1))), some (.int (nI (sp_cls w.1.1)))], [])) rfl ?_
              rw [show sp_nc (sp_cls v.1.1) (sp_cls w.1.1) = 1 from by unfold sp_nc; rw [if_neg (by omega), if_neg (by omega)], sp_or_n (by decide)] at h
              exact h _ _
          · refine aw_run 3 (F' := (261, [some (.ref m), some (.int (nI kA)), some (.int (nI a)), some (.int (nI kB)), some (.int (nI b)), some (.int ((-1))), some (.int (nI t)), some (.int (nI pA)), some (.int (nI pB)), some (.int (nI 0)), some (.int (nI 0)), some (.int (nI sA)), some (.int (nI sB)), some (.int (nI (sp_cls v.1.1))), some (.int (nI (sp_cls w.1.1)))], [])) rfl ?_
            rw [show sp_nc (sp_cls v.1.1) (sp_cls w.1.1) = -1 from if_pos (by omega), sp_or_n (by decide)] at h
            exact h _ _
        · omega
      · omega
  | false =>
    refine aw_run 1 (F' := (18, [some (.ref m), some (.int (nI kA)), some (.int (nI a)), some (.int (nI kB)), some (.int (nI b)), some (.int (nI 0)), x6, x7, x8, x9, x10, x11, x12, x13, x14], [.int (nI 0)])) rfl ?_
    refine an_zne rfl (by omega) (fun z => absurd z (by omega)) (fun _ => ?_)
    refine aw_run 1 (F' := (22, [some (.ref m), some (.int (nI kA)), some (.int (nI a)), some (.int (nI kB)), some (.int (nI b)), some (.int (nI 0)), x6, x7, x8, x9, x10, x11, x12, x13, x14], [.ref m])) rfl ?_
    refine aw_get rfl hM.o rfl ?_
    rw [show μ 17 0 = t + 1 from f17]
    refine an_zle rfl (by omega) (fun h2 => ?_) (fun h2 => ?_)
    · omega
    · refine aw_run 1 (F' := (29, [some (.ref m), some (.int (nI kA)), some (.int (nI a)), some (.int (nI kB)), some (.int (nI b)), some (.int (nI 0)), x6, x7, x8, x9, x10, x11, x12, x13, x14], [.ref m])) rfl ?_
      refine aw_get rfl hM.o rfl ?_
      rw [show μ 17 0 = t + 1 from f17]
      refine aw_run 2 (F' := (34, [some (.ref m), some (.int (nI kA)), some (.int (nI a)), some (.int (nI kB)), some (.int (nI b)), some (.int (nI 0)), x6, x7, x8, x9, x10, x11, x12, x13, x14], [.int (nI (t + 1) - nI 1)])) rfl ?_
      rw [nI_sub (by omega)]
      rw [show (t + 1) - 1 = t from rfl]
      refine aw_run 2 (F' := (37, [some (.ref m), some (.int (nI kA)), some (.int (nI a)), some (.int (nI kB)), some (.int (nI b)), some (.int (nI 0)), some (.int (nI t)), x7, x8, x9, x10, x11, x12, x13, x14], [.ref m])) rfl ?_
      refine aw_get rfl hM.o rfl ?_
      refine aw_run 1 (F' := (42, [some (.ref m), some (.int (nI kA)), some (.int (nI a)), some (.int (nI kB)), some (.int (nI b)), some (.int (nI 0)), some (.int (nI t)), x7, x8, x9, x10, x11, x12, x13, x14], [.int (nI t), .ref (m + 13)])) rfl ?_
      refine ms_ild hM rfl (k := 18) (n := 20) (by decide) (by omega) ?_
      rw [show μ 18 t = pA from fA]
      refine aw_run 2 (F' := (46, [some (.ref m), some (.int (nI kA)), some (.int (nI a)), some (.int (nI kB)), some (.int (nI b)), some (.int (nI 0)), some (.int (nI t)), some (.int (nI pA)), x8, x9, x10, x11, x12, x13, x14], [.ref m])) rfl ?_
      refine aw_get rfl hM.o rfl ?_
      refine aw_run 1 (F' := (51, [some (.ref m), some (.int (nI kA)), some (.int (nI a)), some (.int (nI kB)), some (.int (nI b)), some (.int (nI 0)), some (.int (nI t)), some (.int (nI pA)), x8, x9, x10, x11, x12, x13, x14], [.int (nI t), .ref (m + 15)])) rfl ?_
      refine ms_ild hM rfl (k := 20) (n := 20) (by decide) (by omega) ?_
      rw [show μ 20 t = pB from fB]
      refine aw_run 3 (F' := (57, [some (.ref m), some (.int (nI kA)), some (.int (nI a)), some (.int (nI kB)), some (.int (nI b)), some (.int (nI 0)), some (.int (nI t)), some (.int (nI pA)), some (.int (nI pB)), x9, x10, x11, x12, x13, x14], [.ref m, .int (nI pA)])) rfl ?_
      refine aw_get rfl hM.o rfl ?_
      refine aw_run 1 (F' := (62, [some (.ref m), some (.int (nI kA)), some (.int (nI a)), some (.int (nI kB)), some (.int (nI b)), some (.int (nI 0)), some (.int (nI t)), some (.int (nI pA)), some (.int (nI pB)), x9, x10, x11, x12, x13, x14], [.int (nI t), .ref (m + 14), .int (nI pA)])) rfl ?_
      refine ms_ild hM rfl (k := 19) (n := 20) (by decide) (by omega) ?_
      rw [show μ 19 t = eA from gA]
      refine an_cne rfl (by omega) (by omega) (fun h3 => ?_) (fun h3 => ?_)
      · refine aw_run 4 (F' := (76, [some (.ref m), some (.int (nI kA)), some (.int (nI a)), some (.int (nI kB)), some (.int (nI b)), some (.int (nI 0)), some (.int (nI t)), some (.int (nI pA)), some (.int (nI pB)), some (.int (nI 0)), x10, x11, x12, x13, x14], [.ref m, .int (nI pB)])) rfl ?_
        refine aw_get rfl hM.o rfl ?_
        refine aw_run 1 (F' := (81, [some (.ref m), some (.int (nI kA)), some (.int (nI a)), some (.int (nI kB)), some (.int (nI b)), some (.int (nI 0)), some (.int (nI t)), some (.int (nI pA)), some (.int (nI pB)), some (.int (nI 0)), x10, x11, x12, x13, x14], [.int (nI t), .ref (m + 16), .int (nI pB)])) rfl ?_
        refine ms_ild hM rfl (k := 21) (n := 20) (by decide) (by omega) ?_
        rw [show μ 21 t = eB from gB]
        refine an_cne rfl (by omega) (by omega) (fun h4 => ?_) (fun h4 => ?_)
        · refine aw_run 3 (F' := (94, [some (.ref m), some (.int (nI kA)), some (.int (nI a)), some (.int (nI kB)), some (.int (nI b)), some (.int (nI 0)), some (.int (nI t)), some (.int (nI pA)), some (.int (nI pB)), some (.int (nI 0)), some (.int (nI 0)), x11, x12, x13, x14], [.int (nI 0)])) rfl ?_
          refine an_zne rfl (by omega) (fun z => absurd z (by omega)) (fun _ => ?_)
          refine aw_run 1 (F' := (99, [some (.ref m), some (.int (nI kA)), some (.int (nI a)), some (.int (nI kB)), some (.int (nI b)), some (.int (nI 0)), some (.int (nI t)), some (.int (nI pA)), some (.int (nI pB)), some (.int (nI 0)), some (.int (nI 0)), x11, x12, x13, x14], [.int (nI 0)])) rfl ?_
          refine an_zeq rfl (by omega) (fun _ => ?_) (fun z => absurd z (by omega))
          refine aw_run 4 (F' := (146, [some (.ref m), some (.int (nI kA)), some (.int (nI a)), some (.int (nI kB)), some (.int (nI b)), some (.int (nI 0)), some (.int (nI t)), some (.int (nI pA)), some (.int (nI pB)), some (.int (nI 0)), some (.int (nI 0)), x11, x12, x13, x14], [.int (nI pA + nI 1), .ref m])) rfl ?_
          rw [nI_add]
          refine aw_run 1 (F' := (147, [some (.ref m), some (.int (nI kA)), some (.int (nI a)), some (.int (nI kB)), some (.int (nI b)), some (.int (nI 0)), some (.int (nI t)), some (.int (nI pA)), some (.int (nI pB)), some (.int (nI 0)), some (.int (nI 0)), x11, x12, x13, x14], [.ref m, .int (nI (pA + 1)), .ref m])) rfl ?_
          refine aw_get rfl hM.o rfl ?_
          refine aw_run 1 (F' := (152, [some (.ref m), some (.int (nI kA)), some (.int (nI a)), some (.int (nI kB)), some (.int (nI b)), some (.int (nI 0)), some (.int (nI t)), some (.int (nI pA)), some (.int (nI pB)), some (.int (nI 0)), some (.int (nI 0)), x11, x12, x13, x14], [.int (nI t), .ref (m + 14), .int (nI (pA + 1)), .ref m])) rfl ?_
          refine ms_ild hM rfl (k := 19) (n := 20) (by decide) (by omega) ?_
          rw [show μ 19 t = eA from gA]
          refine aw_v [.ref m, .int (nI (pA + 1)), .int (nI eA)] [] rfl (by decide) rfl hM.o rfl rfl (Nat.le_of_ble_eq_true rfl) (Nat.le_of_ble_eq_true rfl) ?_
          refine m_nes hM (by omega) nA sA2 ?_
          show AW g _ 78 (156, [some (.ref m), some (.int (nI kA)), some (.int (nI a)), some (.int (nI kB)), some (.int (nI b)), some (.int (nI 0)), some (.int (nI t)), some (.int (nI pA)), some (.int (nI pB)), some (.int (nI 0)), some (.int (nI 0)), x11, x12, x13, x14], [.int (nI sA)]) σ _
          refine aw_run 5 (F' := (163, [some (.ref m), some (.int (nI kA)), some (.int (nI a)), some (.int (nI kB)), some (.int (nI b)), some (.int (nI 0)), some (.int (nI t)), some (.int (nI pA)), some (.int (nI pB)), some (.int (nI 0)), some (.int (nI 0)), some (.int (nI sA)), x12, x13, x14], [.int (nI pB + nI 1), .ref m])) rfl ?_
          rw [nI_add]
          refine aw_run 1 (F' := (164, [some (.ref m), some (.int (nI kA)), some (.int (nI a)), some (.int (nI kB)), some (.int (nI b)), some (.int (nI 0)), some (.int (nI t)), some (.int (nI pA)), some (.int (nI pB)), some (.int (nI 0)), some (.int (nI 0)), some (.int (nI sA)), x12, x13, x14], [.ref m, .int (nI (pB + 1)), .ref m])) rfl ?_
          refine aw_get rfl hM.o rfl ?_
          refine aw_run 1 (F' := (169, [some (.ref m), some (.int (nI kA)), some (.int (nI a)), some (.int (nI kB)), some (.int (nI b)), some (.int (nI 0)), some (.int (nI t)), some (.int (nI pA)), some (.int (nI pB)), some (.int (nI 0)), some (.int (nI 0)), some (.int (nI sA)), x12, x13, x14], [.int (nI t), .ref (m + 16), .int (nI (pB + 1)), .ref m])) rfl ?_
          refine ms_ild hM rfl (k := 21) (n := 20) (by decide) (by omega) ?_
          rw [show μ 21 t = eB from gB]
          refine aw_v [.ref m, .int (nI (pB + 1)), .int (nI eB)] [] rfl (by decide) rfl hM.o rfl rfl (Nat.le_of_ble_eq_true rfl) (Nat.le_of_ble_eq_true rfl) ?_
          refine m_nes hM (by omega) nB sB2 ?_
          show AW g _ 78 (173, [some (.ref m), some (.int (nI kA)), some (.int (nI a)), some (.int (nI kB)), some (.int (nI b)), some (.int (nI 0)), some (.int (nI t)), some (.int (nI pA)), some (.int (nI pB)), some (.int (nI 0)), some (.int (nI 0)), some (.int (nI sA)), x12, x13, x14], [.int (nI sB)]) σ _
          refine aw_run 3 (F' := (178, [some (.ref m), some (.int (nI kA)), some (.int (nI a)), some (.int (nI kB)), some (.int (nI b)), some (.int (nI 0)), some (.int (nI t)), some (.int (nI pA)), some (.int (nI pB)), some (.int (nI 0)), some (.int (nI 0)), some (.int (nI sA)), some (.int (nI sB)), x13, x14], [.int (nI pA), .ref m])) rfl ?_
          refine aw_v [.ref m, .int (nI pA)] [] rfl (by decide) rfl hM.o rfl rfl (Nat.le_of_ble_eq_true rfl) (Nat.le_of_ble_eq_true rfl) ?_
          have hB7 := hM.by (i := pA) (by omega)
          rw [show μ 1 pA = v.1.1 from bA] at hB7
          refine m_at hM (by omega) ?_
          rw [show μ 1 pA = v.1.1 from bA]
          show AW g _ 78 (181, [some (.ref m), some (.int (nI kA)), some (.int (nI a)), some (.int (nI kB)), some (.int (nI b)), some (.int (nI 0)), some (.int (nI t)), some (.int (nI pA)), some (.int (nI pB)), some (.int (nI 0)), some (.int (nI 0)), some (.int (nI sA)), some (.int (nI sB)), x13, x14], [.int (nI v.1.1)]) σ _
          refine aw_s [.int (nI v.1.1)] [] rfl ⟨by decide, by decide⟩ rfl rfl (Nat.le_of_ble_eq_true rfl) (Nat.le_of_ble_eq_true rfl) ?_
          refine m_cls (by omega) ?_
          show AW g _ 78 (184, [some (.ref m), some (.int (nI kA)), some (.int (nI a)), some (.int (nI kB)), some (.int (nI b)), some (.int (nI 0)), some (.int (nI t)), some (.int (nI pA)), some (.int (nI pB)), some (.int (nI 0)), some (.int (nI 0)), some (.int (nI sA)), some (.int (nI sB)), x13, x14], [.int (nI (sp_cls v.1.1))]) σ _
          refine aw_run 3 (F' := (189, [some (.ref m), some (.int (nI kA)), some (.int (nI a)), some (.int (nI kB)), some (.int (nI b)), some (.int (nI 0)), some (.int (nI t)), some (.int (nI pA)), some (.int (nI pB)), some (.int (nI 0)), some (.int (nI 0)), some (.int (nI sA)), some (.int (nI sB)), some (.int (nI (sp_cls v.1.1))), x14], [.int (nI pB), .ref m])) rfl ?_
          refine aw_v [.ref m, .int (nI pB)] [] rfl (by decide) rfl hM.o rfl rfl (Nat.le_of_ble_eq_true rfl) (Nat.le_of_ble_eq_true rfl) ?_
          have hB8 := hM.by (i := pB) (by omega)
          rw [show μ 1 pB = w.1.1 from bB] at hB8
          refine m_at hM (by omega) ?_
          rw [show μ 1 pB = w.1.1 from bB]
          show AW g _ 78 (192, [some (.ref m), some (.int (nI kA)), some (.int (nI a)), some (.int (nI kB)), some (.int (nI b)), some (.int (nI 0)), some (.int (nI t)), some (.int (nI pA)), some (.int (nI pB)), some (.int (nI 0)), some (.int (nI 0)), some (.int (nI sA)), some (.int (nI sB)), some (.int (nI (sp_cls v.1.1))), x14], [.int (nI w.1.1)]) σ _
          refine aw_s [.int (nI w.1.1)] [] rfl ⟨by decide, by decide⟩ rfl rfl (Nat.le_of_ble_eq_true rfl) (Nat.le_of_ble_eq_true rfl) ?_
          refine m_cls (by omega) ?_
          show AW g _ 78 (195, [some (.ref m), some (.int (nI kA)), some (.int (nI a)), some (.int (nI kB)), some (.int (nI b)), some (.int (nI 0)), some (.int (nI t)), some (.int (nI pA)), some (.int (nI pB)), some (.int (nI 0)), some (.int (nI 0)), some (.int (nI sA)), some (.int (nI sB)), some (.int (nI (sp_cls v.1.1))), x14], [.int (nI (sp_cls w.1.1))]) σ _
          refine aw_run 3 (F' := (201, [some (.ref m), some (.int (nI kA)), some (.int (nI a)), some (.int (nI kB)), some (.int (nI b)), some (.int (nI 0)), some (.int (nI t)), some (.int (nI pA)), some (.int (nI pB)), some (.int (nI 0)), some (.int (nI 0)), some (.int (nI sA)), some (.int (nI sB)), some (.int (nI (sp_cls v.1.1))), some (.int (nI (sp_cls w.1.1)))], [.int (nI (sp_cls w.1.1)), .int (nI (sp_cls v.1.1))])) rfl ?_
          refine an_cge rfl (by omega) (by omega) (fun h7 => ?_) (fun h7 => ?_)
          · refine aw_run 2 (F' := (212, [some (.ref m), some (.int (nI kA)), some (.int (nI a)), some (.int (nI kB)), some (.int (nI b)), some (.int (nI 0)), some (.int (nI t)), some (.int (nI pA)), some (.int (nI pB)), some (.int (nI 0)), some (.int (nI 0)), some (.int (nI sA)), some (.int (nI sB)), some (.int (nI (sp_cls v.1.1))), some (.int (nI (sp_cls w.1.1)))], [.int (nI (sp_cls w.1.1)), .int (nI (sp_cls v.1.1))])) rfl ?_
            refine an_cle rfl (by omega) (by omega) (fun h8 => ?_) (fun h8 => ?_)
            · refine aw_run 1 (F' := (220, [some (.ref m), some (.int (nI kA)), some (.int (nI a)), some (.int (nI kB)), some (.int (nI b)), some (.int (nI 0)), some (.int (nI t)), some (.int (nI pA)), some (.int (nI pB)), some (.int (nI 0)), some (.int (nI 0)), some (.int (nI sA)), some (.int (nI sB)), some (.int (nI (sp_cls v.1.1))), some (.int (nI (sp_cls w.1.1)))], [.ref m])) rfl ?_
              refine aw_get rfl hM.o rfl ?_
              refine aw_run 1 (F' := (225, [some (.ref m), some (.int (nI kA)), some (.int (nI a)), some (.int (nI kB)), some (.int (nI b)), some (.int (nI 0)), some (.int (nI t)), some (.int (nI pA)), some (.int (nI pB)), some (.int (nI 0)), some (.int (nI 0)), some (.int (nI sA)), some (.int (nI sB)), some (.int (nI (sp_cls v.1.1))), some (.int (nI (sp_cls w.1.1)))], [.int (nI t), .ref (m + 17)])) rfl ?_
              refine ms_zld hM rfl (k := 22) (n := 20) (by decide) (by omega) ?_
              rw [show μ 22 t = 0 from fR]
              refine an_zeq rfl (by omega) (fun _ => ?_) (fun z => absurd z (by omega))
              refine aw_run 4 (F' := (238, [some (.ref m), some (.int (nI kA)), some (.int (nI a)), some (.int (nI kB)), some (.int (nI b)), some (.int (nI 0)), some (.int (nI t)), some (.int (nI pA)), some (.int (nI pB)), some (.int (nI 0)), some (.int (nI 0)), some (.int (nI sA)), some (.int (nI sB)), some (.int (nI (sp_cls v.1.1))), some (.int (nI (sp_cls w.1.1)))], [.int (nI pA + nI 1), .ref m])) rfl ?_
              rw [nI_add]
              refine aw_run 3 (F' := (243, [some (.ref m), some (.int (nI kA)), some (.int (nI a)), some (.int (nI kB)), some (.int (nI b)), some (.int (nI 0)), some (.int (nI t)), some (.int (nI pA)), some (.int (nI pB)), some (.int (nI 0)), some (.int (nI 0)), some (.int (nI sA)), some (.int (nI sB)), some (.int (nI (sp_cls v.1.1))), some (.int (nI (sp_cls w.1.1)))], [.int (nI sA - nI pA), .int (nI (pA + 1)), .ref m])) rfl ?_
              rw [nI_sub (by omega)]
              refine aw_run 2 (F' := (245, [some (.ref m), some (.int (nI kA)), some (.int (nI a)), some (.int (nI kB)), some (.int (nI b)), some (.int (nI 0)), some (.int (nI t)), some (.int (nI pA)), some (.int (nI pB)), some (.int (nI 0)), some (.int (nI 0)), some (.int (nI sA)), some (.int (nI sB)), some (.int (nI (sp_cls v.1.1))), some (.int (nI (sp_cls w.1.1)))], [.int (nI (sA - pA) - nI 1), .int (nI (pA + 1)), .ref m])) rfl ?_
              rw [nI_sub (by omega)]
              refine aw_run 3 (F' := (249, [some (.ref m), some (.int (nI kA)), some (.int (nI a)), some (.int (nI kB)), some (.int (nI b)), some (.int (nI 0)), some (.int (nI t)), some (.int (nI pA)), some (.int (nI pB)), some (.int (nI 0)), some (.int (nI 0)), some (.int (nI sA)), some (.int (nI sB)), some (.int (nI (sp_cls v.1.1))), some (.int (nI (sp_cls w.1.1)))], [.int (nI pB + nI 1), .int (nI ((sA - pA) - 1)), .int (nI (pA + 1)), .ref m])) rfl ?_
              rw [nI_add]
              refine aw_run 3 (F' := (254, [some (.ref m), some (.int (nI kA)), some (.int (nI a)), some (.int (nI kB)), some (.int (nI b)), some (.int (nI 0)), some (.int (nI t)), some (.int (nI pA)), some (.int (nI pB)), some (.int (nI 0)), some (.int (nI 0)), some (.int (nI sA)), some (.int (nI sB)), some (.int (nI (sp_cls v.1.1))), some (.int (nI (sp_cls w.1.1)))], [.int (nI sB - nI pB), .int (nI (pB + 1)), .int (nI ((sA - pA) - 1)), .int (nI (pA + 1)), .ref m])) rfl ?_
              rw [nI_sub (by omega)]
              refine aw_run 2 (F' := (256, [some (.ref m), some (.int (nI kA)), some (.int (nI a)), some (.int (nI kB)), some (.int (nI b)), some (.int (nI 0)), some (.int (nI t)), some (.int (nI pA)), some (.int (nI pB)), some (.int (nI 0)), some (.int (nI 0)), some (.int (nI sA)), some (.int (nI sB)), some (.int (nI (sp_cls v.1.1))), some (.int (nI (sp_cls w.1.1)))], [.int (nI (sB - pB) - nI 1), .int (nI (pB + 1)), .int (nI ((sA - pA) - 1)), .int (nI (pA + 1)), .ref m])) rfl ?_
              rw [nI_sub (by omega)]
              refine aw_v [.ref m, .int (nI (pA + 1)), .int (nI ((sA - pA) - 1)), .int (nI (pB + 1)), .int (nI ((sB - pB) - 1))] [] rfl (by decide) rfl hM.o rfl rfl (Nat.le_of_ble_eq_true rfl) (Nat.le_of_ble_eq_true rfl) ?_
              refine m_bys hM (by omega) (by omega) ?_
              rw [show pA + 1 + (sA - pA - 1) = sA by omega, show pB + 1 + (sB - pB - 1) = sB by omega]
              show AW g _ 78 (259, [some (.ref m), some (.int (nI kA)), some (.int (nI a)), some (.int (nI kB)), some (.int (nI b)), some (.int (nI 0)), some (.int (nI t)), some (.int (nI pA)), some (.int (nI pB)), some (.int (nI 0)), some (.int (nI 0)), some (.int (nI sA)), some (.int (nI sB)), some (.int (nI (sp_cls v.1.1))), some (.int (nI (sp_cls w.1.1)))], [.int (sp_bc (sp_sub (μ 1) (pA + 1) sA) (sp_sub (μ 1) (pB + 1) sB))]) σ _
              refine aw_run 1 (F' := (261, [some (.ref m), some (.int (nI kA)), some (.int (nI a)), some (.int (nI kB)), some (.int (nI b)), some (.int (sp_bc (sp_sub (μ 1) (pA + 1) sA) (sp_sub (μ 1) (pB + 1) sB))), some (.int (nI t)), some (.int (nI pA)), some (.int (nI pB)), some (.int (nI 0)), some (.int (nI 0)), some (.int (nI sA)), some (.int (nI sB)), some (.int (nI (sp_cls v.1.1))), some (.int (nI (sp_cls w.1.1)))], [])) rfl ?_
              rw [show sp_nc (sp_cls v.1.1) (sp_cls w.1.1) = 0 from by unfold sp_nc; rw [if_neg (by omega), if_pos (by omega)], sp_or_0] at h
              exact h _ _
            · refine aw_run 3 (F' := (261, [some (.ref m), some (.int (nI kA)), some (.int (nI a)), some (.int (nI kB)), some (.int (nI b)), some (.int (nI 1)), some (.int (nI t)), some (.int (nI pA)), some (.int (nI pB)), some (.int (nI 0)), some (.int (nI 0)), some (.int (nI sA)), some (.int (nI sB)), some (.int (nI (sp_cls v.1.1))), some (.int (nI (sp_cls w.1.1)))], [])) rfl ?_
              rw [show sp_nc (sp_cls v.1.1) (sp_cls w.1.1) = 1 from by unfold sp_nc; rw [if_neg (by omega), if_neg (by omega)], sp_or_n (by decide)] at h
              exact h _ _
          · refine aw_run 3 (F' := (261, [some (.ref m), some (.int (nI kA)), some (.int (nI a)), some (.int (nI kB)), some (.int (nI b)), some (.int ((-1))), some (.int (nI t)), some (.int (nI pA)), some (.int (nI pB)), some (.int (nI 0)), some (.int (nI 0)), some (.int (nI sA)), some (.int (nI sB)), some (.int (nI (sp_cls v.1.1))), some (.int (nI (sp_cls w.1.1)))], [])) rfl ?_
            rw [show sp_nc (sp_cls v.1.1) (sp_cls w.1.1) = -1 from if_pos (by omega), sp_or_n (by decide)] at h
            exact h _ _
        · omega
      · omega
end P81
