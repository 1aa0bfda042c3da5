theorem nI_sa {a b c : Nat} (h : b ≤ a + c) : nI a - nI b + nI c = nI (a + c - b) := by
  rw [← nI_sub h, ← nI_add, Int32.sub_eq_add_neg, Int32.sub_eq_add_neg, Int32.add_assoc, Int32.add_assoc, Int32.add_comm (-nI b)]
theorem bI_nI (it : Bool) : bI it = nI (if it = true then 1 else 0) := by cases it <;> decide
/-- a slot's document: its size -/
theorem RS.doc {S : sp_S} {μ : sp_M} (h : RS S μ) {j : Nat} (hj : j < 4) : sp_hgt (S.2.2.1 j) ≤ 16 ∧ 5 ≤ sp_le (μ 1) (2000 * j) 4 ∧ sp_le (μ 1) (2000 * j) 4 ≤ 2000 ∧ lyV (μ 1) (sp_dv (S.2.2.1 j)) (2000 * j) (2000 * j + sp_le (μ 1) (2000 * j) 4) ∧ 2 * sp_all (S.2.2.1 j) ≤ 2000 := by
  obtain ⟨h1, q, h2, h3⟩ := h.2.2.2.1 j hj
  obtain ⟨-, -, n1, n2, n3⟩ := ly_nst h3 (Or.inl rfl)
  have e : q = sp_le (μ 1) (2000 * j) 4 := by omega
  rw [← e]
  have n4 := n3.all
  have n5 : 2 * sp_all (S.2.2.1 j) ≤ 2000 * j + q - 1 - (2000 * j + 4) := n4
  exact ⟨h1, by omega, h2, h3, by omega⟩
section P92
variable {g : Nat × Nat} {d : Nat} {σ0 σ : am_H} {Q : Option Value → am_H → Prop} {m : Nat} {μ : sp_M}
/-- find -/
theorem m_find (hM : MS g m σ0 σ μ) {S : sp_S} (hR : RS S μ) {j base : Nat} (hj : j < 4) (hb : base ≤ 500) (it : Bool) (gO : 500 < (sp_lv it 17 (sp_dv (S.2.2.1 j)) S.2.2.2.2).length → ∀ σ' μ', MS g m σ0 σ' μ' → ffr base μ μ' → Q (some (.int (nI 501))) σ') (gD : (sp_lv it 17 (sp_dv (S.2.2.1 j)) S.2.2.2.2).length ≤ 500 → ∀ σ' μ', MS g m σ0 σ' μ' → ffr base μ μ' → lfs μ' (μ 1) (2000 * j) (sp_le (μ 1) (2000 * j) 4) base (sp_lv it 17 (sp_dv (S.2.2.1 j)) S.2.2.2.2) → Q (some (.int (nI (sp_lv it 17 (sp_dv (S.2.2.1 j)) S.2.2.2.2).length))) σ') : AW g (d + 4) 84 (0, [some (.ref m), some (.int (nI j)), some (.int (nI (if it = true then 1 else 0))), some (.int (nI base)), none, none, none, none], []) σ Q := by
  obtain ⟨d1, d2, d3, d4, d5⟩ := hR.doc hj
  have hP : fnP μ S.2.2.2.2 := ⟨hR.2.2.2.2.1.1, hR.2.2.2.2.1.2.1, hR.2.2.2.2.1.2.2⟩
  refine aw_run 2 (F' := (2, [some (.ref m), some (.int (nI j)), some (.int (nI ((if it = true then 1 else 0)))), some (.int (nI base)), none, none, none, none], [.int (nI 0), .ref m])) rfl ?_
  refine ms_put hM rfl (by decide) (fun s1 hM1 => ?_)
  refine aw_run 2 (F' := (7, [some (.ref m), some (.int (nI j)), some (.int (nI ((if it = true then 1 else 0)))), some (.int (nI base)), none, none, none, none], [.int (nI 0), .ref m])) rfl ?_
  refine ms_put hM1 rfl (by decide) (fun s2 hM2 => ?_)
  refine aw_run 5 (F' := (17, [some (.ref m), some (.int (nI j)), some (.int (nI ((if it = true then 1 else 0)))), some (.int (nI base)), none, none, none, none], [.int (nI 2000 * nI j), .int (nI 3), .ref m])) rfl ?_
  rw [nI_mul]
  refine aw_run 1 (F' := (18, [some (.ref m), some (.int (nI j)), some (.int (nI ((if it = true then 1 else 0)))), some (.int (nI base)), none, none, none, none], [.int (nI 0), .int (nI (2000 * j)), .int (nI 3), .ref m])) rfl ?_
  refine aw_v [.ref m, .int (nI 3), .int (nI (2000 * j)), .int (nI 0)] [] rfl (by decide) rfl hM2.o rfl rfl (Nat.le_of_ble_eq_true rfl) (Nat.le_of_ble_eq_true rfl) ?_
  refine m_push hM2 (L := 0) (mup_s _ _ _ _) (by omega) (fun s3 hM3 => ?_)
  show AW g _ 84 (21, [some (.ref m), some (.int (nI j)), some (.int (nI ((if it = true then 1 else 0)))), some (.int (nI base)), none, none, none, none], []) s3 _
  generalize hμ3 : mup (mup (mup (mup (mup (mup μ 10 0 0) 13 0 0) 14 0 3) 15 0 (2000 * j)) 16 0 0) 13 0 (0 + 1) = μ3 at hM3
  have hpl : plx μ3 (μ 1) (2000 * j) (sp_le (μ 1) (2000 * j) 4) ([] ++ [(sp_dv (S.2.2.1 j), 0)]) := by
    rw [← hμ3]
    exact plx.push (μ := mup (mup μ 10 0 0) 13 0 0) (bs := []) (v := sp_dv (S.2.2.1 j)) (s := 0) (fun t x hx => by cases hx) ⟨d1, Nat.le_refl _, _, Nat.le_refl _, d4⟩
  have hff : ffr base μ μ3 := by
    rw [← hμ3]
    exact ffr.up (ffr.up (ffr.up (ffr.up (ffr.up (ffr.up ffr.rf (by decide)) (by decide)) (by decide)) (by decide)) (by decide)) (by decide)
  have h13 : μ3 13 0 = 1 := by rw [← hμ3, mup_s]
  have h10 : μ3 10 0 = 0 := by rw [← hμ3]; rfl
  clear hμ3
  refine m_fn (lo := 2000 * j) (wd := sp_le (μ 1) (2000 * j) 4) (β := μ 1) (μ0 := μ) (it := it) (P := S.2.2.2.2) hb (by omega) rfl rfl hP 17 s3 μ3 [] (sp_dv (S.2.2.1 j), 0) [] _ _ _ _ ⟨hM3, hff, hpl, h13, h10, fun k v _ hv => by cases hv⟩ (Nat.zero_le _) ⟨Nat.zero_le _, by show sp_hgt (S.2.2.1 j) < 17; omega, by show 0 + sp_all (S.2.2.1 j) + sp_hgt (S.2.2.1 j) + 1 ≤ 2999; omega⟩ ⟨fun q σ' μ' hM' hf' => gO q σ' μ' hM' hf', fun q σ' μ' y4 y5 y6 y7 hI => ?_⟩
  obtain ⟨i1, i2, i3, i4, i5⟩ := hI
  exact m_fEnd i1 i5.1 q i4 (gD q σ' μ' i1 i2 i5)
theorem m_lsC {w j n to sz : Nat} {x3 : Option Value} {μ1 : sp_M} (hj : 2000 * j + 2000 ≤ 8000) (hto : 8000 ≤ to ∧ to + 2000 ≤ 12000) (hsz : sz ≤ 2000) (hC : ∀ σ' μ', MS g m σ0 σ' μ' → (∀ f, f ≠ 1 → μ' f = μ1 f) → μ' 1 = cpd (μ1 1) to (2000 * j) sz → AW g d 83 (126, [some (.ref m), some (.int (nI w)), some (.int (nI j)), x3, some (.int (nI n)), some (.int (nI to)), some (.int (nI sz)), some (.int (nI sz))], []) σ' Q) : ∀ (r k : Nat) (σ : am_H) (μ : sp_M), k + r = sz → MS g m σ0 σ μ → (∀ f, f ≠ 1 → μ f = μ1 f) → μ 1 = cpd (μ1 1) to (2000 * j) k → AW g d 83 (90, [some (.ref m), some (.int (nI w)), some (.int (nI j)), x3, some (.int (nI n)), some (.int (nI to)), some (.int (nI sz)), some (.int (nI k))], []) σ Q := by
  intro r
  induction r with
  | zero =>
    intro k σ μ hk hM e1 e2
    have hk' : k = sz := by omega
    subst hk'
    refine aw_run 2 (F' := (94, [some (.ref m), some (.int (nI w)), some (.int (nI j)), x3, some (.int (nI n)), some (.int (nI to)), some (.int (nI k)), some (.int (nI k))], [.int (nI k), .int (nI k)])) rfl ?_
    refine an_cge rfl (by omega) (by omega) (fun h1 => ?_) (fun h1 => ?_)
    · exact hC σ μ hM e1 e2
    · omega
  | succ r ih =>
    intro k σ μ hk hM e1 e2
    refine aw_run 2 (F' := (94, [some (.ref m), some (.int (nI w)), some (.int (nI j)), x3, some (.int (nI n)), some (.int (nI to)), some (.int (nI sz)), some (.int (nI k))], [.int (nI sz), .int (nI k)])) rfl ?_
    refine an_cge rfl (by omega) (by omega) (fun h1 => ?_) (fun h1 => ?_)
    · omega
    · refine aw_run 1 (F' := (98, [some (.ref m), some (.int (nI w)), some (.int (nI j)), x3, some (.int (nI n)), some (.int (nI to)), some (.int (nI sz)), some (.int (nI k))], [.ref m])) rfl ?_
      refine aw_get rfl hM.o rfl ?_
      refine aw_run 3 (F' := (106, [some (.ref m), some (.int (nI w)), some (.int (nI j)), x3, some (.int (nI n)), some (.int (nI to)), some (.int (nI sz)), some (.int (nI k))], [.int (nI to + nI k), .ref (m + 1)])) rfl ?_
      rw [nI_add]
      refine aw_run 1 (F' := (107, [some (.ref m), some (.int (nI w)), some (.int (nI j)), x3, some (.int (nI n)), some (.int (nI to)), some (.int (nI sz)), some (.int (nI k))], [.ref m, .int (nI (to + k)), .ref (m + 1)])) rfl ?_
      refine aw_get rfl hM.o rfl ?_
      refine aw_run 3 (F' := (115, [some (.ref m), some (.int (nI w)), some (.int (nI j)), x3, some (.int (nI n)), some (.int (nI to)), some (.int (nI sz)), some (.int (nI k))], [.int (nI 2000 * nI j), .ref (m + 1), .int (nI (to + k)), .ref (m + 1)])) rfl ?_
      rw [nI_mul]
      refine aw_run 2 (F' := (118, [some (.ref m), some (.int (nI w)), some (.int (nI j)), x3, some (.int (nI n)), some (.int (nI to)), some (.int (nI sz)), some (.int (nI k))], [.int (nI (2000 * j) + nI k), .ref (m + 1), .int (nI (to + k)), .ref (m + 1)])) rfl ?_
      rw [nI_add]
      refine ms_bld hM rfl (k := 1) (n := 14000) (by decide) (by omega) ?_
      refine ms_bst hM rfl (k := 1) (n := 14000) (by decide) (by omega) (sb_nar0 _ (hM.by (by omega))) (hM.by (by omega)) (fun s1 hM1 => ?_)
      refine aw_run 1 (F' := (123, [some (.ref m), some (.int (nI w)), some (.int (nI j)), x3, some (.int (nI n)), some (.int (nI to)), some (.int (nI sz)), some (.int (nI k + nI 1))], [])) rfl ?_
      rw [nI_add]
      refine aw_run 1 (F' := (90, [some (.ref m), some (.int (nI w)), some (.int (nI j)), x3, some (.int (nI n)), some (.int (nI to)), some (.int (nI sz)), some (.int (nI (k + 1)))], [])) rfl ?_
      refine ih (k + 1) _ _ (by omega) hM1 (fun f hf => (mup_k _ _ _ hf).trans (e1 f hf)) ?_
      rw [mup_f]
      exact cpd_st e2 (by omega)
theorem m_lsF {w j to sz : Nat} {x3 : Option Value} {μ1 : sp_M} {Lv : List sp_V} (hw : w < 2) (hj : j < 4) (hto : to = 8000 + 2000 * w) (hl : Lv.length ≤ 500) (hlf : ∀ k v, Lv[k]? = some v → μ1 11 k = v.1.1 ∧ μ1 12 k ≤ 14000) (hC : ∀ σ' μ', MS g m σ0 σ' μ' → (∀ f, f ≠ 7 → f ≠ 8 → f ≠ 9 → μ' f = μ1 f) → (∀ i v, Lv[i]? = some v → μ' 7 (500 * w + i) = v.1.1 ∧ μ' 8 (500 * w + i) = μ1 12 i + to - 2000 * j ∧ μ' 9 (500 * w + i) = i) → (∀ x, x < 500 * w ∨ 500 * w + 500 ≤ x → μ' 7 x = μ1 7 x ∧ μ' 8 x = μ1 8 x ∧ μ' 9 x = μ1 9 x) → Q (some (.int (nI Lv.length))) σ') : ∀ (r k : Nat) (σ : am_H) (μ : sp_M), k + r = Lv.length → MS g m σ0 σ μ → (∀ f, f ≠ 7 → f ≠ 8 → f ≠ 9 → μ f = μ1 f) → (∀ i v, i < k → Lv[i]? = some v → μ 7 (500 * w + i) = v.1.1 ∧ μ 8 (500 * w + i) = μ1 12 i + to - 2000 * j ∧ μ 9 (500 * w + i) = i) → (∀ x, x < 500 * w ∨ 500 * w + 500 ≤ x → μ 7 x = μ1 7 x ∧ μ 8 x = μ1 8 x ∧ μ 9 x = μ1 9 x) → AW g d 83 (129, [some (.ref m), some (.int (nI w)), some (.int (nI j)), x3, some (.int (nI Lv.length)), some (.int (nI to)), some (.int (nI sz)), some (.int (nI k))], []) σ Q := by
  intro r
  induction r with
  | zero =>
    intro k σ μ hk hM e1 e2 e3
    have hk' : k = Lv.length := by omega
    subst hk'
    refine aw_run 2 (F' := (133, [some (.ref m), some (.int (nI w)), some (.int (nI j)), x3, some (.int (nI Lv.length)), some (.int (nI to)), some (.int (nI sz)), some (.int (nI Lv.length))], [.int (nI Lv.length), .int (nI Lv.length)])) rfl ?_
    refine an_cge rfl (by omega) (by omega) (fun h1 => ?_) (fun h1 => ?_)
    · refine aw_run 1 (F' := (208, [some (.ref m), some (.int (nI w)), some (.int (nI j)), x3, some (.int (nI Lv.length)), some (.int (nI to)), some (.int (nI sz)), some (.int (nI Lv.length))], [.int (nI Lv.length)])) rfl ?_
      exact aw_iret rfl ⟨_, rfl, rfl⟩ (hC σ μ hM e1 (fun i v hv => e2 i v (List.getElem?_eq_some_iff.mp hv).1 hv) e3)
    · omega
  | succ r ih =>
    intro k σ μ hk hM e1 e2 e3
    have hkl : k < Lv.length := by omega
    have hv : Lv[k]? = some Lv[k] := List.getElem?_eq_getElem hkl
    generalize Lv[k] = v at hv
    obtain ⟨l1, l2⟩ := hlf k v hv
    have m11 : μ 11 k = v.1.1 := by rw [e1 11 (by decide) (by decide) (by decide)]; exact l1
    have m12 : μ 12 k = μ1 12 k := by rw [e1 12 (by decide) (by decide) (by decide)]
    refine aw_run 2 (F' := (133, [some (.ref m), some (.int (nI w)), some (.int (nI j)), x3, some (.int (nI Lv.length)), some (.int (nI to)), some (.int (nI sz)), some (.int (nI k))], [.int (nI Lv.length), .int (nI k)])) rfl ?_
    refine an_cge rfl (by omega) (by omega) (fun h1 => ?_) (fun h1 => ?_)
    · omega
    · refine aw_run 1 (F' := (137, [some (.ref m), some (.int (nI w)), some (.int (nI j)), x3, some (.int (nI Lv.length)), some (.int (nI to)), some (.int (nI sz)), some (.int (nI k))], [.ref m])) rfl ?_
      refine aw_get rfl hM.o rfl ?_
      refine aw_run 3 (F' := (145, [some (.ref m), some (.int (nI w)), some (.int (nI j)), x3, some (.int (nI Lv.length)), some (.int (nI to)), some (.int (nI sz)), some (.int (nI k))], [.int (nI 500 * nI w), .ref (m + 5)])) rfl ?_
      rw [nI_mul]
      refine aw_run 2 (F' := (148, [some (.ref m), some (.int (nI w)), some (.int (nI j)), x3, some (.int (nI Lv.length)), some (.int (nI to)), some (.int (nI sz)), some (.int (nI k))], [.int (nI (500 * w) + nI k), .ref (m + 5)])) rfl ?_
      rw [nI_add]
      refine aw_run 1 (F' := (149, [some (.ref m), some (.int (nI w)), some (.int (nI j)), x3, some (.int (nI Lv.length)), some (.int (nI to)), some (.int (nI sz)), some (.int (nI k))], [.ref m, .int (nI ((500 * w) + k)), .ref (m + 5)])) rfl ?_
      refine aw_get rfl hM.o rfl ?_
      refine aw_run 1 (F' := (154, [some (.ref m), some (.int (nI w)), some (.int (nI j)), x3, some (.int (nI Lv.length)), some (.int (nI to)), some (.int (nI sz)), some (.int (nI k))], [.int (nI k), .ref (m + 8), .int (nI ((500 * w) + k)), .ref (m + 5)])) rfl ?_
      refine ms_ild hM rfl (k := 11) (n := 1000) (by decide) (by omega) ?_
      rw [show μ 11 k = v.1.1 from m11]
      refine ms_ist hM rfl (k := 7) (n := 1000) (by decide) (by omega) (fun s1 hM1 => ?_)
      refine aw_run 1 (F' := (157, [some (.ref m), some (.int (nI w)), some (.int (nI j)), x3, some (.int (nI Lv.length)), some (.int (nI to)), some (.int (nI sz)), some (.int (nI k))], [.ref m])) rfl ?_
      refine aw_get rfl hM1.o rfl ?_
      refine aw_run 3 (F' := (165, [some (.ref m), some (.int (nI w)), some (.int (nI j)), x3, some (.int (nI Lv.length)), some (.int (nI to)), some (.int (nI sz)), some (.int (nI k))], [.int (nI 500 * nI w), .ref (m + 6)])) rfl ?_
      rw [nI_mul]
      refine aw_run 2 (F' := (168, [some (.ref m), some (.int (nI w)), some (.int (nI j)), x3, some (.int (nI Lv.length)), some (.int (nI to)), some (.int (nI sz)), some (.int (nI k))], [.int (nI (500 * w) + nI k), .ref (m + 6)])) rfl ?_
      rw [nI_add]
      refine aw_run 1 (F' := (169, [some (.ref m), some (.int (nI w)), some (.int (nI j)), x3, some (.int (nI Lv.length)), some (.int (nI to)), some (.int (nI sz)), some (.int (nI k))], [.ref m, .int (nI ((500 * w) + k)), .ref (m + 6)])) rfl ?_
      refine aw_get rfl hM1.o rfl ?_
      refine aw_run 1 (F' := (174, [some (.ref m), some (.int (nI w)), some (.int (nI j)), x3, some (.int (nI Lv.length)), some (.int (nI to)), some (.int (nI sz)), some (.int (nI k))], [.int (nI k), .ref (m + 9), .int (nI ((500 * w) + k)), .ref (m + 6)])) rfl ?_
      refine ms_ild hM1 rfl (k := 12) (n := 1000) (by decide) (by omega) ?_
      rw [show (mup μ 7 ((500 * w) + k) v.1.1) 12 k = μ1 12 k from m12]
      refine aw_run 3 (F' := (180, [some (.ref m), some (.int (nI w)), some (.int (nI j)), x3, some (.int (nI Lv.length)), some (.int (nI to)), some (.int (nI sz)), some (.int (nI k))], [.int (nI 2000 * nI j), .int (nI (μ1 12 k)), .int (nI ((500 * w) + k)), .ref (m + 6)])) rfl ?_
      rw [nI_mul]
      refine aw_run 3 (F' := (184, [some (.ref m), some (.int (nI w)), some (.int (nI j)), x3, some (.int (nI Lv.length)), some (.int (nI to)), some (.int (nI sz)), some (.int (nI k))], [.int (nI (μ1 12 k) - nI (2000 * j) + nI to), .int (nI ((500 * w) + k)), .ref (m + 6)])) rfl ?_
      rw [nI_sa (by omega)]
      refine ms_ist hM1 rfl (k := 8) (n := 1000) (by decide) (by omega) (fun s11 hM11 => ?_)
      refine aw_run 1 (F' := (186, [some (.ref m), some (.int (nI w)), some (.int (nI j)), x3, some (.int (nI Lv.length)), some (.int (nI to)), some (.int (nI sz)), some (.int (nI k))], [.ref m])) rfl ?_
      refine aw_get rfl hM11.o rfl ?_
      refine aw_run 3 (F' := (194, [some (.ref m), some (.int (nI w)), some (.int (nI j)), x3, some (.int (nI Lv.length)), some (.int (nI to)), some (.int (nI sz)), some (.int (nI k))], [.int (nI 500 * nI w), .ref (m + 7)])) rfl ?_
      rw [nI_mul]
      refine aw_run 2 (F' := (197, [some (.ref m), some (.int (nI w)), some (.int (nI j)), x3, some (.int (nI Lv.length)), some (.int (nI to)), some (.int (nI sz)), some (.int (nI k))], [.int (nI (500 * w) + nI k), .ref (m + 7)])) rfl ?_
      rw [nI_add]
      refine aw_run 1 (F' := (199, [some (.ref m), some (.int (nI w)), some (.int (nI j)), x3, some (.int (nI Lv.length)), some (.int (nI to)), some (.int (nI sz)), some (.int (nI k))], [.int (nI k), .int (nI ((500 * w) + k)), .ref (m + 7)])) rfl ?_
      refine ms_ist hM11 rfl (k := 9) (n := 1000) (by decide) (by omega) (fun s12 hM12 => ?_)
      refine aw_run 1 (F' := (203, [some (.ref m), some (.int (nI w)), some (.int (nI j)), x3, some (.int (nI Lv.length)), some (.int (nI to)), some (.int (nI sz)), some (.int (nI k + nI 1))], [])) rfl ?_
      rw [nI_add]
      refine aw_run 1 (F' := (129, [some (.ref m), some (.int (nI w)), some (.int (nI j)), x3, some (.int (nI Lv.length)), some (.int (nI to)), some (.int (nI sz)), some (.int (nI (k + 1)))], [])) rfl ?_
      refine ih (k + 1) _ _ (by omega) hM12 (fun f h1 h2 h3 => ?_) (fun i v' hi hv' => ?_) (fun x hx => ?_)
      · rw [mup_k _ _ _ h3, mup_k _ _ _ h2, mup_k _ _ _ h1]
        exact e1 f h1 h2 h3
      · rw [mup_k _ _ _ (show (7 : Nat) ≠ 9 by decide), mup_k _ _ _ (show (7 : Nat) ≠ 8 by decide), mup_k _ _ _ (show (8 : Nat) ≠ 9 by decide)]
        by_cases ei : i = k
        · subst ei
          rw [hv] at hv'
          cases hv'
          rw [mup_s, mup_s, mup_s]
          exact ⟨rfl, rfl, rfl⟩
        · have hne : 500 * w + i ≠ 500 * w + k := by omega
          rw [mup_i _ _ _ hne, mup_i _ _ _ hne, mup_i _ _ _ hne, mup_k _ _ _ (show (8 : Nat) ≠ 7 by decide), mup_k _ _ _ (show (9 : Nat) ≠ 8 by decide), mup_k _ _ _ (show (9 : Nat) ≠ 7 by decide)]
          exact e2 i v' (by omega) hv'
      · rw [mup_k _ _ _ (show (7 : Nat) ≠ 9 by decide), mup_k _ _ _ (show (7 : Nat) ≠ 8 by decide), mup_k _ _ _ (show (8 : Nat) ≠ 9 by decide)]
        have hne : x ≠ 500 * w + k := by omega
        rw [mup_i _ _ _ hne, mup_i _ _ _ hne, mup_i _ _ _ hne, mup_k _ _ _ (show (8 : Nat) ≠ 7 by decide), mup_k _ _ _ (show (9 : Nat) ≠ 8 by decide), mup_k _ _ _ (show (9 : Nat) ≠ 7 by decide)]
        exact e3 x hx
end P92
