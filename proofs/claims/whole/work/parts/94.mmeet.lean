/-- the leaves where they lie -/
def lfv (μ : sp_M) (base : Nat) (A : List sp_V) : Prop := A.length ≤ 500 ∧ ∀ k v, A[k]? = some v → μ 11 (base + k) = v.1.1 ∧ vat (μ 1) v (μ 12 (base + k)) ∧ μ 12 (base + k) ≤ 14000 ∧ sp_hgt v.2 ≤ 16
theorem lfv.ag {μ μ' : sp_M} {base : Nat} {A : List sp_V} (h : lfv μ base A) (e : ag mKS μ μ') : lfv μ' base A := by
  unfold lfv
  rw [e 11 (by decide), e 12 (by decide), e 1 (by decide)]
  exact h
theorem any_drop {α : Type} {p : α → Bool} {L : List α} {j : Nat} {b : α} (h : L[j]? = some b) : (L.drop j).any p = (p b || (L.drop (j + 1)).any p) := by
  obtain ⟨h1, h2⟩ := List.getElem?_eq_some_iff.mp h
  rw [List.drop_eq_getElem_cons h1, List.any_cons, h2]
section P94
variable {g : Nat × Nat} {d : Nat} {σ0 σ : am_H} {Q : Option Value → am_H → Prop} {m : Nat} {μ : sp_M}
theorem m_mtI {x1 x2 x3 : Option Value} {μ2 : sp_M} {A B : List sp_V} {a : sp_V} {i : Nat} (hA : lfv μ2 0 A) (hB : lfv μ2 500 B) (ha : A[i]? = some a) (g1 : B.any (fun b => decide (sp_vc a b = 0)) = true → ∀ σ' μ', MS g m σ0 σ' μ' → ag mKS μ2 μ' → Q (some (.int 1)) σ') (g0 : B.any (fun b => decide (sp_vc a b = 0)) = false → ∀ σ' μ', MS g m σ0 σ' μ' → ag mKS μ2 μ' → AW g (d + 5) 98 (132, [some (.ref m), x1, x2, x3, some (.int (nI A.length)), some (.int (nI B.length)), some (.int (nI i)), some (.int (nI B.length))], []) σ' Q) : ∀ (r j : Nat) (σ : am_H) (μ : sp_M), j + r = B.length → MS g m σ0 σ μ → ag mKS μ2 μ → (B.drop j).any (fun b => decide (sp_vc a b = 0)) = B.any (fun b => decide (sp_vc a b = 0)) → AW g (d + 5) 98 (74, [some (.ref m), x1, x2, x3, some (.int (nI A.length)), some (.int (nI B.length)), some (.int (nI i)), some (.int (nI j))], []) σ Q := by
  have hAl := hA.1
  have hBl := hB.1
  have hil := (List.getElem?_eq_some_iff.mp ha).1
  intro r
  induction r with
  | zero =>
    intro j σ μ hj hM hag hany
    have hj' : j = B.length := by omega
    subst hj'
    rw [List.drop_length] at hany
    refine aw_run 2 (F' := (78, [some (.ref m), x1, x2, x3, some (.int (nI A.length)), some (.int (nI B.length)), some (.int (nI i)), some (.int (nI B.length))], [.int (nI B.length), .int (nI B.length)])) rfl ?_
    refine an_cge rfl (by omega) (by omega) (fun h1 => ?_) (fun h1 => ?_)
    · exact g0 hany.symm σ μ hM hag
    · omega
  | succ r ih =>
    intro j σ μ hj hM hag hany
    have hb : B[j]? = some B[j] := List.getElem?_eq_getElem (by omega)
    generalize B[j] = b at hb
    rw [any_drop hb] at hany
    obtain ⟨p1, p2, p3, p4⟩ := (hA.ag hag).2 i a ha
    obtain ⟨q1, q2, q3, q4⟩ := (hB.ag hag).2 j b hb
    rw [Nat.zero_add] at p1 p2 p3
    refine aw_run 2 (F' := (78, [some (.ref m), x1, x2, x3, some (.int (nI A.length)), some (.int (nI B.length)), some (.int (nI i)), some (.int (nI j))], [.int (nI B.length), .int (nI j)])) rfl ?_
    refine an_cge rfl (by omega) (by omega) (fun h1 => ?_) (fun h1 => ?_)
    · omega
    · refine aw_run 2 (F' := (83, [some (.ref m), x1, x2, x3, some (.int (nI A.length)), some (.int (nI B.length)), some (.int (nI i)), some (.int (nI j))], [.ref m, .ref m])) rfl ?_
      refine aw_get rfl hM.o rfl ?_
      refine aw_run 1 (F' := (88, [some (.ref m), x1, x2, x3, some (.int (nI A.length)), some (.int (nI B.length)), some (.int (nI i)), some (.int (nI j))], [.int (nI i), .ref (m + 8), .ref m])) rfl ?_
      refine ms_ild hM rfl (k := 11) (n := 1000) (by decide) (by omega) ?_
      rw [show μ 11 i = a.1.1 from p1]
      refine aw_run 1 (F' := (90, [some (.ref m), x1, x2, x3, some (.int (nI A.length)), some (.int (nI B.length)), some (.int (nI i)), some (.int (nI j))], [.ref m, .int (nI a.1.1), .ref m])) rfl ?_
      refine aw_get rfl hM.o rfl ?_
      refine aw_run 1 (F' := (95, [some (.ref m), x1, x2, x3, some (.int (nI A.length)), some (.int (nI B.length)), some (.int (nI i)), some (.int (nI j))], [.int (nI i), .ref (m + 9), .int (nI a.1.1), .ref m])) rfl ?_
      refine ms_ild hM rfl (k := 12) (n := 1000) (by decide) (by omega) ?_
      refine aw_run 1 (F' := (97, [some (.ref m), x1, x2, x3, some (.int (nI A.length)), some (.int (nI B.length)), some (.int (nI i)), some (.int (nI j))], [.ref m, .int (nI (μ 12 i)), .int (nI a.1.1), .ref m])) rfl ?_
      refine aw_get rfl hM.o rfl ?_
      refine aw_run 3 (F' := (106, [some (.ref m), x1, x2, x3, some (.int (nI A.length)), some (.int (nI B.length)), some (.int (nI i)), some (.int (nI j))], [.int (nI 500 + nI j), .ref (m + 8), .int (nI (μ 12 i)), .int (nI a.1.1), .ref m])) rfl ?_
      rw [nI_add]
      refine ms_ild hM rfl (k := 11) (n := 1000) (by decide) (by omega) ?_
      rw [show μ 11 (500 + j) = b.1.1 from q1]
      refine aw_run 1 (F' := (108, [some (.ref m), x1, x2, x3, some (.int (nI A.length)), some (.int (nI B.length)), some (.int (nI i)), some (.int (nI j))], [.ref m, .int (nI b.1.1), .int (nI (μ 12 i)), .int (nI a.1.1), .ref m])) rfl ?_
      refine aw_get rfl hM.o rfl ?_
      refine aw_run 3 (F' := (117, [some (.ref m), x1, x2, x3, some (.int (nI A.length)), some (.int (nI B.length)), some (.int (nI i)), some (.int (nI j))], [.int (nI 500 + nI j), .ref (m + 9), .int (nI b.1.1), .int (nI (μ 12 i)), .int (nI a.1.1), .ref m])) rfl ?_
      rw [nI_add]
      refine ms_ild hM rfl (k := 12) (n := 1000) (by decide) (by omega) ?_
      refine aw_v [.ref m, .int (nI a.1.1), .int (nI (μ 12 i)), .int (nI b.1.1), .int (nI (μ 12 (500 + j)))] [] rfl (by decide) rfl hM.o rfl rfl (Nat.le_of_ble_eq_true rfl) (Nat.le_of_ble_eq_true rfl) ?_
      refine m_order hM (v := a) (w := b) p2 q2 p3 q3 p4 (fun s1 μ1 hM1 hag1 => ?_)
      show AW g _ 98 (121, [some (.ref m), x1, x2, x3, some (.int (nI A.length)), some (.int (nI B.length)), some (.int (nI i)), some (.int (nI j))], [.int (sp_vc a b)]) s1 _
      refine aw_zne rfl (fun h2 => ?_) (fun h2 => ?_)
      · refine aw_run 1 (F' := (129, [some (.ref m), x1, x2, x3, some (.int (nI A.length)), some (.int (nI B.length)), some (.int (nI i)), some (.int (nI j + nI 1))], [])) rfl ?_
        rw [nI_add]
        refine aw_run 1 (F' := (74, [some (.ref m), x1, x2, x3, some (.int (nI A.length)), some (.int (nI B.length)), some (.int (nI i)), some (.int (nI (j + 1)))], [])) rfl ?_
        refine ih (j + 1) s1 μ1 (by omega) hM1 (hag.tr hag1) ?_
        rw [← hany, decide_eq_false (by assumption), Bool.false_or]
      · have hz0 : sp_vc a b = 0 := Decidable.of_not_not h2
        refine aw_run 1 (F' := (125, [some (.ref m), x1, x2, x3, some (.int (nI A.length)), some (.int (nI B.length)), some (.int (nI i)), some (.int (nI j))], [.int (nI 1)])) rfl ?_
        exact aw_iret rfl ⟨_, rfl, rfl⟩ (g1 (by rw [← hany, decide_eq_true hz0, Bool.true_or]) s1 μ1 hM1 (hag.tr hag1))
theorem m_mtO {x1 x2 x3 : Option Value} {μ2 : sp_M} {A B : List sp_V} (hA : lfv μ2 0 A) (hB : lfv μ2 500 B) (g1 : sp_mt A B = true → ∀ σ' μ', MS g m σ0 σ' μ' → ag mKS μ2 μ' → Q (some (.int 1)) σ') (g0 : sp_mt A B = false → ∀ σ' μ', MS g m σ0 σ' μ' → ag mKS μ2 μ' → Q (some (.int 0)) σ') : ∀ (r i : Nat) (σ : am_H) (μ : sp_M) (x7 : Option Value), i + r = A.length → MS g m σ0 σ μ → ag mKS μ2 μ → (A.drop i).any (fun a => B.any (fun b => decide (sp_vc a b = 0))) = sp_mt A B → AW g (d + 5) 98 (64, [some (.ref m), x1, x2, x3, some (.int (nI A.length)), some (.int (nI B.length)), some (.int (nI i)), x7], []) σ Q := by
  have hAl := hA.1
  have hBl := hB.1
  intro r
  induction r with
  | zero =>
    intro i σ μ x7 hi hM hag hany
    have hi' : i = A.length := by omega
    subst hi'
    rw [List.drop_length] at hany
    refine aw_run 2 (F' := (68, [some (.ref m), x1, x2, x3, some (.int (nI A.length)), some (.int (nI B.length)), some (.int (nI A.length)), x7], [.int (nI A.length), .int (nI A.length)])) rfl ?_
    refine an_cge rfl (by omega) (by omega) (fun h1 => ?_) (fun h1 => ?_)
    · refine aw_run 1 (F' := (139, [some (.ref m), x1, x2, x3, some (.int (nI A.length)), some (.int (nI B.length)), some (.int (nI A.length)), x7], [.int (nI 0)])) rfl ?_
      exact aw_iret rfl ⟨_, rfl, rfl⟩ (g0 hany.symm σ μ hM hag)
    · omega
  | succ r ih =>
    intro i σ μ x7 hi hM hag hany
    have ha : A[i]? = some A[i] := List.getElem?_eq_getElem (by omega)
    generalize A[i] = a at ha
    rw [any_drop ha] at hany
    refine aw_run 2 (F' := (68, [some (.ref m), x1, x2, x3, some (.int (nI A.length)), some (.int (nI B.length)), some (.int (nI i)), x7], [.int (nI A.length), .int (nI i)])) rfl ?_
    refine an_cge rfl (by omega) (by omega) (fun h1 => ?_) (fun h1 => ?_)
    · omega
    · refine aw_run 2 (F' := (74, [some (.ref m), x1, x2, x3, some (.int (nI A.length)), some (.int (nI B.length)), some (.int (nI i)), some (.int (nI 0))], [])) rfl ?_
      refine m_mtI hA hB ha (fun hz σ1 μ1 hM1 hag1 => g1 (by rw [← hany, hz, Bool.true_or]) σ1 μ1 hM1 hag1) (fun hz σ1 μ1 hM1 hag1 => ?_) B.length 0 σ μ (by omega) hM hag (by rw [List.drop_zero])
      refine aw_run 1 (F' := (135, [some (.ref m), x1, x2, x3, some (.int (nI A.length)), some (.int (nI B.length)), some (.int (nI i + nI 1)), some (.int (nI B.length))], [])) rfl ?_
      rw [nI_add]
      refine aw_run 1 (F' := (64, [some (.ref m), x1, x2, x3, some (.int (nI A.length)), some (.int (nI B.length)), some (.int (nI (i + 1))), some (.int (nI B.length))], [])) rfl ?_
      refine ih (i + 1) σ1 μ1 _ (by omega) hM1 hag1 ?_
      rw [← hany, hz, Bool.false_or]
theorem lfs.v {μ μ' : sp_M} {lo wd base : Nat} {L : List sp_V} (h : lfs μ' (μ 1) lo wd base L) (hl : L.length ≤ 500) (hlo : lo + wd ≤ 14000) (e : μ' 1 = μ 1) : lfv μ' base L := by
  refine ⟨hl, fun k v hv => ?_⟩
  have hk := (List.getElem?_eq_some_iff.mp hv).1
  obtain ⟨l1, l2⟩ := h.2 k v (by omega) hv
  rw [e]
  exact ⟨l1, l2.at hlo, by have := l2.2.1; omega, l2.1⟩
/-- meet -/
theorem m_meet (hM : MS g m σ0 σ μ) {S : sp_S} (hR : RS S μ) (r s : Int32) (it : Bool) (hQ : ∀ σ' μ', MS g m σ0 σ' μ' → RS S μ' → Q (some (.int (bI (sp_meet S r s it)))) σ') : AW g (d + 5) 98 (0, [some (.ref m), some (.int r), some (.int s), some (.int (bI it)), none, none, none, none], []) σ Q := by
  rw [bI_nI it]
  have h3 := hR.2.2.2.2.1.2.1
  have h8 := hR.2.2.2.2.1.1
  refine aw_run 1 (F' := (1, [some (.ref m), some (.int r), some (.int s), some (.int (nI (if it = true then 1 else 0))), none, none, none, none], [.int r])) rfl ?_
  refine aw_s [.int r] [] rfl ⟨by decide, by decide⟩ rfl rfl (Nat.le_of_ble_eq_true rfl) (Nat.le_of_ble_eq_true rfl) ?_
  refine m_slot r (fun i hi hs1 hi1 => ?_) (fun hi1 => ?_)
  · subst hs1
    show AW g _ 98 (4, [some (.ref m), some (.int (nI i)), some (.int s), some (.int (nI (if it = true then 1 else 0))), none, none, none, none], [.int (nI 1)]) σ _
    refine an_zeq rfl (by omega) (fun z => absurd z (by omega)) (fun _ => ?_)
    refine aw_run 1 (F' := (8, [some (.ref m), some (.int (nI i)), some (.int (s)), some (.int (nI ((if it = true then 1 else 0)))), none, none, none, none], [.int (s)])) rfl ?_
    skip
    refine aw_s [.int s] [] rfl ⟨by decide, by decide⟩ rfl rfl (Nat.le_of_ble_eq_true rfl) (Nat.le_of_ble_eq_true rfl) ?_
    refine m_slot s (fun j hj hs2 hi2 => ?_) (fun hi2 => ?_)
    · subst hs2
      have e1 : sp_meet S (nI i) (nI j) it = decide (¬ S.2.2.2.2 = [] ∧ (sp_lv it 17 (sp_dv (S.2.2.1 i)) S.2.2.2.2).length ≤ 500 ∧ (sp_lv it 17 (sp_dv (S.2.2.1 j)) S.2.2.2.2).length ≤ 500 ∧ sp_mt (sp_lv it 17 (sp_dv (S.2.2.1 i)) S.2.2.2.2) (sp_lv it 17 (sp_dv (S.2.2.1 j)) S.2.2.2.2) = true) := by unfold sp_meet; rw [hi1, hi2]
      rw [e1] at hQ
      clear e1
      show AW g _ 98 (11, [some (.ref m), some (.int (nI i)), some (.int (nI j)), some (.int (nI (if it = true then 1 else 0))), none, none, none, none], [.int (nI 1)]) σ _
      by_cases hP : S.2.2.2.2 = []
      · rw [decide_eq_false (fun z => z.1 hP)] at hQ
        have h30 : μ 3 0 = 0 := by rw [h3, hP]; rfl
        refine an_zeq rfl (by omega) (fun z => absurd z (by omega)) (fun _ => ?_)
        refine aw_run 1 (F' := (15, [some (.ref m), some (.int (nI i)), some (.int (nI j)), some (.int (nI ((if it = true then 1 else 0)))), none, none, none, none], [.ref m])) rfl ?_
        refine aw_get rfl hM.o rfl ?_
        rw [show μ 3 0 = 0 from h30]
        refine an_zne rfl (by omega) (fun z => absurd z (by omega)) (fun _ => ?_)
        refine aw_run 1 (F' := (22, [some (.ref m), some (.int (nI i)), some (.int (nI j)), some (.int (nI ((if it = true then 1 else 0)))), none, none, none, none], [.int (nI 0)])) rfl ?_
        exact aw_iret rfl ⟨_, rfl, rfl⟩ (hQ _ _ hM hR)
      · have hPl : S.2.2.2.2.length ≠ 0 := fun z => hP (List.length_eq_zero_iff.mp z)
        obtain ⟨d1, d2, d3, d4, d5⟩ := hR.doc hi
        obtain ⟨f1, f2, f3, f4, f5⟩ := hR.doc hj
        refine an_zeq rfl (by omega) (fun z => absurd z (by omega)) (fun _ => ?_)
        refine aw_run 1 (F' := (15, [some (.ref m), some (.int (nI i)), some (.int (nI j)), some (.int (nI ((if it = true then 1 else 0)))), none, none, none, none], [.ref m])) rfl ?_
        refine aw_get rfl hM.o rfl ?_
        rw [show μ 3 0 = S.2.2.2.2.length from h3]
        refine an_zne rfl (by omega) (fun _ => ?_) (fun z => absurd z hPl)
        refine aw_run 4 (F' := (27, [some (.ref m), some (.int (nI i)), some (.int (nI j)), some (.int (nI (if it = true then 1 else 0))), none, none, none, none], [.int (nI 0), .int (nI (if it = true then 1 else 0)), .int (nI i), .ref m])) rfl ?_
        refine aw_v [.ref m, .int (nI i), .int (nI (if it = true then 1 else 0)), .int (nI 0)] [] rfl (by decide) rfl hM.o rfl rfl (Nat.le_of_ble_eq_true rfl) (Nat.le_of_ble_eq_true rfl) ?_
        refine m_find hM hR (base := 0) hi (by omega) it (fun hl1 s2 μ2 hM2 hf2 => ?_) (fun hl1 s2 μ2 hM2 hf2 hlf2 => ?_)
        · have hR1 : RS S μ2 := hR.kept (fun k h1 h2 => hf2.1 k (by omega))
          show AW g _ 98 (30, [some (.ref m), some (.int (nI i)), some (.int (nI j)), some (.int (nI (if it = true then 1 else 0))), none, none, none, none], [.int (nI 501)]) s2 _
          refine aw_run 5 (F' := (38, [some (.ref m), some (.int (nI i)), some (.int (nI j)), some (.int (nI ((if it = true then 1 else 0)))), some (.int (nI 501)), none, none, none], [.int (nI 500), .int (nI ((if it = true then 1 else 0))), .int (nI j), .ref m])) rfl ?_
          refine aw_v [.ref m, .int (nI j), .int (nI ((if it = true then 1 else 0))), .int (nI 500)] [] rfl (by decide) rfl hM2.o rfl rfl (Nat.le_of_ble_eq_true rfl) (Nat.le_of_ble_eq_true rfl) ?_
          refine m_find hM2 hR1 (base := 500) hj (by omega) it (fun hl2 s3 μ3 hM3 hf3 => ?_) (fun hl2 s3 μ3 hM3 hf3 hlf3 => ?_)
          · have hR2 : RS S μ3 := hR1.kept (fun k h1 h2 => hf3.1 k (by omega))
            show AW g _ 98 (41, [some (.ref m), some (.int (nI i)), some (.int (nI j)), some (.int (nI ((if it = true then 1 else 0)))), some (.int (nI 501)), none, none, none], [.int (nI 501)]) s3 _
            refine aw_run 3 (F' := (48, [some (.ref m), some (.int (nI i)), some (.int (nI j)), some (.int (nI ((if it = true then 1 else 0)))), some (.int (nI 501)), some (.int (nI 501)), none, none], [.int (nI 500), .int (nI 501)])) rfl ?_
            refine an_cgt rfl (by omega) (by omega) (fun _ => ?_) (fun z => absurd z (by omega))
            refine aw_run 1 (F' := (60, [some (.ref m), some (.int (nI i)), some (.int (nI j)), some (.int (nI ((if it = true then 1 else 0)))), some (.int (nI 501)), some (.int (nI 501)), none, none], [.int (nI 0)])) rfl ?_
            exact aw_iret rfl ⟨_, rfl, rfl⟩ (by rw [decide_eq_false (fun z => by omega)] at hQ; exact hQ _ _ hM3 hR2)
          · have hR2 : RS S μ3 := hR1.kept (fun k h1 h2 => hf3.1 k (by omega))
            show AW g _ 98 (41, [some (.ref m), some (.int (nI i)), some (.int (nI j)), some (.int (nI ((if it = true then 1 else 0)))), some (.int (nI 501)), none, none, none], [.int (nI ((sp_lv it 17 (sp_dv (S.2.2.1 j)) S.2.2.2.2).length))]) s3 _
            refine aw_run 3 (F' := (48, [some (.ref m), some (.int (nI i)), some (.int (nI j)), some (.int (nI ((if it = true then 1 else 0)))), some (.int (nI 501)), some (.int (nI ((sp_lv it 17 (sp_dv (S.2.2.1 j)) S.2.2.2.2).length))), none, none], [.int (nI 500), .int (nI 501)])) rfl ?_
            refine an_cgt rfl (by omega) (by omega) (fun _ => ?_) (fun z => absurd z (by omega))
            refine aw_run 1 (F' := (60, [some (.ref m), some (.int (nI i)), some (.int (nI j)), some (.int (nI ((if it = true then 1 else 0)))), some (.int (nI 501)), some (.int (nI ((sp_lv it 17 (sp_dv (S.2.2.1 j)) S.2.2.2.2).length))), none, none], [.int (nI 0)])) rfl ?_
            exact aw_iret rfl ⟨_, rfl, rfl⟩ (by rw [decide_eq_false (fun z => by omega)] at hQ; exact hQ _ _ hM3 hR2)
        · have hR1 : RS S μ2 := hR.kept (fun k h1 h2 => hf2.1 k (by omega))
          show AW g _ 98 (30, [some (.ref m), some (.int (nI i)), some (.int (nI j)), some (.int (nI (if it = true then 1 else 0))), none, none, none, none], [.int (nI (sp_lv it 17 (sp_dv (S.2.2.1 i)) S.2.2.2.2).length)]) s2 _
          refine aw_run 5 (F' := (38, [some (.ref m), some (.int (nI i)), some (.int (nI j)), some (.int (nI ((if it = true then 1 else 0)))), some (.int (nI ((sp_lv it 17 (sp_dv (S.2.2.1 i)) S.2.2.2.2).length))), none, none, none], [.int (nI 500), .int (nI ((if it = true then 1 else 0))), .int (nI j), .ref m])) rfl ?_
          refine aw_v [.ref m, .int (nI j), .int (nI ((if it = true then 1 else 0))), .int (nI 500)] [] rfl (by decide) rfl hM2.o rfl rfl (Nat.le_of_ble_eq_true rfl) (Nat.le_of_ble_eq_true rfl) ?_
          refine m_find hM2 hR1 (base := 500) hj (by omega) it (fun hl2 s3 μ3 hM3 hf3 => ?_) (fun hl2 s3 μ3 hM3 hf3 hlf3 => ?_)
          · have hR2 : RS S μ3 := hR1.kept (fun k h1 h2 => hf3.1 k (by omega))
            show AW g _ 98 (41, [some (.ref m), some (.int (nI i)), some (.int (nI j)), some (.int (nI ((if it = true then 1 else 0)))), some (.int (nI ((sp_lv it 17 (sp_dv (S.2.2.1 i)) S.2.2.2.2).length))), none, none, none], [.int (nI 501)]) s3 _
            refine aw_run 3 (F' := (48, [some (.ref m), some (.int (nI i)), some (.int (nI j)), some (.int (nI ((if it = true then 1 else 0)))), some (.int (nI ((sp_lv it 17 (sp_dv (S.2.2.1 i)) S.2.2.2.2).length))), some (.int (nI 501)), none, none], [.int (nI 500), .int (nI ((sp_lv it 17 (sp_dv (S.2.2.1 i)) S.2.2.2.2).length))])) rfl ?_
            refine an_cgt rfl (by omega) (by omega) (fun h21 => ?_) (fun h21 => ?_)
            · omega
            · refine aw_run 2 (F' := (56, [some (.ref m), some (.int (nI i)), some (.int (nI j)), some (.int (nI ((if it = true then 1 else 0)))), some (.int (nI ((sp_lv it 17 (sp_dv (S.2.2.1 i)) S.2.2.2.2).length))), some (.int (nI 501)), none, none], [.int (nI 500), .int (nI 501)])) rfl ?_
              refine an_cle rfl (by omega) (by omega) (fun z => absurd z (by omega)) (fun _ => ?_)
              refine aw_run 1 (F' := (60, [some (.ref m), some (.int (nI i)), some (.int (nI j)), some (.int (nI ((if it = true then 1 else 0)))), some (.int (nI ((sp_lv it 17 (sp_dv (S.2.2.1 i)) S.2.2.2.2).length))), some (.int (nI 501)), none, none], [.int (nI 0)])) rfl ?_
              exact aw_iret rfl ⟨_, rfl, rfl⟩ (by rw [decide_eq_false (fun z => by omega)] at hQ; exact hQ _ _ hM3 hR2)
          · have hR2 : RS S μ3 := hR1.kept (fun k h1 h2 => hf3.1 k (by omega))
            show AW g _ 98 (41, [some (.ref m), some (.int (nI i)), some (.int (nI j)), some (.int (nI ((if it = true then 1 else 0)))), some (.int (nI ((sp_lv it 17 (sp_dv (S.2.2.1 i)) S.2.2.2.2).length))), none, none, none], [.int (nI ((sp_lv it 17 (sp_dv (S.2.2.1 j)) S.2.2.2.2).length))]) s3 _
            refine aw_run 3 (F' := (48, [some (.ref m), some (.int (nI i)), some (.int (nI j)), some (.int (nI ((if it = true then 1 else 0)))), some (.int (nI ((sp_lv it 17 (sp_dv (S.2.2.1 i)) S.2.2.2.2).length))), some (.int (nI ((sp_lv it 17 (sp_dv (S.2.2.1 j)) S.2.2.2.2).length))), none, none], [.int (nI 500), .int (nI ((sp_lv it 17 (sp_dv (S.2.2.1 i)) S.2.2.2.2).length))])) rfl ?_
            refine an_cgt rfl (by omega) (by omega) (fun h23 => ?_) (fun h23 => ?_)
            · omega
            · refine aw_run 2 (F' := (56, [some (.ref m), some (.int (nI i)), some (.int (nI j)), some (.int (nI ((if it = true then 1 else 0)))), some (.int (nI ((sp_lv it 17 (sp_dv (S.2.2.1 i)) S.2.2.2.2).length))), some (.int (nI ((sp_lv it 17 (sp_dv (S.2.2.1 j)) S.2.2.2.2).length))), none, none], [.int (nI 500), .int (nI ((sp_lv it 17 (sp_dv (S.2.2.1 j)) S.2.2.2.2).length))])) rfl ?_
              refine an_cle rfl (by omega) (by omega) (fun h24 => ?_) (fun h24 => ?_)
              · refine aw_run 2 (F' := (64, [some (.ref m), some (.int (nI i)), some (.int (nI j)), some (.int (nI ((if it = true then 1 else 0)))), some (.int (nI ((sp_lv it 17 (sp_dv (S.2.2.1 i)) S.2.2.2.2).length))), some (.int (nI ((sp_lv it 17 (sp_dv (S.2.2.1 j)) S.2.2.2.2).length))), some (.int (nI 0)), none], [])) rfl ?_
                have hm2 : μ2 1 = μ 1 := hf2.1 1 (by omega)
                have hm3 : μ3 1 = μ2 1 := hf3.1 1 (by omega)
                have hA0 : lfv μ2 0 (sp_lv it 17 (sp_dv (S.2.2.1 i)) S.2.2.2.2) := lfs.v (μ := μ) hlf2 hl1 (by omega) hm2
                have hA : lfv μ3 0 (sp_lv it 17 (sp_dv (S.2.2.1 i)) S.2.2.2.2) := by
                  refine ⟨hA0.1, fun k v hv => ?_⟩
                  have hk := (List.getElem?_eq_some_iff.mp hv).1
                  obtain ⟨z1, z2⟩ := hf3.2 (0 + k) (Or.inl (by omega))
                  rw [z1, z2, hm3]
                  exact hA0.2 k v hv
                have hB : lfv μ3 500 (sp_lv it 17 (sp_dv (S.2.2.1 j)) S.2.2.2.2) := lfs.v (μ := μ2) hlf3 hl2 (by rw [hm2]; omega) hm3
                refine m_mtO hA hB (fun hz σ' μ' hM' hag => ?_) (fun hz σ' μ' hM' hag => ?_) (sp_lv it 17 (sp_dv (S.2.2.1 i)) S.2.2.2.2).length 0 s3 μ3 _ (by omega) hM3 ag.rf (by rw [List.drop_zero]; rfl)
                · rw [decide_eq_true ⟨hP, hl1, hl2, hz⟩] at hQ
                  exact hQ σ' μ' hM' (hR2.ag hag (by decide))
                · rw [decide_eq_false (fun z => by rw [z.2.2.2] at hz; cases hz)] at hQ
                  exact hQ σ' μ' hM' (hR2.ag hag (by decide))
              · omega
    · have e1 : sp_meet S (nI i) s it = false := by unfold sp_meet; rw [hi1, hi2]
      rw [e1] at hQ
      show AW g _ 98 (11, [some (.ref m), some (.int (nI i)), some (.int s), some (.int (nI (if it = true then 1 else 0))), none, none, none, none], [.int (nI 0)]) σ _
      refine an_zeq rfl (by omega) (fun _ => ?_) (fun z => absurd z (by omega))
      refine aw_run 1 (F' := (22, [some (.ref m), some (.int (nI i)), some (.int (s)), some (.int (nI ((if it = true then 1 else 0)))), none, none, none, none], [.int (nI 0)])) rfl ?_
      exact aw_iret rfl ⟨_, rfl, rfl⟩ (hQ _ _ hM hR)
  · have e1 : sp_meet S r s it = false := by unfold sp_meet; rw [hi1]
    rw [e1] at hQ
    show AW g _ 98 (4, [some (.ref m), some (.int r), some (.int s), some (.int (nI (if it = true then 1 else 0))), none, none, none, none], [.int (nI 0)]) σ _
    refine an_zeq rfl (by omega) (fun _ => ?_) (fun z => absurd z (by omega))
    refine aw_run 1 (F' := (22, [some (.ref m), some (.int (r)), some (.int (s)), some (.int (nI ((if it = true then 1 else 0)))), none, none, none, none], [.int (nI 0)])) rfl ?_
    exact aw_iret rfl ⟨_, rfl, rfl⟩ (hQ _ _ hM hR)
end P94
