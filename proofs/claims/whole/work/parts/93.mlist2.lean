theorem lvd.mv {β β' : Nat → Nat} {v : sp_V} {lo lo' wd wd' p : Nat} (h : lvd β v lo wd p) (hw : wd ≤ wd') (hl : lo ≤ p + lo') (e : ∀ t, t < wd → β' (lo' + t) = β (lo + t)) : lvd β' v lo' wd' (p + lo' - lo) := by
  obtain ⟨h1, h2, h3⟩ := h
  refine ⟨h1, by omega, ?_⟩
  rcases h3 with z | ⟨z1, q, z2, z3⟩
  · exact Or.inl z
  · have z4 := ly1.le z3
    refine Or.inr ⟨by omega, q + lo' - lo, by omega, ?_⟩
    have := lyV.sh (β := β) (β' := β') (P := lo) (P' := lo') (n := wd) e (v := v) (x := p - lo) (y := q - lo) (by omega) (by rw [show lo + (p - lo) = p by omega, show lo + (q - lo) = q by omega]; exact z3)
    rw [show lo' + (p - lo) = p + lo' - lo by omega, show lo' + (q - lo) = q + lo' - lo by omega] at this
    exact this
theorem zip_at {L : List sp_V} {k : Nat} {x : sp_I} (h : L.zipIdx[k]? = some x) : L[k]? = some x.1 ∧ x.2 = k := by
  rw [List.getElem?_zipIdx] at h
  cases hk : L[k]? with
  | none => rw [hk] at h; cases h
  | some v =>
    rw [hk] at h
    have := Option.some.inj h
    rw [← this]
    exact ⟨rfl, Nat.zero_add _⟩
theorem RS.lst {S : sp_S} {μ μ2 μ5 : sp_M} {w j sz : Nat} {Lv : List sp_V} (hR : RS S μ) (hw : w < 2) (hj : j < 4) (hsz : sz ≤ 2000) (hl : Lv.length ≤ 500) (hff : ffr 0 μ μ2) (hlf : lfs μ2 (μ 1) (2000 * j) sz 0 Lv) (e1 : μ5 1 = cpd (μ 1) (8000 + 2000 * w) (2000 * j) sz) (e2 : ∀ f, 2 ≤ f → f ≤ 5 → μ5 f = μ f) (e6 : μ5 6 = mup μ2 6 w Lv.length 6) (e7 : ∀ i v, Lv[i]? = some v → μ5 7 (500 * w + i) = v.1.1 ∧ μ5 8 (500 * w + i) = μ2 12 i + (8000 + 2000 * w) - 2000 * j ∧ μ5 9 (500 * w + i) = i) (e8 : ∀ x, x < 500 * w ∨ 500 * w + 500 ≤ x → μ5 7 x = μ 7 x ∧ μ5 8 x = μ 8 x ∧ μ5 9 x = μ 9 x) : RS (setl S w Lv.zipIdx) μ5 := by
  obtain ⟨r1, r2, r3, r4, r5, r6⟩ := hR
  have hst : ∀ i, (i < 8000 + 2000 * w ∨ 8000 + 2000 * w + 2000 ≤ i) → μ5 1 i = μ 1 i := by
    intro i hi
    rw [e1]
    exact if_neg (by omega)
  refine ⟨r1, by rw [e2 2 (by omega) (by omega)]; exact r2, fun i => by rw [hst _ (by omega)]; exact r3 i, fun s hs => ?_, by rw [e2 3 (by omega) (by omega), e2 4 (by omega) (by omega), e2 5 (by omega) (by omega)]; exact r5, fun v hv => ?_⟩
  · obtain ⟨u1, q, u2, u3⟩ := r4 s hs
    have u4 : lyV (μ 1) (sp_dv (S.2.2.1 s)) (2000 * s + 0) (2000 * s + q) := u3
    exact ⟨u1, q, u2, lyV.kept (P := 2000 * s) (x := 0) (y := q) u4 (fun i h1 h2 => hst i (by omega))⟩
  · rw [e6]
    by_cases ev : v = w
    · subst ev
      rw [setl_at]
      refine ⟨by rw [List.length_zipIdx]; exact hl, by rw [mup_s, List.length_zipIdx], fun k x hx => ?_⟩
      obtain ⟨z1, z2⟩ := zip_at hx
      obtain ⟨y1, y2, y3⟩ := e7 k x.1 z1
      have hk := (List.getElem?_eq_some_iff.mp z1).1
      obtain ⟨-, l2⟩ := hlf.2 k x.1 (by omega) z1
      rw [Nat.zero_add] at l2
      refine ⟨y1, by rw [y3, z2], ?_⟩
      rw [y2]
      refine l2.mv hsz (by omega) (fun t ht => ?_)
      rw [e1]
      show (if 8000 + 2000 * v ≤ 8000 + 2000 * v + t ∧ 8000 + 2000 * v + t < 8000 + 2000 * v + sz then μ 1 (2000 * j + (8000 + 2000 * v + t - (8000 + 2000 * v))) else _) = _
      rw [if_pos (by omega), Nat.add_sub_cancel_left]
    · have h1 : (setl S w Lv.zipIdx).2.2.2.1 v = S.2.2.2.1 v := if_neg ev
      rw [h1, mup_i _ _ _ ev, hff.1 6 (by omega)]
      obtain ⟨u1, u2, u3⟩ := r6 v hv
      refine ⟨u1, u2, fun k x hx => ?_⟩
      have hk := (List.getElem?_eq_some_iff.mp hx).1
      obtain ⟨y1, y2, y3⟩ := e8 (500 * v + k) (by omega)
      rw [y1, y2, y3]
      obtain ⟨w1, w2, w3⟩ := u3 k x hx
      exact ⟨w1, w2, w3.kept (fun i h1 h2 => hst i (by omega))⟩
theorem RS.emp {S : sp_S} {μ : sp_M} {w : Nat} (hR : RS S μ) : RS (setl S w []) (mup μ 6 w 0) := by
  obtain ⟨r1, r2, r3, r4, r5, r6⟩ := hR
  refine ⟨r1, r2, r3, r4, r5, fun v hv => ?_⟩
  by_cases ev : v = w
  · subst ev
    rw [setl_at]
    exact ⟨Nat.zero_le _, mup_s _ _ _ _, fun k x hx => by cases hx⟩
  · have h1 : (setl S w []).2.2.2.1 v = S.2.2.2.1 v := if_neg ev
    rw [h1, mup_i _ _ _ ev]
    exact r6 v hv
section P93
variable {g : Nat × Nat} {d : Nat} {σ0 σ : am_H} {Q : Option Value → am_H → Prop} {m : Nat} {μ : sp_M}
/-- list -/
theorem m_list (hM : MS g m σ0 σ μ) {S : sp_S} (hR : RS S μ) (which slot : Int32) (it : Bool) (hQ : ∀ σ' μ', MS g m σ0 σ' μ' → RS (sp_list S which slot it).1 μ' → Q (some (.int (sp_list S which slot it).2)) σ') : AW g (d + 5) 83 (0, [some (.ref m), some (.int which), some (.int slot), some (.int (bI it)), none, none, none, none], []) σ Q := by
  rw [bI_nI]
  rcases sp_ix_c which (n := 2) (by omega) with ⟨hz, hi⟩ | ⟨w, hw, rfl, hi⟩
  · have e1 : sp_list S which slot it = (S, -2) := by unfold sp_list; rw [hi]
    rw [e1] at hQ
    refine aw_run 1 (F' := (1, [some (.ref m), some (.int (which)), some (.int (slot)), some (.int (nI ((if it = true then 1 else 0)))), none, none, none, none], [.int (which)])) rfl ?_
    refine aw_zlt rfl (fun h1 => ?_) (fun h1 => ?_)
    · refine aw_run 1 (F' := (25, [some (.ref m), some (.int (which)), some (.int (slot)), some (.int (nI ((if it = true then 1 else 0)))), none, none, none, none], [.int ((-2))])) rfl ?_
      exact aw_iret rfl ⟨_, rfl, rfl⟩ (hQ _ _ hM hR)
    · refine aw_run 2 (F' := (6, [some (.ref m), some (.int (which)), some (.int (slot)), some (.int (nI ((if it = true then 1 else 0)))), none, none, none, none], [.int (nI 1), .int (which)])) rfl ?_
      refine aw_cgt rfl (fun h2 => ?_) (fun h2 => ?_)
      · refine aw_run 1 (F' := (25, [some (.ref m), some (.int (which)), some (.int (slot)), some (.int (nI ((if it = true then 1 else 0)))), none, none, none, none], [.int ((-2))])) rfl ?_
        exact aw_iret rfl ⟨_, rfl, rfl⟩ (hQ _ _ hM hR)
      · exact absurd (hz.resolve_left (by assumption)).2 (fun y => by have h34 : nI 2 ≤ nI 1 := Int32.le_trans y (Int32.not_lt.mp h2); exact absurd ((nI_leI (by omega) (by omega)).mp h34) (by omega))
  · refine aw_run 1 (F' := (1, [some (.ref m), some (.int (nI w)), some (.int slot), some (.int (nI (if it = true then 1 else 0))), none, none, none, none], [.int (nI w)])) rfl ?_
    refine an_zlt rfl (by omega) ?_
    refine aw_run 2 (F' := (6, [some (.ref m), some (.int (nI w)), some (.int slot), some (.int (nI (if it = true then 1 else 0))), none, none, none, none], [.int (nI 1), .int (nI w)])) rfl ?_
    refine an_cgt rfl (by omega) (by omega) (fun z => absurd z (by omega)) (fun _ => ?_)
    refine aw_run 1 (F' := (10, [some (.ref m), some (.int (nI w)), some (.int slot), some (.int (nI (if it = true then 1 else 0))), none, none, none, none], [.int slot])) rfl ?_
    refine aw_s [.int slot] [] rfl ⟨by decide, by decide⟩ rfl rfl (Nat.le_of_ble_eq_true rfl) (Nat.le_of_ble_eq_true rfl) ?_
    refine m_slot slot (fun j hj hs2 hi2 => ?_) (fun hi2 => ?_)
    · subst hs2
      show AW g _ 83 (13, [some (.ref m), some (.int (nI w)), some (.int (nI j)), some (.int (nI (if it = true then 1 else 0))), none, none, none, none], [.int (nI 1)]) σ _
      have h3 := hR.2.2.2.2.1.2.1
      have h8 := hR.2.2.2.2.1.1
      by_cases hP : S.2.2.2.2 = []
      · have e1 : sp_list S (nI w) (nI j) it = (S, -2) := by unfold sp_list; rw [hi, hi2]; exact if_pos hP
        rw [e1] at hQ
        have h30 : μ 3 0 = 0 := by rw [h3, hP]; rfl
        refine an_zeq rfl (by omega) (fun z => absurd z (by omega)) (fun _ => ?_)
        refine aw_run 1 (F' := (17, [some (.ref m), some (.int (nI w)), some (.int (nI j)), some (.int (nI ((if it = true then 1 else 0)))), none, none, none, none], [.ref m])) rfl ?_
        refine aw_get rfl hM.o rfl ?_
        rw [show μ 3 0 = 0 from h30]
        refine an_zne rfl (by omega) (fun z => absurd z (by omega)) (fun _ => ?_)
        refine aw_run 1 (F' := (25, [some (.ref m), some (.int (nI w)), some (.int (nI j)), some (.int (nI ((if it = true then 1 else 0)))), none, none, none, none], [.int ((-2))])) rfl ?_
        exact aw_iret rfl ⟨_, rfl, rfl⟩ (hQ _ _ hM hR)
      · have hPl : S.2.2.2.2.length ≠ 0 := fun z => hP (List.length_eq_zero_iff.mp z)
        obtain ⟨d1, d2, d3, d4, d5⟩ := hR.doc hj
        refine an_zeq rfl (by omega) (fun z => absurd z (by omega)) (fun _ => ?_)
        refine aw_run 1 (F' := (17, [some (.ref m), some (.int (nI w)), some (.int (nI j)), some (.int (nI ((if it = true then 1 else 0)))), none, none, none, none], [.ref m])) rfl ?_
        refine aw_get rfl hM.o rfl ?_
        rw [show μ 3 0 = S.2.2.2.2.length from h3]
        refine an_zne rfl (by omega) (fun h2 => ?_) (fun h2 => ?_)
        · refine aw_run 4 (F' := (30, [some (.ref m), some (.int (nI w)), some (.int (nI j)), some (.int (nI ((if it = true then 1 else 0)))), none, none, none, none], [.int (nI 0), .int (nI ((if it = true then 1 else 0))), .int (nI j), .ref m])) rfl ?_
          refine aw_v [.ref m, .int (nI j), .int (nI ((if it = true then 1 else 0))), .int (nI 0)] [] rfl (by decide) rfl hM.o rfl rfl (Nat.le_of_ble_eq_true rfl) (Nat.le_of_ble_eq_true rfl) ?_
          refine m_find hM hR (base := 0) hj (by omega) it (fun hl s2 μ2 hM2 hf2 => ?_) (fun hl s2 μ2 hM2 hf2 hlf => ?_)
          · have e1 : sp_list S (nI w) (nI j) it = (setl S w [], -1) := by
              unfold sp_list
              rw [hi, hi2]
              simp only []
              rw [if_neg hP, if_neg (by omega)]
            rw [e1] at hQ
            show AW g _ 83 (33, [some (.ref m), some (.int (nI w)), some (.int (nI j)), some (.int (nI ((if it = true then 1 else 0)))), none, none, none, none], [.int (nI 501)]) s2 _
            refine aw_run 2 (F' := (36, [some (.ref m), some (.int (nI w)), some (.int (nI j)), some (.int (nI ((if it = true then 1 else 0)))), some (.int (nI 501)), none, none, none], [.ref m])) rfl ?_
            refine aw_get rfl hM2.o rfl ?_
            refine aw_run 3 (F' := (45, [some (.ref m), some (.int (nI w)), some (.int (nI j)), some (.int (nI ((if it = true then 1 else 0)))), some (.int (nI 501)), none, none, none], [.int (nI 500), .int (nI 501), .int (nI w), .ref (m + 4)])) rfl ?_
            refine an_cle rfl (by omega) (by omega) (fun z => absurd z (by omega)) (fun _ => ?_)
            refine aw_run 2 (F' := (54, [some (.ref m), some (.int (nI w)), some (.int (nI j)), some (.int (nI ((if it = true then 1 else 0)))), some (.int (nI 501)), none, none, none], [.int (nI 0), .int (nI w), .ref (m + 4)])) rfl ?_
            refine ms_ist hM2 rfl (k := 6) (n := 2) (by decide) (by omega) (fun s1 hM1 => ?_)
            refine aw_run 2 (F' := (60, [some (.ref m), some (.int (nI w)), some (.int (nI j)), some (.int (nI ((if it = true then 1 else 0)))), some (.int (nI 501)), none, none, none], [.int (nI 500), .int (nI 501)])) rfl ?_
            refine an_cle rfl (by omega) (by omega) (fun z => absurd z (by omega)) (fun _ => ?_)
            refine aw_run 1 (F' := (64, [some (.ref m), some (.int (nI w)), some (.int (nI j)), some (.int (nI ((if it = true then 1 else 0)))), some (.int (nI 501)), none, none, none], [.int ((-1))])) rfl ?_
            exact aw_iret rfl ⟨_, rfl, rfl⟩ (hQ _ _ hM1 (RS.emp (hR.kept (fun k h1 h2 => hf2.1 k (by omega)))))
          · have e1 : sp_list S (nI w) (nI j) it = (setl S w (sp_lv it 17 (sp_dv (S.2.2.1 j)) S.2.2.2.2).zipIdx, nI (sp_lv it 17 (sp_dv (S.2.2.1 j)) S.2.2.2.2).length) := by
              unfold sp_list
              rw [hi, hi2]
              simp only []
              rw [if_neg hP, if_pos hl]
            rw [e1] at hQ
            clear e1
            generalize sp_lv it 17 (sp_dv (S.2.2.1 j)) S.2.2.2.2 = Lv at hQ hl hlf ⊢
            show AW g _ 83 (33, [some (.ref m), some (.int (nI w)), some (.int (nI j)), some (.int (nI ((if it = true then 1 else 0)))), none, none, none, none], [.int (nI Lv.length)]) s2 _
            refine aw_run 2 (F' := (36, [some (.ref m), some (.int (nI w)), some (.int (nI j)), some (.int (nI ((if it = true then 1 else 0)))), some (.int (nI Lv.length)), none, none, none], [.ref m])) rfl ?_
            refine aw_get rfl hM2.o rfl ?_
            refine aw_run 3 (F' := (45, [some (.ref m), some (.int (nI w)), some (.int (nI j)), some (.int (nI ((if it = true then 1 else 0)))), some (.int (nI Lv.length)), none, none, none], [.int (nI 500), .int (nI Lv.length), .int (nI w), .ref (m + 4)])) rfl ?_
            refine an_cle rfl (by omega) (by omega) (fun h5 => ?_) (fun h5 => ?_)
            · refine aw_run 1 (F' := (54, [some (.ref m), some (.int (nI w)), some (.int (nI j)), some (.int (nI ((if it = true then 1 else 0)))), some (.int (nI Lv.length)), none, none, none], [.int (nI Lv.length), .int (nI w), .ref (m + 4)])) rfl ?_
              refine ms_ist hM2 rfl (k := 6) (n := 2) (by decide) (by omega) (fun s2 hM2 => ?_)
              refine aw_run 2 (F' := (60, [some (.ref m), some (.int (nI w)), some (.int (nI j)), some (.int (nI ((if it = true then 1 else 0)))), some (.int (nI Lv.length)), none, none, none], [.int (nI 500), .int (nI Lv.length)])) rfl ?_
              refine an_cle rfl (by omega) (by omega) (fun h6 => ?_) (fun h6 => ?_)
              · refine aw_run 4 (F' := (73, [some (.ref m), some (.int (nI w)), some (.int (nI j)), some (.int (nI ((if it = true then 1 else 0)))), some (.int (nI Lv.length)), none, none, none], [.int (nI 2000 * nI w), .int (nI 8000)])) rfl ?_
                rw [nI_mul]
                refine aw_run 1 (F' := (74, [some (.ref m), some (.int (nI w)), some (.int (nI j)), some (.int (nI ((if it = true then 1 else 0)))), some (.int (nI Lv.length)), none, none, none], [.int (nI 8000 + nI (2000 * w))])) rfl ?_
                rw [nI_add]
                refine aw_run 5 (F' := (82, [some (.ref m), some (.int (nI w)), some (.int (nI j)), some (.int (nI ((if it = true then 1 else 0)))), some (.int (nI Lv.length)), some (.int (nI (8000 + (2000 * w)))), none, none], [.int (nI 2000 * nI j), .ref m])) rfl ?_
                rw [nI_mul]
                refine aw_v [.ref m, .int (nI (2000 * j))] [] rfl (by decide) rfl hM2.o rfl rfl (Nat.le_of_ble_eq_true rfl) (Nat.le_of_ble_eq_true rfl) ?_
                have hμ1 : (mup μ2 6 w Lv.length) 1 = μ 1 := (mup_k _ _ _ (by decide)).trans (hf2.1 1 (by omega))
                refine m_whole hM2 (by omega) ?_
                rw [hμ1]
                show AW g _ 83 (85, [some (.ref m), some (.int (nI w)), some (.int (nI j)), some (.int (nI ((if it = true then 1 else 0)))), some (.int (nI Lv.length)), some (.int (nI (8000 + (2000 * w)))), none, none], [.int (nI (sp_le (μ 1) (2000 * j) 4))]) s2 _
                refine aw_run 3 (F' := (90, [some (.ref m), some (.int (nI w)), some (.int (nI j)), some (.int (nI ((if it = true then 1 else 0)))), some (.int (nI Lv.length)), some (.int (nI (8000 + (2000 * w)))), some (.int (nI (sp_le (μ 1) (2000 * j) 4))), some (.int (nI 0))], [])) rfl ?_
                generalize hsz : sp_le (μ 1) (2000 * j) 4 = sz at d2 d3 d4 hlf ⊢
                refine m_lsC (μ1 := mup μ2 6 w Lv.length) (by omega) (by omega) d3 (fun σ4 μ4 hM4 f1 f2 => ?_) sz 0 _ _ (by omega) hM2 (fun _ _ => rfl) ?_
                · refine aw_run 2 (F' := (129, [some (.ref m), some (.int (nI w)), some (.int (nI j)), some (.int (nI (if it = true then 1 else 0))), some (.int (nI Lv.length)), some (.int (nI (8000 + 2000 * w))), some (.int (nI sz)), some (.int (nI 0))], [])) rfl ?_
                  have g12 : ∀ f, f ≠ 1 → f ≠ 6 → μ4 f = μ2 f := fun f h1 h6 => (f1 f h1).trans (mup_k _ _ _ h6)
                  refine m_lsF (μ1 := μ4) (Lv := Lv) hw hj rfl hl (fun k v hv => ?_) (fun σ5 μ5 hM5 k1 k2 k3 => ?_) Lv.length 0 σ4 μ4 (by omega) hM4 (fun _ _ _ _ => rfl) (fun i v hi _ => by omega) (fun _ _ => ⟨rfl, rfl, rfl⟩)
                  · have hk := (List.getElem?_eq_some_iff.mp hv).1
                    obtain ⟨l1, l2⟩ := hlf.2 k v (by omega) hv
                    rw [Nat.zero_add] at l1 l2
                    rw [g12 11 (by decide) (by decide), g12 12 (by decide) (by decide)]
                    exact ⟨l1, Nat.le_trans l2.2.1 (by omega)⟩
                  · refine hQ σ5 μ5 hM5 (RS.lst (sz := sz) hR hw hj d3 hl hf2 hlf ?_ (fun f h1 h2 => ?_) ?_ (fun i v hv => ?_) (fun x hx => ?_))
                    · rw [k1 1 (by decide) (by decide) (by decide), f2, mup_k _ _ _ (by decide), hf2.1 1 (by omega)]
                    · rw [k1 f (by omega) (by omega) (by omega), g12 f (by omega) (by omega)]
                      exact hf2.1 f (by omega)
                    · rw [k1 6 (by decide) (by decide) (by decide), f1 6 (by decide)]
                    · obtain ⟨y1, y2, y3⟩ := k2 i v hv
                      rw [g12 12 (by decide) (by decide)] at y2
                      exact ⟨y1, y2, y3⟩
                    · obtain ⟨y1, y2, y3⟩ := k3 x hx
                      rw [y1, y2, y3, g12 7 (by decide) (by decide), g12 8 (by decide) (by decide), g12 9 (by decide) (by decide), hf2.1 7 (by omega), hf2.1 8 (by omega), hf2.1 9 (by omega)]
                      exact ⟨rfl, rfl, rfl⟩
                · funext i
                  unfold cpd
                  rw [if_neg (by omega)]
              · omega
            · omega
        · omega
    · have e1 : sp_list S (nI w) slot it = (S, -2) := by unfold sp_list; rw [hi, hi2]
      rw [e1] at hQ
      show AW g _ 83 (13, [some (.ref m), some (.int (nI w)), some (.int slot), some (.int (nI (if it = true then 1 else 0))), none, none, none, none], [.int (nI 0)]) σ _
      refine an_zeq rfl (by omega) (fun _ => ?_) (fun z => absurd z (by omega))
      refine aw_run 1 (F' := (25, [some (.ref m), some (.int (nI w)), some (.int (slot)), some (.int (nI ((if it = true then 1 else 0)))), none, none, none, none], [.int ((-2))])) rfl ?_
      exact aw_iret rfl ⟨_, rfl, rfl⟩ (hQ _ _ hM hR)
end P93
