theorem lvd.at {β : Nat → Nat} {v : sp_V} {lo wd p : Nat} (h : lvd β v lo wd p) (hl : lo + wd ≤ 14000) : vat β v p := by
  rcases h.2.2 with z | ⟨_, q, z1, z2⟩
  · exact Or.inl z
  · exact Or.inr ⟨q, by omega, z2⟩
theorem RS.slot {S : sp_S} {μ : sp_M} (h : RS S μ) {i : Nat} (hi : i < 4) : vat (μ 1) (sp_dv (S.2.2.1 i)) (2000 * i) ∧ sp_hgt (S.2.2.1 i) ≤ 16 := by
  obtain ⟨h1, q, h2, h3⟩ := h.2.2.2.1 i hi
  exact ⟨Or.inr ⟨_, by omega, h3⟩, h1⟩
theorem ix_0 (x : Int32) : sp_ix x 0 = none := by
  rcases sp_ix_c x (n := 0) (by omega) with ⟨_, e⟩ | ⟨j, hj, _⟩
  · exact e
  · omega
theorem vat_kd {β : Nat → Nat} {v : sp_V} {p : Nat} (h : vat β v p) : v.1.1 < 2 ^ 31 := by
  rcases h with z | ⟨q, _, z⟩
  · rw [z]; decide
  · have := z.kd; omega
/-- what a value has that is none of some kinds -/
theorem vat_no {β : Nat → Nat} {v : sp_V} {p : Nat} (h : vat β v p) : (v.1.1 ≠ 16 → v.1.1 ≠ 18 → v.1.1 ≠ 8 → v.1.2.2.1 = 0) ∧ (v.1.1 ≠ 2 → v.1.2.2.2 = []) ∧ (v.1.1 ≠ 3 → v.1.1 ≠ 4 → v.2 = .leaf) := by
  rcases h with z | ⟨q, _, hl⟩
  · rw [z]; exact ⟨fun _ _ _ => rfl, fun _ => rfl, fun _ _ => rfl⟩
  · rcases hl with ⟨z1, z2, z3, z4⟩ | ⟨z1, z2, z3, z4⟩ | ⟨z1, z2, z3, z4, z5⟩ | ⟨z1, z2, z3, z4⟩ | ⟨z1, z2, z3, z4, z5⟩ | ⟨z1, z2, z3, z4, z5⟩
    · rw [z3]; exact ⟨fun q => absurd z1 q, fun _ => rfl, fun _ _ => z4⟩
    · rw [z3]; exact ⟨fun _ q => absurd z1 q, fun _ => rfl, fun _ _ => z4⟩
    · rw [z4]; exact ⟨fun _ _ q => absurd z1 q, fun _ => rfl, fun _ _ => z5⟩
    · rw [z3]; exact ⟨fun _ _ _ => rfl, fun _ => rfl, fun _ _ => z4⟩
    · rw [z4]; exact ⟨fun _ _ _ => rfl, fun q => absurd z1 q, fun _ _ => z5⟩
    · rw [z4]; exact ⟨fun _ _ _ => rfl, fun _ => rfl, fun q1 q2 => by omega⟩
section P83
variable {g : Nat × Nat} {d : Nat} {σ0 σ : am_H} {Q : Option Value → am_H → Prop} {m : Nat} {μ : sp_M}
/-- compare -/
theorem m_compare (hM : MS g m σ0 σ μ) {S : sp_S} (hR : RS S μ) (r s : Int32) (hQ : ∀ σ' μ', MS g m σ0 σ' μ' → RS S μ' → Q (some (.int (sp_compare S r s))) σ') : AW g (d + 5) 77 (0, [some (.ref m), some (.int r), some (.int s)], []) σ Q := by
  refine aw_run 1 (F' := (1, [some (.ref m), some (.int r), some (.int s)], [.int r])) rfl ?_
  refine aw_s [.int r] [] rfl ⟨by decide, by decide⟩ rfl rfl (Nat.le_of_ble_eq_true rfl) (Nat.le_of_ble_eq_true rfl) ?_
  refine m_slot r (fun i hi hs1 hi1 => ?_) (fun hi1 => ?_)
  · subst hs1
    show AW g _ 77 (4, [some (.ref m), some (.int (nI i)), some (.int s)], [.int (nI 1)]) σ _
    refine an_zeq rfl (by omega) (fun z => absurd z (by omega)) (fun _ => ?_)
    refine aw_run 1 (F' := (8, [some (.ref m), some (.int (nI i)), some (.int (s))], [.int (s)])) rfl ?_
    skip
    refine aw_s [.int s] [] rfl ⟨by decide, by decide⟩ rfl rfl (Nat.le_of_ble_eq_true rfl) (Nat.le_of_ble_eq_true rfl) ?_
    refine m_slot s (fun j hj hs2 hi2 => ?_) (fun hi2 => ?_)
    · subst hs2
      have e1 : sp_compare S (nI i) (nI j) = sp_vc (sp_dv (S.2.2.1 i)) (sp_dv (S.2.2.1 j)) := by unfold sp_compare; rw [hi1, hi2]
      rw [e1] at hQ
      obtain ⟨u1, u2⟩ := hR.slot hi
      obtain ⟨u3, u4⟩ := hR.slot hj
      show AW g _ 77 (11, [some (.ref m), some (.int (nI i)), some (.int (nI j))], [.int (nI 1)]) σ _
      refine an_zne rfl (by omega) (fun _ => ?_) (fun z => absurd z (by omega))
      refine aw_run 5 (F' := (26, [some (.ref m), some (.int (nI i)), some (.int (nI j))], [.int (nI 2000 * nI i), .int (nI 3), .ref m])) rfl ?_
      rw [nI_mul]
      refine aw_run 4 (F' := (32, [some (.ref m), some (.int (nI i)), some (.int (nI j))], [.int (nI 2000 * nI j), .int (nI 3), .int (nI (2000 * i)), .int (nI 3), .ref m])) rfl ?_
      rw [nI_mul]
      refine aw_v [.ref m, .int (nI 3), .int (nI (2000 * i)), .int (nI 3), .int (nI (2000 * j))] [] rfl (by decide) rfl hM.o rfl rfl (Nat.le_of_ble_eq_true rfl) (Nat.le_of_ble_eq_true rfl) ?_
      refine m_order hM (v := sp_dv (S.2.2.1 i)) (w := sp_dv (S.2.2.1 j)) u1 u3 (by omega) (by omega) u2 (fun s1 μ1 hM1 hag => ?_)
      show AW g _ 77 (35, [some (.ref m), some (.int (nI i)), some (.int (nI j))], [.int (sp_vc (sp_dv (S.2.2.1 i)) (sp_dv (S.2.2.1 j)))]) s1 _
      exact aw_iret rfl ⟨_, rfl, rfl⟩ (hQ _ _ hM1 (hR.ag hag (by decide)))
    · have e1 : sp_compare S (nI i) s = -2 := by unfold sp_compare; rw [hi1, hi2]
      rw [e1] at hQ
      show AW g _ 77 (11, [some (.ref m), some (.int (nI i)), some (.int s)], [.int (nI 0)]) σ _
      refine an_zne rfl (by omega) (fun z => absurd z (by omega)) (fun _ => ?_)
      refine aw_run 2 (F' := (35, [some (.ref m), some (.int (nI i)), some (.int (s))], [.int ((-2))])) rfl ?_
      exact aw_iret rfl ⟨_, rfl, rfl⟩ (hQ _ _ hM hR)
  · have e1 : sp_compare S r s = -2 := by unfold sp_compare; rw [hi1]
    rw [e1] at hQ
    show AW g _ 77 (4, [some (.ref m), some (.int r), some (.int s)], [.int (nI 0)]) σ _
    refine an_zeq rfl (by omega) (fun _ => ?_) (fun z => absurd z (by omega))
    refine aw_run 2 (F' := (35, [some (.ref m), some (.int (r)), some (.int (s))], [.int ((-2))])) rfl ?_
    exact aw_iret rfl ⟨_, rfl, rfl⟩ (hQ _ _ hM hR)
/-- hasValue -/
theorem m_has (hM : MS g m σ0 σ μ) {S : sp_S} (hR : RS S μ) (which k : Int32) (g1 : ∀ i j x, which = nI i → i < 2 → k = nI j → j < 500 → (S.2.2.2.1 i)[j]? = some x → sp_at S which k = some x → Q (some (.int 1)) σ) (g0 : sp_at S which k = none → Q (some (.int 0)) σ) : AW g d 92 (0, [some (.ref m), some (.int which), some (.int k)], []) σ Q := by
  obtain ⟨r1, r2, r3, r4, r5, r6⟩ := hR
  rcases sp_ix_c which (n := 2) (by omega) with ⟨hz, hi⟩ | ⟨i, hi1, rfl, hi⟩
  · have e1 : sp_at S which k = none := by unfold sp_at; rw [hi]
    refine aw_run 1 (F' := (1, [some (.ref m), some (.int (which)), some (.int (k))], [.int (which)])) rfl ?_
    refine aw_zlt rfl (fun h1 => ?_) (fun h1 => ?_)
    · refine aw_run 1 (F' := (28, [some (.ref m), some (.int (which)), some (.int (k))], [.int (nI 0)])) rfl ?_
      exact aw_iret rfl ⟨_, rfl, rfl⟩ (g0 e1)
    · refine aw_run 2 (F' := (6, [some (.ref m), some (.int (which)), some (.int (k))], [.int (nI 2), .int (which)])) rfl ?_
      refine aw_cge rfl (fun h2 => ?_) (fun h2 => ?_)
      · refine aw_run 1 (F' := (28, [some (.ref m), some (.int (which)), some (.int (k))], [.int (nI 0)])) rfl ?_
        exact aw_iret rfl ⟨_, rfl, rfl⟩ (g0 e1)
      · exact absurd (hz.resolve_left h1).2 h2
  · obtain ⟨u1, u2, u3⟩ := r6 i hi1
    rcases sp_ix_c k (n := (S.2.2.2.1 i).length) (by omega) with ⟨hz, hk⟩ | ⟨j, hj1, rfl, hk⟩
    · have e1 : sp_at S (nI i) k = none := by unfold sp_at; rw [hi]; simp only []; rw [hk]
      refine aw_run 1 (F' := (1, [some (.ref m), some (.int (nI i)), some (.int (k))], [.int (nI i)])) rfl ?_
      refine an_zlt rfl (by omega) ?_
      refine aw_run 2 (F' := (6, [some (.ref m), some (.int (nI i)), some (.int (k))], [.int (nI 2), .int (nI i)])) rfl ?_
      refine an_cge rfl (by omega) (by omega) (fun h2 => ?_) (fun h2 => ?_)
      · omega
      · refine aw_run 1 (F' := (10, [some (.ref m), some (.int (nI i)), some (.int (k))], [.int (k)])) rfl ?_
        refine aw_zlt rfl (fun h3 => ?_) (fun h3 => ?_)
        · refine aw_run 1 (F' := (28, [some (.ref m), some (.int (nI i)), some (.int (k))], [.int (nI 0)])) rfl ?_
          exact aw_iret rfl ⟨_, rfl, rfl⟩ (g0 e1)
        · refine aw_run 2 (F' := (15, [some (.ref m), some (.int (nI i)), some (.int (k))], [.ref m, .int (k)])) rfl ?_
          refine aw_get rfl hM.o rfl ?_
          refine aw_run 1 (F' := (19, [some (.ref m), some (.int (nI i)), some (.int (k))], [.int (nI i), .ref (m + 4), .int (k)])) rfl ?_
          refine ms_ild hM rfl (k := 6) (n := 2) (by decide) (by omega) ?_
          rw [show μ 6 i = (S.2.2.2.1 i).length from u2]
          refine aw_cge rfl (fun h4 => ?_) (fun h4 => ?_)
          · refine aw_run 1 (F' := (28, [some (.ref m), some (.int (nI i)), some (.int (k))], [.int (nI 0)])) rfl ?_
            exact aw_iret rfl ⟨_, rfl, rfl⟩ (g0 e1)
          · exact absurd (hz.resolve_left (by assumption)).2 h4
    · have e0 : (S.2.2.2.1 i)[j]? = some ((S.2.2.2.1 i)[j]) := List.getElem?_eq_getElem hj1
      have e1 : sp_at S (nI i) (nI j) = some ((S.2.2.2.1 i)[j]) := by unfold sp_at; rw [hi]; simp only []; rw [hk]; exact e0
      refine aw_run 1 (F' := (1, [some (.ref m), some (.int (nI i)), some (.int (nI j))], [.int (nI i)])) rfl ?_
      refine an_zlt rfl (by omega) ?_
      refine aw_run 2 (F' := (6, [some (.ref m), some (.int (nI i)), some (.int (nI j))], [.int (nI 2), .int (nI i)])) rfl ?_
      refine an_cge rfl (by omega) (by omega) (fun h2 => ?_) (fun h2 => ?_)
      · omega
      · refine aw_run 1 (F' := (10, [some (.ref m), some (.int (nI i)), some (.int (nI j))], [.int (nI j)])) rfl ?_
        refine an_zlt rfl (by omega) ?_
        refine aw_run 2 (F' := (15, [some (.ref m), some (.int (nI i)), some (.int (nI j))], [.ref m, .int (nI j)])) rfl ?_
        refine aw_get rfl hM.o rfl ?_
        refine aw_run 1 (F' := (19, [some (.ref m), some (.int (nI i)), some (.int (nI j))], [.int (nI i), .ref (m + 4), .int (nI j)])) rfl ?_
        refine ms_ild hM rfl (k := 6) (n := 2) (by decide) (by omega) ?_
        rw [show μ 6 i = (S.2.2.2.1 i).length from u2]
        refine an_cge rfl (by omega) (by omega) (fun h4 => ?_) (fun h4 => ?_)
        · omega
        · refine aw_run 2 (F' := (28, [some (.ref m), some (.int (nI i)), some (.int (nI j))], [.int (nI 1)])) rfl ?_
          exact aw_iret rfl ⟨_, rfl, rfl⟩ (g1 i j _ rfl hi1 rfl (by omega) e0 e1)
/-- between -/
theorem m_between (hM : MS g m σ0 σ μ) {S : sp_S} (hR : RS S μ) (k j : Int32) (hQ : ∀ σ' μ', MS g m σ0 σ' μ' → RS S μ' → Q (some (.int (sp_between S k j))) σ') : AW g (d + 5) 95 (0, [some (.ref m), some (.int k), some (.int j)], []) σ Q := by
  have hR' := hR
  obtain ⟨r1, r2, r3, r4, r5, r6⟩ := hR'
  refine aw_run 3 (F' := (3, [some (.ref m), some (.int k), some (.int j)], [.int k, .int (nI 0), .ref m])) rfl ?_
  refine aw_v [.ref m, .int (nI 0), .int k] [] rfl (by decide) rfl hM.o rfl rfl (Nat.le_of_ble_eq_true rfl) (Nat.le_of_ble_eq_true rfl) ?_
  refine m_has hM hR (nI 0) k (fun i1 j1 x1 w1 hi1 hk1 hj1 hx1 ha1 => ?_) (fun ha1 => ?_)
  · have wi1 : i1 = 0 := ((nI_eq (by omega) (by omega)).mp w1).symm
    subst wi1
    subst hk1
    obtain ⟨p1, q1, l1⟩ := (r6 0 (by omega)).2.2 j1 x1 hx1
    have v1 := l1.at (by omega)
    have k1 := vat_kd v1
    have p1' : μ 7 j1 = x1.1.1.1 := by have := p1; rw [show 500 * 0 + j1 = j1 by omega] at this; exact this
    rw [show 500 * 0 + j1 = j1 by omega] at l1 v1
    show AW g _ 95 (6, [some (.ref m), some (.int (nI j1)), some (.int j)], [.int (nI 1)]) σ _
    refine an_zeq rfl (by omega) (fun z => absurd z (by omega)) (fun _ => ?_)
    refine aw_run 3 (F' := (12, [some (.ref m), some (.int (nI j1)), some (.int (j))], [.int (j), .int (nI 1), .ref m])) rfl ?_
    skip
    refine aw_v [.ref m, .int (nI 1), .int j] [] rfl (by decide) rfl hM.o rfl rfl (Nat.le_of_ble_eq_true rfl) (Nat.le_of_ble_eq_true rfl) ?_
    refine m_has hM hR (nI 1) j (fun i2 j2 x2 w2 hi2 hk2 hj2 hx2 ha2 => ?_) (fun ha2 => ?_)
    · have wi2 : i2 = 1 := ((nI_eq (by omega) (by omega)).mp w2).symm
      subst wi2
      subst hk2
      obtain ⟨p2, q2, l2⟩ := (r6 1 (by omega)).2.2 j2 x2 hx2
      have v2 := l2.at (by omega)
      have k2 := vat_kd v2
      have p2' : μ 7 (500 + j2) = x2.1.1.1 := p2
      have e1 : sp_between S (nI j1) (nI j2) = sp_vc x1.1 x2.1 := by
        unfold sp_between
        rw [show sp_at S 0 (nI j1) = some x1 from ha1, show sp_at S 1 (nI j2) = some x2 from ha2]
      rw [e1] at hQ
      show AW g _ 95 (15, [some (.ref m), some (.int (nI j1)), some (.int (nI j2))], [.int (nI 1)]) σ _
      refine an_zne rfl (by omega) (fun _ => ?_) (fun z => absurd z (by omega))
      refine aw_run 2 (F' := (23, [some (.ref m), some (.int (nI j1)), some (.int (nI j2))], [.ref m, .ref m])) rfl ?_
      refine aw_get rfl hM.o rfl ?_
      refine aw_run 1 (F' := (27, [some (.ref m), some (.int (nI j1)), some (.int (nI j2))], [.int (nI j1), .ref (m + 5), .ref m])) rfl ?_
      refine ms_ild hM rfl (k := 7) (n := 1000) (by decide) (by omega) ?_
      rw [show μ 7 j1 = x1.1.1.1 from p1']
      refine aw_run 1 (F' := (29, [some (.ref m), some (.int (nI j1)), some (.int (nI j2))], [.ref m, .int (nI x1.1.1.1), .ref m])) rfl ?_
      refine aw_get rfl hM.o rfl ?_
      refine aw_run 1 (F' := (33, [some (.ref m), some (.int (nI j1)), some (.int (nI j2))], [.int (nI j1), .ref (m + 6), .int (nI x1.1.1.1), .ref m])) rfl ?_
      refine ms_ild hM rfl (k := 8) (n := 1000) (by decide) (by omega) ?_
      refine aw_run 1 (F' := (35, [some (.ref m), some (.int (nI j1)), some (.int (nI j2))], [.ref m, .int (nI (μ 8 j1)), .int (nI x1.1.1.1), .ref m])) rfl ?_
      refine aw_get rfl hM.o rfl ?_
      refine aw_run 3 (F' := (43, [some (.ref m), some (.int (nI j1)), some (.int (nI j2))], [.int (nI 500 + nI j2), .ref (m + 5), .int (nI (μ 8 j1)), .int (nI x1.1.1.1), .ref m])) rfl ?_
      rw [nI_add]
      refine ms_ild hM rfl (k := 7) (n := 1000) (by decide) (by omega) ?_
      rw [show μ 7 (500 + j2) = x2.1.1.1 from p2']
      refine aw_run 1 (F' := (45, [some (.ref m), some (.int (nI j1)), some (.int (nI j2))], [.ref m, .int (nI x2.1.1.1), .int (nI (μ 8 j1)), .int (nI x1.1.1.1), .ref m])) rfl ?_
      refine aw_get rfl hM.o rfl ?_
      refine aw_run 3 (F' := (53, [some (.ref m), some (.int (nI j1)), some (.int (nI j2))], [.int (nI 500 + nI j2), .ref (m + 6), .int (nI x2.1.1.1), .int (nI (μ 8 j1)), .int (nI x1.1.1.1), .ref m])) rfl ?_
      rw [nI_add]
      refine ms_ild hM rfl (k := 8) (n := 1000) (by decide) (by omega) ?_
      refine aw_v [.ref m, .int (nI x1.1.1.1), .int (nI (μ 8 j1)), .int (nI x2.1.1.1), .int (nI (μ 8 (500 + j2)))] [] rfl (by decide) rfl hM.o rfl rfl (Nat.le_of_ble_eq_true rfl) (Nat.le_of_ble_eq_true rfl) ?_
      refine m_order hM (v := x1.1) (w := x2.1) v1 v2 (Nat.le_trans l1.2.1 (by omega)) (Nat.le_trans l2.2.1 (by omega)) l1.1 (fun s1 μ1 hM1 hag => ?_)
      show AW g _ 95 (57, [some (.ref m), some (.int (nI j1)), some (.int (nI j2))], [.int (sp_vc x1.1 x2.1)]) s1 _
      exact aw_iret rfl ⟨_, rfl, rfl⟩ (hQ _ _ hM1 (hR.ag hag (by decide)))
    · have e1 : sp_between S (nI j1) j = -2 := by
        unfold sp_between
        rw [show sp_at S 0 (nI j1) = some x1 from ha1, show sp_at S 1 j = none from ha2]
      rw [e1] at hQ
      show AW g _ 95 (15, [some (.ref m), some (.int (nI j1)), some (.int j)], [.int (nI 0)]) σ _
      refine an_zne rfl (by omega) (fun z => absurd z (by omega)) (fun _ => ?_)
      refine aw_run 1 (F' := (20, [some (.ref m), some (.int (nI j1)), some (.int (j))], [.int ((-2))])) rfl ?_
      exact aw_iret rfl ⟨_, rfl, rfl⟩ (hQ _ _ hM hR)
  · have e1 : sp_between S k j = -2 := by
      unfold sp_between
      rw [show sp_at S 0 k = none from ha1]
    rw [e1] at hQ
    show AW g _ 95 (6, [some (.ref m), some (.int k), some (.int j)], [.int (nI 0)]) σ _
    refine an_zeq rfl (by omega) (fun _ => ?_) (fun z => absurd z (by omega))
    refine aw_run 1 (F' := (20, [some (.ref m), some (.int (k)), some (.int (j))], [.int ((-2))])) rfl ?_
    exact aw_iret rfl ⟨_, rfl, rfl⟩ (hQ _ _ hM hR)
/-- from -/
theorem m_from (hM : MS g m σ0 σ μ) {S : sp_S} (hR : RS S μ) (which k : Int32) (hQ : Q (some (.int (sp_from S which k))) σ) : AW g (d + 1) 97 (0, [some (.ref m), some (.int which), some (.int k)], []) σ Q := by
  refine aw_run 3 (F' := (3, [some (.ref m), some (.int which), some (.int k)], [.int k, .int which, .ref m])) rfl ?_
  refine aw_v [.ref m, .int which, .int k] [] rfl (by decide) rfl hM.o rfl rfl (Nat.le_of_ble_eq_true rfl) (Nat.le_of_ble_eq_true rfl) ?_
  refine m_has hM hR which k (fun i j x w1 hi hk hj hx ha => ?_) (fun ha => ?_)
  · subst w1
    subst hk
    obtain ⟨p1, q1, l1⟩ := (hR.2.2.2.2.2 i hi).2.2 j x hx
    have e1 : sp_from S (nI i) (nI j) = nI x.2 := by unfold sp_from; rw [ha]
    rw [e1] at hQ
    show AW g _ 97 (6, [some (.ref m), some (.int (nI i)), some (.int (nI j))], [.int (nI 1)]) σ _
    refine an_zeq rfl (by omega) (fun z => absurd z (by omega)) (fun _ => ?_)
    refine aw_run 1 (F' := (10, [some (.ref m), some (.int (nI i)), some (.int (nI j))], [.ref m])) rfl ?_
    refine aw_get rfl hM.o rfl ?_
    refine aw_run 3 (F' := (18, [some (.ref m), some (.int (nI i)), some (.int (nI j))], [.int (nI 500 * nI i), .ref (m + 7)])) rfl ?_
    rw [nI_mul]
    refine aw_run 2 (F' := (20, [some (.ref m), some (.int (nI i)), some (.int (nI j))], [.int (nI (500 * i) + nI j), .ref (m + 7)])) rfl ?_
    rw [nI_add]
    refine ms_ild hM rfl (k := 9) (n := 1000) (by decide) (by omega) ?_
    rw [show μ 9 ((500 * i) + j) = x.2 from q1]
    refine aw_run 1 (F' := (25, [some (.ref m), some (.int (nI i)), some (.int (nI j))], [.int (nI x.2)])) rfl ?_
    exact aw_iret rfl ⟨_, rfl, rfl⟩ (hQ)
  · have e1 : sp_from S which k = -1 := by unfold sp_from; rw [ha]
    rw [e1] at hQ
    show AW g _ 97 (6, [some (.ref m), some (.int which), some (.int k)], [.int (nI 0)]) σ _
    refine an_zeq rfl (by omega) (fun _ => ?_) (fun z => absurd z (by omega))
    refine aw_run 1 (F' := (25, [some (.ref m), some (.int (which)), some (.int (k))], [.int ((-1))])) rfl ?_
    exact aw_iret rfl ⟨_, rfl, rfl⟩ (hQ)
/-- text -/
theorem m_text (hM : MS g m σ0 σ μ) {S : sp_S} (hR : RS S μ) (which k i : Int32) (hQ : Q (some (.int (sp_text S which k i))) σ) : AW g (d + 3) 94 (0, [some (.ref m), some (.int which), some (.int k), some (.int i), none], []) σ Q := by
  refine aw_run 3 (F' := (3, [some (.ref m), some (.int which), some (.int k), some (.int i), none], [.int k, .int which, .ref m])) rfl ?_
  refine aw_v [.ref m, .int which, .int k] [] rfl (by decide) rfl hM.o rfl rfl (Nat.le_of_ble_eq_true rfl) (Nat.le_of_ble_eq_true rfl) ?_
  refine m_has hM hR which k (fun a j x w1 ha1 hk hj hx ha => ?_) (fun ha => ?_)
  · subst w1
    subst hk
    obtain ⟨p1, q1, l1⟩ := (hR.2.2.2.2.2 a ha1).2.2 j x hx
    have v1 := l1.at (by omega)
    have k1 := vat_kd v1
    have lp := l1.2.1
    generalize hP : μ 8 (500 * a + j) = p at l1 v1 lp
    by_cases k2 : x.1.1.1 = 2
    · obtain ⟨q, hq, hl⟩ : ∃ q, q ≤ 14000 ∧ lyV (μ 1) x.1 p q := by
        rcases v1 with z | z
        · rw [z] at k2; cases k2
        · exact z
      obtain ⟨t1, ⟨t2, t3⟩, t4, t5⟩ := ly_txt hl k2
      have hlen : x.1.1.2.2.2.length = sp_le (μ 1) p 4 - 1 := by rw [t5, sp_sub_len]; omega
      rcases sp_ix_c i (n := x.1.1.2.2.2.length) (by omega) with ⟨hz, hi⟩ | ⟨n, hn, rfl, hi⟩
      · have e1 : sp_text S (nI a) (nI j) i = -1 := by unfold sp_text; rw [ha]; simp only []; rw [hi]
        rw [e1] at hQ
        rw [hlen] at hz
        show AW g _ 94 (6, [some (.ref m), some (.int (nI a)), some (.int (nI j)), some (.int i), none], [.int (nI 1)]) σ _
        refine an_zeq rfl (by omega) (fun z => absurd z (by omega)) (fun _ => ?_)
        refine aw_run 1 (F' := (10, [some (.ref m), some (.int (nI a)), some (.int (nI j)), some (.int (i)), none], [.ref m])) rfl ?_
        refine aw_get rfl hM.o rfl ?_
        refine aw_run 3 (F' := (18, [some (.ref m), some (.int (nI a)), some (.int (nI j)), some (.int (i)), none], [.int (nI 500 * nI a), .ref (m + 5)])) rfl ?_
        rw [nI_mul]
        refine aw_run 2 (F' := (20, [some (.ref m), some (.int (nI a)), some (.int (nI j)), some (.int (i)), none], [.int (nI (500 * a) + nI j), .ref (m + 5)])) rfl ?_
        rw [nI_add]
        refine ms_ild hM rfl (k := 7) (n := 1000) (by decide) (by omega) ?_
        rw [show μ 7 ((500 * a) + j) = 2 from p1.trans k2]
        refine aw_run 1 (F' := (22, [some (.ref m), some (.int (nI a)), some (.int (nI j)), some (.int (i)), none], [.int (nI 2), .int (nI 2)])) rfl ?_
        refine an_ceq rfl (by omega) (by omega) (fun _ => ?_) (fun z => absurd z (by omega))
        refine aw_run 1 (F' := (28, [some (.ref m), some (.int (nI a)), some (.int (nI j)), some (.int (i)), none], [.ref m])) rfl ?_
        refine aw_get rfl hM.o rfl ?_
        refine aw_run 3 (F' := (36, [some (.ref m), some (.int (nI a)), some (.int (nI j)), some (.int (i)), none], [.int (nI 500 * nI a), .ref (m + 6)])) rfl ?_
        rw [nI_mul]
        refine aw_run 2 (F' := (38, [some (.ref m), some (.int (nI a)), some (.int (nI j)), some (.int (i)), none], [.int (nI (500 * a) + nI j), .ref (m + 6)])) rfl ?_
        rw [nI_add]
        refine ms_ild hM rfl (k := 8) (n := 1000) (by decide) (by omega) ?_
        rw [show μ 8 ((500 * a) + j) = p from hP]
        refine aw_run 2 (F' := (42, [some (.ref m), some (.int (nI a)), some (.int (nI j)), some (.int (i)), some (.int (nI p))], [.int (i)])) rfl ?_
        refine aw_zlt rfl (fun h3 => ?_) (fun h3 => ?_)
        · refine aw_run 2 (F' := (71, [some (.ref m), some (.int (nI a)), some (.int (nI j)), some (.int (i)), some (.int (nI p))], [.int ((-1))])) rfl ?_
          exact aw_iret rfl ⟨_, rfl, rfl⟩ (hQ)
        · refine aw_run 3 (F' := (49, [some (.ref m), some (.int (nI a)), some (.int (nI j)), some (.int (i)), some (.int (nI p))], [.int (nI p), .ref m, .int (i)])) rfl ?_
          refine aw_v [.ref m, .int (nI p)] [.int (i)] rfl (by decide) rfl hM.o rfl rfl (Nat.le_of_ble_eq_true rfl) (Nat.le_of_ble_eq_true rfl) ?_
          refine m_whole hM (by omega) ?_
          show AW g _ 94 (52, [some (.ref m), some (.int (nI a)), some (.int (nI j)), some (.int (i)), some (.int (nI p))], [.int (nI (sp_le (μ 1) p 4)), .int (i)]) σ _
          refine aw_run 2 (F' := (54, [some (.ref m), some (.int (nI a)), some (.int (nI j)), some (.int (i)), some (.int (nI p))], [.int (nI (sp_le (μ 1) p 4) - nI 1), .int (i)])) rfl ?_
          rw [nI_sub (by omega)]
          refine aw_clt rfl (fun h4 => ?_) (fun h4 => ?_)
          · exact absurd h4 (Int32.not_lt.mpr (hz.resolve_left (by assumption)).2)
          · refine aw_run 2 (F' := (71, [some (.ref m), some (.int (nI a)), some (.int (nI j)), some (.int (i)), some (.int (nI p))], [.int ((-1))])) rfl ?_
            exact aw_iret rfl ⟨_, rfl, rfl⟩ (hQ)
      · have e1 : sp_text S (nI a) (nI j) (nI n) = nI (μ 1 (p + 4 + n)) := by
          unfold sp_text
          rw [ha]
          simp only []
          rw [hi]
          simp only []
          rw [t5, sp_sub_get (by omega)]
        rw [e1] at hQ
        show AW g _ 94 (6, [some (.ref m), some (.int (nI a)), some (.int (nI j)), some (.int (nI n)), none], [.int (nI 1)]) σ _
        refine an_zeq rfl (by omega) (fun z => absurd z (by omega)) (fun _ => ?_)
        refine aw_run 1 (F' := (10, [some (.ref m), some (.int (nI a)), some (.int (nI j)), some (.int (nI n)), none], [.ref m])) rfl ?_
        refine aw_get rfl hM.o rfl ?_
        refine aw_run 3 (F' := (18, [some (.ref m), some (.int (nI a)), some (.int (nI j)), some (.int (nI n)), none], [.int (nI 500 * nI a), .ref (m + 5)])) rfl ?_
        rw [nI_mul]
        refine aw_run 2 (F' := (20, [some (.ref m), some (.int (nI a)), some (.int (nI j)), some (.int (nI n)), none], [.int (nI (500 * a) + nI j), .ref (m + 5)])) rfl ?_
        rw [nI_add]
        refine ms_ild hM rfl (k := 7) (n := 1000) (by decide) (by omega) ?_
        rw [show μ 7 ((500 * a) + j) = 2 from p1.trans k2]
        refine aw_run 1 (F' := (22, [some (.ref m), some (.int (nI a)), some (.int (nI j)), some (.int (nI n)), none], [.int (nI 2), .int (nI 2)])) rfl ?_
        refine an_ceq rfl (by omega) (by omega) (fun _ => ?_) (fun z => absurd z (by omega))
        refine aw_run 1 (F' := (28, [some (.ref m), some (.int (nI a)), some (.int (nI j)), some (.int (nI n)), none], [.ref m])) rfl ?_
        refine aw_get rfl hM.o rfl ?_
        refine aw_run 3 (F' := (36, [some (.ref m), some (.int (nI a)), some (.int (nI j)), some (.int (nI n)), none], [.int (nI 500 * nI a), .ref (m + 6)])) rfl ?_
        rw [nI_mul]
        refine aw_run 2 (F' := (38, [some (.ref m), some (.int (nI a)), some (.int (nI j)), some (.int (nI n)), none], [.int (nI (500 * a) + nI j), .ref (m + 6)])) rfl ?_
        rw [nI_add]
        refine ms_ild hM rfl (k := 8) (n := 1000) (by decide) (by omega) ?_
        rw [show μ 8 ((500 * a) + j) = p from hP]
        refine aw_run 2 (F' := (42, [some (.ref m), some (.int (nI a)), some (.int (nI j)), some (.int (nI n)), some (.int (nI p))], [.int (nI n)])) rfl ?_
        refine an_zlt rfl (by omega) ?_
        refine aw_run 3 (F' := (49, [some (.ref m), some (.int (nI a)), some (.int (nI j)), some (.int (nI n)), some (.int (nI p))], [.int (nI p), .ref m, .int (nI n)])) rfl ?_
        refine aw_v [.ref m, .int (nI p)] [.int (nI n)] rfl (by decide) rfl hM.o rfl rfl (Nat.le_of_ble_eq_true rfl) (Nat.le_of_ble_eq_true rfl) ?_
        refine m_whole hM (by omega) ?_
        show AW g _ 94 (52, [some (.ref m), some (.int (nI a)), some (.int (nI j)), some (.int (nI n)), some (.int (nI p))], [.int (nI (sp_le (μ 1) p 4)), .int (nI n)]) σ _
        refine aw_run 2 (F' := (54, [some (.ref m), some (.int (nI a)), some (.int (nI j)), some (.int (nI n)), some (.int (nI p))], [.int (nI (sp_le (μ 1) p 4) - nI 1), .int (nI n)])) rfl ?_
        rw [nI_sub (by omega)]
        refine an_clt rfl (by omega) (by omega) (fun h4 => ?_) (fun h4 => ?_)
        · refine aw_run 4 (F' := (66, [some (.ref m), some (.int (nI a)), some (.int (nI j)), some (.int (nI n)), some (.int (nI p))], [.int (nI p + nI 4), .ref m])) rfl ?_
          rw [nI_add]
          refine aw_run 2 (F' := (68, [some (.ref m), some (.int (nI a)), some (.int (nI j)), some (.int (nI n)), some (.int (nI p))], [.int (nI (p + 4) + nI n), .ref m])) rfl ?_
          rw [nI_add]
          refine aw_v [.ref m, .int (nI ((p + 4) + n))] [] rfl (by decide) rfl hM.o rfl rfl (Nat.le_of_ble_eq_true rfl) (Nat.le_of_ble_eq_true rfl) ?_
          have hB1 := hM.by (i := (p + 4) + n) (by omega)
          refine m_at hM (by omega) ?_
          show AW g _ 94 (71, [some (.ref m), some (.int (nI a)), some (.int (nI j)), some (.int (nI n)), some (.int (nI p))], [.int (nI (μ 1 ((p + 4) + n)))]) σ _
          exact aw_iret rfl ⟨_, rfl, rfl⟩ (hQ)
        · omega
    · have e1 : sp_text S (nI a) (nI j) i = -1 := by unfold sp_text; rw [ha]; simp only []; rw [(vat_no v1).2.1 k2]; simp only [List.length_nil]; rw [ix_0]
      rw [e1] at hQ
      show AW g _ 94 (6, [some (.ref m), some (.int (nI a)), some (.int (nI j)), some (.int i), none], [.int (nI 1)]) σ _
      refine an_zeq rfl (by omega) (fun z => absurd z (by omega)) (fun _ => ?_)
      refine aw_run 1 (F' := (10, [some (.ref m), some (.int (nI a)), some (.int (nI j)), some (.int (i)), none], [.ref m])) rfl ?_
      refine aw_get rfl hM.o rfl ?_
      refine aw_run 3 (F' := (18, [some (.ref m), some (.int (nI a)), some (.int (nI j)), some (.int (i)), none], [.int (nI 500 * nI a), .ref (m + 5)])) rfl ?_
      rw [nI_mul]
      refine aw_run 2 (F' := (20, [some (.ref m), some (.int (nI a)), some (.int (nI j)), some (.int (i)), none], [.int (nI (500 * a) + nI j), .ref (m + 5)])) rfl ?_
      rw [nI_add]
      refine ms_ild hM rfl (k := 7) (n := 1000) (by decide) (by omega) ?_
      rw [show μ 7 ((500 * a) + j) = x.1.1.1 from p1]
      refine aw_run 1 (F' := (22, [some (.ref m), some (.int (nI a)), some (.int (nI j)), some (.int (i)), none], [.int (nI 2), .int (nI x.1.1.1)])) rfl ?_
      refine an_ceq rfl (by omega) (by omega) (fun h2 => ?_) (fun h2 => ?_)
      · exact absurd h2 k2
      · refine aw_run 1 (F' := (26, [some (.ref m), some (.int (nI a)), some (.int (nI j)), some (.int (i)), none], [.int ((-1))])) rfl ?_
        exact aw_iret rfl ⟨_, rfl, rfl⟩ (hQ)
  · have e1 : sp_text S which k i = -1 := by unfold sp_text; rw [ha]
    rw [e1] at hQ
    show AW g _ 94 (6, [some (.ref m), some (.int which), some (.int k), some (.int i), none], [.int (nI 0)]) σ _
    refine an_zeq rfl (by omega) (fun _ => ?_) (fun z => absurd z (by omega))
    refine aw_run 1 (F' := (26, [some (.ref m), some (.int (which)), some (.int (k)), some (.int (i)), none], [.int ((-1))])) rfl ?_
    exact aw_iret rfl ⟨_, rfl, rfl⟩ (hQ)
end P83
