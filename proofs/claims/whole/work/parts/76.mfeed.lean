/-- the tape as the reference has it, all else as it was -/
def tsp (μ μ' : sp_M) (T : (Nat → Nat) × Nat) : Prop := μ' 2 0 = T.2 ∧ (∀ i, μ' 1 (12000 + i) = T.1 i) ∧ (∀ f, f ≠ 1 → f ≠ 2 → μ' f = μ f) ∧ ∀ i, i < 12000 → μ' 1 i = μ 1 i
theorem RS.tape {S : sp_S} {μ μ' : sp_M} {T : (Nat → Nat) × Nat} (h : RS S μ) (h' : tsp μ μ' T) (hT : T.2 ≤ 2000) : RS (T.1, T.2, S.2.2) μ' := by
  obtain ⟨r1, r2, r3, r4, r5, r6⟩ := h
  obtain ⟨t1, t2, t3, t4⟩ := h'
  refine ⟨hT, t1, t2, fun s hs => ?_, ?_, fun w hw => ?_⟩
  · obtain ⟨u1, q, u2, u3⟩ := r4 s hs
    have u4 : lyV (μ 1) (sp_dv (S.2.2.1 s)) (2000 * s + 0) (2000 * s + q) := u3
    exact ⟨u1, q, u2, lyV.kept (P := 2000 * s) (x := 0) (y := q) u4 (fun i h1 h2 => t4 i (by omega))⟩
  · rw [t3 3 (by decide) (by decide), t3 4 (by decide) (by decide), t3 5 (by decide) (by decide)]
    exact r5
  · obtain ⟨u1, u2, u3⟩ := r6 w hw
    refine ⟨u1, by rw [t3 6 (by decide) (by decide)]; exact u2, fun i x hx => ?_⟩
    obtain ⟨w1, w2, w3⟩ := u3 i x hx
    rw [t3 7 (by decide) (by decide), t3 8 (by decide) (by decide), t3 9 (by decide) (by decide)]
    exact ⟨w1, w2, w3.kept (fun i h1 h2 => t4 i (by omega))⟩
section P76
variable {g : Nat × Nat} {d : Nat} {σ0 σ : am_H} {Q : Option Value → am_H → Prop} {m : Nat} {μ : sp_M}
theorem m_put1 {μ' : sp_M} (hM : MS g m σ0 σ μ') {T : (Nat → Nat) × Nat} {x sh : Int32} (ht : tsp μ μ' T) (hT : T.2 < 2000) (hsh : ¬ sh < 0) (hQ : ∀ σ' μ'', MS g m σ0 σ' μ'' → tsp μ μ'' (sp_up T.1 T.2 (sp_byte (x >>> (sh &&& 31))), T.2 + 1) → AW g d 60 (3, [some (.ref m), some (.int x), some (.int (sh + -8))], []) σ' Q) : AW g d 60 (3, [some (.ref m), some (.int x), some (.int sh)], []) σ Q := by
  obtain ⟨t1, t2, t3, t4⟩ := ht
  refine aw_run 1 (F' := (4, [some (.ref m), some (.int (x)), some (.int (sh))], [.int (sh)])) rfl ?_
  refine aw_zlt rfl (fun h1 => ?_) (fun h1 => ?_)
  · exact absurd h1 hsh
  · refine aw_run 1 (F' := (8, [some (.ref m), some (.int (x)), some (.int (sh))], [.ref m])) rfl ?_
    refine aw_get rfl hM.o rfl ?_
    refine aw_run 2 (F' := (15, [some (.ref m), some (.int (x)), some (.int (sh))], [.ref m, .int (nI 12000), .ref (m + 1)])) rfl ?_
    refine aw_get rfl hM.o rfl ?_
    rw [show μ' 2 0 = T.2 from t1]
    refine aw_run 1 (F' := (19, [some (.ref m), some (.int (x)), some (.int (sh))], [.int (nI 12000 + nI T.2), .ref (m + 1)])) rfl ?_
    rw [nI_add]
    refine aw_run 4 (F' := (23, [some (.ref m), some (.int (x)), some (.int (sh))], [.int (Int8.toInt32 (Int32.toInt8 ((x) >>> ((sh) &&& 31)))), .int (nI (12000 + T.2)), .ref (m + 1)])) rfl ?_
    refine ms_bst hM rfl (k := 1) (n := 14000) (by decide) (by omega) (sb_nar _) (sp_byte_lt _) (fun s1 hM1 => ?_)
    refine aw_run 2 (F' := (26, [some (.ref m), some (.int (x)), some (.int (sh))], [.ref m, .ref m])) rfl ?_
    refine aw_get rfl hM1.o rfl ?_
    rw [show (mup μ' 1 (12000 + T.2) (sp_byte (x >>> (sh &&& 31)))) 2 0 = T.2 from t1]
    refine aw_run 2 (F' := (31, [some (.ref m), some (.int (x)), some (.int (sh))], [.int (nI T.2 + nI 1), .ref m])) rfl ?_
    rw [nI_add]
    refine ms_put hM1 rfl (by decide) (fun s2 hM2 => ?_)
    refine aw_run 2 (F' := (3, [some (.ref m), some (.int (x)), some (.int (sh + (-8)))], [])) rfl ?_
    refine hQ _ _ hM2 ⟨rfl, fun i => ?_, fun f h1 h2 => ?_, fun i hi => ?_⟩
    · rw [mup_k _ _ _ (by decide), mup_f]
      show (if 12000 + i = 12000 + T.2 then sp_byte (x >>> (sh &&& 31)) else μ' 1 (12000 + i)) = if i = T.2 then sp_byte (x >>> (sh &&& 31)) else T.1 i
      by_cases e : i = T.2
      · rw [if_pos e, if_pos (by omega)]
      · rw [if_neg e, if_neg (by omega)]
        exact t2 i
    · rw [mup_k _ _ _ h2, mup_k _ _ _ h1]
      exact t3 f h1 h2
    · rw [mup_k _ _ _ (by decide), mup_f]
      show (if i = 12000 + T.2 then sp_byte (x >>> (sh &&& 31)) else μ' 1 i) = μ 1 i
      rw [if_neg (by omega)]
      exact t4 i hi
theorem m_putn {μ' : sp_M} (hM : MS g m σ0 σ μ') {T : (Nat → Nat) × Nat} {x : Int32} (ht : tsp μ μ' T) (hT : T.2 + 4 ≤ 2000) (hQ : ∀ σ' μ'', MS g m σ0 σ' μ'' → tsp μ μ'' (sp_put T x) → Q none σ') : AW g d 60 (0, [some (.ref m), some (.int x), none], []) σ Q := by
  refine aw_run 2 (F' := (3, [some (.ref m), some (.int x), some (.int 24)], [])) rfl ?_
  refine m_put1 hM ht (by omega) (by decide) (fun σ1 μ1 hM1 h1 => ?_)
  refine m_put1 hM1 h1 (by show T.2 + 1 < 2000; omega) (by decide) (fun σ2 μ2 hM2 h2 => ?_)
  refine m_put1 hM2 h2 (by show T.2 + 1 + 1 < 2000; omega) (by decide) (fun σ3 μ3 hM3 h3 => ?_)
  refine m_put1 hM3 h3 (by show T.2 + 1 + 1 + 1 < 2000; omega) (by decide) (fun σ4 μ4 hM4 h4 => ?_)
  refine aw_run 1 (F' := (4, [some (.ref m), some (.int x), some (.int (24 + -8 + -8 + -8 + -8))], [.int (24 + -8 + -8 + -8 + -8)])) rfl ?_
  refine aw_zlt rfl (fun _ => ?_) (fun z => absurd (by decide) z)
  exact aw_vret rfl rfl (hQ σ4 μ4 hM4 h4)
/-- feed -/
theorem m_feed (hM : MS g m σ0 σ μ) {S : sp_S} (hR : RS S μ) (x1 x2 x3 x4 x5 : Int32) (hQ : ∀ σ' μ', MS g m σ0 σ' μ' → RS (sp_feed S x1 x2 x3 x4 x5).1 μ' → Q (some (.int (sp_feed S x1 x2 x3 x4 x5).2)) σ') : AW g (d + 1) 59 (0, [some (.ref m), some (.int x1), some (.int x2), some (.int x3), some (.int x4), some (.int x5)], []) σ Q := by
  have hR' := hR
  obtain ⟨r1, r2, r3, r4, r5, r6⟩ := hR'
  have ht0 : tsp μ μ (S.1, S.2.1) := ⟨r2, r3, fun _ _ _ => rfl, fun _ _ => rfl⟩
  refine aw_run 1 (F' := (1, [some (.ref m), some (.int (x1)), some (.int (x2)), some (.int (x3)), some (.int (x4)), some (.int (x5))], [.ref m])) rfl ?_
  refine aw_get rfl hM.o rfl ?_
  rw [show μ 2 0 = S.2.1 from r2]
  refine aw_run 2 (F' := (7, [some (.ref m), some (.int (x1)), some (.int (x2)), some (.int (x3)), some (.int (x4)), some (.int (x5))], [.int (nI S.2.1 + nI 20)])) rfl ?_
  rw [nI_add]
  refine aw_run 1 (F' := (10, [some (.ref m), some (.int (x1)), some (.int (x2)), some (.int (x3)), some (.int (x4)), some (.int (x5))], [.int (nI 2000), .int (nI (S.2.1 + 20))])) rfl ?_
  refine an_cle rfl (by omega) (by omega) (fun h1 => ?_) (fun h1 => ?_)
  · refine aw_run 2 (F' := (17, [some (.ref m), some (.int (x1)), some (.int (x2)), some (.int (x3)), some (.int (x4)), some (.int (x5))], [.int (x1), .ref m])) rfl ?_
    refine aw_v [.ref m, .int (x1)] [] rfl (by decide) rfl hM.o rfl rfl (Nat.le_of_ble_eq_true rfl) (Nat.le_of_ble_eq_true rfl) ?_
    refine m_putn hM ht0 (by show S.2.1 + 4 ≤ 2000; omega) (fun q1 μ1 hP1 ht1 => ?_)
    show AW g _ 59 (20, [some (.ref m), some (.int (x1)), some (.int (x2)), some (.int (x3)), some (.int (x4)), some (.int (x5))], []) q1 _
    refine aw_run 2 (F' := (22, [some (.ref m), some (.int (x1)), some (.int (x2)), some (.int (x3)), some (.int (x4)), some (.int (x5))], [.int (x2), .ref m])) rfl ?_
    refine aw_v [.ref m, .int (x2)] [] rfl (by decide) rfl hP1.o rfl rfl (Nat.le_of_ble_eq_true rfl) (Nat.le_of_ble_eq_true rfl) ?_
    refine m_putn hP1 ht1 (by show S.2.1 + 4 + 4 ≤ 2000; omega) (fun q2 μ2 hP2 ht2 => ?_)
    show AW g _ 59 (25, [some (.ref m), some (.int (x1)), some (.int (x2)), some (.int (x3)), some (.int (x4)), some (.int (x5))], []) q2 _
    refine aw_run 2 (F' := (27, [some (.ref m), some (.int (x1)), some (.int (x2)), some (.int (x3)), some (.int (x4)), some (.int (x5))], [.int (x3), .ref m])) rfl ?_
    refine aw_v [.ref m, .int (x3)] [] rfl (by decide) rfl hP2.o rfl rfl (Nat.le_of_ble_eq_true rfl) (Nat.le_of_ble_eq_true rfl) ?_
    refine m_putn hP2 ht2 (by show S.2.1 + 4 + 4 + 4 ≤ 2000; omega) (fun q3 μ3 hP3 ht3 => ?_)
    show AW g _ 59 (30, [some (.ref m), some (.int (x1)), some (.int (x2)), some (.int (x3)), some (.int (x4)), some (.int (x5))], []) q3 _
    refine aw_run 2 (F' := (33, [some (.ref m), some (.int (x1)), some (.int (x2)), some (.int (x3)), some (.int (x4)), some (.int (x5))], [.int (x4), .ref m])) rfl ?_
    refine aw_v [.ref m, .int (x4)] [] rfl (by decide) rfl hP3.o rfl rfl (Nat.le_of_ble_eq_true rfl) (Nat.le_of_ble_eq_true rfl) ?_
    refine m_putn hP3 ht3 (by show S.2.1 + 4 + 4 + 4 + 4 ≤ 2000; omega) (fun q4 μ4 hP4 ht4 => ?_)
    show AW g _ 59 (36, [some (.ref m), some (.int (x1)), some (.int (x2)), some (.int (x3)), some (.int (x4)), some (.int (x5))], []) q4 _
    refine aw_run 2 (F' := (39, [some (.ref m), some (.int (x1)), some (.int (x2)), some (.int (x3)), some (.int (x4)), some (.int (x5))], [.int (x5), .ref m])) rfl ?_
    refine aw_v [.ref m, .int (x5)] [] rfl (by decide) rfl hP4.o rfl rfl (Nat.le_of_ble_eq_true rfl) (Nat.le_of_ble_eq_true rfl) ?_
    refine m_putn hP4 ht4 (by show S.2.1 + 4 + 4 + 4 + 4 + 4 ≤ 2000; omega) (fun q5 μ5 hP5 ht5 => ?_)
    show AW g _ 59 (42, [some (.ref m), some (.int (x1)), some (.int (x2)), some (.int (x3)), some (.int (x4)), some (.int (x5))], []) q5 _
    refine aw_run 1 (F' := (43, [some (.ref m), some (.int (x1)), some (.int (x2)), some (.int (x3)), some (.int (x4)), some (.int (x5))], [.ref m])) rfl ?_
    refine aw_get rfl hP5.o rfl ?_
    have e1 : sp_feed S x1 x2 x3 x4 x5 = (((sp_put (sp_put (sp_put (sp_put (sp_put (S.1, S.2.1) x1) x2) x3) x4) x5).1, (sp_put (sp_put (sp_put (sp_put (sp_put (S.1, S.2.1) x1) x2) x3) x4) x5).2, S.2.2), nI (S.2.1 + 20)) := if_neg (by omega)
    rw [e1] at hQ
    have e2 : μ5 2 0 = S.2.1 + 20 := ht5.1
    rw [e2]
    exact aw_iret rfl ⟨_, rfl, rfl⟩ (hQ _ _ hP5 (hR.tape ht5 (by show S.2.1 + 4 + 4 + 4 + 4 + 4 ≤ 2000; omega)))
  · refine aw_run 1 (F' := (14, [some (.ref m), some (.int (x1)), some (.int (x2)), some (.int (x3)), some (.int (x4)), some (.int (x5))], [.int ((-1))])) rfl ?_
    have e1 : sp_feed S x1 x2 x3 x4 x5 = (S, -1) := if_pos (by omega)
    rw [e1] at hQ
    exact aw_iret rfl ⟨_, rfl, rfl⟩ (hQ _ _ hM hR)
end P76
