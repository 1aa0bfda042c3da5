section P84
variable {g : Nat × Nat} {d : Nat} {σ0 σ : am_H} {Q : Option Value → am_H → Prop} {m : Nat} {μ : sp_M}
/-- elementsAt -/
theorem m_eatL (hM : MS g m σ0 σ μ) {f e : Nat} {row : Bool} (he : e ≤ 14000) : ∀ (F : sp_F) (i k n : Nat), lyF (μ 1) F row i k e → Q (some (.int (nI (n + sp_len F)))) σ → AW g (d + 3) 93 (17, [some (.ref m), some (.int (nI f)), some (.int (nI n)), some (.int (nI e)), some (.int (nI k))], []) σ Q := by
  intro F
  induction F with
  | leaf =>
    intro i k n hl hQ
    have hl' : k = e := hl
    subst hl'
    refine aw_run 2 (F' := (20, [some (.ref m), some (.int (nI f)), some (.int (nI n)), some (.int (nI k)), some (.int (nI k))], [.int (nI k), .int (nI k)])) rfl ?_
    refine an_cge rfl (by omega) (by omega) (fun h1 => ?_) (fun h1 => ?_)
    · refine aw_run 1 (F' := (53, [some (.ref m), some (.int (nI f)), some (.int (nI n)), some (.int (nI k)), some (.int (nI k))], [.int (nI n)])) rfl ?_
      exact aw_iret rfl ⟨_, rfl, rfl⟩ (hQ)
    · omega
  | inner sz b u c r ih1 ih2 =>
    intro i k n hl hQ
    obtain ⟨s', q, z1, z2, z3, z4, z5, z6, z7, z8⟩ := hl
    have y1 := z1.1
    have y2 := z6.le
    have y3 := z6.bh
    have y4 : b.1 = 2 ∨ b.1 = 3 ∨ b.1 = 4 → s' + 1 + 3 < 14000 := by
      unfold ly1 at z6
      omega
    refine aw_run 2 (F' := (20, [some (.ref m), some (.int (nI f)), some (.int (nI n)), some (.int (nI e)), some (.int (nI k))], [.int (nI e), .int (nI k)])) rfl ?_
    refine an_cge rfl (by omega) (by omega) (fun h1 => ?_) (fun h1 => ?_)
    · omega
    · refine aw_run 1 (F' := (26, [some (.ref m), some (.int (nI f)), some (.int (nI n + nI 1)), some (.int (nI e)), some (.int (nI k))], [])) rfl ?_
      rw [nI_add]
      refine aw_run 3 (F' := (30, [some (.ref m), some (.int (nI f)), some (.int (nI (n + 1))), some (.int (nI e)), some (.int (nI k))], [.int (nI k), .ref m, .ref m])) rfl ?_
      refine aw_v [.ref m, .int (nI k)] [.ref m] rfl (by decide) rfl hM.o rfl rfl (Nat.le_of_ble_eq_true rfl) (Nat.le_of_ble_eq_true rfl) ?_
      have hB1 := hM.by (i := k) (by omega)
      refine m_at hM (by omega) ?_
      show AW g _ 93 (33, [some (.ref m), some (.int (nI f)), some (.int (nI (n + 1))), some (.int (nI e)), some (.int (nI k))], [.int (nI (μ 1 k)), .ref m]) σ _
      refine aw_run 4 (F' := (38, [some (.ref m), some (.int (nI f)), some (.int (nI (n + 1))), some (.int (nI e)), some (.int (nI k))], [.int (nI k + nI 1), .ref m, .int (nI (μ 1 k)), .ref m])) rfl ?_
      rw [nI_add]
      refine aw_run 1 (F' := (39, [some (.ref m), some (.int (nI f)), some (.int (nI (n + 1))), some (.int (nI e)), some (.int (nI k))], [.int (nI e), .int (nI (k + 1)), .ref m, .int (nI (μ 1 k)), .ref m])) rfl ?_
      refine aw_v [.ref m, .int (nI (k + 1)), .int (nI e)] [.int (nI (μ 1 k)), .ref m] rfl (by decide) rfl hM.o rfl rfl (Nat.le_of_ble_eq_true rfl) (Nat.le_of_ble_eq_true rfl) ?_
      refine m_nes hM he z1 z2 ?_
      show AW g _ 93 (42, [some (.ref m), some (.int (nI f)), some (.int (nI (n + 1))), some (.int (nI e)), some (.int (nI k))], [.int (nI s'), .int (nI (μ 1 k)), .ref m]) σ _
      refine aw_run 2 (F' := (44, [some (.ref m), some (.int (nI f)), some (.int (nI (n + 1))), some (.int (nI e)), some (.int (nI k))], [.int (nI s' + nI 1), .int (nI (μ 1 k)), .ref m])) rfl ?_
      rw [nI_add]
      refine aw_v [.ref m, .int (nI (μ 1 k)), .int (nI (s' + 1))] [] rfl (by decide) rfl hM.o rfl rfl (Nat.le_of_ble_eq_true rfl) (Nat.le_of_ble_eq_true rfl) ?_
      refine m_bhd hM (by have := hM.by (i := k) (by omega); omega) (by rw [z3]; exact y4) ?_
      rw [z3, y3]
      show AW g _ 93 (47, [some (.ref m), some (.int (nI f)), some (.int (nI (n + 1))), some (.int (nI e)), some (.int (nI k))], [.int (nI q)]) σ _
      refine aw_run 2 (F' := (17, [some (.ref m), some (.int (nI f)), some (.int (nI (n + 1))), some (.int (nI e)), some (.int (nI q))], [])) rfl ?_
      refine ih2 (i + 1) q (n + 1) z8 ?_
      rw [show n + 1 + sp_len r = n + sp_len (.inner sz b u c r) by simp only [sp_len]; omega]
      exact hQ
theorem m_eat (hM : MS g m σ0 σ μ) {v : sp_V} {p q : Nat} (hl : lyV (μ 1) v p q) (hk : v.1.1 = 3 ∨ v.1.1 = 4) (hq : q ≤ 14000) (hQ : Q (some (.int (nI (sp_len v.2)))) σ) : AW g (d + 3) 93 (0, [some (.ref m), some (.int (nI p)), none, none, none], []) σ Q := by
  obtain ⟨-, -, n1, n2, n3⟩ := ly_nst hl hk
  refine aw_run 5 (F' := (5, [some (.ref m), some (.int (nI p)), some (.int (nI 0)), none, none], [.int (nI p), .ref m, .int (nI p)])) rfl ?_
  refine aw_v [.ref m, .int (nI p)] [.int (nI p)] rfl (by decide) rfl hM.o rfl rfl (Nat.le_of_ble_eq_true rfl) (Nat.le_of_ble_eq_true rfl) ?_
  refine m_whole hM (by omega) ?_
  show AW g _ 93 (8, [some (.ref m), some (.int (nI p)), some (.int (nI 0)), none, none], [.int (nI (sp_le (μ 1) p 4)), .int (nI p)]) σ _
  refine aw_run 1 (F' := (9, [some (.ref m), some (.int (nI p)), some (.int (nI 0)), none, none], [.int (nI p + nI (sp_le (μ 1) p 4))])) rfl ?_
  rw [nI_add]
  refine aw_run 2 (F' := (11, [some (.ref m), some (.int (nI p)), some (.int (nI 0)), none, none], [.int (nI (p + (sp_le (μ 1) p 4)) - nI 1)])) rfl ?_
  rw [nI_sub (by omega)]
  refine aw_run 4 (F' := (15, [some (.ref m), some (.int (nI p)), some (.int (nI 0)), some (.int (nI ((p + (sp_le (μ 1) p 4)) - 1))), none], [.int (nI p + nI 4)])) rfl ?_
  rw [nI_add]
  refine aw_run 1 (F' := (17, [some (.ref m), some (.int (nI p)), some (.int (nI 0)), some (.int (nI ((p + (sp_le (μ 1) p 4)) - 1))), some (.int (nI (p + 4)))], [])) rfl ?_
  rw [show p + sp_le (μ 1) p 4 - 1 = q - 1 by omega]
  refine m_eatL hM (by omega) v.2 0 (p + 4) 0 n3 ?_
  rw [Nat.zero_add]
  exact hQ
/-- value -/
theorem m_value (hM : MS g m σ0 σ μ) {S : sp_S} (hR : RS S μ) (which k what : Int32) (hQ : Q (some (.long (sp_value S which k what))) σ) : AW g (d + 4) 91 (0, [some (.ref m), some (.int which), some (.int k), some (.int what), none, none], []) σ Q := by
  refine aw_run 3 (F' := (3, [some (.ref m), some (.int which), some (.int k), some (.int what), none, none], [.int k, .int which, .ref m])) rfl ?_
  refine aw_v [.ref m, .int which, .int k] [] rfl (by decide) rfl hM.o rfl rfl (Nat.le_of_ble_eq_true rfl) (Nat.le_of_ble_eq_true rfl) ?_
  refine m_has hM hR which k (fun a j x w1 ha1 hk hj hx ha => ?_) (fun ha => ?_)
  · subst w1
    subst hk
    obtain ⟨p1, q1, l1⟩ := (hR.2.2.2.2.2 a ha1).2.2 j x hx
    have v1 := l1.at (by omega)
    have k1 := vat_kd v1
    have lp := l1.2.1
    have vn := vat_no v1
    generalize hP : μ 8 (500 * a + j) = p at l1 v1 lp
    have ly : x.1 ≠ sp_miss → ∃ q, q ≤ 14000 ∧ lyV (μ 1) x.1 p q := fun z => v1.resolve_left z
    have nm : x.1.1.1 ≠ 0 → x.1 ≠ sp_miss := fun z y => z (by rw [y]; rfl)
    have hv : sp_value S (nI a) (nI j) what = (if what = 0 then lN x.1.1.1 else if what = 1 then lN (sp_cls x.1.1.1) else if what = 2 then Int64.ofInt x.1.1.2.2.1 else if what = 3 then lN (x.1.1.2.2.2.length + sp_len x.1.2) else -1) := by unfold sp_value; rw [ha]
    rw [hv] at hQ
    rcases sp_ix_c what (n := 4) (by omega) with ⟨hz, hi⟩ | ⟨w, hw, rfl, hi⟩
    · have hne : ∀ c : Nat, c < 4 → what ≠ nI c := by
        intro c hc z
        rcases hz with y | ⟨_, y⟩
        · rw [z] at y; exact nI_pos (by omega) y
        · rw [z] at y
          have := (nI_leI (by omega) (by omega)).mp y
          omega
      rw [if_neg (show ¬ what = 0 from hne 0 (by omega)), if_neg (show ¬ what = 1 from hne 1 (by omega)), if_neg (show ¬ what = 2 from hne 2 (by omega)), if_neg (show ¬ what = 3 from hne 3 (by omega))] at hQ
      show AW g _ 91 (6, [some (.ref m), some (.int (nI a)), some (.int (nI j)), some (.int what), none, none], [.int (nI 1)]) σ _
      refine an_zeq rfl (by omega) (fun z => absurd z (by omega)) (fun _ => ?_)
      refine aw_run 1 (F' := (10, [some (.ref m), some (.int (nI a)), some (.int (nI j)), some (.int (what)), none, none], [.int (what)])) rfl ?_
      refine aw_zlt rfl (fun h2 => ?_) (fun h2 => ?_)
      · refine aw_run 1 (F' := (21, [some (.ref m), some (.int (nI a)), some (.int (nI j)), some (.int (what)), none, none], [.long ((-1))])) rfl ?_
        exact aw_lret rfl rfl (hQ)
      · refine aw_run 2 (F' := (15, [some (.ref m), some (.int (nI a)), some (.int (nI j)), some (.int (what)), none, none], [.int (nI 3), .int (what)])) rfl ?_
        refine aw_cle rfl (fun h3 => ?_) (fun h3 => ?_)
        · exact absurd (hz.resolve_left (by assumption)).2 (fun y => by have h34 : nI 4 ≤ nI 3 := Int32.le_trans y h3; exact absurd ((nI_leI (by omega) (by omega)).mp h34) (by omega))
        · refine aw_run 1 (F' := (21, [some (.ref m), some (.int (nI a)), some (.int (nI j)), some (.int (what)), none, none], [.long ((-1))])) rfl ?_
          exact aw_lret rfl rfl (hQ)
    · rcases (by omega : w = 0 ∨ w = 1 ∨ w = 2 ∨ w = 3) with rfl | rfl | rfl | rfl
      · rw [if_pos (by decide)] at hQ
        show AW g _ 91 (6, [some (.ref m), some (.int (nI a)), some (.int (nI j)), some (.int (nI 0)), none, none], [.int (nI 1)]) σ _
        refine an_zeq rfl (by omega) (fun z => absurd z (by omega)) (fun _ => ?_)
        refine aw_run 1 (F' := (10, [some (.ref m), some (.int (nI a)), some (.int (nI j)), some (.int (nI 0)), none, none], [.int (nI 0)])) rfl ?_
        refine an_zlt rfl (by omega) ?_
        refine aw_run 2 (F' := (15, [some (.ref m), some (.int (nI a)), some (.int (nI j)), some (.int (nI 0)), none, none], [.int (nI 3), .int (nI 0)])) rfl ?_
        refine an_cle rfl (by omega) (by omega) (fun _ => ?_) (fun z => absurd z (by omega))
        refine aw_run 1 (F' := (23, [some (.ref m), some (.int (nI a)), some (.int (nI j)), some (.int (nI 0)), none, none], [.ref m])) rfl ?_
        refine aw_get rfl hM.o rfl ?_
        refine aw_run 3 (F' := (31, [some (.ref m), some (.int (nI a)), some (.int (nI j)), some (.int (nI 0)), none, none], [.int (nI 500 * nI a), .ref (m + 5)])) rfl ?_
        rw [nI_mul]
        refine aw_run 2 (F' := (33, [some (.ref m), some (.int (nI a)), some (.int (nI j)), some (.int (nI 0)), none, none], [.int (nI (500 * a) + nI j), .ref (m + 5)])) rfl ?_
        rw [nI_add]
        refine ms_ild hM rfl (k := 7) (n := 1000) (by decide) (by omega) ?_
        rw [show μ 7 ((500 * a) + j) = x.1.1.1 from p1]
        refine aw_run 2 (F' := (37, [some (.ref m), some (.int (nI a)), some (.int (nI j)), some (.int (nI 0)), some (.int (nI x.1.1.1)), none], [.ref m])) rfl ?_
        refine aw_get rfl hM.o rfl ?_
        refine aw_run 3 (F' := (45, [some (.ref m), some (.int (nI a)), some (.int (nI j)), some (.int (nI 0)), some (.int (nI x.1.1.1)), none], [.int (nI 500 * nI a), .ref (m + 6)])) rfl ?_
        rw [nI_mul]
        refine aw_run 2 (F' := (47, [some (.ref m), some (.int (nI a)), some (.int (nI j)), some (.int (nI 0)), some (.int (nI x.1.1.1)), none], [.int (nI (500 * a) + nI j), .ref (m + 6)])) rfl ?_
        rw [nI_add]
        refine ms_ild hM rfl (k := 8) (n := 1000) (by decide) (by omega) ?_
        rw [show μ 8 ((500 * a) + j) = p from hP]
        refine aw_run 2 (F' := (51, [some (.ref m), some (.int (nI a)), some (.int (nI j)), some (.int (nI 0)), some (.int (nI x.1.1.1)), some (.int (nI p))], [.int (nI 0)])) rfl ?_
        refine an_zne rfl (by omega) (fun z => absurd z (by omega)) (fun _ => ?_)
        refine aw_run 2 (F' := (57, [some (.ref m), some (.int (nI a)), some (.int (nI j)), some (.int (nI 0)), some (.int (nI x.1.1.1)), some (.int (nI p))], [.long (Int32.toInt64 (nI x.1.1.1))])) rfl ?_
        exact aw_lret rfl rfl (by rw [nI_l k1]; exact hQ)
      · rw [if_neg (by decide), if_pos (by decide)] at hQ
        show AW g _ 91 (6, [some (.ref m), some (.int (nI a)), some (.int (nI j)), some (.int (nI 1)), none, none], [.int (nI 1)]) σ _
        refine an_zeq rfl (by omega) (fun z => absurd z (by omega)) (fun _ => ?_)
        refine aw_run 1 (F' := (10, [some (.ref m), some (.int (nI a)), some (.int (nI j)), some (.int (nI 1)), none, none], [.int (nI 1)])) rfl ?_
        refine an_zlt rfl (by omega) ?_
        refine aw_run 2 (F' := (15, [some (.ref m), some (.int (nI a)), some (.int (nI j)), some (.int (nI 1)), none, none], [.int (nI 3), .int (nI 1)])) rfl ?_
        refine an_cle rfl (by omega) (by omega) (fun _ => ?_) (fun z => absurd z (by omega))
        refine aw_run 1 (F' := (23, [some (.ref m), some (.int (nI a)), some (.int (nI j)), some (.int (nI 1)), none, none], [.ref m])) rfl ?_
        refine aw_get rfl hM.o rfl ?_
        refine aw_run 3 (F' := (31, [some (.ref m), some (.int (nI a)), some (.int (nI j)), some (.int (nI 1)), none, none], [.int (nI 500 * nI a), .ref (m + 5)])) rfl ?_
        rw [nI_mul]
        refine aw_run 2 (F' := (33, [some (.ref m), some (.int (nI a)), some (.int (nI j)), some (.int (nI 1)), none, none], [.int (nI (500 * a) + nI j), .ref (m + 5)])) rfl ?_
        rw [nI_add]
        refine ms_ild hM rfl (k := 7) (n := 1000) (by decide) (by omega) ?_
        rw [show μ 7 ((500 * a) + j) = x.1.1.1 from p1]
        refine aw_run 2 (F' := (37, [some (.ref m), some (.int (nI a)), some (.int (nI j)), some (.int (nI 1)), some (.int (nI x.1.1.1)), none], [.ref m])) rfl ?_
        refine aw_get rfl hM.o rfl ?_
        refine aw_run 3 (F' := (45, [some (.ref m), some (.int (nI a)), some (.int (nI j)), some (.int (nI 1)), some (.int (nI x.1.1.1)), none], [.int (nI 500 * nI a), .ref (m + 6)])) rfl ?_
        rw [nI_mul]
        refine aw_run 2 (F' := (47, [some (.ref m), some (.int (nI a)), some (.int (nI j)), some (.int (nI 1)), some (.int (nI x.1.1.1)), none], [.int (nI (500 * a) + nI j), .ref (m + 6)])) rfl ?_
        rw [nI_add]
        refine ms_ild hM rfl (k := 8) (n := 1000) (by decide) (by omega) ?_
        rw [show μ 8 ((500 * a) + j) = p from hP]
        refine aw_run 2 (F' := (51, [some (.ref m), some (.int (nI a)), some (.int (nI j)), some (.int (nI 1)), some (.int (nI x.1.1.1)), some (.int (nI p))], [.int (nI 1)])) rfl ?_
        refine an_zne rfl (by omega) (fun _ => ?_) (fun z => absurd z (by omega))
        refine aw_run 2 (F' := (60, [some (.ref m), some (.int (nI a)), some (.int (nI j)), some (.int (nI 1)), some (.int (nI x.1.1.1)), some (.int (nI p))], [.int (nI 1), .int (nI 1)])) rfl ?_
        refine an_cne rfl (by omega) (by omega) (fun z => absurd z (by omega)) (fun _ => ?_)
        refine aw_run 1 (F' := (65, [some (.ref m), some (.int (nI a)), some (.int (nI j)), some (.int (nI 1)), some (.int (nI x.1.1.1)), some (.int (nI p))], [.int (nI x.1.1.1)])) rfl ?_
        refine aw_s [.int (nI x.1.1.1)] [] rfl ⟨by decide, by decide⟩ rfl rfl (Nat.le_of_ble_eq_true rfl) (Nat.le_of_ble_eq_true rfl) ?_
        refine m_cls k1 ?_
        show AW g _ 91 (68, [some (.ref m), some (.int (nI a)), some (.int (nI j)), some (.int (nI 1)), some (.int (nI x.1.1.1)), some (.int (nI p))], [.int (nI (sp_cls x.1.1.1))]) σ _
        refine aw_run 1 (F' := (69, [some (.ref m), some (.int (nI a)), some (.int (nI j)), some (.int (nI 1)), some (.int (nI x.1.1.1)), some (.int (nI p))], [.long (Int32.toInt64 (nI (sp_cls x.1.1.1)))])) rfl ?_
        exact aw_lret rfl rfl (by rw [nI_l (sp_cls_lt _)]; exact hQ)
      · rw [if_neg (by decide), if_neg (by decide), if_pos (by decide)] at hQ
        show AW g _ 91 (6, [some (.ref m), some (.int (nI a)), some (.int (nI j)), some (.int (nI 2)), none, none], [.int (nI 1)]) σ _
        refine an_zeq rfl (by omega) (fun z => absurd z (by omega)) (fun _ => ?_)
        refine aw_run 1 (F' := (10, [some (.ref m), some (.int (nI a)), some (.int (nI j)), some (.int (nI 2)), none, none], [.int (nI 2)])) rfl ?_
        refine an_zlt rfl (by omega) ?_
        refine aw_run 2 (F' := (15, [some (.ref m), some (.int (nI a)), some (.int (nI j)), some (.int (nI 2)), none, none], [.int (nI 3), .int (nI 2)])) rfl ?_
        refine an_cle rfl (by omega) (by omega) (fun _ => ?_) (fun z => absurd z (by omega))
        refine aw_run 1 (F' := (23, [some (.ref m), some (.int (nI a)), some (.int (nI j)), some (.int (nI 2)), none, none], [.ref m])) rfl ?_
        refine aw_get rfl hM.o rfl ?_
        refine aw_run 3 (F' := (31, [some (.ref m), some (.int (nI a)), some (.int (nI j)), some (.int (nI 2)), none, none], [.int (nI 500 * nI a), .ref (m + 5)])) rfl ?_
        rw [nI_mul]
        refine aw_run 2 (F' := (33, [some (.ref m), some (.int (nI a)), some (.int (nI j)), some (.int (nI 2)), none, none], [.int (nI (500 * a) + nI j), .ref (m + 5)])) rfl ?_
        rw [nI_add]
        refine ms_ild hM rfl (k := 7) (n := 1000) (by decide) (by omega) ?_
        rw [show μ 7 ((500 * a) + j) = x.1.1.1 from p1]
        refine aw_run 2 (F' := (37, [some (.ref m), some (.int (nI a)), some (.int (nI j)), some (.int (nI 2)), some (.int (nI x.1.1.1)), none], [.ref m])) rfl ?_
        refine aw_get rfl hM.o rfl ?_
        refine aw_run 3 (F' := (45, [some (.ref m), some (.int (nI a)), some (.int (nI j)), some (.int (nI 2)), some (.int (nI x.1.1.1)), none], [.int (nI 500 * nI a), .ref (m + 6)])) rfl ?_
        rw [nI_mul]
        refine aw_run 2 (F' := (47, [some (.ref m), some (.int (nI a)), some (.int (nI j)), some (.int (nI 2)), some (.int (nI x.1.1.1)), none], [.int (nI (500 * a) + nI j), .ref (m + 6)])) rfl ?_
        rw [nI_add]
        refine ms_ild hM rfl (k := 8) (n := 1000) (by decide) (by omega) ?_
        rw [show μ 8 ((500 * a) + j) = p from hP]
        refine aw_run 2 (F' := (51, [some (.ref m), some (.int (nI a)), some (.int (nI j)), some (.int (nI 2)), some (.int (nI x.1.1.1)), some (.int (nI p))], [.int (nI 2)])) rfl ?_
        refine an_zne rfl (by omega) (fun _ => ?_) (fun z => absurd z (by omega))
        refine aw_run 2 (F' := (60, [some (.ref m), some (.int (nI a)), some (.int (nI j)), some (.int (nI 2)), some (.int (nI x.1.1.1)), some (.int (nI p))], [.int (nI 1), .int (nI 2)])) rfl ?_
        refine an_cne rfl (by omega) (by omega) (fun _ => ?_) (fun z => absurd z (by omega))
        refine aw_run 2 (F' := (72, [some (.ref m), some (.int (nI a)), some (.int (nI j)), some (.int (nI 2)), some (.int (nI x.1.1.1)), some (.int (nI p))], [.int (nI 2), .int (nI 2)])) rfl ?_
        refine an_cne rfl (by omega) (by omega) (fun z => absurd z (by omega)) (fun _ => ?_)
        refine aw_run 2 (F' := (79, [some (.ref m), some (.int (nI a)), some (.int (nI j)), some (.int (nI 2)), some (.int (nI x.1.1.1)), some (.int (nI p))], [.int (nI 16), .int (nI x.1.1.1)])) rfl ?_
        refine an_ceq rfl (by omega) (by omega) (fun h7 => ?_) (fun h7 => ?_)
        · refine aw_run 3 (F' := (101, [some (.ref m), some (.int (nI a)), some (.int (nI j)), some (.int (nI 2)), some (.int (nI x.1.1.1)), some (.int (nI p))], [.int (nI p), .int (nI x.1.1.1), .ref m])) rfl ?_
          refine aw_v [.ref m, .int (nI x.1.1.1), .int (nI p)] [] rfl (by decide) rfl hM.o rfl rfl (Nat.le_of_ble_eq_true rfl) (Nat.le_of_ble_eq_true rfl) ?_
          obtain ⟨q, hq, hl⟩ := ly (nm (by omega))
          refine m_nbr hM hl hq (by omega) ?_
          show AW g _ 91 (104, [some (.ref m), some (.int (nI a)), some (.int (nI j)), some (.int (nI 2)), some (.int (nI x.1.1.1)), some (.int (nI p))], [.long (Int64.ofInt x.1.1.2.2.1)]) σ _
          refine aw_run 1 (F' := (108, [some (.ref m), some (.int (nI a)), some (.int (nI j)), some (.int (nI 2)), some (.int (nI x.1.1.1)), some (.int (nI p))], [.long (Int64.ofInt x.1.1.2.2.1)])) rfl ?_
          exact aw_lret rfl rfl (hQ)
        · refine aw_run 2 (F' := (86, [some (.ref m), some (.int (nI a)), some (.int (nI j)), some (.int (nI 2)), some (.int (nI x.1.1.1)), some (.int (nI p))], [.int (nI 18), .int (nI x.1.1.1)])) rfl ?_
          refine an_ceq rfl (by omega) (by omega) (fun h8 => ?_) (fun h8 => ?_)
          · refine aw_run 3 (F' := (101, [some (.ref m), some (.int (nI a)), some (.int (nI j)), some (.int (nI 2)), some (.int (nI x.1.1.1)), some (.int (nI p))], [.int (nI p), .int (nI x.1.1.1), .ref m])) rfl ?_
            refine aw_v [.ref m, .int (nI x.1.1.1), .int (nI p)] [] rfl (by decide) rfl hM.o rfl rfl (Nat.le_of_ble_eq_true rfl) (Nat.le_of_ble_eq_true rfl) ?_
            obtain ⟨q, hq, hl⟩ := ly (nm (by omega))
            refine m_nbr hM hl hq (by omega) ?_
            show AW g _ 91 (104, [some (.ref m), some (.int (nI a)), some (.int (nI j)), some (.int (nI 2)), some (.int (nI x.1.1.1)), some (.int (nI p))], [.long (Int64.ofInt x.1.1.2.2.1)]) σ _
            refine aw_run 1 (F' := (108, [some (.ref m), some (.int (nI a)), some (.int (nI j)), some (.int (nI 2)), some (.int (nI x.1.1.1)), some (.int (nI p))], [.long (Int64.ofInt x.1.1.2.2.1)])) rfl ?_
            exact aw_lret rfl rfl (hQ)
          · refine aw_run 2 (F' := (93, [some (.ref m), some (.int (nI a)), some (.int (nI j)), some (.int (nI 2)), some (.int (nI x.1.1.1)), some (.int (nI p))], [.int (nI 8), .int (nI x.1.1.1)])) rfl ?_
            refine an_cne rfl (by omega) (by omega) (fun h9 => ?_) (fun h9 => ?_)
            · refine aw_run 1 (F' := (108, [some (.ref m), some (.int (nI a)), some (.int (nI j)), some (.int (nI 2)), some (.int (nI x.1.1.1)), some (.int (nI p))], [.long (0)])) rfl ?_
              exact aw_lret rfl rfl (by have e0 := vn.1 (by assumption) (by assumption) (by assumption); rw [e0] at hQ; exact hQ)
            · refine aw_run 3 (F' := (101, [some (.ref m), some (.int (nI a)), some (.int (nI j)), some (.int (nI 2)), some (.int (nI x.1.1.1)), some (.int (nI p))], [.int (nI p), .int (nI x.1.1.1), .ref m])) rfl ?_
              refine aw_v [.ref m, .int (nI x.1.1.1), .int (nI p)] [] rfl (by decide) rfl hM.o rfl rfl (Nat.le_of_ble_eq_true rfl) (Nat.le_of_ble_eq_true rfl) ?_
              obtain ⟨q, hq, hl⟩ := ly (nm (by omega))
              refine m_nbr hM hl hq (by omega) ?_
              show AW g _ 91 (104, [some (.ref m), some (.int (nI a)), some (.int (nI j)), some (.int (nI 2)), some (.int (nI x.1.1.1)), some (.int (nI p))], [.long (Int64.ofInt x.1.1.2.2.1)]) σ _
              refine aw_run 1 (F' := (108, [some (.ref m), some (.int (nI a)), some (.int (nI j)), some (.int (nI 2)), some (.int (nI x.1.1.1)), some (.int (nI p))], [.long (Int64.ofInt x.1.1.2.2.1)])) rfl ?_
              exact aw_lret rfl rfl (hQ)
      · rw [if_neg (by decide), if_neg (by decide), if_neg (by decide), if_pos (by decide)] at hQ
        show AW g _ 91 (6, [some (.ref m), some (.int (nI a)), some (.int (nI j)), some (.int (nI 3)), none, none], [.int (nI 1)]) σ _
        refine an_zeq rfl (by omega) (fun z => absurd z (by omega)) (fun _ => ?_)
        refine aw_run 1 (F' := (10, [some (.ref m), some (.int (nI a)), some (.int (nI j)), some (.int (nI 3)), none, none], [.int (nI 3)])) rfl ?_
        refine an_zlt rfl (by omega) ?_
        refine aw_run 2 (F' := (15, [some (.ref m), some (.int (nI a)), some (.int (nI j)), some (.int (nI 3)), none, none], [.int (nI 3), .int (nI 3)])) rfl ?_
        refine an_cle rfl (by omega) (by omega) (fun _ => ?_) (fun z => absurd z (by omega))
        refine aw_run 1 (F' := (23, [some (.ref m), some (.int (nI a)), some (.int (nI j)), some (.int (nI 3)), none, none], [.ref m])) rfl ?_
        refine aw_get rfl hM.o rfl ?_
        refine aw_run 3 (F' := (31, [some (.ref m), some (.int (nI a)), some (.int (nI j)), some (.int (nI 3)), none, none], [.int (nI 500 * nI a), .ref (m + 5)])) rfl ?_
        rw [nI_mul]
        refine aw_run 2 (F' := (33, [some (.ref m), some (.int (nI a)), some (.int (nI j)), some (.int (nI 3)), none, none], [.int (nI (500 * a) + nI j), .ref (m + 5)])) rfl ?_
        rw [nI_add]
        refine ms_ild hM rfl (k := 7) (n := 1000) (by decide) (by omega) ?_
        rw [show μ 7 ((500 * a) + j) = x.1.1.1 from p1]
        refine aw_run 2 (F' := (37, [some (.ref m), some (.int (nI a)), some (.int (nI j)), some (.int (nI 3)), some (.int (nI x.1.1.1)), none], [.ref m])) rfl ?_
        refine aw_get rfl hM.o rfl ?_
        refine aw_run 3 (F' := (45, [some (.ref m), some (.int (nI a)), some (.int (nI j)), some (.int (nI 3)), some (.int (nI x.1.1.1)), none], [.int (nI 500 * nI a), .ref (m + 6)])) rfl ?_
        rw [nI_mul]
        refine aw_run 2 (F' := (47, [some (.ref m), some (.int (nI a)), some (.int (nI j)), some (.int (nI 3)), some (.int (nI x.1.1.1)), none], [.int (nI (500 * a) + nI j), .ref (m + 6)])) rfl ?_
        rw [nI_add]
        refine ms_ild hM rfl (k := 8) (n := 1000) (by decide) (by omega) ?_
        rw [show μ 8 ((500 * a) + j) = p from hP]
        refine aw_run 2 (F' := (51, [some (.ref m), some (.int (nI a)), some (.int (nI j)), some (.int (nI 3)), some (.int (nI x.1.1.1)), some (.int (nI p))], [.int (nI 3)])) rfl ?_
        refine an_zne rfl (by omega) (fun _ => ?_) (fun z => absurd z (by omega))
        refine aw_run 2 (F' := (60, [some (.ref m), some (.int (nI a)), some (.int (nI j)), some (.int (nI 3)), some (.int (nI x.1.1.1)), some (.int (nI p))], [.int (nI 1), .int (nI 3)])) rfl ?_
        refine an_cne rfl (by omega) (by omega) (fun _ => ?_) (fun z => absurd z (by omega))
        refine aw_run 2 (F' := (72, [some (.ref m), some (.int (nI a)), some (.int (nI j)), some (.int (nI 3)), some (.int (nI x.1.1.1)), some (.int (nI p))], [.int (nI 2), .int (nI 3)])) rfl ?_
        refine an_cne rfl (by omega) (by omega) (fun _ => ?_) (fun z => absurd z (by omega))
        refine aw_run 2 (F' := (112, [some (.ref m), some (.int (nI a)), some (.int (nI j)), some (.int (nI 3)), some (.int (nI x.1.1.1)), some (.int (nI p))], [.int (nI 2), .int (nI x.1.1.1)])) rfl ?_
        refine an_cne rfl (by omega) (by omega) (fun h7 => ?_) (fun h7 => ?_)
        · refine aw_run 2 (F' := (130, [some (.ref m), some (.int (nI a)), some (.int (nI j)), some (.int (nI 3)), some (.int (nI x.1.1.1)), some (.int (nI p))], [.int (nI 3), .int (nI x.1.1.1)])) rfl ?_
          refine an_ceq rfl (by omega) (by omega) (fun h8 => ?_) (fun h8 => ?_)
          · refine aw_run 2 (F' := (142, [some (.ref m), some (.int (nI a)), some (.int (nI j)), some (.int (nI 3)), some (.int (nI x.1.1.1)), some (.int (nI p))], [.int (nI p), .ref m])) rfl ?_
            refine aw_v [.ref m, .int (nI p)] [] rfl (by decide) rfl hM.o rfl rfl (Nat.le_of_ble_eq_true rfl) (Nat.le_of_ble_eq_true rfl) ?_
            obtain ⟨q, hq, hl⟩ := ly (nm (by omega))
            have hn2 := (ly_nst hl (by omega)).2.1
            have hsl : 2 * sp_len x.1.2 ≤ 14000 := by
              have z1 := (ly_nst hl (by omega)).2.2.2.2.all
              have z2 := sp_len_all x.1.2
              omega
            refine m_eat hM hl (by omega) hq ?_
            show AW g _ 91 (145, [some (.ref m), some (.int (nI a)), some (.int (nI j)), some (.int (nI 3)), some (.int (nI x.1.1.1)), some (.int (nI p))], [.int (nI (sp_len x.1.2))]) σ _
            refine aw_run 2 (F' := (150, [some (.ref m), some (.int (nI a)), some (.int (nI j)), some (.int (nI 3)), some (.int (nI x.1.1.1)), some (.int (nI p))], [.long (Int32.toInt64 (nI (sp_len x.1.2)))])) rfl ?_
            exact aw_lret rfl rfl (by rw [hn2, List.length_nil, Nat.zero_add] at hQ; rw [nI_l (by omega)]; exact hQ)
          · refine aw_run 2 (F' := (136, [some (.ref m), some (.int (nI a)), some (.int (nI j)), some (.int (nI 3)), some (.int (nI x.1.1.1)), some (.int (nI p))], [.int (nI 4), .int (nI x.1.1.1)])) rfl ?_
            refine an_cne rfl (by omega) (by omega) (fun h9 => ?_) (fun h9 => ?_)
            · refine aw_run 1 (F' := (150, [some (.ref m), some (.int (nI a)), some (.int (nI j)), some (.int (nI 3)), some (.int (nI x.1.1.1)), some (.int (nI p))], [.long (0)])) rfl ?_
              exact aw_lret rfl rfl (by have e9 : x.1.1.2.2.2.length + sp_len x.1.2 = 0 := (by rw [vn.2.1 (by assumption), vn.2.2 (by assumption) (by assumption)]; rfl); rw [e9] at hQ; exact hQ)
            · refine aw_run 2 (F' := (142, [some (.ref m), some (.int (nI a)), some (.int (nI j)), some (.int (nI 3)), some (.int (nI x.1.1.1)), some (.int (nI p))], [.int (nI p), .ref m])) rfl ?_
              refine aw_v [.ref m, .int (nI p)] [] rfl (by decide) rfl hM.o rfl rfl (Nat.le_of_ble_eq_true rfl) (Nat.le_of_ble_eq_true rfl) ?_
              obtain ⟨q, hq, hl⟩ := ly (nm (by omega))
              have hn2 := (ly_nst hl (by omega)).2.1
              have hsl : 2 * sp_len x.1.2 ≤ 14000 := by
                have z1 := (ly_nst hl (by omega)).2.2.2.2.all
                have z2 := sp_len_all x.1.2
                omega
              refine m_eat hM hl (by omega) hq ?_
              show AW g _ 91 (145, [some (.ref m), some (.int (nI a)), some (.int (nI j)), some (.int (nI 3)), some (.int (nI x.1.1.1)), some (.int (nI p))], [.int (nI (sp_len x.1.2))]) σ _
              refine aw_run 2 (F' := (150, [some (.ref m), some (.int (nI a)), some (.int (nI j)), some (.int (nI 3)), some (.int (nI x.1.1.1)), some (.int (nI p))], [.long (Int32.toInt64 (nI (sp_len x.1.2)))])) rfl ?_
              exact aw_lret rfl rfl (by rw [hn2, List.length_nil, Nat.zero_add] at hQ; rw [nI_l (by omega)]; exact hQ)
        · refine aw_run 2 (F' := (118, [some (.ref m), some (.int (nI a)), some (.int (nI j)), some (.int (nI 3)), some (.int (nI x.1.1.1)), some (.int (nI p))], [.int (nI p), .ref m])) rfl ?_
          refine aw_v [.ref m, .int (nI p)] [] rfl (by decide) rfl hM.o rfl rfl (Nat.le_of_ble_eq_true rfl) (Nat.le_of_ble_eq_true rfl) ?_
          obtain ⟨q, hq, hl⟩ := ly (nm (by omega))
          obtain ⟨t1, ⟨t2, t3⟩, t4, t5⟩ := ly_txt hl (by assumption)
          refine m_whole hM (by omega) ?_
          show AW g _ 91 (121, [some (.ref m), some (.int (nI a)), some (.int (nI j)), some (.int (nI 3)), some (.int (nI x.1.1.1)), some (.int (nI p))], [.int (nI (sp_le (μ 1) p 4))]) σ _
          refine aw_run 2 (F' := (123, [some (.ref m), some (.int (nI a)), some (.int (nI j)), some (.int (nI 3)), some (.int (nI x.1.1.1)), some (.int (nI p))], [.int (nI (sp_le (μ 1) p 4) - nI 1)])) rfl ?_
          rw [nI_sub (by omega)]
          refine aw_run 2 (F' := (150, [some (.ref m), some (.int (nI a)), some (.int (nI j)), some (.int (nI 3)), some (.int (nI x.1.1.1)), some (.int (nI p))], [.long (Int32.toInt64 (nI ((sp_le (μ 1) p 4) - 1)))])) rfl ?_
          exact aw_lret rfl rfl (by have e9 : x.1.1.2.2.2.length + sp_len x.1.2 = sp_le (μ 1) p 4 - 1 := (by rw [t5, sp_sub_len, t4]; simp only [sp_len]; omega); rw [e9] at hQ; rw [nI_l (by omega)]; exact hQ)
  · have e1 : sp_value S which k what = -1 := by unfold sp_value; rw [ha]
    rw [e1] at hQ
    show AW g _ 91 (6, [some (.ref m), some (.int which), some (.int k), some (.int what), none, none], [.int (nI 0)]) σ _
    refine an_zeq rfl (by omega) (fun _ => ?_) (fun z => absurd z (by omega))
    refine aw_run 1 (F' := (21, [some (.ref m), some (.int (which)), some (.int (k)), some (.int (what)), none, none], [.long ((-1))])) rfl ?_
    exact aw_lret rfl rfl (hQ)
end P84
