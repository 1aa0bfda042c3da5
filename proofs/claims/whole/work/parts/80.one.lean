theorem sp_or_r (a : Int32) : sp_or a 0 = a := by
  by_cases h : a = 0
  · rw [h]; rfl
  · exact sp_or_n h _
theorem cls_k {k c : Nat} (h : sp_cls k = c) : (c = 2 → k = 16 ∨ k = 18) ∧ (c = 6 → k = 8) ∧ (c = 3 → k = 2) ∧ (c = 4 → k = 3) ∧ (c = 5 → k = 4) ∧ (c = 1 → k = 10) ∧ c < 7 := by
  subst h
  unfold sp_cls
  repeat' split
  all_goals omega
/-- a value where it lies -/
def vat (β : Nat → Nat) (v : sp_V) (p : Nat) : Prop := v = sp_miss ∨ ∃ q, q ≤ 14000 ∧ lyV β v p q
theorem lg_ic (x z : Int64) : (lg_cmp x z = -1 ∧ sp_ic x.toInt z.toInt = -1) ∨ (lg_cmp x z = 0 ∧ sp_ic x.toInt z.toInt = 0) ∨ (lg_cmp x z = 1 ∧ sp_ic x.toInt z.toInt = 1) := by
  unfold lg_cmp sp_ic
  by_cases h : z < x
  · have h' := Int64.lt_iff_toInt_lt.mp h
    rw [if_pos h, if_neg (by omega), if_neg (by omega)]
    exact Or.inr (Or.inr ⟨rfl, rfl⟩)
  · rw [if_neg h]
    have h' : ¬ z.toInt < x.toInt := fun q => h (Int64.lt_iff_toInt_lt.mpr q)
    by_cases e : x = z
    · subst e
      rw [if_pos rfl, if_neg (by omega), if_pos rfl]
      exact Or.inr (Or.inl ⟨rfl, rfl⟩)
    · have e' : ¬ x.toInt = z.toInt := fun q => e (Int64.toInt_inj.mp q)
      rw [if_neg e, if_pos (by omega)]
      exact Or.inl ⟨rfl, rfl⟩
theorem ly_num {g : Nat × Nat} {m : Nat} {σ0 σ : am_H} {μ : sp_M} (hM : MS g m σ0 σ μ) {v : sp_V} {k q : Nat} (hl : lyV (μ 1) v k q) (hq : q ≤ 14000) (hk : v.1.1 = 16 ∨ v.1.1 = 18 ∨ v.1.1 = 8) : (Int64.ofInt v.1.2.2.1).toInt = v.1.2.2.1 ∧ v.1.2.2.2 = [] ∧ v.2 = .leaf := by
  rcases hl with ⟨z1, z2, z3, z4⟩ | ⟨z1, z2, z3, z4⟩ | ⟨z1, z2, z3, z4, z5⟩ | ⟨z1, z2, z3, z4⟩ | ⟨z1, z2, z3, z4, z5⟩ | ⟨z1, z2, z3, z4, z5⟩
  · rw [z3, z4]
    refine ⟨?_, rfl, rfl⟩
    have hu := hM.le4 (k := k) (by omega)
    rw [l_ofs32 hu, Int32.toInt_toInt64, nI_ti hu]
  · rw [z3, z4]
    refine ⟨?_, rfl, rfl⟩
    have hu : sp_le (μ 1) k 8 < 2 ^ 64 := sp_le_lt (w := 8) (fun i hi => hM.by (by omega))
    rw [l_ofs64 hu]
    exact s64_of hu
  · rw [z4, z5]
    refine ⟨?_, rfl, rfl⟩
    have eb : Int64.ofInt (μ 1 k : Int) = (nI (μ 1 k)).toInt64 := by
      rw [← nI_toInt (n := μ 1 k) (by omega), ← Int32.toInt_toInt64, Int64.ofInt_toInt]
    rw [eb, Int32.toInt_toInt64, nI_toInt (by omega)]
  · omega
  · omega
  · omega
/-- a pair of nests is begun -/
def mps (μ : sp_M) (a ua b ub r : Nat) : sp_M := mup (mup (mup (mup (mup (mup μ 18 (μ 17 0) (a + 4)) 19 (μ 17 0) (a + ua - 1)) 20 (μ 17 0) (b + 4)) 21 (μ 17 0) (b + ub - 1)) 22 (μ 17 0) r) 17 0 (μ 17 0 + 1)
theorem ly_txt {β : Nat → Nat} {v : sp_V} {k q : Nat} (hl : lyV β v k q) (hk : v.1.1 = 2) : v.1.2.2.1 = 0 ∧ (1 ≤ sp_le β k 4 ∧ q = k + 4 + sp_le β k 4) ∧ v.2 = .leaf ∧ v.1.2.2.2 = sp_sub β (k + 4) (k + 3 + sp_le β k 4) := by
  rcases hl with ⟨z1, z2, z3, z4⟩ | ⟨z1, z2, z3, z4⟩ | ⟨z1, z2, z3, z4, z5⟩ | ⟨z1, z2, z3, z4⟩ | ⟨z1, z2, z3, z4, z5⟩ | ⟨z1, z2, z3, z4, z5⟩
  · omega
  · omega
  · omega
  · omega
  · rw [z4]
    exact ⟨rfl, ⟨z2, z3⟩, z5, rfl⟩
  · omega
theorem ly_nst {β : Nat → Nat} {v : sp_V} {k q : Nat} (hl : lyV β v k q) (hk : v.1.1 = 3 ∨ v.1.1 = 4) : v.1.2.2.1 = 0 ∧ v.1.2.2.2 = [] ∧ 5 ≤ sp_le β k 4 ∧ q = k + sp_le β k 4 ∧ lyF β v.2 (decide (v.1.1 = 4)) 0 (k + 4) (q - 1) := by
  rcases hl with ⟨z1, z2, z3, z4⟩ | ⟨z1, z2, z3, z4⟩ | ⟨z1, z2, z3, z4, z5⟩ | ⟨z1, z2, z3, z4⟩ | ⟨z1, z2, z3, z4, z5⟩ | ⟨z1, z2, z3, z4, z5⟩
  · omega
  · omega
  · omega
  · omega
  · omega
  · rw [z4]
    exact ⟨rfl, rfl, z2, z3, z5⟩
theorem one_0 {β : Nat → Nat} {v w : sp_V} {a b : Nat} (hv : vat β v a) (hw : vat β w b) (hc : sp_cls v.1.1 = sp_cls w.1.1) (h2 : sp_cls v.1.1 ≠ 2 ∧ sp_cls v.1.1 ≠ 6) (h3 : sp_cls v.1.1 ≠ 3) (h4 : sp_cls v.1.1 ≠ 4 ∧ sp_cls v.1.1 ≠ 5) : sp_vc v w = 0 := by
  have key : ∀ (u : sp_V) (p : Nat), vat β u p → sp_cls u.1.1 = sp_cls v.1.1 → u.1.2.2 = (0, []) ∧ u.2 = .leaf := by
    intro u p hu he
    rcases hu with z | ⟨q, _, hl⟩
    · rw [z]; exact ⟨rfl, rfl⟩
    · rcases hl with ⟨z1, z2, z3, z4⟩ | ⟨z1, z2, z3, z4⟩ | ⟨z1, z2, z3, z4, z5⟩ | ⟨z1, z2, z3, z4⟩ | ⟨z1, z2, z3, z4, z5⟩ | ⟨z1 | z1, z2, z3, z4, z5⟩
      · rw [z1, show sp_cls 16 = 2 from rfl] at he; omega
      · rw [z1, show sp_cls 18 = 2 from rfl] at he; omega
      · rw [z1, show sp_cls 8 = 6 from rfl] at he; omega
      · exact ⟨z3, z4⟩
      · rw [z1, show sp_cls 2 = 3 from rfl] at he; omega
      · rw [z1, show sp_cls 3 = 4 from rfl] at he; omega
      · rw [z1, show sp_cls 4 = 5 from rfl] at he; omega
  obtain ⟨v1, v2⟩ := key v a hv rfl
  obtain ⟨w1, w2⟩ := key w b hw hc.symm
  unfold sp_vc
  rw [show sp_nc (sp_cls v.1.1) (sp_cls w.1.1) = 0 from by unfold sp_nc; rw [if_neg (by omega), if_pos hc], v1, v2, w1, w2]
  rfl
section P80
variable {g : Nat × Nat} {d : Nat} {σ0 σ : am_H} {Q : Option Value → am_H → Prop} {m : Nat} {μ : sp_M}
theorem m_lc {x z : Int64} {a1 a2 a3 a4 a5 : Nat} (hQ : Q (some (.int (sp_ic x.toInt z.toInt))) σ) : AW g d 79 (60, [some (.ref m), some (.int (nI a1)), some (.int (nI a2)), some (.int (nI a3)), some (.int (nI a4)), some (.int (nI a5)), some (.long x), none, some (.long z), none], []) σ Q := by
  rcases lg_ic x z with ⟨e1, e2⟩ | ⟨e1, e2⟩ | ⟨e1, e2⟩
  · rw [e2] at hQ
    refine aw_run 3 (F' := (65, [some (.ref m), some (.int (nI a1)), some (.int (nI a2)), some (.int (nI a3)), some (.int (nI a4)), some (.int (nI a5)), some (.long (x)), none, some (.long (z)), none], [.int (lg_cmp (x) (z))])) rfl ?_
    rw [e1]
    refine aw_zge rfl (fun h => absurd h (by decide)) (fun _ => ?_)
    refine aw_run 2 (F' := (85, [some (.ref m), some (.int (nI a1)), some (.int (nI a2)), some (.int (nI a3)), some (.int (nI a4)), some (.int (nI a5)), some (.long (x)), none, some (.long (z)), none], [.int ((-1))])) rfl ?_
    exact aw_iret rfl ⟨_, rfl, rfl⟩ (hQ)
  · rw [e2] at hQ
    refine aw_run 3 (F' := (65, [some (.ref m), some (.int (nI a1)), some (.int (nI a2)), some (.int (nI a3)), some (.int (nI a4)), some (.int (nI a5)), some (.long (x)), none, some (.long (z)), none], [.int (lg_cmp (x) (z))])) rfl ?_
    rw [e1]
    refine aw_zge rfl (fun _ => ?_) (fun h => absurd (by decide) h)
    refine aw_run 3 (F' := (77, [some (.ref m), some (.int (nI a1)), some (.int (nI a2)), some (.int (nI a3)), some (.int (nI a4)), some (.int (nI a5)), some (.long (x)), none, some (.long (z)), none], [.int (lg_cmp (x) (z))])) rfl ?_
    rw [e1]
    refine aw_zle rfl (fun _ => ?_) (fun h => absurd (by decide) h)
    refine aw_run 1 (F' := (85, [some (.ref m), some (.int (nI a1)), some (.int (nI a2)), some (.int (nI a3)), some (.int (nI a4)), some (.int (nI a5)), some (.long (x)), none, some (.long (z)), none], [.int (nI 0)])) rfl ?_
    exact aw_iret rfl ⟨_, rfl, rfl⟩ (hQ)
  · rw [e2] at hQ
    refine aw_run 3 (F' := (65, [some (.ref m), some (.int (nI a1)), some (.int (nI a2)), some (.int (nI a3)), some (.int (nI a4)), some (.int (nI a5)), some (.long (x)), none, some (.long (z)), none], [.int (lg_cmp (x) (z))])) rfl ?_
    rw [e1]
    refine aw_zge rfl (fun _ => ?_) (fun h => absurd (by decide) h)
    refine aw_run 3 (F' := (77, [some (.ref m), some (.int (nI a1)), some (.int (nI a2)), some (.int (nI a3)), some (.int (nI a4)), some (.int (nI a5)), some (.long (x)), none, some (.long (z)), none], [.int (lg_cmp (x) (z))])) rfl ?_
    rw [e1]
    refine aw_zle rfl (fun h => absurd h (by decide)) (fun _ => ?_)
    refine aw_run 2 (F' := (85, [some (.ref m), some (.int (nI a1)), some (.int (nI a2)), some (.int (nI a3)), some (.int (nI a4)), some (.int (nI a5)), some (.long (x)), none, some (.long (z)), none], [.int (nI 1)])) rfl ?_
    exact aw_iret rfl ⟨_, rfl, rfl⟩ (hQ)
/-- one -/
theorem m_one (hM : MS g m σ0 σ μ) {v w : sp_V} {a b : Nat} (hv : vat (μ 1) v a) (hw : vat (μ 1) w b) (ha : a ≤ 14000) (hb : b ≤ 14000) (hO : μ 17 0 < 20) (g1 : Q (some (.int (sp_vc v w))) σ) (g2 : ∀ r : Bool, v.1.1 = (if r = true then 4 else 3) → w.1.1 = (if r = true then 4 else 3) → ∀ σ', MS g m σ0 σ' (mps μ a (sp_le (μ 1) a 4) b (sp_le (μ 1) b 4) (if r = true then 1 else 0)) → Q (some (.int 0)) σ') : AW g (d + 3) 79 (0, [some (.ref m), some (.int (nI v.1.1)), some (.int (nI a)), some (.int (nI w.1.1)), some (.int (nI b)), none, none, none, none, none], []) σ Q := by
  have kv : v.1.1 < 2 ^ 31 := by
    rcases hv with z | ⟨q, _, z⟩
    · rw [z]; decide
    · have := z.kd; omega
  have kw : w.1.1 < 2 ^ 31 := by
    rcases hw with z | ⟨q, _, z⟩
    · rw [z]; decide
    · have := z.kd; omega
  have cv := cls_k (k := v.1.1) rfl
  have cw := cls_k (k := w.1.1) rfl
  have nz : ∀ (u : sp_V) (p : Nat), vat (μ 1) u p → sp_cls u.1.1 ≠ 0 → ∃ q, q ≤ 14000 ∧ lyV (μ 1) u p q := by
    intro u p hu hc
    rcases hu with z | z
    · rw [z] at hc
      exact absurd rfl hc
    · exact z
  refine aw_run 1 (F' := (1, [some (.ref m), some (.int (nI v.1.1)), some (.int (nI a)), some (.int (nI w.1.1)), some (.int (nI b)), none, none, none, none, none], [.int (nI v.1.1)])) rfl ?_
  refine aw_s [.int (nI v.1.1)] [] rfl ⟨by decide, by decide⟩ rfl rfl (Nat.le_of_ble_eq_true rfl) (Nat.le_of_ble_eq_true rfl) ?_
  refine m_cls kv ?_
  show AW g _ 79 (4, [some (.ref m), some (.int (nI v.1.1)), some (.int (nI a)), some (.int (nI w.1.1)), some (.int (nI b)), none, none, none, none, none], [.int (nI (sp_cls v.1.1))]) σ _
  refine aw_run 3 (F' := (9, [some (.ref m), some (.int (nI v.1.1)), some (.int (nI a)), some (.int (nI w.1.1)), some (.int (nI b)), some (.int (nI (sp_cls v.1.1))), none, none, none, none], [.int (nI w.1.1), .int (nI (sp_cls v.1.1))])) rfl ?_
  refine aw_s [.int (nI w.1.1)] [.int (nI (sp_cls v.1.1))] rfl ⟨by decide, by decide⟩ rfl rfl (Nat.le_of_ble_eq_true rfl) (Nat.le_of_ble_eq_true rfl) ?_
  refine m_cls kw ?_
  show AW g _ 79 (12, [some (.ref m), some (.int (nI v.1.1)), some (.int (nI a)), some (.int (nI w.1.1)), some (.int (nI b)), some (.int (nI (sp_cls v.1.1))), none, none, none, none], [.int (nI (sp_cls w.1.1)), .int (nI (sp_cls v.1.1))]) σ _
  refine an_ceq rfl (by omega) (by omega) (fun h1 => ?_) (fun h1 => ?_)
  · have nc0 : sp_nc (sp_cls v.1.1) (sp_cls w.1.1) = 0 := by
      unfold sp_nc
      rw [if_neg (by omega), if_pos (by omega)]
    refine aw_run 2 (F' := (33, [some (.ref m), some (.int (nI v.1.1)), some (.int (nI a)), some (.int (nI w.1.1)), some (.int (nI b)), some (.int (nI (sp_cls v.1.1))), none, none, none, none], [.int (nI 2), .int (nI (sp_cls v.1.1))])) rfl ?_
    refine an_ceq rfl (by omega) (by omega) (fun h2 => ?_) (fun h2 => ?_)
    · refine aw_run 3 (F' := (46, [some (.ref m), some (.int (nI v.1.1)), some (.int (nI a)), some (.int (nI w.1.1)), some (.int (nI b)), some (.int (nI (sp_cls v.1.1))), none, none, none, none], [.int (nI a), .int (nI v.1.1), .ref m])) rfl ?_
      refine aw_v [.ref m, .int (nI v.1.1), .int (nI a)] [] rfl (by decide) rfl hM.o rfl rfl (Nat.le_of_ble_eq_true rfl) (Nat.le_of_ble_eq_true rfl) ?_
      obtain ⟨_, qv, lv⟩ := nz v a hv (by omega)
      obtain ⟨_, qw, lw⟩ := nz w b hw (by omega)
      obtain ⟨nv1, nv2, nv3⟩ := ly_num hM lv qv (by omega)
      obtain ⟨nw1, nw2, nw3⟩ := ly_num hM lw qw (by omega)
      refine m_nbr hM lv qv (by omega) ?_
      show AW g _ 79 (49, [some (.ref m), some (.int (nI v.1.1)), some (.int (nI a)), some (.int (nI w.1.1)), some (.int (nI b)), some (.int (nI (sp_cls v.1.1))), none, none, none, none], [.long (Int64.ofInt v.1.2.2.1)]) σ _
      refine aw_run 4 (F' := (55, [some (.ref m), some (.int (nI v.1.1)), some (.int (nI a)), some (.int (nI w.1.1)), some (.int (nI b)), some (.int (nI (sp_cls v.1.1))), some (.long (Int64.ofInt v.1.2.2.1)), none, none, none], [.int (nI b), .int (nI w.1.1), .ref m])) rfl ?_
      refine aw_v [.ref m, .int (nI w.1.1), .int (nI b)] [] rfl (by decide) rfl hM.o rfl rfl (Nat.le_of_ble_eq_true rfl) (Nat.le_of_ble_eq_true rfl) ?_
      refine m_nbr hM lw qw (by omega) ?_
      show AW g _ 79 (58, [some (.ref m), some (.int (nI v.1.1)), some (.int (nI a)), some (.int (nI w.1.1)), some (.int (nI b)), some (.int (nI (sp_cls v.1.1))), some (.long (Int64.ofInt v.1.2.2.1)), none, none, none], [.long (Int64.ofInt w.1.2.2.1)]) σ _
      refine aw_run 1 (F' := (60, [some (.ref m), some (.int (nI v.1.1)), some (.int (nI a)), some (.int (nI w.1.1)), some (.int (nI b)), some (.int (nI (sp_cls v.1.1))), some (.long (Int64.ofInt v.1.2.2.1)), none, some (.long (Int64.ofInt w.1.2.2.1)), none], [])) rfl ?_
      refine m_lc ?_
      rw [nv1, nw1]
      rw [show sp_vc v w = sp_ic v.1.2.2.1 w.1.2.2.1 from by unfold sp_vc; rw [nc0, sp_or_0, nv2, nw2, nv3, nw3, show sp_fc .leaf .leaf = 0 from rfl, show sp_bc [] [] = 0 from rfl, sp_or_0, sp_or_r]] at g1
      exact g1
    · refine aw_run 2 (F' := (40, [some (.ref m), some (.int (nI v.1.1)), some (.int (nI a)), some (.int (nI w.1.1)), some (.int (nI b)), some (.int (nI (sp_cls v.1.1))), none, none, none, none], [.int (nI 6), .int (nI (sp_cls v.1.1))])) rfl ?_
      refine an_cne rfl (by omega) (by omega) (fun h3 => ?_) (fun h3 => ?_)
      · refine aw_run 2 (F' := (89, [some (.ref m), some (.int (nI v.1.1)), some (.int (nI a)), some (.int (nI w.1.1)), some (.int (nI b)), some (.int (nI (sp_cls v.1.1))), none, none, none, none], [.int (nI 3), .int (nI (sp_cls v.1.1))])) rfl ?_
        refine an_cne rfl (by omega) (by omega) (fun h4 => ?_) (fun h4 => ?_)
        · refine aw_run 2 (F' := (122, [some (.ref m), some (.int (nI v.1.1)), some (.int (nI a)), some (.int (nI w.1.1)), some (.int (nI b)), some (.int (nI (sp_cls v.1.1))), none, none, none, none], [.int (nI 4), .int (nI (sp_cls v.1.1))])) rfl ?_
          refine an_ceq rfl (by omega) (by omega) (fun h5 => ?_) (fun h5 => ?_)
          · obtain ⟨_, qv, lv⟩ := nz v a hv (by omega)
            obtain ⟨_, qw, lw⟩ := nz w b hw (by omega)
            have nv := ly_nst lv (by omega)
            have nw := ly_nst lw (by omega)
            refine aw_run 1 (F' := (132, [some (.ref m), some (.int (nI v.1.1)), some (.int (nI a)), some (.int (nI w.1.1)), some (.int (nI b)), some (.int (nI (sp_cls v.1.1))), none, none, none, none], [.ref m])) rfl ?_
            refine aw_get rfl hM.o rfl ?_
            refine aw_run 1 (F' := (136, [some (.ref m), some (.int (nI v.1.1)), some (.int (nI a)), some (.int (nI w.1.1)), some (.int (nI b)), some (.int (nI (sp_cls v.1.1))), none, none, none, none], [.ref m, .ref (m + 13)])) rfl ?_
            refine aw_get rfl hM.o rfl ?_
            refine aw_run 3 (F' := (142, [some (.ref m), some (.int (nI v.1.1)), some (.int (nI a)), some (.int (nI w.1.1)), some (.int (nI b)), some (.int (nI (sp_cls v.1.1))), none, none, none, none], [.int (nI a + nI 4), .int (nI (μ 17 0)), .ref (m + 13)])) rfl ?_
            rw [nI_add]
            refine ms_ist hM rfl (k := 18) (n := 20) (by decide) (by omega) (fun s1 hM1 => ?_)
            refine aw_run 1 (F' := (144, [some (.ref m), some (.int (nI v.1.1)), some (.int (nI a)), some (.int (nI w.1.1)), some (.int (nI b)), some (.int (nI (sp_cls v.1.1))), none, none, none, none], [.ref m])) rfl ?_
            refine aw_get rfl hM1.o rfl ?_
            refine aw_run 1 (F' := (148, [some (.ref m), some (.int (nI v.1.1)), some (.int (nI a)), some (.int (nI w.1.1)), some (.int (nI b)), some (.int (nI (sp_cls v.1.1))), none, none, none, none], [.ref m, .ref (m + 14)])) rfl ?_
            refine aw_get rfl hM1.o rfl ?_
            refine aw_run 3 (F' := (154, [some (.ref m), some (.int (nI v.1.1)), some (.int (nI a)), some (.int (nI w.1.1)), some (.int (nI b)), some (.int (nI (sp_cls v.1.1))), none, none, none, none], [.int (nI a), .ref m, .int (nI a), .int (nI (μ 17 0)), .ref (m + 14)])) rfl ?_
            refine aw_v [.ref m, .int (nI a)] [.int (nI a), .int (nI (μ 17 0)), .ref (m + 14)] rfl (by decide) rfl hM1.o rfl rfl (Nat.le_of_ble_eq_true rfl) (Nat.le_of_ble_eq_true rfl) ?_
            refine m_whole hM1 (by omega) ?_
            show AW g _ 79 (157, [some (.ref m), some (.int (nI v.1.1)), some (.int (nI a)), some (.int (nI w.1.1)), some (.int (nI b)), some (.int (nI (sp_cls v.1.1))), none, none, none, none], [.int (nI (sp_le (μ 1) a 4)), .int (nI a), .int (nI (μ 17 0)), .ref (m + 14)]) s1 _
            refine aw_run 1 (F' := (158, [some (.ref m), some (.int (nI v.1.1)), some (.int (nI a)), some (.int (nI w.1.1)), some (.int (nI b)), some (.int (nI (sp_cls v.1.1))), none, none, none, none], [.int (nI a + nI (sp_le (μ 1) a 4)), .int (nI (μ 17 0)), .ref (m + 14)])) rfl ?_
            rw [nI_add]
            refine aw_run 2 (F' := (160, [some (.ref m), some (.int (nI v.1.1)), some (.int (nI a)), some (.int (nI w.1.1)), some (.int (nI b)), some (.int (nI (sp_cls v.1.1))), none, none, none, none], [.int (nI (a + (sp_le (μ 1) a 4)) - nI 1), .int (nI (μ 17 0)), .ref (m + 14)])) rfl ?_
            rw [nI_sub (by omega)]
            refine ms_ist hM1 rfl (k := 19) (n := 20) (by decide) (by omega) (fun s2 hM2 => ?_)
            refine aw_run 1 (F' := (162, [some (.ref m), some (.int (nI v.1.1)), some (.int (nI a)), some (.int (nI w.1.1)), some (.int (nI b)), some (.int (nI (sp_cls v.1.1))), none, none, none, none], [.ref m])) rfl ?_
            refine aw_get rfl hM2.o rfl ?_
            refine aw_run 1 (F' := (166, [some (.ref m), some (.int (nI v.1.1)), some (.int (nI a)), some (.int (nI w.1.1)), some (.int (nI b)), some (.int (nI (sp_cls v.1.1))), none, none, none, none], [.ref m, .ref (m + 15)])) rfl ?_
            refine aw_get rfl hM2.o rfl ?_
            refine aw_run 3 (F' := (173, [some (.ref m), some (.int (nI v.1.1)), some (.int (nI a)), some (.int (nI w.1.1)), some (.int (nI b)), some (.int (nI (sp_cls v.1.1))), none, none, none, none], [.int (nI b + nI 4), .int (nI (μ 17 0)), .ref (m + 15)])) rfl ?_
            rw [nI_add]
            refine ms_ist hM2 rfl (k := 20) (n := 20) (by decide) (by omega) (fun s3 hM3 => ?_)
            refine aw_run 1 (F' := (175, [some (.ref m), some (.int (nI v.1.1)), some (.int (nI a)), some (.int (nI w.1.1)), some (.int (nI b)), some (.int (nI (sp_cls v.1.1))), none, none, none, none], [.ref m])) rfl ?_
            refine aw_get rfl hM3.o rfl ?_
            refine aw_run 1 (F' := (179, [some (.ref m), some (.int (nI v.1.1)), some (.int (nI a)), some (.int (nI w.1.1)), some (.int (nI b)), some (.int (nI (sp_cls v.1.1))), none, none, none, none], [.ref m, .ref (m + 16)])) rfl ?_
            refine aw_get rfl hM3.o rfl ?_
            refine aw_run 3 (F' := (187, [some (.ref m), some (.int (nI v.1.1)), some (.int (nI a)), some (.int (nI w.1.1)), some (.int (nI b)), some (.int (nI (sp_cls v.1.1))), none, none, none, none], [.int (nI b), .ref m, .int (nI b), .int (nI (μ 17 0)), .ref (m + 16)])) rfl ?_
            refine aw_v [.ref m, .int (nI b)] [.int (nI b), .int (nI (μ 17 0)), .ref (m + 16)] rfl (by decide) rfl hM3.o rfl rfl (Nat.le_of_ble_eq_true rfl) (Nat.le_of_ble_eq_true rfl) ?_
            refine m_whole hM3 (by omega) ?_
            show AW g _ 79 (190, [some (.ref m), some (.int (nI v.1.1)), some (.int (nI a)), some (.int (nI w.1.1)), some (.int (nI b)), some (.int (nI (sp_cls v.1.1))), none, none, none, none], [.int (nI (sp_le (μ 1) b 4)), .int (nI b), .int (nI (μ 17 0)), .ref (m + 16)]) s3 _
            refine aw_run 1 (F' := (191, [some (.ref m), some (.int (nI v.1.1)), some (.int (nI a)), some (.int (nI w.1.1)), some (.int (nI b)), some (.int (nI (sp_cls v.1.1))), none, none, none, none], [.int (nI b + nI (sp_le (μ 1) b 4)), .int (nI (μ 17 0)), .ref (m + 16)])) rfl ?_
            rw [nI_add]
            refine aw_run 2 (F' := (193, [some (.ref m), some (.int (nI v.1.1)), some (.int (nI a)), some (.int (nI w.1.1)), some (.int (nI b)), some (.int (nI (sp_cls v.1.1))), none, none, none, none], [.int (nI (b + (sp_le (μ 1) b 4)) - nI 1), .int (nI (μ 17 0)), .ref (m + 16)])) rfl ?_
            rw [nI_sub (by omega)]
            refine ms_ist hM3 rfl (k := 21) (n := 20) (by decide) (by omega) (fun s4 hM4 => ?_)
            refine aw_run 1 (F' := (195, [some (.ref m), some (.int (nI v.1.1)), some (.int (nI a)), some (.int (nI w.1.1)), some (.int (nI b)), some (.int (nI (sp_cls v.1.1))), none, none, none, none], [.ref m])) rfl ?_
            refine aw_get rfl hM4.o rfl ?_
            refine aw_run 1 (F' := (199, [some (.ref m), some (.int (nI v.1.1)), some (.int (nI a)), some (.int (nI w.1.1)), some (.int (nI b)), some (.int (nI (sp_cls v.1.1))), none, none, none, none], [.ref m, .ref (m + 17)])) rfl ?_
            refine aw_get rfl hM4.o rfl ?_
            refine aw_run 2 (F' := (205, [some (.ref m), some (.int (nI v.1.1)), some (.int (nI a)), some (.int (nI w.1.1)), some (.int (nI b)), some (.int (nI (sp_cls v.1.1))), none, none, none, none], [.int (nI 5), .int (nI (sp_cls v.1.1)), .int (nI (μ 17 0)), .ref (m + 17)])) rfl ?_
            refine an_cne rfl (by omega) (by omega) (fun h6 => ?_) (fun h6 => ?_)
            · refine aw_run 1 (F' := (213, [some (.ref m), some (.int (nI v.1.1)), some (.int (nI a)), some (.int (nI w.1.1)), some (.int (nI b)), some (.int (nI (sp_cls v.1.1))), none, none, none, none], [.int (nI 0), .int (nI (μ 17 0)), .ref (m + 17)])) rfl ?_
              refine ms_zst hM4 rfl (k := 22) (n := 20) (by decide) (by omega) (by omega) (fun s5 hM5 => ?_)
              refine aw_run 2 (F' := (216, [some (.ref m), some (.int (nI v.1.1)), some (.int (nI a)), some (.int (nI w.1.1)), some (.int (nI b)), some (.int (nI (sp_cls v.1.1))), none, none, none, none], [.ref m, .ref m])) rfl ?_
              refine aw_get rfl hM5.o rfl ?_
              refine aw_run 2 (F' := (221, [some (.ref m), some (.int (nI v.1.1)), some (.int (nI a)), some (.int (nI w.1.1)), some (.int (nI b)), some (.int (nI (sp_cls v.1.1))), none, none, none, none], [.int (nI (μ 17 0) + nI 1), .ref m])) rfl ?_
              rw [nI_add]
              refine ms_put hM5 rfl (by decide) (fun s6 hM6 => ?_)
              refine aw_run 1 (F' := (225, [some (.ref m), some (.int (nI v.1.1)), some (.int (nI a)), some (.int (nI w.1.1)), some (.int (nI b)), some (.int (nI (sp_cls v.1.1))), none, none, none, none], [.int (nI 0)])) rfl ?_
              exact aw_iret rfl ⟨_, rfl, rfl⟩ (g2 false (show v.1.1 = 3 by omega) (show w.1.1 = 3 by omega) _ hM6)
            · omega
          · refine aw_run 2 (F' := (128, [some (.ref m), some (.int (nI v.1.1)), some (.int (nI a)), some (.int (nI w.1.1)), some (.int (nI b)), some (.int (nI (sp_cls v.1.1))), none, none, none, none], [.int (nI 5), .int (nI (sp_cls v.1.1))])) rfl ?_
            refine an_cne rfl (by omega) (by omega) (fun h7 => ?_) (fun h7 => ?_)
            · refine aw_run 1 (F' := (225, [some (.ref m), some (.int (nI v.1.1)), some (.int (nI a)), some (.int (nI w.1.1)), some (.int (nI b)), some (.int (nI (sp_cls v.1.1))), none, none, none, none], [.int (nI 0)])) rfl ?_
              exact aw_iret rfl ⟨_, rfl, rfl⟩ (by rw [one_0 hv hw (by omega) (by omega) (by omega) (by omega)] at g1; exact g1)
            · obtain ⟨_, qv, lv⟩ := nz v a hv (by omega)
              obtain ⟨_, qw, lw⟩ := nz w b hw (by omega)
              have nv := ly_nst lv (by omega)
              have nw := ly_nst lw (by omega)
              refine aw_run 1 (F' := (132, [some (.ref m), some (.int (nI v.1.1)), some (.int (nI a)), some (.int (nI w.1.1)), some (.int (nI b)), some (.int (nI (sp_cls v.1.1))), none, none, none, none], [.ref m])) rfl ?_
              refine aw_get rfl hM.o rfl ?_
              refine aw_run 1 (F' := (136, [some (.ref m), some (.int (nI v.1.1)), some (.int (nI a)), some (.int (nI w.1.1)), some (.int (nI b)), some (.int (nI (sp_cls v.1.1))), none, none, none, none], [.ref m, .ref (m + 13)])) rfl ?_
              refine aw_get rfl hM.o rfl ?_
              refine aw_run 3 (F' := (142, [some (.ref m), some (.int (nI v.1.1)), some (.int (nI a)), some (.int (nI w.1.1)), some (.int (nI b)), some (.int (nI (sp_cls v.1.1))), none, none, none, none], [.int (nI a + nI 4), .int (nI (μ 17 0)), .ref (m + 13)])) rfl ?_
              rw [nI_add]
              refine ms_ist hM rfl (k := 18) (n := 20) (by decide) (by omega) (fun s7 hM7 => ?_)
              refine aw_run 1 (F' := (144, [some (.ref m), some (.int (nI v.1.1)), some (.int (nI a)), some (.int (nI w.1.1)), some (.int (nI b)), some (.int (nI (sp_cls v.1.1))), none, none, none, none], [.ref m])) rfl ?_
              refine aw_get rfl hM7.o rfl ?_
              refine aw_run 1 (F' := (148, [some (.ref m), some (.int (nI v.1.1)), some (.int (nI a)), some (.int (nI w.1.1)), some (.int (nI b)), some (.int (nI (sp_cls v.1.1))), none, none, none, none], [.ref m, .ref (m + 14)])) rfl ?_
              refine aw_get rfl hM7.o rfl ?_
              refine aw_run 3 (F' := (154, [some (.ref m), some (.int (nI v.1.1)), some (.int (nI a)), some (.int (nI w.1.1)), some (.int (nI b)), some (.int (nI (sp_cls v.1.1))), none, none, none, none], [.int (nI a), .ref m, .int (nI a), .int (nI (μ 17 0)), .ref (m + 14)])) rfl ?_
              refine aw_v [.ref m, .int (nI a)] [.int (nI a), .int (nI (μ 17 0)), .ref (m + 14)] rfl (by decide) rfl hM7.o rfl rfl (Nat.le_of_ble_eq_true rfl) (Nat.le_of_ble_eq_true rfl) ?_
              refine m_whole hM7 (by omega) ?_
              show AW g _ 79 (157, [some (.ref m), some (.int (nI v.1.1)), some (.int (nI a)), some (.int (nI w.1.1)), some (.int (nI b)), some (.int (nI (sp_cls v.1.1))), none, none, none, none], [.int (nI (sp_le (μ 1) a 4)), .int (nI a), .int (nI (μ 17 0)), .ref (m + 14)]) s7 _
              refine aw_run 1 (F' := (158, [some (.ref m), some (.int (nI v.1.1)), some (.int (nI a)), some (.int (nI w.1.1)), some (.int (nI b)), some (.int (nI (sp_cls v.1.1))), none, none, none, none], [.int (nI a + nI (sp_le (μ 1) a 4)), .int (nI (μ 17 0)), .ref (m + 14)])) rfl ?_
              rw [nI_add]
              refine aw_run 2 (F' := (160, [some (.ref m), some (.int (nI v.1.1)), some (.int (nI a)), some (.int (nI w.1.1)), some (.int (nI b)), some (.int (nI (sp_cls v.1.1))), none, none, none, none], [.int (nI (a + (sp_le (μ 1) a 4)) - nI 1), .int (nI (μ 17 0)), .ref (m + 14)])) rfl ?_
              rw [nI_sub (by omega)]
              refine ms_ist hM7 rfl (k := 19) (n := 20) (by decide) (by omega) (fun s8 hM8 => ?_)
              refine aw_run 1 (F' := (162, [some (.ref m), some (.int (nI v.1.1)), some (.int (nI a)), some (.int (nI w.1.1)), some (.int (nI b)), some (.int (nI (sp_cls v.1.1))), none, none, none, none], [.ref m])) rfl ?_
              refine aw_get rfl hM8.o rfl ?_
              refine aw_run 1 (F' := (166, [some (.ref m), some (.int (nI v.1.1)), some (.int (nI a)), some (.int (nI w.1.1)), some (.int (nI b)), some (.int (nI (sp_cls v.1.1))), none, none, none, none], [.ref m, .ref (m + 15)])) rfl ?_
              refine aw_get rfl hM8.o rfl ?_
              refine aw_run 3 (F' := (173, [some (.ref m), some (.int (nI v.1.1)), some (.int (nI a)), some (.int (nI w.1.1)), some (.int (nI b)), some (.int (nI (sp_cls v.1.1))), none, none, none, none], [.int (nI b + nI 4), .int (nI (μ 17 0)), .ref (m + 15)])) rfl ?_
              rw [nI_add]
              refine ms_ist hM8 rfl (k := 20) (n := 20) (by decide) (by omega) (fun s9 hM9 => ?_)
              refine aw_run 1 (F' := (175, [some (.ref m), some (.int (nI v.1.1)), some (.int (nI a)), some (.int (nI w.1.1)), some (.int (nI b)), some (.int (nI (sp_cls v.1.1))), none, none, none, none], [.ref m])) rfl ?_
              refine aw_get rfl hM9.o rfl ?_
              refine aw_run 1 (F' := (179, [some (.ref m), some (.int (nI v.1.1)), some (.int (nI a)), some (.int (nI w.1.1)), some (.int (nI b)), some (.int (nI (sp_cls v.1.1))), none, none, none, none], [.ref m, .ref (m + 16)])) rfl ?_
              refine aw_get rfl hM9.o rfl ?_
              refine aw_run 3 (F' := (187, [some (.ref m), some (.int (nI v.1.1)), some (.int (nI a)), some (.int (nI w.1.1)), some (.int (nI b)), some (.int (nI (sp_cls v.1.1))), none, none, none, none], [.int (nI b), .ref m, .int (nI b), .int (nI (μ 17 0)), .ref (m + 16)])) rfl ?_
              refine aw_v [.ref m, .int (nI b)] [.int (nI b), .int (nI (μ 17 0)), .ref (m + 16)] rfl (by decide) rfl hM9.o rfl rfl (Nat.le_of_ble_eq_true rfl) (Nat.le_of_ble_eq_true rfl) ?_
              refine m_whole hM9 (by omega) ?_
              show AW g _ 79 (190, [some (.ref m), some (.int (nI v.1.1)), some (.int (nI a)), some (.int (nI w.1.1)), some (.int (nI b)), some (.int (nI (sp_cls v.1.1))), none, none, none, none], [.int (nI (sp_le (μ 1) b 4)), .int (nI b), .int (nI (μ 17 0)), .ref (m + 16)]) s9 _
              refine aw_run 1 (F' := (191, [some (.ref m), some (.int (nI v.1.1)), some (.int (nI a)), some (.int (nI w.1.1)), some (.int (nI b)), some (.int (nI (sp_cls v.1.1))), none, none, none, none], [.int (nI b + nI (sp_le (μ 1) b 4)), .int (nI (μ 17 0)), .ref (m + 16)])) rfl ?_
              rw [nI_add]
              refine aw_run 2 (F' := (193, [some (.ref m), some (.int (nI v.1.1)), some (.int (nI a)), some (.int (nI w.1.1)), some (.int (nI b)), some (.int (nI (sp_cls v.1.1))), none, none, none, none], [.int (nI (b + (sp_le (μ 1) b 4)) - nI 1), .int (nI (μ 17 0)), .ref (m + 16)])) rfl ?_
              rw [nI_sub (by omega)]
              refine ms_ist hM9 rfl (k := 21) (n := 20) (by decide) (by omega) (fun s10 hM10 => ?_)
              refine aw_run 1 (F' := (195, [some (.ref m), some (.int (nI v.1.1)), some (.int (nI a)), some (.int (nI w.1.1)), some (.int (nI b)), some (.int (nI (sp_cls v.1.1))), none, none, none, none], [.ref m])) rfl ?_
              refine aw_get rfl hM10.o rfl ?_
              refine aw_run 1 (F' := (199, [some (.ref m), some (.int (nI v.1.1)), some (.int (nI a)), some (.int (nI w.1.1)), some (.int (nI b)), some (.int (nI (sp_cls v.1.1))), none, none, none, none], [.ref m, .ref (m + 17)])) rfl ?_
              refine aw_get rfl hM10.o rfl ?_
              refine aw_run 2 (F' := (205, [some (.ref m), some (.int (nI v.1.1)), some (.int (nI a)), some (.int (nI w.1.1)), some (.int (nI b)), some (.int (nI (sp_cls v.1.1))), none, none, none, none], [.int (nI 5), .int (nI (sp_cls v.1.1)), .int (nI (μ 17 0)), .ref (m + 17)])) rfl ?_
              refine an_cne rfl (by omega) (by omega) (fun h8 => ?_) (fun h8 => ?_)
              · omega
              · refine aw_run 2 (F' := (213, [some (.ref m), some (.int (nI v.1.1)), some (.int (nI a)), some (.int (nI w.1.1)), some (.int (nI b)), some (.int (nI (sp_cls v.1.1))), none, none, none, none], [.int (nI 1), .int (nI (μ 17 0)), .ref (m + 17)])) rfl ?_
                refine ms_zst hM10 rfl (k := 22) (n := 20) (by decide) (by omega) (by omega) (fun s11 hM11 => ?_)
                refine aw_run 2 (F' := (216, [some (.ref m), some (.int (nI v.1.1)), some (.int (nI a)), some (.int (nI w.1.1)), some (.int (nI b)), some (.int (nI (sp_cls v.1.1))), none, none, none, none], [.ref m, .ref m])) rfl ?_
                refine aw_get rfl hM11.o rfl ?_
                refine aw_run 2 (F' := (221, [some (.ref m), some (.int (nI v.1.1)), some (.int (nI a)), some (.int (nI w.1.1)), some (.int (nI b)), some (.int (nI (sp_cls v.1.1))), none, none, none, none], [.int (nI (μ 17 0) + nI 1), .ref m])) rfl ?_
                rw [nI_add]
                refine ms_put hM11 rfl (by decide) (fun s12 hM12 => ?_)
                refine aw_run 1 (F' := (225, [some (.ref m), some (.int (nI v.1.1)), some (.int (nI a)), some (.int (nI w.1.1)), some (.int (nI b)), some (.int (nI (sp_cls v.1.1))), none, none, none, none], [.int (nI 0)])) rfl ?_
                exact aw_iret rfl ⟨_, rfl, rfl⟩ (g2 true (show v.1.1 = 4 by omega) (show w.1.1 = 4 by omega) _ hM12)
        · refine aw_run 4 (F' := (96, [some (.ref m), some (.int (nI v.1.1)), some (.int (nI a)), some (.int (nI w.1.1)), some (.int (nI b)), some (.int (nI (sp_cls v.1.1))), none, none, none, none], [.int (nI a + nI 4), .ref m])) rfl ?_
          rw [nI_add]
          refine aw_run 2 (F' := (98, [some (.ref m), some (.int (nI v.1.1)), some (.int (nI a)), some (.int (nI w.1.1)), some (.int (nI b)), some (.int (nI (sp_cls v.1.1))), none, none, none, none], [.int (nI a), .ref m, .int (nI (a + 4)), .ref m])) rfl ?_
          refine aw_v [.ref m, .int (nI a)] [.int (nI (a + 4)), .ref m] rfl (by decide) rfl hM.o rfl rfl (Nat.le_of_ble_eq_true rfl) (Nat.le_of_ble_eq_true rfl) ?_
          obtain ⟨_, qv, lv⟩ := nz v a hv (by omega)
          obtain ⟨_, qw, lw⟩ := nz w b hw (by omega)
          have kv2 : v.1.1 = 2 := by omega
          have kw2 : w.1.1 = 2 := by omega
          obtain ⟨tv1, tv2, tv3, tv4⟩ := ly_txt lv kv2
          obtain ⟨tw1, tw2, tw3, tw4⟩ := ly_txt lw kw2
          refine m_whole hM (by omega) ?_
          show AW g _ 79 (101, [some (.ref m), some (.int (nI v.1.1)), some (.int (nI a)), some (.int (nI w.1.1)), some (.int (nI b)), some (.int (nI (sp_cls v.1.1))), none, none, none, none], [.int (nI (sp_le (μ 1) a 4)), .int (nI (a + 4)), .ref m]) σ _
          refine aw_run 2 (F' := (103, [some (.ref m), some (.int (nI v.1.1)), some (.int (nI a)), some (.int (nI w.1.1)), some (.int (nI b)), some (.int (nI (sp_cls v.1.1))), none, none, none, none], [.int (nI (sp_le (μ 1) a 4) - nI 1), .int (nI (a + 4)), .ref m])) rfl ?_
          rw [nI_sub (by omega)]
          refine aw_run 3 (F' := (107, [some (.ref m), some (.int (nI v.1.1)), some (.int (nI a)), some (.int (nI w.1.1)), some (.int (nI b)), some (.int (nI (sp_cls v.1.1))), none, none, none, none], [.int (nI b + nI 4), .int (nI ((sp_le (μ 1) a 4) - 1)), .int (nI (a + 4)), .ref m])) rfl ?_
          rw [nI_add]
          refine aw_run 2 (F' := (110, [some (.ref m), some (.int (nI v.1.1)), some (.int (nI a)), some (.int (nI w.1.1)), some (.int (nI b)), some (.int (nI (sp_cls v.1.1))), none, none, none, none], [.int (nI b), .ref m, .int (nI (b + 4)), .int (nI ((sp_le (μ 1) a 4) - 1)), .int (nI (a + 4)), .ref m])) rfl ?_
          refine aw_v [.ref m, .int (nI b)] [.int (nI (b + 4)), .int (nI ((sp_le (μ 1) a 4) - 1)), .int (nI (a + 4)), .ref m] rfl (by decide) rfl hM.o rfl rfl (Nat.le_of_ble_eq_true rfl) (Nat.le_of_ble_eq_true rfl) ?_
          refine m_whole hM (by omega) ?_
          show AW g _ 79 (113, [some (.ref m), some (.int (nI v.1.1)), some (.int (nI a)), some (.int (nI w.1.1)), some (.int (nI b)), some (.int (nI (sp_cls v.1.1))), none, none, none, none], [.int (nI (sp_le (μ 1) b 4)), .int (nI (b + 4)), .int (nI ((sp_le (μ 1) a 4) - 1)), .int (nI (a + 4)), .ref m]) σ _
          refine aw_run 2 (F' := (115, [some (.ref m), some (.int (nI v.1.1)), some (.int (nI a)), some (.int (nI w.1.1)), some (.int (nI b)), some (.int (nI (sp_cls v.1.1))), none, none, none, none], [.int (nI (sp_le (μ 1) b 4) - nI 1), .int (nI (b + 4)), .int (nI ((sp_le (μ 1) a 4) - 1)), .int (nI (a + 4)), .ref m])) rfl ?_
          rw [nI_sub (by omega)]
          refine aw_v [.ref m, .int (nI (a + 4)), .int (nI ((sp_le (μ 1) a 4) - 1)), .int (nI (b + 4)), .int (nI ((sp_le (μ 1) b 4) - 1))] [] rfl (by decide) rfl hM.o rfl rfl (Nat.le_of_ble_eq_true rfl) (Nat.le_of_ble_eq_true rfl) ?_
          refine m_bys hM (by omega) (by omega) ?_
          show AW g _ 79 (118, [some (.ref m), some (.int (nI v.1.1)), some (.int (nI a)), some (.int (nI w.1.1)), some (.int (nI b)), some (.int (nI (sp_cls v.1.1))), none, none, none, none], [.int (sp_bc (sp_sub (μ 1) (a + 4) (a + 4 + (sp_le (μ 1) a 4 - 1))) (sp_sub (μ 1) (b + 4) (b + 4 + (sp_le (μ 1) b 4 - 1))))]) σ _
          exact aw_iret rfl ⟨_, rfl, rfl⟩ (by rw [show sp_vc v w = sp_bc v.1.2.2.2 w.1.2.2.2 from by unfold sp_vc; rw [nc0, sp_or_0, tv1, tw1, tv3, tw3, show sp_ic 0 0 = 0 from by decide, sp_or_0, show sp_fc .leaf .leaf = 0 from rfl, sp_or_r], tv4, tw4] at g1; rw [show a + 4 + (sp_le (μ 1) a 4 - 1) = a + 3 + sp_le (μ 1) a 4 by omega, show b + 4 + (sp_le (μ 1) b 4 - 1) = b + 3 + sp_le (μ 1) b 4 by omega]; exact g1)
      · refine aw_run 3 (F' := (46, [some (.ref m), some (.int (nI v.1.1)), some (.int (nI a)), some (.int (nI w.1.1)), some (.int (nI b)), some (.int (nI (sp_cls v.1.1))), none, none, none, none], [.int (nI a), .int (nI v.1.1), .ref m])) rfl ?_
        refine aw_v [.ref m, .int (nI v.1.1), .int (nI a)] [] rfl (by decide) rfl hM.o rfl rfl (Nat.le_of_ble_eq_true rfl) (Nat.le_of_ble_eq_true rfl) ?_
        obtain ⟨_, qv, lv⟩ := nz v a hv (by omega)
        obtain ⟨_, qw, lw⟩ := nz w b hw (by omega)
        obtain ⟨nv1, nv2, nv3⟩ := ly_num hM lv qv (by omega)
        obtain ⟨nw1, nw2, nw3⟩ := ly_num hM lw qw (by omega)
        refine m_nbr hM lv qv (by omega) ?_
        show AW g _ 79 (49, [some (.ref m), some (.int (nI v.1.1)), some (.int (nI a)), some (.int (nI w.1.1)), some (.int (nI b)), some (.int (nI (sp_cls v.1.1))), none, none, none, none], [.long (Int64.ofInt v.1.2.2.1)]) σ _
        refine aw_run 4 (F' := (55, [some (.ref m), some (.int (nI v.1.1)), some (.int (nI a)), some (.int (nI w.1.1)), some (.int (nI b)), some (.int (nI (sp_cls v.1.1))), some (.long (Int64.ofInt v.1.2.2.1)), none, none, none], [.int (nI b), .int (nI w.1.1), .ref m])) rfl ?_
        refine aw_v [.ref m, .int (nI w.1.1), .int (nI b)] [] rfl (by decide) rfl hM.o rfl rfl (Nat.le_of_ble_eq_true rfl) (Nat.le_of_ble_eq_true rfl) ?_
        refine m_nbr hM lw qw (by omega) ?_
        show AW g _ 79 (58, [some (.ref m), some (.int (nI v.1.1)), some (.int (nI a)), some (.int (nI w.1.1)), some (.int (nI b)), some (.int (nI (sp_cls v.1.1))), some (.long (Int64.ofInt v.1.2.2.1)), none, none, none], [.long (Int64.ofInt w.1.2.2.1)]) σ _
        refine aw_run 1 (F' := (60, [some (.ref m), some (.int (nI v.1.1)), some (.int (nI a)), some (.int (nI w.1.1)), some (.int (nI b)), some (.int (nI (sp_cls v.1.1))), some (.long (Int64.ofInt v.1.2.2.1)), none, some (.long (Int64.ofInt w.1.2.2.1)), none], [])) rfl ?_
        refine m_lc ?_
        rw [nv1, nw1]
        rw [show sp_vc v w = sp_ic v.1.2.2.1 w.1.2.2.1 from by unfold sp_vc; rw [nc0, sp_or_0, nv2, nw2, nv3, nw3, show sp_fc .leaf .leaf = 0 from rfl, show sp_bc [] [] = 0 from rfl, sp_or_0, sp_or_r]] at g1
        exact g1
  · refine aw_run 2 (F' := (18, [some (.ref m), some (.int (nI v.1.1)), some (.int (nI a)), some (.int (nI w.1.1)), some (.int (nI b)), some (.int (nI (sp_cls v.1.1))), none, none, none, none], [.int (nI w.1.1), .int (nI (sp_cls v.1.1))])) rfl ?_
    refine aw_s [.int (nI w.1.1)] [.int (nI (sp_cls v.1.1))] rfl ⟨by decide, by decide⟩ rfl rfl (Nat.le_of_ble_eq_true rfl) (Nat.le_of_ble_eq_true rfl) ?_
    refine m_cls kw ?_
    show AW g _ 79 (21, [some (.ref m), some (.int (nI v.1.1)), some (.int (nI a)), some (.int (nI w.1.1)), some (.int (nI b)), some (.int (nI (sp_cls v.1.1))), none, none, none, none], [.int (nI (sp_cls w.1.1)), .int (nI (sp_cls v.1.1))]) σ _
    refine an_cge rfl (by omega) (by omega) (fun h9 => ?_) (fun h9 => ?_)
    · refine aw_run 1 (F' := (29, [some (.ref m), some (.int (nI v.1.1)), some (.int (nI a)), some (.int (nI w.1.1)), some (.int (nI b)), some (.int (nI (sp_cls v.1.1))), none, none, none, none], [.int (nI 1)])) rfl ?_
      exact aw_iret rfl ⟨_, rfl, rfl⟩ (by rw [show sp_vc v w = 1 from by unfold sp_vc; rw [show sp_nc (sp_cls v.1.1) (sp_cls w.1.1) = 1 from by unfold sp_nc; rw [if_neg (by omega), if_neg (by omega)]]; exact sp_or_n (by decide) _] at g1; exact g1)
    · refine aw_run 2 (F' := (29, [some (.ref m), some (.int (nI v.1.1)), some (.int (nI a)), some (.int (nI w.1.1)), some (.int (nI b)), some (.int (nI (sp_cls v.1.1))), none, none, none, none], [.int ((-1))])) rfl ?_
      exact aw_iret rfl ⟨_, rfl, rfl⟩ (by rw [show sp_vc v w = -1 from by unfold sp_vc; rw [show sp_nc (sp_cls v.1.1) (sp_cls w.1.1) = -1 from if_pos (by omega)]; exact sp_or_n (by decide) _] at g1; exact g1)
end P80
