theorem nI_ti {u : Nat} (h : u < 2 ^ 32) : (nI u).toInt = sp_s32 u := by
  unfold sp_s32
  by_cases q : u < 2 ^ 31
  · rw [if_pos q, nI_toInt q]
  · rw [if_neg q]
    show (Int32.ofNat u).toInt = _
    rw [Int32.toInt_ofNat']
    show Int.bmod (u : Int) 4294967296 = _
    unfold Int.bmod
    have : (u : Int) % (4294967296 : Nat) = u := Int.emod_eq_of_lt (by omega) (by omega)
    rw [this, if_neg (by omega)]
    rfl
theorem l_ofs32 {u : Nat} (h : u < 2 ^ 32) : Int64.ofInt (sp_s32 u) = (nI u).toInt64 := by
  rw [← nI_ti h, ← Int32.toInt_toInt64, Int64.ofInt_toInt]
theorem l_s32 {u : Nat} (h : u < 2 ^ 32) : (nI u).toInt64 = lN (if u < 2 ^ 31 then u else u + (2 ^ 64 - 2 ^ 32)) := by
  apply Int64.toInt_inj.mp
  rw [Int32.toInt_toInt64, nI_ti h, s64_of (by split <;> omega)]
  unfold sp_s32 sp_s64
  by_cases q : u < 2 ^ 31
  · simp only [if_pos q]
    rw [if_pos (by omega)]
  · simp only [if_neg q]
    rw [if_neg (by omega)]
    omega
theorem l_ofs64 {u : Nat} (h : u < 2 ^ 64) : Int64.ofInt (sp_s64 u) = lN u := by
  have e : (lN u).toInt = sp_s64 u := s64_of h
  rw [← e, Int64.ofInt_toInt]
theorem l_hi {u0 u1 : Nat} (h0 : u0 < 2 ^ 32) (h1 : u1 < 2 ^ 32) : (nI u1).toInt64 * 4294967296 + ((nI u0).toInt64 &&& 4294967295) = lN (u0 + u1 * 2 ^ 32) := by
  rw [l_s32 h0, l_s32 h1]
  have e1 : lN (if u0 < 2 ^ 31 then u0 else u0 + (2 ^ 64 - 2 ^ 32)) &&& 4294967295 = lN u0 := by
    have := wb_mask (n := if u0 < 2 ^ 31 then u0 else u0 + (2 ^ 64 - 2 ^ 32)) (k := 32) (by split <;> omega) (by decide)
    rw [show (4294967295 : Int64) = lN (2 ^ 32 - 1) from by decide, this]
    congr 1
    split <;> omega
  rw [e1, show (4294967296 : Int64) = lN (2 ^ 32) from by decide, lN_mul, lN_add, wb_mod, wb_mod (u0 + u1 * 2 ^ 32)]
  congr 1
  split <;> omega
theorem sp_le8 (β : Nat → Nat) (k : Nat) : sp_le β k 8 = sp_le β k 4 + sp_le β (k + 4) 4 * 2 ^ 32 := by
  simp only [sp_le, Nat.add_zero, Nat.add_assoc, Nat.reduceAdd]
  omega
theorem sub_bc_end {β : Nat → Nat} {a n b n2 k : Nat} (h1 : k ≤ n) (h2 : k ≤ n2) (h : k = n ∨ k = n2) : sp_bc (sp_sub β (a + k) (a + n)) (sp_sub β (b + k) (b + n2)) = sp_nc n n2 := by
  unfold sp_nc
  by_cases e : n < n2
  · rw [if_pos e, sub_nil (by omega), sub_one (by omega)]
    rfl
  · rw [if_neg e]
    by_cases e2 : n = n2
    · rw [if_pos e2, sub_nil (by omega), sub_nil (by omega)]
      rfl
    · rw [if_neg e2, sub_nil (show b + n2 ≤ b + k by omega), sub_one (show a + k < a + n by omega)]
      rfl
section P79
variable {g : Nat × Nat} {d : Nat} {σ0 σ : am_H} {Q : Option Value → am_H → Prop} {m : Nat} {μ : sp_M}
/-- number -/
theorem m_nbr (hM : MS g m σ0 σ μ) {v : sp_V} {k q : Nat} (hl : lyV (μ 1) v k q) (hq : q ≤ 14000) (hk : v.1.1 = 16 ∨ v.1.1 = 18 ∨ v.1.1 = 8) (hQ : Q (some (.long (Int64.ofInt v.1.2.2.1))) σ) : AW g (d + 2) 81 (0, [some (.ref m), some (.int (nI v.1.1)), some (.int (nI k)), none, none], []) σ Q := by
  rcases hl with ⟨z1, z2, z3, z4⟩ | ⟨z1, z2, z3, z4⟩ | ⟨z1, z2, z3, z4, z5⟩ | ⟨z1, z2, z3, z4⟩ | ⟨z1, z2, z3, z4, z5⟩ | ⟨z1, z2, z3, z4, z5⟩
  · rw [z3, l_ofs32 (hM.le4 (by omega))] at hQ
    rw [z1]
    refine aw_run 2 (F' := (3, [some (.ref m), some (.int (nI 16)), some (.int (nI k)), none, none], [.int (nI 16), .int (nI 16)])) rfl ?_
    refine an_cne rfl (by omega) (by omega) (fun z => absurd z (by omega)) (fun _ => ?_)
    refine aw_run 2 (F' := (8, [some (.ref m), some (.int (nI 16)), some (.int (nI k)), none, none], [.int (nI k), .ref m])) rfl ?_
    refine aw_v [.ref m, .int (nI k)] [] rfl (by decide) rfl hM.o rfl rfl (Nat.le_of_ble_eq_true rfl) (Nat.le_of_ble_eq_true rfl) ?_
    have hu8 := hM.le4 (k := k) (by omega)
    refine m_whole hM (by omega) ?_
    show AW g _ 81 (11, [some (.ref m), some (.int (nI 16)), some (.int (nI k)), none, none], [.int (nI (sp_le (μ 1) k 4))]) σ _
    refine aw_run 1 (F' := (12, [some (.ref m), some (.int (nI 16)), some (.int (nI k)), none, none], [.long (Int32.toInt64 (nI (sp_le (μ 1) k 4)))])) rfl ?_
    exact aw_lret rfl rfl (hQ)
  · rw [z3] at hQ
    rw [z1]
    refine aw_run 2 (F' := (3, [some (.ref m), some (.int (nI 18)), some (.int (nI k)), none, none], [.int (nI 16), .int (nI 18)])) rfl ?_
    refine an_cne rfl (by omega) (by omega) (fun _ => ?_) (fun z => absurd z (by omega))
    refine aw_run 2 (F' := (16, [some (.ref m), some (.int (nI 18)), some (.int (nI k)), none, none], [.int (nI 8), .int (nI 18)])) rfl ?_
    refine an_cne rfl (by omega) (by omega) (fun _ => ?_) (fun z => absurd z (by omega))
    refine aw_run 4 (F' := (30, [some (.ref m), some (.int (nI 18)), some (.int (nI k)), none, none], [.int (nI k + nI 4), .ref m])) rfl ?_
    rw [nI_add]
    refine aw_v [.ref m, .int (nI (k + 4))] [] rfl (by decide) rfl hM.o rfl rfl (Nat.le_of_ble_eq_true rfl) (Nat.le_of_ble_eq_true rfl) ?_
    have hu30 := hM.le4 (k := k + 4) (by omega)
    refine m_whole hM (by omega) ?_
    show AW g _ 81 (33, [some (.ref m), some (.int (nI 18)), some (.int (nI k)), none, none], [.int (nI (sp_le (μ 1) (k + 4) 4))]) σ _
    refine aw_run 4 (F' := (38, [some (.ref m), some (.int (nI 18)), some (.int (nI k)), some (.long (Int32.toInt64 (nI (sp_le (μ 1) (k + 4) 4)))), none], [.int (nI 18), .int (nI 18)])) rfl ?_
    refine an_cne rfl (by omega) (by omega) (fun z => absurd z (by omega)) (fun _ => ?_)
    refine aw_run 5 (F' := (48, [some (.ref m), some (.int (nI 18)), some (.int (nI k)), some (.long (Int32.toInt64 (nI (sp_le (μ 1) (k + 4) 4)))), none], [.int (nI k), .ref m, .long ((Int32.toInt64 (nI (sp_le (μ 1) (k + 4) 4))) * (4294967296))])) rfl ?_
    refine aw_v [.ref m, .int (nI k)] [.long ((Int32.toInt64 (nI (sp_le (μ 1) (k + 4) 4))) * (4294967296))] rfl (by decide) rfl hM.o rfl rfl (Nat.le_of_ble_eq_true rfl) (Nat.le_of_ble_eq_true rfl) ?_
    have hu48 := hM.le4 (k := k) (by omega)
    refine m_whole hM (by omega) ?_
    show AW g _ 81 (51, [some (.ref m), some (.int (nI 18)), some (.int (nI k)), some (.long (Int32.toInt64 (nI (sp_le (μ 1) (k + 4) 4)))), none], [.int (nI (sp_le (μ 1) k 4)), .long ((Int32.toInt64 (nI (sp_le (μ 1) (k + 4) 4))) * (4294967296))]) σ _
    refine aw_run 5 (F' := (61, [some (.ref m), some (.int (nI 18)), some (.int (nI k)), some (.long (Int32.toInt64 (nI (sp_le (μ 1) (k + 4) 4)))), none], [.long (((Int32.toInt64 (nI (sp_le (μ 1) (k + 4) 4))) * (4294967296)) + ((Int32.toInt64 (nI (sp_le (μ 1) k 4))) &&& (4294967295)))])) rfl ?_
    exact aw_lret rfl rfl (by rw [l_hi (by assumption) (by assumption), ← sp_le8, ← l_ofs64 (sp_le_lt (w := 8) (fun i hi => hM.by (by omega)))]; exact hQ)
  · rw [z4] at hQ
    rw [z1]
    have eb : Int64.ofInt (μ 1 k : Int) = (nI (μ 1 k)).toInt64 := by
      rw [← nI_toInt (n := μ 1 k) (by omega), ← Int32.toInt_toInt64, Int64.ofInt_toInt]
    refine aw_run 2 (F' := (3, [some (.ref m), some (.int (nI 8)), some (.int (nI k)), none, none], [.int (nI 16), .int (nI 8)])) rfl ?_
    refine an_cne rfl (by omega) (by omega) (fun _ => ?_) (fun z => absurd z (by omega))
    refine aw_run 2 (F' := (16, [some (.ref m), some (.int (nI 8)), some (.int (nI k)), none, none], [.int (nI 8), .int (nI 8)])) rfl ?_
    refine an_cne rfl (by omega) (by omega) (fun z => absurd z (by omega)) (fun _ => ?_)
    refine aw_run 2 (F' := (21, [some (.ref m), some (.int (nI 8)), some (.int (nI k)), none, none], [.int (nI k), .ref m])) rfl ?_
    refine aw_v [.ref m, .int (nI k)] [] rfl (by decide) rfl hM.o rfl rfl (Nat.le_of_ble_eq_true rfl) (Nat.le_of_ble_eq_true rfl) ?_
    have hB1 := hM.by (i := k) (by omega)
    refine m_at hM (by omega) ?_
    show AW g _ 81 (24, [some (.ref m), some (.int (nI 8)), some (.int (nI k)), none, none], [.int (nI (μ 1 k))]) σ _
    refine aw_run 1 (F' := (25, [some (.ref m), some (.int (nI 8)), some (.int (nI k)), none, none], [.long (Int32.toInt64 (nI (μ 1 k)))])) rfl ?_
    exact aw_lret rfl rfl (by rw [← eb]; exact hQ)
  · omega
  · omega
  · omega
/-- bytes -/
theorem m_bysL (hM : MS g m σ0 σ μ) {a n b n2 : Nat} (ha : a + n ≤ 14000) (hb : b + n2 ≤ 14000) : ∀ (r k : Nat), n - k < r → k ≤ n → k ≤ n2 → Q (some (.int (sp_bc (sp_sub (μ 1) (a + k) (a + n)) (sp_sub (μ 1) (b + k) (b + n2))))) σ → AW g (d + 1) 82 (3, [some (.ref m), some (.int (nI a)), some (.int (nI n)), some (.int (nI b)), some (.int (nI n2)), some (.int (nI k))], []) σ Q := by
  intro r
  induction r with
  | zero => intro k hk; omega
  | succ r ih =>
    intro k hk hkn hkm hQ
    refine aw_run 2 (F' := (6, [some (.ref m), some (.int (nI a)), some (.int (nI n)), some (.int (nI b)), some (.int (nI n2)), some (.int (nI k))], [.int (nI n), .int (nI k)])) rfl ?_
    refine an_cge rfl (by omega) (by omega) (fun h1 => ?_) (fun h1 => ?_)
    · refine aw_run 2 (F' := (69, [some (.ref m), some (.int (nI a)), some (.int (nI n)), some (.int (nI b)), some (.int (nI n2)), some (.int (nI k))], [.int (nI n2), .int (nI n)])) rfl ?_
      refine an_cge rfl (by omega) (by omega) (fun h2 => ?_) (fun h2 => ?_)
      · refine aw_run 2 (F' := (79, [some (.ref m), some (.int (nI a)), some (.int (nI n)), some (.int (nI b)), some (.int (nI n2)), some (.int (nI k))], [.int (nI n2), .int (nI n)])) rfl ?_
        refine an_cle rfl (by omega) (by omega) (fun h3 => ?_) (fun h3 => ?_)
        · refine aw_run 1 (F' := (87, [some (.ref m), some (.int (nI a)), some (.int (nI n)), some (.int (nI b)), some (.int (nI n2)), some (.int (nI k))], [.int (nI 0)])) rfl ?_
          exact aw_iret rfl ⟨_, rfl, rfl⟩ (by rw [sub_bc_end (by omega) (by omega) (by omega)] at hQ; unfold sp_nc at hQ; rw [if_neg (by omega), if_pos (by omega)] at hQ; exact hQ)
        · refine aw_run 2 (F' := (87, [some (.ref m), some (.int (nI a)), some (.int (nI n)), some (.int (nI b)), some (.int (nI n2)), some (.int (nI k))], [.int (nI 1)])) rfl ?_
          exact aw_iret rfl ⟨_, rfl, rfl⟩ (by rw [sub_bc_end (by omega) (by omega) (by omega)] at hQ; unfold sp_nc at hQ; rw [if_neg (by omega), if_neg (by omega)] at hQ; exact hQ)
      · refine aw_run 2 (F' := (87, [some (.ref m), some (.int (nI a)), some (.int (nI n)), some (.int (nI b)), some (.int (nI n2)), some (.int (nI k))], [.int ((-1))])) rfl ?_
        exact aw_iret rfl ⟨_, rfl, rfl⟩ (by rw [sub_bc_end (by omega) (by omega) (by omega)] at hQ; unfold sp_nc at hQ; rw [if_pos (by omega)] at hQ; exact hQ)
    · refine aw_run 2 (F' := (13, [some (.ref m), some (.int (nI a)), some (.int (nI n)), some (.int (nI b)), some (.int (nI n2)), some (.int (nI k))], [.int (nI n2), .int (nI k)])) rfl ?_
      refine an_cge rfl (by omega) (by omega) (fun h4 => ?_) (fun h4 => ?_)
      · refine aw_run 2 (F' := (69, [some (.ref m), some (.int (nI a)), some (.int (nI n)), some (.int (nI b)), some (.int (nI n2)), some (.int (nI k))], [.int (nI n2), .int (nI n)])) rfl ?_
        refine an_cge rfl (by omega) (by omega) (fun h5 => ?_) (fun h5 => ?_)
        · refine aw_run 2 (F' := (79, [some (.ref m), some (.int (nI a)), some (.int (nI n)), some (.int (nI b)), some (.int (nI n2)), some (.int (nI k))], [.int (nI n2), .int (nI n)])) rfl ?_
          refine an_cle rfl (by omega) (by omega) (fun h6 => ?_) (fun h6 => ?_)
          · refine aw_run 1 (F' := (87, [some (.ref m), some (.int (nI a)), some (.int (nI n)), some (.int (nI b)), some (.int (nI n2)), some (.int (nI k))], [.int (nI 0)])) rfl ?_
            exact aw_iret rfl ⟨_, rfl, rfl⟩ (by rw [sub_bc_end (by omega) (by omega) (by omega)] at hQ; unfold sp_nc at hQ; rw [if_neg (by omega), if_pos (by omega)] at hQ; exact hQ)
          · refine aw_run 2 (F' := (87, [some (.ref m), some (.int (nI a)), some (.int (nI n)), some (.int (nI b)), some (.int (nI n2)), some (.int (nI k))], [.int (nI 1)])) rfl ?_
            exact aw_iret rfl ⟨_, rfl, rfl⟩ (by rw [sub_bc_end (by omega) (by omega) (by omega)] at hQ; unfold sp_nc at hQ; rw [if_neg (by omega), if_neg (by omega)] at hQ; exact hQ)
        · refine aw_run 2 (F' := (87, [some (.ref m), some (.int (nI a)), some (.int (nI n)), some (.int (nI b)), some (.int (nI n2)), some (.int (nI k))], [.int ((-1))])) rfl ?_
          exact aw_iret rfl ⟨_, rfl, rfl⟩ (by rw [sub_bc_end (by omega) (by omega) (by omega)] at hQ; unfold sp_nc at hQ; rw [if_pos (by omega)] at hQ; exact hQ)
      · refine aw_run 4 (F' := (21, [some (.ref m), some (.int (nI a)), some (.int (nI n)), some (.int (nI b)), some (.int (nI n2)), some (.int (nI k))], [.int (nI a + nI k), .ref m])) rfl ?_
        rw [nI_add]
        refine aw_v [.ref m, .int (nI (a + k))] [] rfl (by decide) rfl hM.o rfl rfl (Nat.le_of_ble_eq_true rfl) (Nat.le_of_ble_eq_true rfl) ?_
        have hB2 := hM.by (i := a + k) (by omega)
        refine m_at hM (by omega) ?_
        show AW g _ 82 (24, [some (.ref m), some (.int (nI a)), some (.int (nI n)), some (.int (nI b)), some (.int (nI n2)), some (.int (nI k))], [.int (nI (μ 1 (a + k)))]) σ _
        refine aw_run 4 (F' := (29, [some (.ref m), some (.int (nI a)), some (.int (nI n)), some (.int (nI b)), some (.int (nI n2)), some (.int (nI k))], [.int (nI b + nI k), .ref m, .int (nI (μ 1 (a + k)))])) rfl ?_
        rw [nI_add]
        refine aw_v [.ref m, .int (nI (b + k))] [.int (nI (μ 1 (a + k)))] rfl (by decide) rfl hM.o rfl rfl (Nat.le_of_ble_eq_true rfl) (Nat.le_of_ble_eq_true rfl) ?_
        have hB3 := hM.by (i := b + k) (by omega)
        refine m_at hM (by omega) ?_
        show AW g _ 82 (32, [some (.ref m), some (.int (nI a)), some (.int (nI n)), some (.int (nI b)), some (.int (nI n2)), some (.int (nI k))], [.int (nI (μ 1 (b + k))), .int (nI (μ 1 (a + k)))]) σ _
        refine an_ceq rfl (by omega) (by omega) (fun h7 => ?_) (fun h7 => ?_)
        · refine aw_run 1 (F' := (63, [some (.ref m), some (.int (nI a)), some (.int (nI n)), some (.int (nI b)), some (.int (nI n2)), some (.int (nI k + nI 1))], [])) rfl ?_
          rw [nI_add]
          refine aw_run 1 (F' := (3, [some (.ref m), some (.int (nI a)), some (.int (nI n)), some (.int (nI b)), some (.int (nI n2)), some (.int (nI (k + 1)))], [])) rfl ?_
          rw [sub_one (show a + k < a + n by omega), sub_one (show b + k < b + n2 by omega)] at hQ
          simp only [sp_bc] at hQ
          rw [show sp_nc (μ 1 (a + k)) (μ 1 (b + k)) = 0 from by unfold sp_nc; rw [if_neg (by omega), if_pos (by omega)], sp_or_0] at hQ
          exact ih (k + 1) (by omega) (by omega) (by omega) hQ
        · refine aw_run 4 (F' := (40, [some (.ref m), some (.int (nI a)), some (.int (nI n)), some (.int (nI b)), some (.int (nI n2)), some (.int (nI k))], [.int (nI a + nI k), .ref m])) rfl ?_
          rw [nI_add]
          refine aw_v [.ref m, .int (nI (a + k))] [] rfl (by decide) rfl hM.o rfl rfl (Nat.le_of_ble_eq_true rfl) (Nat.le_of_ble_eq_true rfl) ?_
          have hB4 := hM.by (i := a + k) (by omega)
          refine m_at hM (by omega) ?_
          show AW g _ 82 (43, [some (.ref m), some (.int (nI a)), some (.int (nI n)), some (.int (nI b)), some (.int (nI n2)), some (.int (nI k))], [.int (nI (μ 1 (a + k)))]) σ _
          refine aw_run 4 (F' := (48, [some (.ref m), some (.int (nI a)), some (.int (nI n)), some (.int (nI b)), some (.int (nI n2)), some (.int (nI k))], [.int (nI b + nI k), .ref m, .int (nI (μ 1 (a + k)))])) rfl ?_
          rw [nI_add]
          refine aw_v [.ref m, .int (nI (b + k))] [.int (nI (μ 1 (a + k)))] rfl (by decide) rfl hM.o rfl rfl (Nat.le_of_ble_eq_true rfl) (Nat.le_of_ble_eq_true rfl) ?_
          have hB5 := hM.by (i := b + k) (by omega)
          refine m_at hM (by omega) ?_
          show AW g _ 82 (51, [some (.ref m), some (.int (nI a)), some (.int (nI n)), some (.int (nI b)), some (.int (nI n2)), some (.int (nI k))], [.int (nI (μ 1 (b + k))), .int (nI (μ 1 (a + k)))]) σ _
          refine an_cge rfl (by omega) (by omega) (fun h8 => ?_) (fun h8 => ?_)
          · refine aw_run 1 (F' := (59, [some (.ref m), some (.int (nI a)), some (.int (nI n)), some (.int (nI b)), some (.int (nI n2)), some (.int (nI k))], [.int (nI 1)])) rfl ?_
            exact aw_iret rfl ⟨_, rfl, rfl⟩ (by rw [sub_one (show a + k < a + n by omega), sub_one (show b + k < b + n2 by omega)] at hQ; simp only [sp_bc] at hQ; rw [show sp_nc (μ 1 (a + k)) (μ 1 (b + k)) = 1 from by unfold sp_nc; rw [if_neg (by omega), if_neg (by omega)], sp_or_n (by decide)] at hQ; exact hQ)
          · refine aw_run 2 (F' := (59, [some (.ref m), some (.int (nI a)), some (.int (nI n)), some (.int (nI b)), some (.int (nI n2)), some (.int (nI k))], [.int ((-1))])) rfl ?_
            exact aw_iret rfl ⟨_, rfl, rfl⟩ (by rw [sub_one (show a + k < a + n by omega), sub_one (show b + k < b + n2 by omega)] at hQ; simp only [sp_bc] at hQ; rw [show sp_nc (μ 1 (a + k)) (μ 1 (b + k)) = -1 from if_pos (by omega), sp_or_n (by decide)] at hQ; exact hQ)
theorem m_bys (hM : MS g m σ0 σ μ) {a n b n2 : Nat} (ha : a + n ≤ 14000) (hb : b + n2 ≤ 14000) (hQ : Q (some (.int (sp_bc (sp_sub (μ 1) a (a + n)) (sp_sub (μ 1) b (b + n2))))) σ) : AW g (d + 1) 82 (0, [some (.ref m), some (.int (nI a)), some (.int (nI n)), some (.int (nI b)), some (.int (nI n2)), none], []) σ Q := by
  refine aw_run 2 (F' := (3, [some (.ref m), some (.int (nI a)), some (.int (nI n)), some (.int (nI b)), some (.int (nI n2)), some (.int (nI 0))], [])) rfl ?_
  exact m_bysL hM ha hb _ 0 (Nat.lt_succ_self _) (Nat.zero_le _) (Nat.zero_le _) hQ
end P79
