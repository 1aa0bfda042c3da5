section P25
variable {g : Nat × Nat} {d : Nat} {σ : am_H} {Q : Option Value → am_H → Prop}
theorem sp_ll_cases {b : Nat} (hb : b < 256) : (b < 128 ∧ sp_ll b = 1) ∨ (128 ≤ b ∧ b < 192 ∧ sp_ll b = 0) ∨ (192 ≤ b ∧ b < 224 ∧ sp_ll b = 2) ∨ (224 ≤ b ∧ b < 240 ∧ sp_ll b = 3) ∨ (240 ≤ b ∧ b < 248 ∧ sp_ll b = 4) ∨ (248 ≤ b ∧ sp_ll b = 0) := by
  unfold sp_ll
  by_cases h1 : b < 128
  · left; simp [h1]
  · by_cases h2 : b < 192
    · right; left; simp [h1, h2]; omega
    · by_cases h3 : b < 224
      · right; right; left; simp [h1, h2, h3]; omega
      · by_cases h4 : b < 240
        · right; right; right; left; simp [h1, h2, h3, h4]; omega
        · by_cases h5 : b < 248
          · right; right; right; right; left; simp [h1, h2, h3, h4, h5]; omega
          · right; right; right; right; right; simp [h1, h2, h3, h4, h5]; omega
/-- isCharacter -/
theorem c_isc {a N k n : Nat} {β : Nat → Nat} (hb : byf σ.1 a N β) (hn : n = sp_ll (β k)) (hn0 : n ≠ 0) (hN : k + n ≤ N) (h1 : sp_isc β k n → Q (some (.int 1)) σ) (h2 : ¬ sp_isc β k n → Q (some (.int 0)) σ) : AW g d 18 (0, [some (.ref a), some (.int (nI k)), some (.int (nI n)), none, none, none], []) σ Q := by
  have hb' := hb
  obtain ⟨n1, f, ha, hf⟩ := hb'
  obtain ⟨hbk, hfk⟩ := hf k (by omega)
  have e1 : f (nI k).toNatClampNeg = sb_b (β k) := by rw [nI_clamp (by omega), hfk]
  refine aw_run 2 (F' := (2, [some (.ref a), some (.int (nI k)), some (.int (nI n)), none, none, none], [.int (nI 1), .int (nI n)])) rfl ?_
  have hbd : ∀ i, i < N → β i < 256 := fun i hi => (hf i hi).1
  rcases sp_ll_cases hbk with ⟨l1, e⟩ | ⟨l1, l2, e⟩ | ⟨l1, l2, e⟩ | ⟨l1, l2, e⟩ | ⟨l1, l2, e⟩ | ⟨l1, e⟩ <;> rw [e] at hn <;> subst hn
  · refine aw_cne rfl (fun q => absurd rfl q) (fun _ => ?_)
    refine aw_run 1 (F' := (6, [some (.ref a), some (.int (nI k)), some (.int (nI 1)), none, none, none], [.int 1])) rfl ?_
    exact aw_iret rfl ⟨_, rfl, rfl⟩ (h1 (Or.inl rfl))
  · exact absurd rfl hn0
  · refine aw_cne rfl (fun _ => ?_) (fun q => absurd (by decide) q)
    refine aw_run 2 (F' := (9, [some (.ref a), some (.int (nI k)), some (.int (nI 2)), none, none, none], [.int (nI k), .ref a])) rfl ?_
    refine aw_bald rfl ha (vp_in_nI (by omega) (by omega)) ?_
    refine aw_run 9 (F' := (21, [some (.ref a), some (.int (nI k)), some (.int (nI 2)), some (.int (f (nI k).toNatClampNeg &&& ((127 : Int32) >>> (nI 2 &&& 31)))), some (.int (nI k + 1)), none], [])) rfl ?_
    rw [e1, sb_l2 _ hbk ⟨l1, l2⟩, nI_1]
    refine c_isc_it hb (by omega) hN (by omega) (fun q1 => ?_) (fun q1 => h2 (fun z => ?_))
    · have hk1 := hbd (k + 1) (by omega)
      refine c_isc_end hb hN (Or.inl ⟨rfl, rfl⟩) (by omega) (fun z => h1 (Or.inr (Or.inl ⟨rfl, q1, z⟩))) (fun z => h2 (fun w => ?_))
      rcases w with w | w | w | w
      · omega
      · exact z w.2.2
      · omega
      · omega
    · rcases z with w | w | w | w
      · omega
      · exact q1 w.2.1
      · omega
      · omega
  · refine aw_cne rfl (fun _ => ?_) (fun q => absurd (by decide) q)
    refine aw_run 2 (F' := (9, [some (.ref a), some (.int (nI k)), some (.int (nI 3)), none, none, none], [.int (nI k), .ref a])) rfl ?_
    refine aw_bald rfl ha (vp_in_nI (by omega) (by omega)) ?_
    refine aw_run 9 (F' := (21, [some (.ref a), some (.int (nI k)), some (.int (nI 3)), some (.int (f (nI k).toNatClampNeg &&& ((127 : Int32) >>> (nI 3 &&& 31)))), some (.int (nI k + 1)), none], [])) rfl ?_
    rw [e1, sb_l3 _ hbk ⟨l1, l2⟩, nI_1]
    refine c_isc_it hb (by omega) hN (by omega) (fun q1 => ?_) (fun q1 => h2 (fun z => ?_))
    · have hk1 := hbd (k + 1) (by omega)
      refine c_isc_it hb (by omega) hN (by omega) (fun q2 => ?_) (fun q2 => h2 (fun z => ?_))
      · have hk2 := hbd (k + 2) (by omega)
        refine c_isc_end hb hN (Or.inr (Or.inl ⟨rfl, rfl⟩)) (by omega) (fun z => h1 (Or.inr (Or.inr (Or.inl ⟨rfl, q1, q2, z⟩)))) (fun z => h2 (fun w => ?_))
        rcases w with w | w | w | w
        · omega
        · omega
        · exact z w.2.2.2
        · omega
      · rcases z with w | w | w | w
        · omega
        · omega
        · exact q2 w.2.2.1
        · omega
    · rcases z with w | w | w | w
      · omega
      · omega
      · exact q1 w.2.1
      · omega
  · refine aw_cne rfl (fun _ => ?_) (fun q => absurd (by decide) q)
    refine aw_run 2 (F' := (9, [some (.ref a), some (.int (nI k)), some (.int (nI 4)), none, none, none], [.int (nI k), .ref a])) rfl ?_
    refine aw_bald rfl ha (vp_in_nI (by omega) (by omega)) ?_
    refine aw_run 9 (F' := (21, [some (.ref a), some (.int (nI k)), some (.int (nI 4)), some (.int (f (nI k).toNatClampNeg &&& ((127 : Int32) >>> (nI 4 &&& 31)))), some (.int (nI k + 1)), none], [])) rfl ?_
    rw [e1, sb_l4 _ hbk ⟨l1, l2⟩, nI_1]
    refine c_isc_it hb (by omega) hN (by omega) (fun q1 => ?_) (fun q1 => h2 (fun z => ?_))
    · have hk1 := hbd (k + 1) (by omega)
      refine c_isc_it hb (by omega) hN (by omega) (fun q2 => ?_) (fun q2 => h2 (fun z => ?_))
      · have hk2 := hbd (k + 2) (by omega)
        refine c_isc_it hb (by omega) hN (by omega) (fun q3 => ?_) (fun q3 => h2 (fun z => ?_))
        · have hk3 := hbd (k + 3) (by omega)
          refine c_isc_end hb hN (Or.inr (Or.inr ⟨rfl, rfl⟩)) (by omega) (fun z => h1 (Or.inr (Or.inr (Or.inr ⟨rfl, q1, q2, q3, z⟩)))) (fun z => h2 (fun w => ?_))
          rcases w with w | w | w | w
          · omega
          · omega
          · omega
          · exact z w.2.2.2.2
        · rcases z with w | w | w | w
          · omega
          · omega
          · omega
          · exact q3 w.2.2.2.1
      · rcases z with w | w | w | w
        · omega
        · omega
        · omega
        · exact q2 w.2.2.1
    · rcases z with w | w | w | w
      · omega
      · omega
      · omega
      · exact q1 w.2.1
  · exact absurd rfl hn0
/-- isRight: its loop -/
theorem c_utfL {a N s e : Nat} {β : Nat → Nat} (hb : byf σ.1 a N β) (he : e ≤ N) : ∀ (n k j : Nat) (x5 : Option Value), e - k < n → j ≤ k → k ≤ N → Q (some (.int (if sp_tx β n k e then 1 else 0))) σ → AW g (d + 1) 16 (17, [some (.ref a), some (.int (nI s)), some (.int (nI e)), some (.int (nI k)), some (.int (nI j)), x5], []) σ Q := by
  have hb' := hb
  obtain ⟨n1, f, ha, hf⟩ := hb'
  intro n
  induction n with
  | zero => intro k j x5 h; omega
  | succ n ih =>
    intro k j x5 hk hj hkN hQ
    have yes : e ≤ k → AW g (d + 1) 16 (76, [some (.ref a), some (.int (nI s)), some (.int (nI e)), some (.int (nI k)), some (.int (nI j)), x5], []) σ Q := by
      intro q
      refine aw_run 1 (F' := (77, [some (.ref a), some (.int (nI s)), some (.int (nI e)), some (.int (nI k)), some (.int (nI j)), x5], [.int 1])) rfl ?_
      rw [sp_tx_end _ _ _ _ q] at hQ
      exact aw_iret rfl ⟨_, rfl, rfl⟩ hQ
    by_cases hek : e ≤ k
    · refine aw_run 2 (F' := (20, [some (.ref a), some (.int (nI s)), some (.int (nI e)), some (.int (nI k)), some (.int (nI j)), x5], [.int (nI e), .int (nI j)])) rfl ?_
      refine aw_cge rfl (fun _ => yes hek) (fun _ => ?_)
      refine aw_run 2 (F' := (25, [some (.ref a), some (.int (nI s)), some (.int (nI e)), some (.int (nI k)), some (.int (nI j)), x5], [.int (nI e), .int (nI k)])) rfl ?_
      refine aw_cge rfl (fun _ => yes hek) (fun q => absurd ((nI_leI (by omega) (by omega)).mpr hek) q)
    · refine aw_run 2 (F' := (20, [some (.ref a), some (.int (nI s)), some (.int (nI e)), some (.int (nI k)), some (.int (nI j)), x5], [.int (nI e), .int (nI j)])) rfl ?_
      refine aw_cge rfl (fun q => absurd ((nI_leI (by omega) (by omega)).mp q) (by omega)) (fun _ => ?_)
      refine aw_run 2 (F' := (25, [some (.ref a), some (.int (nI s)), some (.int (nI e)), some (.int (nI k)), some (.int (nI j)), x5], [.int (nI e), .int (nI k)])) rfl ?_
      refine aw_cge rfl (fun q => absurd ((nI_leI (by omega) (by omega)).mp q) (by omega)) (fun _ => ?_)
      obtain ⟨hbk, hfk⟩ := hf k (by omega)
      have e1 : f (nI k).toNatClampNeg = sb_b (β k) := by rw [nI_clamp (by omega), hfk]
      refine aw_run 2 (F' := (30, [some (.ref a), some (.int (nI s)), some (.int (nI e)), some (.int (nI k)), some (.int (nI j)), x5], [.int (nI k), .ref a])) rfl ?_
      refine aw_bald rfl ha (vp_in_nI (by omega) (by omega)) ?_
      refine aw_run 2 (F' := (35, [some (.ref a), some (.int (nI s)), some (.int (nI e)), some (.int (nI k)), some (.int (nI j)), x5], [.int (f (nI k).toNatClampNeg &&& 255)])) rfl ?_
      rw [e1, (sb_byte _ hbk).1]
      refine aw_s [.int (nI (β k))] [] rfl ⟨by decide, by decide⟩ rfl rfl (Nat.le_of_ble_eq_true rfl) (Nat.le_of_ble_eq_true rfl) ?_
      refine c_lead hbk ?_
      refine aw_run 2 (F' := (42, [some (.ref a), some (.int (nI s)), some (.int (nI e)), some (.int (nI k)), some (.int (nI j)), some (.int (nI (sp_ll (β k))))], [.int (nI (sp_ll (β k)))])) rfl ?_
      simp only [sp_tx, if_neg hek] at hQ
      have hll : sp_ll (β k) ≤ 4 := by
        rcases sp_ll_cases hbk with ⟨-, q⟩ | ⟨-, -, q⟩ | ⟨-, -, q⟩ | ⟨-, -, q⟩ | ⟨-, -, q⟩ | ⟨-, q⟩ <;> omega
      have no : sp_chr β k e = 0 → AW g (d + 1) 16 (63, [some (.ref a), some (.int (nI s)), some (.int (nI e)), some (.int (nI k)), some (.int (nI j)), some (.int (nI (sp_ll (β k))))], []) σ Q := by
        intro q
        refine aw_run 1 (F' := (64, [some (.ref a), some (.int (nI s)), some (.int (nI e)), some (.int (nI k)), some (.int (nI j)), some (.int (nI (sp_ll (β k))))], [.int 0])) rfl ?_
        rw [if_pos q] at hQ
        exact aw_iret rfl ⟨_, rfl, rfl⟩ hQ
      refine aw_zeq rfl (fun q => ?_) (fun q => ?_)
      · have q' : sp_ll (β k) = 0 := (nI_eq (b := 0) (by omega) (by omega)).mp q
        refine no ?_
        unfold sp_chr
        rw [q']
        simp
      · have q' : sp_ll (β k) ≠ 0 := fun z => q (by rw [z]; rfl)
        refine aw_run 4 (F' := (50, [some (.ref a), some (.int (nI s)), some (.int (nI e)), some (.int (nI k)), some (.int (nI j)), some (.int (nI (sp_ll (β k))))], [.int (nI e - nI k), .int (nI (sp_ll (β k)))])) rfl ?_
        rw [pk_sub (by omega)]
        refine aw_cgt rfl (fun r => ?_) (fun r => ?_)
        · have r' := (nI_ltI (by omega) (by omega)).mp r
          refine no ?_
          unfold sp_chr
          rw [if_neg (fun z => by omega)]
        · have r' : ¬ e - k < sp_ll (β k) := fun z => r ((nI_ltI (by omega) (by omega)).mpr z)
          refine aw_run 3 (F' := (57, [some (.ref a), some (.int (nI s)), some (.int (nI e)), some (.int (nI k)), some (.int (nI j)), some (.int (nI (sp_ll (β k))))], [.int (nI (sp_ll (β k))), .int (nI k), .ref a])) rfl ?_
          refine aw_s [.ref a, .int (nI k), .int (nI (sp_ll (β k)))] [] rfl ⟨by decide, by decide⟩ rfl rfl (Nat.le_of_ble_eq_true rfl) (Nat.le_of_ble_eq_true rfl) ?_
          refine c_isc hb rfl q' (by omega) (fun z => ?_) (fun z => ?_)
          · have hch : sp_chr β k e = sp_ll (β k) := by
              unfold sp_chr
              rw [if_pos ⟨by omega, z⟩]
            rw [hch, if_neg q'] at hQ
            refine aw_zne rfl (fun _ => ?_) (fun w => absurd (by decide) w)
            refine aw_run 6 (F' := (17, [some (.ref a), some (.int (nI s)), some (.int (nI e)), some (.int (nI k + nI (sp_ll (β k)))), some (.int (nI j + 1)), some (.int (nI (sp_ll (β k))))], [])) rfl ?_
            rw [nI_add, nI_1]
            exact ih _ _ _ (by omega) (by omega) (by omega) hQ
          · refine aw_zne rfl (fun w => absurd rfl w) (fun _ => ?_)
            refine no ?_
            unfold sp_chr
            rw [if_neg (fun w => z w.2)]
/-- Utf8.isRight -/
theorem c_isRight {a N s e : Nat} {β : Nat → Nat} (hb : byf σ.1 a N β) (hs : s ≤ N) (he : e ≤ N) (hQ : Q (some (.int (if sp_tx β (e - s) s e then 1 else 0))) σ) : AW g (d + 1) 16 (0, [some (.ref a), some (.int (nI s)), some (.int (nI e)), none, none, none], []) σ Q := by
  have hb' := hb
  obtain ⟨n1, f, ha, hf⟩ := hb'
  refine aw_run 1 (F' := (1, [some (.ref a), some (.int (nI s)), some (.int (nI e)), none, none, none], [.int (nI s)])) rfl ?_
  refine aw_zlt rfl (fun q => absurd q (nI_pos (by omega))) (fun _ => ?_)
  refine aw_run 2 (F' := (6, [some (.ref a), some (.int (nI s)), some (.int (nI e)), none, none, none], [.ref a, .int (nI e)])) rfl ?_
  refine aw_len rfl ha (by decide) ?_
  refine aw_cle rfl (fun _ => ?_) (fun q => absurd ((nI_leI (by omega) (by omega)).mpr he) q)
  refine aw_run 4 (F' := (17, [some (.ref a), some (.int (nI s)), some (.int (nI e)), some (.int (nI s)), some (.int (nI s)), none], [])) rfl ?_
  refine c_utfL hb he (e - s + 1) s s none (by omega) (Nat.le_refl _) hs ?_
  rw [sp_tx_fuel β (e - s + 1) (e - s) s e (by omega) (by omega)]
  exact hQ
end P25
