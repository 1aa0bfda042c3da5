section P88
variable {g : Nat × Nat} {d : Nat} {σ0 σ : am_H} {Q : Option Value → am_H → Prop} {m : Nat} {μ : sp_M}
/-- addLeaf: the items -/
theorem m_alL {β : Nat → Nat} {lo wd base e p kd it : Nat} {row : Bool} (hb : base ≤ 500) (he : e ≤ lo + wd) (hlo : lo + wd ≤ 14000) : ∀ (F : sp_F) (i k : Nat) (L : List sp_V) (σ : am_H) (μ : sp_M), MS g m σ0 σ μ → μ 1 = β → lyF β F row i k e → lo ≤ k → sp_hgt F ≤ 17 → lfs μ β lo wd base L → L.length + sp_len F < 10000 → (∀ σ' μ', MS g m σ0 σ' μ' → ffr base μ μ' → (∀ f, 13 ≤ f → μ' f = μ f) → lfs μ' β lo wd base (L ++ sp_toL F) → Q none σ') → AW g (d + 3) 86 (34, [some (.ref m), some (.int (nI base)), some (.int (nI kd)), some (.int (nI p)), some (.int (nI it)), some (.int (nI e)), some (.int (nI k))], []) σ Q := by
  intro F
  induction F with
  | leaf =>
    intro i k L σ μ hM hβ hl hlk hh hL hll hQ
    have hl' : k = e := hl
    subst hl'
    have hq := hQ σ μ hM ffr.rf (fun _ _ => rfl) (by rw [show L ++ sp_toL .leaf = L from List.append_nil _]; exact hL)
    refine aw_run 2 (F' := (38, [some (.ref m), some (.int (nI base)), some (.int (nI kd)), some (.int (nI p)), some (.int (nI it)), some (.int (nI k)), some (.int (nI k))], [.int (nI k), .int (nI k)])) rfl ?_
    refine an_cge rfl (by omega) (by omega) (fun h1 => ?_) (fun h1 => ?_)
    · exact aw_vret rfl rfl (hq)
    · omega
  | inner sz b u c r ih1 ih2 =>
    intro i k L σ μ hM hβ hl hlk hh hL hll hQ
    subst hβ
    obtain ⟨s', q, z1, z2, z3, z4, z5, z6, z7, z8⟩ := hl
    have y1 := z1.1
    have y2 := z6.le
    have y3 := z6.bh
    have y4 : b.1 = 2 ∨ b.1 = 3 ∨ b.1 = 4 → s' + 1 + 3 < 14000 := by
      unfold ly1 at z6
      omega
    have hkd := z6.kd
    obtain ⟨hg1, hg2⟩ := hgt_in sz b u c r
    have hll' : L.length + (sp_len r + 1) < 10000 := hll
    refine aw_run 2 (F' := (38, [some (.ref m), some (.int (nI base)), some (.int (nI kd)), some (.int (nI p)), some (.int (nI it)), some (.int (nI e)), some (.int (nI k))], [.int (nI e), .int (nI k)])) rfl ?_
    refine an_cge rfl (by omega) (by omega) (fun h1 => ?_) (fun h1 => ?_)
    · omega
    · refine aw_run 4 (F' := (46, [some (.ref m), some (.int (nI base)), some (.int (nI kd)), some (.int (nI p)), some (.int (nI it)), some (.int (nI e)), some (.int (nI k))], [.int (nI k), .ref m, .int (nI base), .ref m])) rfl ?_
      refine aw_v [.ref m, .int (nI k)] [.int (nI base), .ref m] rfl (by decide) rfl hM.o rfl rfl (Nat.le_of_ble_eq_true rfl) (Nat.le_of_ble_eq_true rfl) ?_
      have hB1 := hM.by (i := k) (by omega)
      rw [show μ 1 k = b.1 from z3] at hB1
      refine m_at hM (by omega) ?_
      rw [show μ 1 k = b.1 from z3]
      show AW g _ 86 (49, [some (.ref m), some (.int (nI base)), some (.int (nI kd)), some (.int (nI p)), some (.int (nI it)), some (.int (nI e)), some (.int (nI k))], [.int (nI b.1), .int (nI base), .ref m]) σ _
      refine aw_run 4 (F' := (54, [some (.ref m), some (.int (nI base)), some (.int (nI kd)), some (.int (nI p)), some (.int (nI it)), some (.int (nI e)), some (.int (nI k))], [.int (nI k + nI 1), .ref m, .int (nI b.1), .int (nI base), .ref m])) rfl ?_
      rw [nI_add]
      refine aw_run 1 (F' := (56, [some (.ref m), some (.int (nI base)), some (.int (nI kd)), some (.int (nI p)), some (.int (nI it)), some (.int (nI e)), some (.int (nI k))], [.int (nI e), .int (nI (k + 1)), .ref m, .int (nI b.1), .int (nI base), .ref m])) rfl ?_
      refine aw_v [.ref m, .int (nI (k + 1)), .int (nI e)] [.int (nI b.1), .int (nI base), .ref m] rfl (by decide) rfl hM.o rfl rfl (Nat.le_of_ble_eq_true rfl) (Nat.le_of_ble_eq_true rfl) ?_
      refine m_nes hM (by omega) z1 z2 ?_
      show AW g _ 86 (59, [some (.ref m), some (.int (nI base)), some (.int (nI kd)), some (.int (nI p)), some (.int (nI it)), some (.int (nI e)), some (.int (nI k))], [.int (nI s'), .int (nI b.1), .int (nI base), .ref m]) σ _
      refine aw_run 2 (F' := (61, [some (.ref m), some (.int (nI base)), some (.int (nI kd)), some (.int (nI p)), some (.int (nI it)), some (.int (nI e)), some (.int (nI k))], [.int (nI s' + nI 1), .int (nI b.1), .int (nI base), .ref m])) rfl ?_
      rw [nI_add]
      refine aw_v [.ref m, .int (nI base), .int (nI b.1), .int (nI (s' + 1))] [] rfl (by decide) rfl hM.o rfl rfl (Nat.le_of_ble_eq_true rfl) (Nat.le_of_ble_eq_true rfl) ?_
      refine m_leaf hM (v := (b, c)) (p := s' + 1) hb hL (by omega) ⟨by show sp_hgt c ≤ 16; omega, by omega, Or.inr ⟨by omega, q, by omega, z6⟩⟩ rfl (fun s1 μ1 hM1 hf1 hp1 hL1 => ?_)
      have hμ : μ1 1 = μ 1 := hf1.1 1 (by omega)
      have z3' : μ1 1 k = b.1 := by rw [hμ]; exact z3
      have z1' : nmd (μ1 1) (k + 1) s' := by rw [hμ]; exact z1
      show AW g _ 86 (64, [some (.ref m), some (.int (nI base)), some (.int (nI kd)), some (.int (nI p)), some (.int (nI it)), some (.int (nI e)), some (.int (nI k))], []) s1 _
      refine aw_run 3 (F' := (68, [some (.ref m), some (.int (nI base)), some (.int (nI kd)), some (.int (nI p)), some (.int (nI it)), some (.int (nI e)), some (.int (nI k))], [.int (nI k), .ref m, .ref m])) rfl ?_
      refine aw_v [.ref m, .int (nI k)] [.ref m] rfl (by decide) rfl hM1.o rfl rfl (Nat.le_of_ble_eq_true rfl) (Nat.le_of_ble_eq_true rfl) ?_
      have hB2 := hM1.by (i := k) (by omega)
      rw [show μ1 1 k = b.1 from z3'] at hB2
      refine m_at hM1 (by omega) ?_
      rw [show μ1 1 k = b.1 from z3']
      show AW g _ 86 (71, [some (.ref m), some (.int (nI base)), some (.int (nI kd)), some (.int (nI p)), some (.int (nI it)), some (.int (nI e)), some (.int (nI k))], [.int (nI b.1), .ref m]) s1 _
      refine aw_run 4 (F' := (76, [some (.ref m), some (.int (nI base)), some (.int (nI kd)), some (.int (nI p)), some (.int (nI it)), some (.int (nI e)), some (.int (nI k))], [.int (nI k + nI 1), .ref m, .int (nI b.1), .ref m])) rfl ?_
      rw [nI_add]
      refine aw_run 1 (F' := (78, [some (.ref m), some (.int (nI base)), some (.int (nI kd)), some (.int (nI p)), some (.int (nI it)), some (.int (nI e)), some (.int (nI k))], [.int (nI e), .int (nI (k + 1)), .ref m, .int (nI b.1), .ref m])) rfl ?_
      refine aw_v [.ref m, .int (nI (k + 1)), .int (nI e)] [.int (nI b.1), .ref m] rfl (by decide) rfl hM1.o rfl rfl (Nat.le_of_ble_eq_true rfl) (Nat.le_of_ble_eq_true rfl) ?_
      refine m_nes hM1 (by omega) z1' z2 ?_
      show AW g _ 86 (81, [some (.ref m), some (.int (nI base)), some (.int (nI kd)), some (.int (nI p)), some (.int (nI it)), some (.int (nI e)), some (.int (nI k))], [.int (nI s'), .int (nI b.1), .ref m]) s1 _
      refine aw_run 2 (F' := (83, [some (.ref m), some (.int (nI base)), some (.int (nI kd)), some (.int (nI p)), some (.int (nI it)), some (.int (nI e)), some (.int (nI k))], [.int (nI s' + nI 1), .int (nI b.1), .ref m])) rfl ?_
      rw [nI_add]
      refine aw_v [.ref m, .int (nI b.1), .int (nI (s' + 1))] [] rfl (by decide) rfl hM1.o rfl rfl (Nat.le_of_ble_eq_true rfl) (Nat.le_of_ble_eq_true rfl) ?_
      refine m_bhd hM1 (by omega) y4 ?_
      rw [show bhd (μ1 1) b.1 (s' + 1) = q from by rw [hμ]; exact y3]
      show AW g _ 86 (86, [some (.ref m), some (.int (nI base)), some (.int (nI kd)), some (.int (nI p)), some (.int (nI it)), some (.int (nI e)), some (.int (nI k))], [.int (nI q)]) s1 _
      refine aw_run 2 (F' := (34, [some (.ref m), some (.int (nI base)), some (.int (nI kd)), some (.int (nI p)), some (.int (nI it)), some (.int (nI e)), some (.int (nI q))], [])) rfl ?_
      refine ih2 (i + 1) q (L ++ [(b, c)]) s1 μ1 hM1 hμ z8 (by omega) (by omega) hL1 (by simp; omega) (fun σ' μ' hM' hf' hp' hL' => hQ σ' μ' hM' (hf1.tr hf') (fun f hf => (hp' f hf).trans (hp1 f hf)) ?_)
      rw [show L ++ sp_toL (.inner sz b u c r) = L ++ [(b, c)] ++ sp_toL r by simp [sp_toL]]
      exact hL'
/-- addLeaf -/
theorem m_al (hM : MS g m σ0 σ μ) {β : Nat → Nat} {lo wd base p : Nat} {it : Bool} {v : sp_V} {L : List sp_V} (hβ : μ 1 = β) (hb : base ≤ 500) (hlo : lo + wd ≤ 14000) (hv : lvl β v lo wd p) (hL : lfs μ β lo wd base L) (hll : L.length ≤ 500) (hQ : ∀ σ' μ', MS g m σ0 σ' μ' → ffr base μ μ' → (∀ f, 13 ≤ f → μ' f = μ f) → lfs μ' β lo wd base (L ++ v :: sp_its v it) → Q none σ') : AW g (d + 3) 86 (0, [some (.ref m), some (.int (nI base)), some (.int (nI v.1.1)), some (.int (nI p)), some (.int (nI (if it = true then 1 else 0))), none, none], []) σ Q := by
  subst hβ
  have hv' := hv
  obtain ⟨v1, v2, q, v3, v4⟩ := hv'
  have hkd := v4.kd
  have hle := ly1.le v4
  cases it with
  | true =>
    refine aw_run 4 (F' := (4, [some (.ref m), some (.int (nI base)), some (.int (nI v.1.1)), some (.int (nI p)), some (.int (nI 1)), none, none], [.int (nI p), .int (nI v.1.1), .int (nI base), .ref m])) rfl ?_
    refine aw_v [.ref m, .int (nI base), .int (nI v.1.1), .int (nI p)] [] rfl (by decide) rfl hM.o rfl rfl (Nat.le_of_ble_eq_true rfl) (Nat.le_of_ble_eq_true rfl) ?_
    refine m_leaf hM (v := v) (p := p) hb hL (by omega) (hv.d hlo) rfl (fun s1 μ1 hM1 hf1 hp1 hL1 => ?_)
    have hμ : μ1 1 = μ 1 := hf1.1 1 (by omega)
    show AW g _ 86 (7, [some (.ref m), some (.int (nI base)), some (.int (nI v.1.1)), some (.int (nI p)), some (.int (nI 1)), none, none], []) s1 _
    refine aw_run 2 (F' := (9, [some (.ref m), some (.int (nI base)), some (.int (nI v.1.1)), some (.int (nI p)), some (.int (nI 1)), none, none], [.int (nI 4), .int (nI v.1.1)])) rfl ?_
    refine an_cne rfl (by omega) (by omega) (fun h1 => ?_) (fun h1 => ?_)
    · exact aw_vret rfl rfl (hQ s1 μ1 hM1 hf1 hp1 (by rw [show sp_its v true = [] from if_neg (fun z => by first | exact absurd z.2 (by assumption) | exact absurd z.1 (by decide))]; exact hL1))
    · refine aw_run 1 (F' := (14, [some (.ref m), some (.int (nI base)), some (.int (nI v.1.1)), some (.int (nI p)), some (.int (nI 1)), none, none], [.int (nI 1)])) rfl ?_
      refine an_zne rfl (by omega) (fun _ => ?_) (fun z => absurd z (by omega))
      refine aw_run 3 (F' := (21, [some (.ref m), some (.int (nI base)), some (.int (nI v.1.1)), some (.int (nI p)), some (.int (nI 1)), none, none], [.int (nI p), .ref m, .int (nI p)])) rfl ?_
      refine aw_v [.ref m, .int (nI p)] [.int (nI p)] rfl (by decide) rfl hM1.o rfl rfl (Nat.le_of_ble_eq_true rfl) (Nat.le_of_ble_eq_true rfl) ?_
      obtain ⟨-, -, n1, n2, n3⟩ := ly_nst v4 (by omega)
      refine m_whole hM1 (by omega) ?_
      rw [hμ]
      show AW g _ 86 (24, [some (.ref m), some (.int (nI base)), some (.int (nI v.1.1)), some (.int (nI p)), some (.int (nI 1)), none, none], [.int (nI (sp_le (μ 1) p 4)), .int (nI p)]) s1 _
      refine aw_run 1 (F' := (25, [some (.ref m), some (.int (nI base)), some (.int (nI v.1.1)), some (.int (nI p)), some (.int (nI 1)), none, none], [.int (nI p + nI (sp_le (μ 1) p 4))])) rfl ?_
      rw [nI_add]
      refine aw_run 2 (F' := (27, [some (.ref m), some (.int (nI base)), some (.int (nI v.1.1)), some (.int (nI p)), some (.int (nI 1)), none, none], [.int (nI (p + (sp_le (μ 1) p 4)) - nI 1)])) rfl ?_
      rw [nI_sub (by omega)]
      refine aw_run 4 (F' := (32, [some (.ref m), some (.int (nI base)), some (.int (nI v.1.1)), some (.int (nI p)), some (.int (nI 1)), some (.int (nI ((p + (sp_le (μ 1) p 4)) - 1))), none], [.int (nI p + nI 4)])) rfl ?_
      rw [nI_add]
      refine aw_run 1 (F' := (34, [some (.ref m), some (.int (nI base)), some (.int (nI v.1.1)), some (.int (nI p)), some (.int (nI 1)), some (.int (nI ((p + (sp_le (μ 1) p 4)) - 1))), some (.int (nI (p + 4)))], [])) rfl ?_
      rw [show p + sp_le (μ 1) p 4 - 1 = q - 1 by omega]
      have hsl : 2 * sp_len v.2 ≤ 14000 := by
        have z1 := n3.all
        have z2 := sp_len_all v.2
        omega
      refine m_alL (β := μ 1) (lo := lo) hb (by omega) hlo v.2 0 (p + 4) (L ++ [v]) s1 μ1 hM1 hμ n3 (by omega) (by omega) hL1 (by simp; omega) (fun σ' μ' hM' hf' hp' hL' => hQ σ' μ' hM' (hf1.tr hf') (fun f hf => (hp' f hf).trans (hp1 f hf)) ?_)
      rw [show sp_its v true = sp_toL v.2 from if_pos ⟨rfl, by assumption⟩, show L ++ v :: sp_toL v.2 = L ++ [v] ++ sp_toL v.2 by simp]
      exact hL'
  | false =>
    refine aw_run 4 (F' := (4, [some (.ref m), some (.int (nI base)), some (.int (nI v.1.1)), some (.int (nI p)), some (.int (nI 0)), none, none], [.int (nI p), .int (nI v.1.1), .int (nI base), .ref m])) rfl ?_
    refine aw_v [.ref m, .int (nI base), .int (nI v.1.1), .int (nI p)] [] rfl (by decide) rfl hM.o rfl rfl (Nat.le_of_ble_eq_true rfl) (Nat.le_of_ble_eq_true rfl) ?_
    refine m_leaf hM (v := v) (p := p) hb hL (by omega) (hv.d hlo) rfl (fun s1 μ1 hM1 hf1 hp1 hL1 => ?_)
    have hμ : μ1 1 = μ 1 := hf1.1 1 (by omega)
    show AW g _ 86 (7, [some (.ref m), some (.int (nI base)), some (.int (nI v.1.1)), some (.int (nI p)), some (.int (nI 0)), none, none], []) s1 _
    refine aw_run 2 (F' := (9, [some (.ref m), some (.int (nI base)), some (.int (nI v.1.1)), some (.int (nI p)), some (.int (nI 0)), none, none], [.int (nI 4), .int (nI v.1.1)])) rfl ?_
    refine an_cne rfl (by omega) (by omega) (fun h1 => ?_) (fun h1 => ?_)
    · exact aw_vret rfl rfl (hQ s1 μ1 hM1 hf1 hp1 (by rw [show sp_its v false = [] from if_neg (fun z => by first | exact absurd z.2 (by assumption) | exact absurd z.1 (by decide))]; exact hL1))
    · refine aw_run 1 (F' := (14, [some (.ref m), some (.int (nI base)), some (.int (nI v.1.1)), some (.int (nI p)), some (.int (nI 0)), none, none], [.int (nI 0)])) rfl ?_
      refine an_zne rfl (by omega) (fun z => absurd z (by omega)) (fun _ => ?_)
      exact aw_vret rfl rfl (hQ s1 μ1 hM1 hf1 hp1 (by rw [show sp_its v false = [] from if_neg (fun z => by first | exact absurd z.2 (by assumption) | exact absurd z.1 (by decide))]; exact hL1))
end P88
