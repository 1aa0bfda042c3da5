theorem vc_nst {β : Nat → Nat} {v w : sp_V} {a b qa qb : Nat} (r : Bool) (hv : lyV β v a qa) (hw : lyV β w b qb) (k1 : v.1.1 = (if r = true then 4 else 3)) (k2 : w.1.1 = (if r = true then 4 else 3)) : sp_vc v w = sp_fc v.2 w.2 := by
  have kv : v.1.1 = 3 ∨ v.1.1 = 4 := by rw [k1]; cases r <;> simp
  have kw : w.1.1 = 3 ∨ w.1.1 = 4 := by rw [k2]; cases r <;> simp
  obtain ⟨v1, v2, -⟩ := ly_nst hv kv
  obtain ⟨w1, w2, -⟩ := ly_nst hw kw
  unfold sp_vc
  rw [v1, v2, w1, w2, k1, k2, show sp_ic 0 0 = 0 from by decide, show sp_bc [] [] = 0 from rfl, sp_or_0, sp_or_0]
  have : sp_nc (sp_cls (if r = true then 4 else 3)) (sp_cls (if r = true then 4 else 3)) = 0 := by
    unfold sp_nc
    rw [if_neg (by omega), if_pos rfl]
  rw [this, sp_or_0]
theorem dec_row (r : Bool) {k : Nat} (h : k = (if r = true then 4 else 3)) : decide (k = 4) = r := by
  rw [h]
  cases r <;> rfl
section P82
variable {g : Nat × Nat} {d : Nat} {σ0 σ : am_H} {Q : Option Value → am_H → Prop} {m : Nat} {μ : sp_M}
variable {kA a kB b : Nat}
theorem m_ordL {β : Nat → Nat} {μ0 : sp_M} : ∀ (n : Nat) (σ : am_H) (μ : sp_M) (fs : List (sp_F × sp_F)) (x6 x7 x8 x9 x10 x11 x12 x13 x14 : Option Value), MS g m σ0 σ μ → μ 1 = β → ag mKS μ0 μ → μ 17 0 = fs.length → ofs μ β fs → omes fs < n → (∀ σ' μ', MS g m σ0 σ' μ' → ag mKS μ0 μ' → Q (some (.int (ores fs))) σ') → AW g (d + 4) 78 (16, [some (.ref m), some (.int (nI kA)), some (.int (nI a)), some (.int (nI kB)), some (.int (nI b)), some (.int (nI 0)), x6, x7, x8, x9, x10, x11, x12, x13, x14], []) σ Q := by
  intro n
  induction n with
  | zero => intro σ μ fs x6 x7 x8 x9 x10 x11 x12 x13 x14 _ _ _ _ _ hn; omega
  | succ n ih =>
    intro σ μ fs x6 x7 x8 x9 x10 x11 x12 x13 x14 hM hβ hag h17 hofs hn hQ
    cases fs with
    | nil => exact m_ord0 hM h17 (hQ σ μ hM hag)
    | cons x fs =>
      obtain ⟨F, G⟩ := x
      obtain ⟨⟨row, i, hF, hG, hr, hA, hB, hh⟩, hfs⟩ := hofs
      subst hβ
      have h17' : μ 17 0 = fs.length + 1 := h17
      have hh' : sp_hgt F + fs.length ≤ 16 := hh
      cases F with
      | leaf =>
        cases G with
        | leaf =>
          refine m_ordLL hM h17' (by omega) rfl rfl rfl rfl hA hB hF hG (fun σ' hM' y6 y7 y8 y9 y10 y11 y12 y13 y14 => ?_)
          refine ih σ' _ fs _ _ _ _ _ _ _ _ _ hM' rfl (ag.up hag (by decide)) (mup_s _ _ _ _) (ofs.kept (t := fs.length) (fun k h1 h2 j hj => by rw [mup_k _ _ _ (by omega)]) (Nat.le_refl _) hfs) ?_ (fun σ2 μ2 hM2 hag2 => ?_)
          · simp only [omes, sp_all] at hn
            omega
          · have := hQ σ2 μ2 hM2 hag2
            simpa [ores, sp_fc, sp_or_0] using this
        | inner sz b' u c r =>
          obtain ⟨s, q, z1, z2, -⟩ := hG
          have z0 := z1.1
          refine m_ordLI hM h17' (by omega) rfl rfl rfl rfl hA hB hF (by omega) (fun σ' hM' y6 y7 y8 y9 y10 y11 y12 y13 y14 => ?_)
          refine m_ordE (by decide) ?_
          have := hQ σ' _ hM' (ag.up hag (by decide))
          have e : ores ((.leaf, .inner sz b' u c r) :: fs) = -1 := sp_or_n (a := -1) (by decide) _
          rw [e] at this
          exact this
      | inner sz b1 u c r =>
        cases G with
        | leaf =>
          obtain ⟨s, q, z1, z2, -⟩ := hF
          have z0 := z1.1
          refine m_ordIL hM h17' (by omega) rfl rfl rfl rfl hA hB (by omega) hG (fun σ' hM' y6 y7 y8 y9 y10 y11 y12 y13 y14 => ?_)
          refine m_ordE (gt := nI 1) (by decide) ?_
          have := hQ σ' _ hM' (ag.up hag (by decide))
          have e : ores ((.inner sz b1 u c r, .leaf) :: fs) = 1 := sp_or_n (a := 1) (by decide) _
          rw [e] at this
          exact this
        | inner sz' b2 u' c' r' =>
          obtain ⟨sA, qA, a1, a2, a3, a4, a5, a6, a7, a8⟩ := hF
          obtain ⟨sB, qB, e1, e2, e3, e4, e5, e6, e7, e8⟩ := hG
          have a0 := a1.1
          have e0 := e1.1
          have a9 := ly1.le a6
          have e9 := ly1.le e6
          obtain ⟨hg1, hg2⟩ := hgt_in sz b1 u c r
          have hn' : 2 * (1 + sp_all c + sp_all r) + 1 + omes fs < n + 1 := hn
          have hbc : sp_bc b1.2.1 b2.2.1 = sp_bc (sp_sub (μ 1) (μ 18 fs.length + 1) sA) (sp_sub (μ 1) (μ 20 fs.length + 1) sB) := by rw [a4, e4]
          have hO : ∀ fs', ores ((.inner sz b1 u c r, .inner sz' b2 u' c' r') :: fs') = sp_or (sp_or (sp_nc (sp_cls b1.1) (sp_cls b2.1)) (sp_bc (sp_sub (μ 1) (μ 18 fs.length + 1) sA) (sp_sub (μ 1) (μ 20 fs.length + 1) sB))) (sp_or (sp_vc (b1, c) (b2, c')) (ores ((r, r') :: fs'))) := by
            intro fs'
            show sp_or (sp_fc (.inner sz b1 u c r) (.inner sz' b2 u' c' r')) (ores fs') = _
            rw [fc_st, hbc, sp_or_as (sp_or _ _), sp_or_as (sp_vc _ _)]
            rfl
          rw [hO] at hQ
          clear hO
          refine m_ordS (v := (b1, c)) (w := (b2, c')) hM h17' (by omega) rfl rfl rfl rfl hA hB a1 a2 a3 a6 a7 e1 e2 e3 e6 e7 hr (fun hr1 => by rw [← hbc, a5 hr1, e5 hr1, sp_bc_self]) (fun y13 y14 => ?_)
          generalize hgt : sp_or (sp_nc (sp_cls b1.1) (sp_cls b2.1)) (sp_bc (sp_sub (μ 1) (μ 18 fs.length + 1) sA) (sp_sub (μ 1) (μ 20 fs.length + 1) sB)) = gt at hQ ⊢
          have hk1 : ofs (mup (mup μ 18 fs.length qA) 20 fs.length qB) (μ 1) ((r, r') :: fs) := by
            refine ⟨⟨row, i + 1, ?_, ?_, ?_, ?_, ?_, ?_⟩, ofs.kept (t := fs.length) (fun k h1 h2 j hj => ?_) (Nat.le_refl _) hfs⟩
            · rw [mup_k _ _ _ (by decide), mup_s, mup_k _ _ _ (by decide), mup_k _ _ _ (by decide)]
              exact a8
            · rw [mup_s, mup_k _ _ _ (by decide), mup_k _ _ _ (by decide)]
              exact e8
            · rw [mup_k _ _ _ (by decide), mup_k _ _ _ (by decide)]
              exact hr
            · rw [mup_k _ _ _ (by decide), mup_k _ _ _ (by decide)]
              exact hA
            · rw [mup_k _ _ _ (by decide), mup_k _ _ _ (by decide)]
              exact hB
            · show sp_hgt r + fs.length ≤ 16
              omega
            · have hj2 : j ≠ fs.length := by omega
              simp [mup, hj2]
          have hag1 : ag mKS μ0 (mup (mup μ 18 fs.length qA) 20 fs.length qB) := ag.up (ag.up hag (by decide)) (by decide)
          refine m_ordT (v := (b1, c)) (w := (b2, c')) hM h17' (by omega) rfl rfl rfl rfl hA hB a1 a2 a3 a6 a7 e1 e2 e3 e6 e7 (fun hne σ' hM' y6 y7 y8 y9 y10 y11 y12 y13 y14 => ?_) (fun h0 σ' hM' y6 y7 y8 y9 y10 y11 y12 y13 y14 => ?_) (fun h0 rr k1 k2 σ' hM' y6 y7 y8 y9 y10 y11 y12 y13 y14 => ?_)
          · refine m_ordE hne ?_
            have := hQ σ' _ hM' hag1
            rw [sp_or_n hne] at this
            exact this
          · rw [h0, sp_or_0] at hQ
            by_cases hv0 : sp_vc (b1, c) (b2, c') = 0
            · rw [hv0, sp_or_0] at hQ
              rw [hv0]
              refine ih σ' _ ((r, r') :: fs) _ _ _ _ _ _ _ _ _ hM' rfl hag1 h17' hk1 ?_ hQ
              show 2 * sp_all r + 1 + omes fs < n
              omega
            · refine m_ordE hv0 ?_
              have := hQ σ' _ hM' hag1
              rw [sp_or_n hv0] at this
              exact this
          · rw [h0, sp_or_0, vc_nst (β := μ 1) (v := (b1, c)) (w := (b2, c')) (a := sA + 1) (b := sB + 1) (qa := qA) (qb := qB) rr a6 e6 k1 k2] at hQ
            have kk1 : b1.1 = (if rr = true then 4 else 3) := k1
            have kk2 : b2.1 = (if rr = true then 4 else 3) := k2
            obtain ⟨-, -, n1, n2, n3⟩ := ly_nst (v := (b1, c)) a6 (by show b1.1 = 3 ∨ b1.1 = 4; rw [kk1]; cases rr <;> simp)
            obtain ⟨-, -, n4, n5, n6⟩ := ly_nst (v := (b2, c')) e6 (by show b2.1 = 3 ∨ b2.1 = 4; rw [kk2]; cases rr <;> simp)
            have n3' : lyF (μ 1) c rr 0 (sA + 1 + 4) (qA - 1) := by rw [← dec_row rr kk1]; exact n3
            have n6' : lyF (μ 1) c' rr 0 (sB + 1 + 4) (qB - 1) := by rw [← dec_row rr kk2]; exact n6
            generalize hμ1 : mup (mup μ 18 fs.length qA) 20 fs.length qB = μ1 at hM' hk1 hag1
            have m17 : μ1 17 0 = fs.length + 1 := by rw [← hμ1]; exact h17'
            have m1 : μ1 1 = μ 1 := by rw [← hμ1]; rfl
            clear hμ1
            generalize hμ2 : mps μ1 (sA + 1) (sp_le (μ 1) (sA + 1) 4) (sB + 1) (sp_le (μ 1) (sB + 1) 4) (if rr = true then 1 else 0) = μ2 at hM'
            have hag2 : ag mKS μ0 μ2 := by
              rw [← hμ2]
              exact ag.up (ag.up (ag.up (ag.up (ag.up (ag.up hag1 (by decide)) (by decide)) (by decide)) (by decide)) (by decide)) (by decide)
            have w1 : μ2 17 0 = fs.length + 1 + 1 := by rw [← hμ2]; simp [mps, mup, m17]
            have w2 : μ2 18 (fs.length + 1) = sA + 1 + 4 := by rw [← hμ2]; simp [mps, mup, m17]
            have w3 : μ2 19 (fs.length + 1) = qA - 1 := by rw [← hμ2]; simp [mps, mup, m17]; omega
            have w4 : μ2 20 (fs.length + 1) = sB + 1 + 4 := by rw [← hμ2]; simp [mps, mup, m17]
            have w5 : μ2 21 (fs.length + 1) = qB - 1 := by rw [← hμ2]; simp [mps, mup, m17]; omega
            have w6 : μ2 22 (fs.length + 1) = (if rr = true then 1 else 0) := by rw [← hμ2]; simp [mps, mup, m17]
            have w7 : μ2 1 = μ 1 := by rw [← hμ2, ← m1]; rfl
            have w8 : ∀ k, 18 ≤ k → k ≤ 22 → ∀ j, j < fs.length + 1 → μ2 k j = μ1 k j := by
              intro k h1 h2 j hj
              have hj2 : j ≠ fs.length + 1 := by omega
              have hk17 : k ≠ 17 := by omega
              rw [← hμ2]
              simp [mps, mup, m17, hj2, hk17]
            clear hμ2
            refine ih σ' μ2 ((c, c') :: (r, r') :: fs) _ _ _ _ _ _ _ _ _ hM' w7 hag2 w1 ⟨⟨rr, 0, ?_, ?_, w6, ?_, ?_, ?_⟩, ofs.kept (t := fs.length + 1) w8 (Nat.le_refl _) hk1⟩ ?_ hQ
            · show lyF (μ 1) c rr 0 (μ2 18 (fs.length + 1)) (μ2 19 (fs.length + 1))
              rw [w2, w3]
              exact n3'
            · show lyF (μ 1) c' rr 0 (μ2 20 (fs.length + 1)) (μ2 21 (fs.length + 1))
              rw [w4, w5]
              exact n6'
            · show μ2 19 (fs.length + 1) ≤ 14000
              omega
            · show μ2 21 (fs.length + 1) ≤ 14000
              omega
            · show sp_hgt c + (fs.length + 1) ≤ 16
              omega
            · show 2 * sp_all c + 1 + (2 * sp_all r + 1 + omes fs) < n
              omega
/-- order -/
theorem m_order (hM : MS g m σ0 σ μ) {v w : sp_V} {a b : Nat} (hv : vat (μ 1) v a) (hw : vat (μ 1) w b) (ha : a ≤ 14000) (hb : b ≤ 14000) (hh : sp_hgt v.2 ≤ 16) (hQ : ∀ σ' μ', MS g m σ0 σ' μ' → ag mKS μ μ' → Q (some (.int (sp_vc v w))) σ') : AW g (d + 4) 78 (0, [some (.ref m), some (.int (nI v.1.1)), some (.int (nI a)), some (.int (nI w.1.1)), some (.int (nI b)), none, none, none, none, none, none, none, none, none, none], []) σ Q := by
  refine aw_run 2 (F' := (2, [some (.ref m), some (.int (nI v.1.1)), some (.int (nI a)), some (.int (nI w.1.1)), some (.int (nI b)), none, none, none, none, none, none, none, none, none, none], [.int (nI 0), .ref m])) rfl ?_
  refine ms_put hM rfl (by decide) (fun s1 hM1 => ?_)
  refine aw_run 5 (F' := (11, [some (.ref m), some (.int (nI v.1.1)), some (.int (nI a)), some (.int (nI w.1.1)), some (.int (nI b)), none, none, none, none, none, none, none, none, none, none], [.int (nI b), .int (nI w.1.1), .int (nI a), .int (nI v.1.1), .ref m])) rfl ?_
  refine aw_v [.ref m, .int (nI v.1.1), .int (nI a), .int (nI w.1.1), .int (nI b)] [] rfl (by decide) rfl hM1.o rfl rfl (Nat.le_of_ble_eq_true rfl) (Nat.le_of_ble_eq_true rfl) ?_
  refine m_one hM1 (v := v) (w := w) hv hw ha hb (show (0 : Nat) < 20 by decide) ?_ (fun r k1 k2 s2 hM2 => ?_)
  · skip
    show AW g _ 78 (14, [some (.ref m), some (.int (nI v.1.1)), some (.int (nI a)), some (.int (nI w.1.1)), some (.int (nI b)), none, none, none, none, none, none, none, none, none, none], [.int (sp_vc v w)]) s1 _
    refine aw_run 1 (F' := (16, [some (.ref m), some (.int (nI v.1.1)), some (.int (nI a)), some (.int (nI w.1.1)), some (.int (nI b)), some (.int (sp_vc v w)), none, none, none, none, none, none, none, none, none], [])) rfl ?_
    by_cases hv0 : sp_vc v w = 0
    · rw [hv0] at hQ ⊢
      exact m_ordL (β := μ 1) (μ0 := μ) 1 s1 _ [] _ _ _ _ _ _ _ _ _ hM1 rfl (ag.up ag.rf (by decide)) rfl trivial (by decide) hQ
    · exact m_ordE hv0 (hQ _ _ hM1 (ag.up ag.rf (by decide)))
  · skip
    show AW g _ 78 (14, [some (.ref m), some (.int (nI v.1.1)), some (.int (nI a)), some (.int (nI w.1.1)), some (.int (nI b)), none, none, none, none, none, none, none, none, none, none], [.int (nI 0)]) s2 _
    refine aw_run 1 (F' := (16, [some (.ref m), some (.int (nI v.1.1)), some (.int (nI a)), some (.int (nI w.1.1)), some (.int (nI b)), some (.int (nI 0)), none, none, none, none, none, none, none, none, none], [])) rfl ?_
    have kv3 : v.1.1 = 3 ∨ v.1.1 = 4 := by rw [k1]; cases r <;> simp
    have kw3 : w.1.1 = 3 ∨ w.1.1 = 4 := by rw [k2]; cases r <;> simp
    obtain ⟨qa, qa2, la⟩ : ∃ q, q ≤ 14000 ∧ lyV (μ 1) v a q := by
      rcases hv with z | z
      · rw [z] at kv3; rcases kv3 with z2 | z2 <;> cases z2
      · exact z
    obtain ⟨qb, qb2, lb⟩ : ∃ q, q ≤ 14000 ∧ lyV (μ 1) w b q := by
      rcases hw with z | z
      · rw [z] at kw3; rcases kw3 with z2 | z2 <;> cases z2
      · exact z
    rw [vc_nst r la lb k1 k2] at hQ
    obtain ⟨-, -, n1, n2, n3⟩ := ly_nst la kv3
    obtain ⟨-, -, n4, n5, n6⟩ := ly_nst lb kw3
    have n3' : lyF (μ 1) v.2 r 0 (a + 4) (qa - 1) := by rw [← dec_row r k1]; exact n3
    have n6' : lyF (μ 1) w.2 r 0 (b + 4) (qb - 1) := by rw [← dec_row r k2]; exact n6
    have hM2' : MS g m σ0 s2 (mps (mup μ 17 0 0) a (sp_le (μ 1) a 4) b (sp_le (μ 1) b 4) (if r = true then 1 else 0)) := hM2
    generalize hμ2 : mps (mup μ 17 0 0) a (sp_le (μ 1) a 4) b (sp_le (μ 1) b 4) (if r = true then 1 else 0) = μ2 at hM2'
    have hag2 : ag mKS μ μ2 := by
      rw [← hμ2]
      exact ag.up (ag.up (ag.up (ag.up (ag.up (ag.up (ag.up ag.rf (by decide)) (by decide)) (by decide)) (by decide)) (by decide)) (by decide)) (by decide)
    have w1 : μ2 17 0 = 1 := by rw [← hμ2]; simp [mps, mup]
    have w2 : μ2 18 0 = a + 4 := by rw [← hμ2]; simp [mps, mup]
    have w3 : μ2 19 0 = qa - 1 := by rw [← hμ2]; simp [mps, mup]; omega
    have w4 : μ2 20 0 = b + 4 := by rw [← hμ2]; simp [mps, mup]
    have w5 : μ2 21 0 = qb - 1 := by rw [← hμ2]; simp [mps, mup]; omega
    have w6 : μ2 22 0 = (if r = true then 1 else 0) := by rw [← hμ2]; simp [mps, mup]
    clear hμ2
    refine m_ordL (β := μ 1) (μ0 := μ) (omes [(v.2, w.2)] + 1) s2 μ2 [(v.2, w.2)] _ _ _ _ _ _ _ _ _ hM2' (hag2 1 (by decide)) hag2 w1 ⟨⟨r, 0, ?_, ?_, w6, ?_, ?_, hh⟩, trivial⟩ (Nat.lt_succ_self _) (fun σ' μ' hM' hag' => ?_)
    · show lyF (μ 1) v.2 r 0 (μ2 18 0) (μ2 19 0)
      rw [w2, w3]
      exact n3'
    · show lyF (μ 1) w.2 r 0 (μ2 20 0) (μ2 21 0)
      rw [w4, w5]
      exact n6'
    · show μ2 19 0 ≤ 14000
      omega
    · show μ2 21 0 ≤ 14000
      omega
    · have := hQ σ' μ' hM' hag'
      rw [show ores [(v.2, w.2)] = sp_fc v.2 w.2 from sp_or_r _]
      exact this
end P82
