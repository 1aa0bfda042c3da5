theorem LI.mono {g : Nat × Nat} {B sc Ln c : Nat} {xs : Nat → Int32} {σ : am_H} {S : sp_S} {μ : sp_M} (h : LI g B sc Ln xs c σ S μ) : LI g B sc Ln xs (c + 1) σ S μ := by
  obtain ⟨h1, h2, h3, h4, h5, h6, h7⟩ := h
  exact ⟨h1, h2, h3, h4, h5, by omega, by omega⟩
section P98
variable {g : Nat × Nat} {d : Nat} {Q : Option Value → am_H → Prop} {B sc Ln : Nat} {xs : Nat → Int32}
set_option maxRecDepth 100000 in
theorem law_loop (hL : Ln ≤ 3072) (hQ : ∀ σ' : am_H, σ'.2.1 ≤ B + 600000 → σ'.2.2 ≤ 7302250 → Q (some (.int 1)) σ') : ∀ (r c : Nat) (σ : am_H) (S : sp_S) (μ : sp_M), Ln - 6 * c < r → 6 * c ≤ Ln → LI g B sc Ln xs c σ S μ → AW g (d + 100) 0 (18, [some (.ref sc), some (.ref B), some (.ref (B + 29)), some (.int (nI (6 * c)))], []) σ Q := by
  intro r
  induction r with
  | zero => intro c σ S μ hr; omega
  | succ r ih =>
    intro c σ S μ hr hc hI
    have hI' := hI
    obtain ⟨hC, h2, h3, hs, hsc, r1, r2⟩ := hI'
    have fin : AW g (d + 100) 0 (544, [some (.ref sc), some (.ref B), some (.ref (B + 29)), some (.int (nI (6 * c)))], []) σ Q := by
      refine aw_run 1 (F' := (545, [some (.ref sc), some (.ref B), some (.ref (B + 29)), some (.int (nI (6 * c)))], [.int 1])) rfl ?_
      exact aw_iret rfl ⟨_, rfl, rfl⟩ (hQ σ (by omega) (by omega))
    refine aw_run 2 (F' := (20, [some (.ref sc), some (.ref B), some (.ref (B + 29)), some (.int (nI (6 * c)))], [.ref sc, .int (nI (6 * c))])) rfl ?_
    refine aw_len rfl hs (by decide) ?_
    refine aw_run 2 (F' := (24, [some (.ref sc), some (.ref B), some (.ref (B + 29)), some (.int (nI (6 * c)))], [.int (nI Ln - nI 6), .int (nI (6 * c))])) rfl ?_
    by_cases h6 : 6 ≤ Ln
    · rw [nI_sub h6]
      refine an_cgt rfl (by omega) (by omega) (fun _ => fin) (fun hle => ?_)
      have hc6 : 6 * c + 6 ≤ Ln := by omega
      have tail : ∀ σ' S' μ', LI g B sc Ln xs (c + 1) σ' S' μ' → AW g (d + 100) 0 (538, [some (.ref sc), some (.ref B), some (.ref (B + 29)), some (.int (nI (6 * c)))], []) σ' Q := by
        intro σ' S' μ' hI'
        refine aw_run 1 (F' := (541, [some (.ref sc), some (.ref B), some (.ref (B + 29)), some (.int (nI (6 * c) + nI 6))], [])) rfl ?_
        rw [nI_add, show 6 * c + 6 = 6 * (c + 1) by omega]
        refine aw_run 1 (F' := (18, [some (.ref sc), some (.ref B), some (.ref (B + 29)), some (.int (nI (6 * (c + 1))))], [])) rfl ?_
        exact ih (c + 1) σ' S' μ' (by omega) (by omega) hI'
      refine aw_run 2 (F' := (29, [some (.ref sc), some (.ref B), some (.ref (B + 29)), some (.int (nI (6 * c)))], [.int (nI (6 * c)), .ref sc])) rfl ?_
      refine law_ld hs rfl (by omega) (by omega) ?_
      refine aw_run 2 (F' := (33, [some (.ref sc), some (.ref B), some (.ref (B + 29)), some (.int (nI (6 * c)))], [.int (xs (6 * c) &&& 15)])) rfl ?_
      rw [pk_and (xs (6 * c)) 4 (by decide)]
      have hk : (xs (6 * c)).toBitVec.toNat % 2 ^ 4 < 16 := Nat.mod_lt _ (by decide)
      generalize (xs (6 * c)).toBitVec.toNat % 2 ^ 4 = k at hk
      rcases (by omega : k = 0 ∨ k = 1 ∨ k = 2 ∨ k = 3 ∨ k = 4 ∨ k = 5 ∨ k = 6 ∨ k = 7 ∨ k = 8 ∨ k = 9 ∨ k = 10 ∨ k = 11 ∨ k = 12 ∨ k = 13 ∨ k = 14 ∨ k = 15) with rfl | rfl | rfl | rfl | rfl | rfl | rfl | rfl | rfl | rfl | rfl | rfl | rfl | rfl | rfl | rfl
      · refine aw_tsw 92 rfl (Or.inr ⟨by decide, by decide, 59, rfl, by decide⟩) ?_
        exact law_feed hI hL hc6 tail
      · refine aw_tsw 155 rfl (Or.inr ⟨by decide, by decide, 122, rfl, by decide⟩) ?_
        exact law_read hI hL hc6 tail
      · refine aw_tsw 188 rfl (Or.inr ⟨by decide, by decide, 155, rfl, by decide⟩) ?_
        exact law_path hI hL hc6 tail
      · refine aw_tsw 211 rfl (Or.inr ⟨by decide, by decide, 178, rfl, by decide⟩) ?_
        exact law_compare hI hL hc6 tail
      · refine aw_tsw 244 rfl (Or.inr ⟨by decide, by decide, 211, rfl, by decide⟩) ?_
        exact law_list hI hL hc6 tail
      · refine aw_tsw 303 rfl (Or.inr ⟨by decide, by decide, 270, rfl, by decide⟩) ?_
        exact law_value hI hL hc6 tail
      · refine aw_tsw 347 rfl (Or.inr ⟨by decide, by decide, 314, rfl, by decide⟩) ?_
        exact law_text hI hL hc6 tail
      · refine aw_tsw 390 rfl (Or.inr ⟨by decide, by decide, 357, rfl, by decide⟩) ?_
        exact law_between hI hL hc6 tail
      · refine aw_tsw 423 rfl (Or.inr ⟨by decide, by decide, 390, rfl, by decide⟩) ?_
        exact law_sort hI hL hc6 tail
      · refine aw_tsw 446 rfl (Or.inr ⟨by decide, by decide, 413, rfl, by decide⟩) ?_
        exact law_from hI hL hc6 tail
      · refine aw_tsw 479 rfl (Or.inr ⟨by decide, by decide, 446, rfl, by decide⟩) ?_
        exact law_meet hI hL hc6 tail
      · refine aw_tsw 538 rfl (Or.inl ⟨Or.inr (by decide), by decide⟩) ?_
        exact tail σ S μ hI.mono
      · refine aw_tsw 538 rfl (Or.inl ⟨Or.inr (by decide), by decide⟩) ?_
        exact tail σ S μ hI.mono
      · refine aw_tsw 538 rfl (Or.inl ⟨Or.inr (by decide), by decide⟩) ?_
        exact tail σ S μ hI.mono
      · refine aw_tsw 538 rfl (Or.inl ⟨Or.inr (by decide), by decide⟩) ?_
        exact tail σ S μ hI.mono
      · refine aw_tsw 538 rfl (Or.inl ⟨Or.inr (by decide), by decide⟩) ?_
        exact tail σ S μ hI.mono
    · have hc0 : c = 0 := by omega
      subst hc0
      refine aw_cgt rfl (fun _ => fin) (fun z => absurd ?_ z)
      rcases (by omega : Ln = 0 ∨ Ln = 1 ∨ Ln = 2 ∨ Ln = 3 ∨ Ln = 4 ∨ Ln = 5) with rfl | rfl | rfl | rfl | rfl | rfl <;> decide
end P98
set_option maxRecDepth 100000 in
theorem law_goal {b L : Nat} {xs : Nat → Int32} (hL : L ≤ 3072) : am_goal b L xs := by
  intro B nb hb hnb hne
  refine aw_new rfl ?_
  refine aw_run 1 (F' := (4, [some (.ref b), none, none, none], [.ref B, .ref B])) rfl ?_
  have hw0 : wf (am_h0 b nb L xs, B, 0) := by
    intro a q hq
    show a < B
    simp only [am_h0] at hq
    by_cases e1 : a = b
    · omega
    · rw [if_neg e1] at hq
      by_cases e2 : a = nb
      · omega
      · rw [if_neg e2] at hq
        cases hq
  have h0b : am_h0 b nb L xs b = some (.inl (0, L, .inl xs)) := if_pos rfl
  have h0n : am_h0 b nb L xs nb = some (.inl (1, 0, .inl (fun _ => 0))) := by
    unfold am_h0
    rw [if_neg (fun z => hne z.symm), if_pos rfl]
  refine aw_i [.ref B] [.ref B] rfl (by decide) rfl rfl rfl (Nat.le_of_ble_eq_true rfl) (Nat.le_of_ble_eq_true rfl) ?_
  have hby : bya (am_psh (am_h0 b nb L xs, B, 0) (.inr (0, am_def 0)) (am_nf 0)).1 nb [] := by
    refine ⟨by decide, (fun x hx => by cases hx), fun _ => 0, ?_, (fun i hi => by cases hi)⟩
    rw [am_psh_ne _ _ _ (show nb ≠ B by omega)]
    exact h0n
  refine c_init (g := (B, nb)) (b := B) (Nat.le_refl _) hnb hby (am_psh_same _ _ _) rfl hw0.psh (fun σ2 e2 hC2 n2 s2 => ?_)
  refine aw_run 1 (F' := (8, [some (.ref b), some (.ref B), none, none], [])) rfl ?_
  refine aw_new rfl ?_
  rw [n2]
  refine aw_run 1 (F' := (12, [some (.ref b), some (.ref B), none, none], [.ref (B + 29), .ref (B + 29)])) rfl ?_
  refine aw_i [.ref (B + 29)] [.ref (B + 29)] rfl (by decide) rfl rfl rfl (Nat.le_of_ble_eq_true rfl) (Nat.le_of_ble_eq_true rfl) ?_
  have ho : (am_psh σ2 (.inr (6, am_def 6)) (am_nf 6)).1 (B + 29) = some (.inr (6, am_def 6)) := by
    rw [← n2]
    exact am_psh_same _ _ _
  refine m_init (g := (B, nb)) (m := B + 29) (by show B ≤ B + 29; omega) ho (by show σ2.2.1 + 1 = _; omega) hC2.w.psh (fun σ4 σ5 e5 n5 s5 hM => ?_)
  have hfr := hM.2.2.1
  have h24 := hM.2.2.2.1
  have hold : ∀ a, a < B + 29 → σ4.1 a = σ2.1 a := by
    intro a ha
    rw [hfr a (Or.inl ha), e5 a ha, am_psh_ne _ _ _ (by omega)]
  have hsc : σ4.1 b = some (.inl (0, L, .inl xs)) := by
    rw [hold b (by omega), e2 b hb, am_psh_ne _ _ _ (show b ≠ B by omega)]
    exact h0b
  have s2' : σ2.2.2 = 8 + 10070 := s2
  have s5' : σ5.2.2 = σ2.2.2 + 24 + 30142 := s5
  have hC4 : CS (B, nb) B 48 σ4 sp_S0 := cs_re hC2 n2 hold (by omega) (by rw [h24]; omega) hM.2.1
  refine aw_run 3 (F' := (18, [some (.ref b), some (.ref B), some (.ref (B + 29)), some (.int (nI (6 * 0)))], [])) rfl ?_
  refine law_loop (d := 100) hL (fun σ' h1 h2 => ⟨rfl, h1, h2⟩) (L + 1) 0 σ4 sp_S0 mu0 (by omega) (by omega) ⟨hC4, hM.self, RS_0, hsc, hb, ?_, ?_⟩
  · rw [h24, n5]
    show B + 29 + 19 + 2 * 0 ≤ _
    omega
  · rw [h24, s5', s2']
    show 8 + 10070 + 24 + 30142 + 10 * 0 ≤ _
    omega
