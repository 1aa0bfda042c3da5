/-! the law's loop -/
theorem MS.self {g : Nat × Nat} {m : Nat} {σ0 σ : am_H} {μ : sp_M} (h : MS g m σ0 σ μ) : MS g m σ σ μ := ⟨h.1, h.2.1, fun _ _ => rfl, rfl, h.2.2.2.2.1, h.2.2.2.2.2⟩
theorem MS.mv {g : Nat × Nat} {m : Nat} {σ0 σ σ' : am_H} {μ : sp_M} (h : MS g m σ0 σ μ) (hw : wf σ') (e : ∀ a, m ≤ a → a < m + 19 → σ'.1 a = σ.1 a) : MS g m σ' σ' μ := by
  obtain ⟨h1, h2, h3, h4, h5, h6⟩ := h
  refine ⟨h1, hw, fun _ _ => rfl, rfl, (e m (by omega) (by omega)).trans h5, fun q hq => ?_⟩
  obtain ⟨f, k1, k2⟩ := h6 q hq
  have hb := mtb_ok q hq
  exact ⟨f, (e _ (by omega) (by omega)).trans k1, k2⟩
theorem CS.mv {g : Nat × Nat} {b : Nat} {σ σ' : am_H} {S : sp_S} (hC : CS g b 48 σ S) (hw : wf σ') (h1 : ∀ a, a < b + 29 ∨ b + 48 ≤ a → σ'.1 a = σ.1 a) (h2 : σ'.2 = σ.2) : CS g b 48 σ' S := by
  obtain ⟨c1, c2, c3, c4, c5, c6, c7, c8, ⟨st, c9, c10⟩, ⟨fs, c11, c12⟩, ⟨fl, c13, c14⟩, c15, ⟨X2, c16⟩, ⟨X3, c17⟩, c18⟩ := hC
  have hz : ∀ a, Zc g b 48 σ.2.1 a → σ'.1 a = σ.1 a := by
    intro a ha
    unfold Zc at ha
    exact h1 a (by omega)
  have hm : ∀ a, Zc g b 48 σ.2.1 a → Zc g b 48 σ'.2.1 a := by
    intro a ha
    rw [h2]
    exact ha
  refine ⟨c1, c2, c3, by rw [h2]; exact c4, hw, c6.kept (h1 _ (by omega)), c7, c8.kept (h1 _ (by omega)), ⟨st, (h1 _ (by omega)).trans c9, c10.kept hz hm⟩, ⟨fs, (h1 _ (by omega)).trans c11, fun j hj => ?_⟩, ⟨fl, (h1 _ (by omega)).trans c13, c14⟩, fun j hj => (c15 j hj).kept hz (fun a q1 q2 => h1 a (by omega)) hm, ⟨X2, c16.kept hz (fun a q1 q2 => h1 a (by omega)) hm⟩, ⟨X3, c17.kept hz (fun a q1 q2 => h1 a (by omega)) hm⟩, c18.kept hz hm⟩
  obtain ⟨k1, a, k2, k3⟩ := c12 j hj
  exact ⟨k1, a, k2, k3.kept hz hm⟩
theorem CS.cell {g : Nat × Nat} {b R : Nat} {σ : am_H} {S : sp_S} (hC : CS g b R σ S) : ∃ fs, σ.1 b = some (.inr (0, fs)) := by
  obtain ⟨c1, c2, c3, c4, c5, c6, c7, c8, ⟨st, c9, c10⟩, -⟩ := hC
  exact ⟨_, c9⟩
theorem CS.w {g : Nat × Nat} {b R : Nat} {σ : am_H} {S : sp_S} (hC : CS g b R σ S) : wf σ := hC.2.2.2.2.1
theorem CS.fed {g : Nat × Nat} {b R : Nat} {σ : am_H} {S : sp_S} (hC : CS g b R σ S) : S.2.1 ≤ 2000 := hC.2.2.2.2.2.2.1
/-- what holds at the head of the law's loop, behind c calls -/
def LI (g : Nat × Nat) (B sc Ln : Nat) (xs : Nat → Int32) (c : Nat) (σ : am_H) (S : sp_S) (μ : sp_M) : Prop := CS g B 48 σ S ∧ MS g (B + 29) σ σ μ ∧ RS S μ ∧ σ.1 sc = some (.inl (0, Ln, .inl xs)) ∧ sc < B ∧ σ.2.1 + 2 * S.2.1 ≤ B + 48 + 60 * c ∧ σ.2.2 + 10 * S.2.1 ≤ 40300 + 300 * c
theorem LI.fin {g : Nat × Nat} {B sc Ln c : Nat} {xs : Nat → Int32} {σ1 σ2 : am_H} {S : sp_S} {μ : sp_M} (hC : CS g B 48 σ1 S) (hM : MS g (B + 29) σ1 σ2 μ) (hR : RS S μ) (hs : σ1.1 sc = some (.inl (0, Ln, .inl xs))) (hsc : sc < B) (r1 : σ1.2.1 + 2 * S.2.1 ≤ B + 48 + 60 * c) (r2 : σ1.2.2 + 10 * S.2.1 ≤ 40300 + 300 * c) : LI g B sc Ln xs c σ2 S μ := by
  have h3 := hM.2.2.1
  have h4 := hM.2.2.2.1
  refine ⟨hC.mv hM.2.1 (fun a ha => h3 a (by omega)) h4, hM.self, hR, (h3 sc (Or.inl (by omega))).trans hs, hsc, by rw [h4]; exact r1, by rw [h4]; exact r2⟩
theorem lg_self (x : Int64) : lg_cmp x x = 0 := by
  unfold lg_cmp
  rw [if_neg (by intro h; exact absurd (Int64.lt_iff_toInt_lt.mp h) (by omega)), if_pos rfl]
theorem feed_fed (S : sp_S) (x1 x2 x3 x4 x5 : Int32) : (sp_feed S x1 x2 x3 x4 x5).1.2.1 ≤ S.2.1 + 20 := by
  unfold sp_feed
  split
  · exact Nat.le_add_right _ _
  · show S.2.1 + 4 + 4 + 4 + 4 + 4 ≤ _
    omega
theorem read_fed (S : sp_S) (x1 x2 : Int32) : (sp_read S x1 x2).1.2.1 ≤ S.2.1 := by
  unfold sp_read
  split
  · split
    · exact Nat.zero_le _
    · exact Nat.zero_le _
  · exact Nat.le_refl _
theorem path_fed (S : sp_S) (x1 : Int32) : (sp_path S x1).1.2.1 ≤ S.2.1 := by
  unfold sp_path
  split
  · exact Nat.le_refl _
  · split
    · exact Nat.zero_le _
    · exact Nat.zero_le _
theorem list_fed (S : sp_S) (x1 x2 : Int32) (it : Bool) : (sp_list S x1 x2 it).1.2.1 = S.2.1 := by
  unfold sp_list
  split
  · split
    · rfl
    · split <;> rfl
  · rfl
theorem sort_fed (S : sp_S) (x1 : Int32) : (sp_sort S x1).1.2.1 = S.2.1 := by
  unfold sp_sort
  split <;> rfl
section P97
variable {g : Nat × Nat} {d : Nat} {σ : am_H} {Q : Option Value → am_H → Prop}
theorem law_ld {pc sc Ln j len b0 b1 : Nat} {v0 : Value} {L : am_L} {st : List Value} {xs : Nat → Int32} (hs : σ.1 sc = some (.inl (0, Ln, .inl xs))) (hr : am_find (am_code 0) pc = some (.iaload, len, v0, b0, b1)) (hj : j < Ln) (hL : Ln ≤ 3072) (h : AW g d 0 (pc + 1, L, .int (xs j) :: st) σ Q) : AW g d 0 (pc, L, .int (nI j) :: .ref sc :: st) σ Q := by
  refine aw_iald hr hs (vp_in_nI hj (by omega)) ?_
  rw [nI_clamp (by omega)]
  exact h
variable {B sc Ln c : Nat} {xs : Nat → Int32} {S : sp_S} {μ : sp_M}
/-- behind a call of the class -/
theorem LI.mid {σ1 : am_H} {S1 : sp_S} {K N : Nat} (h : LI g B sc Ln xs c σ S μ) (hC1 : CS g B 48 σ1 S1) (hf : cfr B 48 σ σ1 K N) : MS g (B + 29) σ1 σ1 μ ∧ σ1.1 sc = some (.inl (0, Ln, .inl xs)) := by
  obtain ⟨h1, h2, h3, h4, h5, h6, h7⟩ := h
  exact ⟨h2.mv hC1.w (fun a q1 q2 => hf.1 a (Or.inr (by omega))), (hf.1 sc (Or.inl h5)).trans h4⟩
set_option maxRecDepth 100000 in
theorem law_feed (hI : LI g B sc Ln xs c σ S μ) (hL : Ln ≤ 3072) (hc : 6 * c + 6 ≤ Ln) (hN : ∀ σ' S' μ', LI g B sc Ln xs (c + 1) σ' S' μ' → AW g (d + 100) 0 (538, [some (.ref sc), some (.ref B), some (.ref (B + 29)), some (.int (nI (6 * c)))], []) σ' Q) : AW g (d + 100) 0 (92, [some (.ref sc), some (.ref B), some (.ref (B + 29)), some (.int (nI (6 * c)))], []) σ Q := by
  have hI' := hI
  obtain ⟨hC, h2, h3, hs, hsc, r1, r2⟩ := hI'
  obtain ⟨fs0, hx0⟩ := hC.cell
  refine aw_run 5 (F' := (97, [some (.ref sc), some (.ref B), some (.ref (B + 29)), some (.int (nI (6 * c)))], [.int (nI (6 * c) + nI 1), .ref sc, .ref B])) rfl ?_
  rw [nI_add]
  refine law_ld hs rfl (by omega) (by omega) ?_
  refine aw_run 4 (F' := (102, [some (.ref sc), some (.ref B), some (.ref (B + 29)), some (.int (nI (6 * c)))], [.int (nI (6 * c) + nI 2), .ref sc, .int (xs ((6 * c) + 1)), .ref B])) rfl ?_
  rw [nI_add]
  refine law_ld hs rfl (by omega) (by omega) ?_
  refine aw_run 4 (F' := (107, [some (.ref sc), some (.ref B), some (.ref (B + 29)), some (.int (nI (6 * c)))], [.int (nI (6 * c) + nI 3), .ref sc, .int (xs ((6 * c) + 2)), .int (xs ((6 * c) + 1)), .ref B])) rfl ?_
  rw [nI_add]
  refine law_ld hs rfl (by omega) (by omega) ?_
  refine aw_run 4 (F' := (112, [some (.ref sc), some (.ref B), some (.ref (B + 29)), some (.int (nI (6 * c)))], [.int (nI (6 * c) + nI 4), .ref sc, .int (xs ((6 * c) + 3)), .int (xs ((6 * c) + 2)), .int (xs ((6 * c) + 1)), .ref B])) rfl ?_
  rw [nI_add]
  refine law_ld hs rfl (by omega) (by omega) ?_
  refine aw_run 4 (F' := (117, [some (.ref sc), some (.ref B), some (.ref (B + 29)), some (.int (nI (6 * c)))], [.int (nI (6 * c) + nI 5), .ref sc, .int (xs ((6 * c) + 4)), .int (xs ((6 * c) + 3)), .int (xs ((6 * c) + 2)), .int (xs ((6 * c) + 1)), .ref B])) rfl ?_
  rw [nI_add]
  refine law_ld hs rfl (by omega) (by omega) ?_
  refine aw_v [.ref B, .int (xs ((6 * c) + 1)), .int (xs ((6 * c) + 2)), .int (xs ((6 * c) + 3)), .int (xs ((6 * c) + 4)), .int (xs ((6 * c) + 5))] [] rfl (by decide) rfl hx0 rfl rfl (Nat.le_of_ble_eq_true rfl) (Nat.le_of_ble_eq_true rfl) ?_
  refine c_feed hC _ _ _ _ _ (fun s1 hC1 hf1 => ?_)
  obtain ⟨hM1, hs1⟩ := hI.mid hC1 hf1
  show AW g _ 0 (121, [some (.ref sc), some (.ref B), some (.ref (B + 29)), some (.int (nI (6 * c)))], [.int ((sp_feed S (xs ((6 * c) + 1)) (xs ((6 * c) + 2)) (xs ((6 * c) + 3)) (xs ((6 * c) + 4)) (xs ((6 * c) + 5))).2)]) s1 _
  refine aw_run 5 (F' := (126, [some (.ref sc), some (.ref B), some (.ref (B + 29)), some (.int (nI (6 * c)))], [.int (nI (6 * c) + nI 1), .ref sc, .ref (B + 29), .int ((sp_feed S (xs ((6 * c) + 1)) (xs ((6 * c) + 2)) (xs ((6 * c) + 3)) (xs ((6 * c) + 4)) (xs ((6 * c) + 5))).2)])) rfl ?_
  rw [nI_add]
  refine law_ld hs1 rfl (by omega) (by omega) ?_
  refine aw_run 4 (F' := (131, [some (.ref sc), some (.ref B), some (.ref (B + 29)), some (.int (nI (6 * c)))], [.int (nI (6 * c) + nI 2), .ref sc, .int (xs ((6 * c) + 1)), .ref (B + 29), .int ((sp_feed S (xs ((6 * c) + 1)) (xs ((6 * c) + 2)) (xs ((6 * c) + 3)) (xs ((6 * c) + 4)) (xs ((6 * c) + 5))).2)])) rfl ?_
  rw [nI_add]
  refine law_ld hs1 rfl (by omega) (by omega) ?_
  refine aw_run 4 (F' := (136, [some (.ref sc), some (.ref B), some (.ref (B + 29)), some (.int (nI (6 * c)))], [.int (nI (6 * c) + nI 3), .ref sc, .int (xs ((6 * c) + 2)), .int (xs ((6 * c) + 1)), .ref (B + 29), .int ((sp_feed S (xs ((6 * c) + 1)) (xs ((6 * c) + 2)) (xs ((6 * c) + 3)) (xs ((6 * c) + 4)) (xs ((6 * c) + 5))).2)])) rfl ?_
  rw [nI_add]
  refine law_ld hs1 rfl (by omega) (by omega) ?_
  refine aw_run 4 (F' := (141, [some (.ref sc), some (.ref B), some (.ref (B + 29)), some (.int (nI (6 * c)))], [.int (nI (6 * c) + nI 4), .ref sc, .int (xs ((6 * c) + 3)), .int (xs ((6 * c) + 2)), .int (xs ((6 * c) + 1)), .ref (B + 29), .int ((sp_feed S (xs ((6 * c) + 1)) (xs ((6 * c) + 2)) (xs ((6 * c) + 3)) (xs ((6 * c) + 4)) (xs ((6 * c) + 5))).2)])) rfl ?_
  rw [nI_add]
  refine law_ld hs1 rfl (by omega) (by omega) ?_
  refine aw_run 4 (F' := (146, [some (.ref sc), some (.ref B), some (.ref (B + 29)), some (.int (nI (6 * c)))], [.int (nI (6 * c) + nI 5), .ref sc, .int (xs ((6 * c) + 4)), .int (xs ((6 * c) + 3)), .int (xs ((6 * c) + 2)), .int (xs ((6 * c) + 1)), .ref (B + 29), .int ((sp_feed S (xs ((6 * c) + 1)) (xs ((6 * c) + 2)) (xs ((6 * c) + 3)) (xs ((6 * c) + 4)) (xs ((6 * c) + 5))).2)])) rfl ?_
  rw [nI_add]
  refine law_ld hs1 rfl (by omega) (by omega) ?_
  refine aw_v [.ref (B + 29), .int (xs ((6 * c) + 1)), .int (xs ((6 * c) + 2)), .int (xs ((6 * c) + 3)), .int (xs ((6 * c) + 4)), .int (xs ((6 * c) + 5))] [.int ((sp_feed S (xs ((6 * c) + 1)) (xs ((6 * c) + 2)) (xs ((6 * c) + 3)) (xs ((6 * c) + 4)) (xs ((6 * c) + 5))).2)] rfl (by decide) rfl hM1.o rfl rfl (Nat.le_of_ble_eq_true rfl) (Nat.le_of_ble_eq_true rfl) ?_
  refine m_feed hM1 h3 _ _ _ _ _ (fun s2 μ2 hM2 h32 => ?_)
  show AW g _ 0 (150, [some (.ref sc), some (.ref B), some (.ref (B + 29)), some (.int (nI (6 * c)))], [.int ((sp_feed S (xs ((6 * c) + 1)) (xs ((6 * c) + 2)) (xs ((6 * c) + 3)) (xs ((6 * c) + 4)) (xs ((6 * c) + 5))).2), .int ((sp_feed S (xs ((6 * c) + 1)) (xs ((6 * c) + 2)) (xs ((6 * c) + 3)) (xs ((6 * c) + 4)) (xs ((6 * c) + 5))).2)]) s2 _
  refine aw_ceq rfl (fun _ => ?_) (fun z => absurd rfl z)
  obtain ⟨-, k1, k2, k3, k4⟩ := hf1
  have hfe := hC1.fed
  have hfd := feed_fed S (xs (6 * c + 1)) (xs (6 * c + 2)) (xs (6 * c + 3)) (xs (6 * c + 4)) (xs (6 * c + 5))
  exact hN _ _ _ (LI.fin hC1 hM2 h32 hs1 hsc (by omega) (by omega))
set_option maxRecDepth 100000 in
theorem law_read (hI : LI g B sc Ln xs c σ S μ) (hL : Ln ≤ 3072) (hc : 6 * c + 6 ≤ Ln) (hN : ∀ σ' S' μ', LI g B sc Ln xs (c + 1) σ' S' μ' → AW g (d + 100) 0 (538, [some (.ref sc), some (.ref B), some (.ref (B + 29)), some (.int (nI (6 * c)))], []) σ' Q) : AW g (d + 100) 0 (155, [some (.ref sc), some (.ref B), some (.ref (B + 29)), some (.int (nI (6 * c)))], []) σ Q := by
  have hI' := hI
  obtain ⟨hC, h2, h3, hs, hsc, r1, r2⟩ := hI'
  obtain ⟨fs0, hx0⟩ := hC.cell
  refine aw_run 5 (F' := (160, [some (.ref sc), some (.ref B), some (.ref (B + 29)), some (.int (nI (6 * c)))], [.int (nI (6 * c) + nI 1), .ref sc, .ref B])) rfl ?_
  rw [nI_add]
  refine law_ld hs rfl (by omega) (by omega) ?_
  refine aw_run 4 (F' := (165, [some (.ref sc), some (.ref B), some (.ref (B + 29)), some (.int (nI (6 * c)))], [.int (nI (6 * c) + nI 2), .ref sc, .int (xs ((6 * c) + 1)), .ref B])) rfl ?_
  rw [nI_add]
  refine law_ld hs rfl (by omega) (by omega) ?_
  refine aw_v [.ref B, .int (xs ((6 * c) + 1)), .int (xs ((6 * c) + 2))] [] rfl (by decide) rfl hx0 rfl rfl (Nat.le_of_ble_eq_true rfl) (Nat.le_of_ble_eq_true rfl) ?_
  refine c_read dec_OK hC _ _ (fun s1 hC1 hf1 => ?_)
  obtain ⟨hM1, hs1⟩ := hI.mid hC1 hf1
  show AW g _ 0 (169, [some (.ref sc), some (.ref B), some (.ref (B + 29)), some (.int (nI (6 * c)))], [.int ((sp_read S (xs ((6 * c) + 1)) (xs ((6 * c) + 2))).2)]) s1 _
  refine aw_run 5 (F' := (174, [some (.ref sc), some (.ref B), some (.ref (B + 29)), some (.int (nI (6 * c)))], [.int (nI (6 * c) + nI 1), .ref sc, .ref (B + 29), .int ((sp_read S (xs ((6 * c) + 1)) (xs ((6 * c) + 2))).2)])) rfl ?_
  rw [nI_add]
  refine law_ld hs1 rfl (by omega) (by omega) ?_
  refine aw_run 4 (F' := (179, [some (.ref sc), some (.ref B), some (.ref (B + 29)), some (.int (nI (6 * c)))], [.int (nI (6 * c) + nI 2), .ref sc, .int (xs ((6 * c) + 1)), .ref (B + 29), .int ((sp_read S (xs ((6 * c) + 1)) (xs ((6 * c) + 2))).2)])) rfl ?_
  rw [nI_add]
  refine law_ld hs1 rfl (by omega) (by omega) ?_
  refine aw_v [.ref (B + 29), .int (xs ((6 * c) + 1)), .int (xs ((6 * c) + 2))] [.int ((sp_read S (xs ((6 * c) + 1)) (xs ((6 * c) + 2))).2)] rfl (by decide) rfl hM1.o rfl rfl (Nat.le_of_ble_eq_true rfl) (Nat.le_of_ble_eq_true rfl) ?_
  refine m_read hM1 h3 _ _ (fun s2 μ2 hM2 h32 => ?_)
  show AW g _ 0 (183, [some (.ref sc), some (.ref B), some (.ref (B + 29)), some (.int (nI (6 * c)))], [.int ((sp_read S (xs ((6 * c) + 1)) (xs ((6 * c) + 2))).2), .int ((sp_read S (xs ((6 * c) + 1)) (xs ((6 * c) + 2))).2)]) s2 _
  refine aw_ceq rfl (fun _ => ?_) (fun z => absurd rfl z)
  obtain ⟨-, k1, k2, k3, k4⟩ := hf1
  have hfe := hC1.fed
  have hfd := read_fed S (xs (6 * c + 1)) (xs (6 * c + 2))
  exact hN _ _ _ (LI.fin hC1 hM2 h32 hs1 hsc (by omega) (by omega))
set_option maxRecDepth 100000 in
theorem law_path (hI : LI g B sc Ln xs c σ S μ) (hL : Ln ≤ 3072) (hc : 6 * c + 6 ≤ Ln) (hN : ∀ σ' S' μ', LI g B sc Ln xs (c + 1) σ' S' μ' → AW g (d + 100) 0 (538, [some (.ref sc), some (.ref B), some (.ref (B + 29)), some (.int (nI (6 * c)))], []) σ' Q) : AW g (d + 100) 0 (188, [some (.ref sc), some (.ref B), some (.ref (B + 29)), some (.int (nI (6 * c)))], []) σ Q := by
  have hI' := hI
  obtain ⟨hC, h2, h3, hs, hsc, r1, r2⟩ := hI'
  obtain ⟨fs0, hx0⟩ := hC.cell
  refine aw_run 5 (F' := (193, [some (.ref sc), some (.ref B), some (.ref (B + 29)), some (.int (nI (6 * c)))], [.int (nI (6 * c) + nI 1), .ref sc, .ref B])) rfl ?_
  rw [nI_add]
  refine law_ld hs rfl (by omega) (by omega) ?_
  refine aw_v [.ref B, .int (xs ((6 * c) + 1))] [] rfl (by decide) rfl hx0 rfl rfl (Nat.le_of_ble_eq_true rfl) (Nat.le_of_ble_eq_true rfl) ?_
  refine c_path hC _ (fun s1 hC1 hf1 => ?_)
  obtain ⟨hM1, hs1⟩ := hI.mid hC1 hf1
  show AW g _ 0 (197, [some (.ref sc), some (.ref B), some (.ref (B + 29)), some (.int (nI (6 * c)))], [.int ((sp_path S (xs ((6 * c) + 1))).2)]) s1 _
  refine aw_run 5 (F' := (202, [some (.ref sc), some (.ref B), some (.ref (B + 29)), some (.int (nI (6 * c)))], [.int (nI (6 * c) + nI 1), .ref sc, .ref (B + 29), .int ((sp_path S (xs ((6 * c) + 1))).2)])) rfl ?_
  rw [nI_add]
  refine law_ld hs1 rfl (by omega) (by omega) ?_
  refine aw_v [.ref (B + 29), .int (xs ((6 * c) + 1))] [.int ((sp_path S (xs ((6 * c) + 1))).2)] rfl (by decide) rfl hM1.o rfl rfl (Nat.le_of_ble_eq_true rfl) (Nat.le_of_ble_eq_true rfl) ?_
  refine m_path hM1 h3 _ (fun s2 μ2 hM2 h32 => ?_)
  show AW g _ 0 (206, [some (.ref sc), some (.ref B), some (.ref (B + 29)), some (.int (nI (6 * c)))], [.int ((sp_path S (xs ((6 * c) + 1))).2), .int ((sp_path S (xs ((6 * c) + 1))).2)]) s2 _
  refine aw_ceq rfl (fun _ => ?_) (fun z => absurd rfl z)
  obtain ⟨-, k1, k2, k3, k4⟩ := hf1
  have hfe := hC1.fed
  have hfd := path_fed S (xs (6 * c + 1))
  exact hN _ _ _ (LI.fin hC1 hM2 h32 hs1 hsc (by omega) (by omega))
set_option maxRecDepth 100000 in
theorem law_compare (hI : LI g B sc Ln xs c σ S μ) (hL : Ln ≤ 3072) (hc : 6 * c + 6 ≤ Ln) (hN : ∀ σ' S' μ', LI g B sc Ln xs (c + 1) σ' S' μ' → AW g (d + 100) 0 (538, [some (.ref sc), some (.ref B), some (.ref (B + 29)), some (.int (nI (6 * c)))], []) σ' Q) : AW g (d + 100) 0 (211, [some (.ref sc), some (.ref B), some (.ref (B + 29)), some (.int (nI (6 * c)))], []) σ Q := by
  have hI' := hI
  obtain ⟨hC, h2, h3, hs, hsc, r1, r2⟩ := hI'
  obtain ⟨fs0, hx0⟩ := hC.cell
  refine aw_run 5 (F' := (216, [some (.ref sc), some (.ref B), some (.ref (B + 29)), some (.int (nI (6 * c)))], [.int (nI (6 * c) + nI 1), .ref sc, .ref B])) rfl ?_
  rw [nI_add]
  refine law_ld hs rfl (by omega) (by omega) ?_
  refine aw_run 4 (F' := (221, [some (.ref sc), some (.ref B), some (.ref (B + 29)), some (.int (nI (6 * c)))], [.int (nI (6 * c) + nI 2), .ref sc, .int (xs ((6 * c) + 1)), .ref B])) rfl ?_
  rw [nI_add]
  refine law_ld hs rfl (by omega) (by omega) ?_
  refine aw_v [.ref B, .int (xs ((6 * c) + 1)), .int (xs ((6 * c) + 2))] [] rfl (by decide) rfl hx0 rfl rfl (Nat.le_of_ble_eq_true rfl) (Nat.le_of_ble_eq_true rfl) ?_
  refine c_compare hC _ _ (by omega) ?_
  have hC1 := hC
  have hf1 : cfr B 48 σ σ 0 0 := cfr.self
  obtain ⟨hM1, hs1⟩ := hI.mid hC1 hf1
  show AW g _ 0 (225, [some (.ref sc), some (.ref B), some (.ref (B + 29)), some (.int (nI (6 * c)))], [.int (sp_compare S (xs ((6 * c) + 1)) (xs ((6 * c) + 2)))]) σ _
  refine aw_run 5 (F' := (230, [some (.ref sc), some (.ref B), some (.ref (B + 29)), some (.int (nI (6 * c)))], [.int (nI (6 * c) + nI 1), .ref sc, .ref (B + 29), .int (sp_compare S (xs ((6 * c) + 1)) (xs ((6 * c) + 2)))])) rfl ?_
  rw [nI_add]
  refine law_ld hs rfl (by omega) (by omega) ?_
  refine aw_run 4 (F' := (235, [some (.ref sc), some (.ref B), some (.ref (B + 29)), some (.int (nI (6 * c)))], [.int (nI (6 * c) + nI 2), .ref sc, .int (xs ((6 * c) + 1)), .ref (B + 29), .int (sp_compare S (xs ((6 * c) + 1)) (xs ((6 * c) + 2)))])) rfl ?_
  rw [nI_add]
  refine law_ld hs rfl (by omega) (by omega) ?_
  refine aw_v [.ref (B + 29), .int (xs ((6 * c) + 1)), .int (xs ((6 * c) + 2))] [.int (sp_compare S (xs ((6 * c) + 1)) (xs ((6 * c) + 2)))] rfl (by decide) rfl hM1.o rfl rfl (Nat.le_of_ble_eq_true rfl) (Nat.le_of_ble_eq_true rfl) ?_
  refine m_compare hM1 h3 _ _ (fun s2 μ2 hM2 h32 => ?_)
  show AW g _ 0 (239, [some (.ref sc), some (.ref B), some (.ref (B + 29)), some (.int (nI (6 * c)))], [.int (sp_compare S (xs ((6 * c) + 1)) (xs ((6 * c) + 2))), .int (sp_compare S (xs ((6 * c) + 1)) (xs ((6 * c) + 2)))]) s2 _
  refine aw_ceq rfl (fun _ => ?_) (fun z => absurd rfl z)
  obtain ⟨-, k1, k2, k3, k4⟩ := hf1
  have hfe := hC1.fed
  exact hN _ _ _ (LI.fin hC1 hM2 h32 hs1 hsc (by omega) (by omega))
set_option maxRecDepth 100000 in
theorem law_list (hI : LI g B sc Ln xs c σ S μ) (hL : Ln ≤ 3072) (hc : 6 * c + 6 ≤ Ln) (hN : ∀ σ' S' μ', LI g B sc Ln xs (c + 1) σ' S' μ' → AW g (d + 100) 0 (538, [some (.ref sc), some (.ref B), some (.ref (B + 29)), some (.int (nI (6 * c)))], []) σ' Q) : AW g (d + 100) 0 (244, [some (.ref sc), some (.ref B), some (.ref (B + 29)), some (.int (nI (6 * c)))], []) σ Q := by
  have hI' := hI
  obtain ⟨hC, h2, h3, hs, hsc, r1, r2⟩ := hI'
  obtain ⟨fs0, hx0⟩ := hC.cell
  refine aw_run 5 (F' := (249, [some (.ref sc), some (.ref B), some (.ref (B + 29)), some (.int (nI (6 * c)))], [.int (nI (6 * c) + nI 1), .ref sc, .ref B])) rfl ?_
  rw [nI_add]
  refine law_ld hs rfl (by omega) (by omega) ?_
  refine aw_run 4 (F' := (254, [some (.ref sc), some (.ref B), some (.ref (B + 29)), some (.int (nI (6 * c)))], [.int (nI (6 * c) + nI 2), .ref sc, .int (xs ((6 * c) + 1)), .ref B])) rfl ?_
  rw [nI_add]
  refine law_ld hs rfl (by omega) (by omega) ?_
  refine aw_run 4 (F' := (259, [some (.ref sc), some (.ref B), some (.ref (B + 29)), some (.int (nI (6 * c)))], [.int (nI (6 * c) + nI 3), .ref sc, .int (xs ((6 * c) + 2)), .int (xs ((6 * c) + 1)), .ref B])) rfl ?_
  rw [nI_add]
  refine law_ld hs rfl (by omega) (by omega) ?_
  refine aw_zeq rfl (fun h1 => ?_) (fun h1 => ?_)
  · refine aw_run 1 (F' := (268, [some (.ref sc), some (.ref B), some (.ref (B + 29)), some (.int (nI (6 * c)))], [.int (nI 0), .int (xs ((6 * c) + 2)), .int (xs ((6 * c) + 1)), .ref B])) rfl ?_
    refine aw_v [.ref B, .int (xs ((6 * c) + 1)), .int (xs ((6 * c) + 2)), .int (nI 0)] [] rfl (by decide) rfl hx0 rfl rfl (Nat.le_of_ble_eq_true rfl) (Nat.le_of_ble_eq_true rfl) ?_
    refine c_list hC _ _ false (by omega) (fun s1 hC1 hf1 => ?_)
    obtain ⟨hM1, hs1⟩ := hI.mid hC1 hf1
    show AW g _ 0 (271, [some (.ref sc), some (.ref B), some (.ref (B + 29)), some (.int (nI (6 * c)))], [.int ((sp_list S (xs ((6 * c) + 1)) (xs ((6 * c) + 2)) false).2)]) s1 _
    refine aw_run 5 (F' := (276, [some (.ref sc), some (.ref B), some (.ref (B + 29)), some (.int (nI (6 * c)))], [.int (nI (6 * c) + nI 1), .ref sc, .ref (B + 29), .int ((sp_list S (xs ((6 * c) + 1)) (xs ((6 * c) + 2)) false).2)])) rfl ?_
    rw [nI_add]
    refine law_ld hs1 rfl (by omega) (by omega) ?_
    refine aw_run 4 (F' := (281, [some (.ref sc), some (.ref B), some (.ref (B + 29)), some (.int (nI (6 * c)))], [.int (nI (6 * c) + nI 2), .ref sc, .int (xs ((6 * c) + 1)), .ref (B + 29), .int ((sp_list S (xs ((6 * c) + 1)) (xs ((6 * c) + 2)) false).2)])) rfl ?_
    rw [nI_add]
    refine law_ld hs1 rfl (by omega) (by omega) ?_
    refine aw_run 4 (F' := (286, [some (.ref sc), some (.ref B), some (.ref (B + 29)), some (.int (nI (6 * c)))], [.int (nI (6 * c) + nI 3), .ref sc, .int (xs ((6 * c) + 2)), .int (xs ((6 * c) + 1)), .ref (B + 29), .int ((sp_list S (xs ((6 * c) + 1)) (xs ((6 * c) + 2)) false).2)])) rfl ?_
    rw [nI_add]
    refine law_ld hs1 rfl (by omega) (by omega) ?_
    refine aw_zeq rfl (fun h2 => ?_) (fun h2 => ?_)
    · refine aw_run 1 (F' := (295, [some (.ref sc), some (.ref B), some (.ref (B + 29)), some (.int (nI (6 * c)))], [.int (nI 0), .int (xs ((6 * c) + 2)), .int (xs ((6 * c) + 1)), .ref (B + 29), .int ((sp_list S (xs ((6 * c) + 1)) (xs ((6 * c) + 2)) false).2)])) rfl ?_
      refine aw_v [.ref (B + 29), .int (xs ((6 * c) + 1)), .int (xs ((6 * c) + 2)), .int (nI 0)] [.int ((sp_list S (xs ((6 * c) + 1)) (xs ((6 * c) + 2)) false).2)] rfl (by decide) rfl hM1.o rfl rfl (Nat.le_of_ble_eq_true rfl) (Nat.le_of_ble_eq_true rfl) ?_
      refine m_list hM1 h3 _ _ false (fun s2 μ2 hM2 h32 => ?_)
      show AW g _ 0 (298, [some (.ref sc), some (.ref B), some (.ref (B + 29)), some (.int (nI (6 * c)))], [.int ((sp_list S (xs ((6 * c) + 1)) (xs ((6 * c) + 2)) false).2), .int ((sp_list S (xs ((6 * c) + 1)) (xs ((6 * c) + 2)) false).2)]) s2 _
      refine aw_ceq rfl (fun _ => ?_) (fun z => absurd rfl z)
      obtain ⟨-, k1, k2, k3, k4⟩ := hf1
      have hfe := hC1.fed
      have hfd := list_fed S (xs (6 * c + 1)) (xs (6 * c + 2)) false
      exact hN _ _ _ (LI.fin hC1 hM2 h32 hs1 hsc (by omega) (by omega))
    · exact absurd h1 h2
  · refine aw_run 2 (F' := (268, [some (.ref sc), some (.ref B), some (.ref (B + 29)), some (.int (nI (6 * c)))], [.int (nI 1), .int (xs ((6 * c) + 2)), .int (xs ((6 * c) + 1)), .ref B])) rfl ?_
    refine aw_v [.ref B, .int (xs ((6 * c) + 1)), .int (xs ((6 * c) + 2)), .int (nI 1)] [] rfl (by decide) rfl hx0 rfl rfl (Nat.le_of_ble_eq_true rfl) (Nat.le_of_ble_eq_true rfl) ?_
    refine c_list hC _ _ true (by omega) (fun s1 hC1 hf1 => ?_)
    obtain ⟨hM1, hs1⟩ := hI.mid hC1 hf1
    show AW g _ 0 (271, [some (.ref sc), some (.ref B), some (.ref (B + 29)), some (.int (nI (6 * c)))], [.int ((sp_list S (xs ((6 * c) + 1)) (xs ((6 * c) + 2)) true).2)]) s1 _
    refine aw_run 5 (F' := (276, [some (.ref sc), some (.ref B), some (.ref (B + 29)), some (.int (nI (6 * c)))], [.int (nI (6 * c) + nI 1), .ref sc, .ref (B + 29), .int ((sp_list S (xs ((6 * c) + 1)) (xs ((6 * c) + 2)) true).2)])) rfl ?_
    rw [nI_add]
    refine law_ld hs1 rfl (by omega) (by omega) ?_
    refine aw_run 4 (F' := (281, [some (.ref sc), some (.ref B), some (.ref (B + 29)), some (.int (nI (6 * c)))], [.int (nI (6 * c) + nI 2), .ref sc, .int (xs ((6 * c) + 1)), .ref (B + 29), .int ((sp_list S (xs ((6 * c) + 1)) (xs ((6 * c) + 2)) true).2)])) rfl ?_
    rw [nI_add]
    refine law_ld hs1 rfl (by omega) (by omega) ?_
    refine aw_run 4 (F' := (286, [some (.ref sc), some (.ref B), some (.ref (B + 29)), some (.int (nI (6 * c)))], [.int (nI (6 * c) + nI 3), .ref sc, .int (xs ((6 * c) + 2)), .int (xs ((6 * c) + 1)), .ref (B + 29), .int ((sp_list S (xs ((6 * c) + 1)) (xs ((6 * c) + 2)) true).2)])) rfl ?_
    rw [nI_add]
    refine law_ld hs1 rfl (by omega) (by omega) ?_
    refine aw_zeq rfl (fun h4 => ?_) (fun h4 => ?_)
    · exact absurd h4 h1
    · refine aw_run 2 (F' := (295, [some (.ref sc), some (.ref B), some (.ref (B + 29)), some (.int (nI (6 * c)))], [.int (nI 1), .int (xs ((6 * c) + 2)), .int (xs ((6 * c) + 1)), .ref (B + 29), .int ((sp_list S (xs ((6 * c) + 1)) (xs ((6 * c) + 2)) true).2)])) rfl ?_
      refine aw_v [.ref (B + 29), .int (xs ((6 * c) + 1)), .int (xs ((6 * c) + 2)), .int (nI 1)] [.int ((sp_list S (xs ((6 * c) + 1)) (xs ((6 * c) + 2)) true).2)] rfl (by decide) rfl hM1.o rfl rfl (Nat.le_of_ble_eq_true rfl) (Nat.le_of_ble_eq_true rfl) ?_
      refine m_list hM1 h3 _ _ true (fun s2 μ2 hM2 h32 => ?_)
      show AW g _ 0 (298, [some (.ref sc), some (.ref B), some (.ref (B + 29)), some (.int (nI (6 * c)))], [.int ((sp_list S (xs ((6 * c) + 1)) (xs ((6 * c) + 2)) true).2), .int ((sp_list S (xs ((6 * c) + 1)) (xs ((6 * c) + 2)) true).2)]) s2 _
      refine aw_ceq rfl (fun _ => ?_) (fun z => absurd rfl z)
      obtain ⟨-, k1, k2, k3, k4⟩ := hf1
      have hfe := hC1.fed
      have hfd := list_fed S (xs (6 * c + 1)) (xs (6 * c + 2)) true
      exact hN _ _ _ (LI.fin hC1 hM2 h32 hs1 hsc (by omega) (by omega))
set_option maxRecDepth 100000 in
theorem law_value (hI : LI g B sc Ln xs c σ S μ) (hL : Ln ≤ 3072) (hc : 6 * c + 6 ≤ Ln) (hN : ∀ σ' S' μ', LI g B sc Ln xs (c + 1) σ' S' μ' → AW g (d + 100) 0 (538, [some (.ref sc), some (.ref B), some (.ref (B + 29)), some (.int (nI (6 * c)))], []) σ' Q) : AW g (d + 100) 0 (303, [some (.ref sc), some (.ref B), some (.ref (B + 29)), some (.int (nI (6 * c)))], []) σ Q := by
  have hI' := hI
  obtain ⟨hC, h2, h3, hs, hsc, r1, r2⟩ := hI'
  obtain ⟨fs0, hx0⟩ := hC.cell
  refine aw_run 5 (F' := (308, [some (.ref sc), some (.ref B), some (.ref (B + 29)), some (.int (nI (6 * c)))], [.int (nI (6 * c) + nI 1), .ref sc, .ref B])) rfl ?_
  rw [nI_add]
  refine law_ld hs rfl (by omega) (by omega) ?_
  refine aw_run 4 (F' := (313, [some (.ref sc), some (.ref B), some (.ref (B + 29)), some (.int (nI (6 * c)))], [.int (nI (6 * c) + nI 2), .ref sc, .int (xs ((6 * c) + 1)), .ref B])) rfl ?_
  rw [nI_add]
  refine law_ld hs rfl (by omega) (by omega) ?_
  refine aw_run 4 (F' := (318, [some (.ref sc), some (.ref B), some (.ref (B + 29)), some (.int (nI (6 * c)))], [.int (nI (6 * c) + nI 3), .ref sc, .int (xs ((6 * c) + 2)), .int (xs ((6 * c) + 1)), .ref B])) rfl ?_
  rw [nI_add]
  refine law_ld hs rfl (by omega) (by omega) ?_
  refine aw_v [.ref B, .int (xs ((6 * c) + 1)), .int (xs ((6 * c) + 2)), .int (xs ((6 * c) + 3))] [] rfl (by decide) rfl hx0 rfl rfl (Nat.le_of_ble_eq_true rfl) (Nat.le_of_ble_eq_true rfl) ?_
  refine c_value hC _ _ _ ?_
  have hC1 := hC
  have hf1 : cfr B 48 σ σ 0 0 := cfr.self
  obtain ⟨hM1, hs1⟩ := hI.mid hC1 hf1
  show AW g _ 0 (322, [some (.ref sc), some (.ref B), some (.ref (B + 29)), some (.int (nI (6 * c)))], [.long (sp_value S (xs ((6 * c) + 1)) (xs ((6 * c) + 2)) (xs ((6 * c) + 3)))]) σ _
  refine aw_run 5 (F' := (327, [some (.ref sc), some (.ref B), some (.ref (B + 29)), some (.int (nI (6 * c)))], [.int (nI (6 * c) + nI 1), .ref sc, .ref (B + 29), .long (sp_value S (xs ((6 * c) + 1)) (xs ((6 * c) + 2)) (xs ((6 * c) + 3)))])) rfl ?_
  rw [nI_add]
  refine law_ld hs rfl (by omega) (by omega) ?_
  refine aw_run 4 (F' := (332, [some (.ref sc), some (.ref B), some (.ref (B + 29)), some (.int (nI (6 * c)))], [.int (nI (6 * c) + nI 2), .ref sc, .int (xs ((6 * c) + 1)), .ref (B + 29), .long (sp_value S (xs ((6 * c) + 1)) (xs ((6 * c) + 2)) (xs ((6 * c) + 3)))])) rfl ?_
  rw [nI_add]
  refine law_ld hs rfl (by omega) (by omega) ?_
  refine aw_run 4 (F' := (337, [some (.ref sc), some (.ref B), some (.ref (B + 29)), some (.int (nI (6 * c)))], [.int (nI (6 * c) + nI 3), .ref sc, .int (xs ((6 * c) + 2)), .int (xs ((6 * c) + 1)), .ref (B + 29), .long (sp_value S (xs ((6 * c) + 1)) (xs ((6 * c) + 2)) (xs ((6 * c) + 3)))])) rfl ?_
  rw [nI_add]
  refine law_ld hs rfl (by omega) (by omega) ?_
  refine aw_v [.ref (B + 29), .int (xs ((6 * c) + 1)), .int (xs ((6 * c) + 2)), .int (xs ((6 * c) + 3))] [.long (sp_value S (xs ((6 * c) + 1)) (xs ((6 * c) + 2)) (xs ((6 * c) + 3)))] rfl (by decide) rfl hM1.o rfl rfl (Nat.le_of_ble_eq_true rfl) (Nat.le_of_ble_eq_true rfl) ?_
  refine m_value hM1 h3 _ _ _ ?_
  have hM2 := hM1
  have h32 := h3
  show AW g _ 0 (341, [some (.ref sc), some (.ref B), some (.ref (B + 29)), some (.int (nI (6 * c)))], [.long (sp_value S (xs ((6 * c) + 1)) (xs ((6 * c) + 2)) (xs ((6 * c) + 3))), .long (sp_value S (xs ((6 * c) + 1)) (xs ((6 * c) + 2)) (xs ((6 * c) + 3)))]) σ _
  refine aw_run 1 (F' := (342, [some (.ref sc), some (.ref B), some (.ref (B + 29)), some (.int (nI (6 * c)))], [.int (lg_cmp (sp_value S (xs ((6 * c) + 1)) (xs ((6 * c) + 2)) (xs ((6 * c) + 3))) (sp_value S (xs ((6 * c) + 1)) (xs ((6 * c) + 2)) (xs ((6 * c) + 3))))])) rfl ?_
  rw [lg_self]
  refine aw_zeq rfl (fun _ => ?_) (fun z => absurd rfl z)
  obtain ⟨-, k1, k2, k3, k4⟩ := hf1
  have hfe := hC1.fed
  exact hN _ _ _ (LI.fin hC1 hM2 h32 hs1 hsc (by omega) (by omega))
set_option maxRecDepth 100000 in
theorem law_text (hI : LI g B sc Ln xs c σ S μ) (hL : Ln ≤ 3072) (hc : 6 * c + 6 ≤ Ln) (hN : ∀ σ' S' μ', LI g B sc Ln xs (c + 1) σ' S' μ' → AW g (d + 100) 0 (538, [some (.ref sc), some (.ref B), some (.ref (B + 29)), some (.int (nI (6 * c)))], []) σ' Q) : AW g (d + 100) 0 (347, [some (.ref sc), some (.ref B), some (.ref (B + 29)), some (.int (nI (6 * c)))], []) σ Q := by
  have hI' := hI
  obtain ⟨hC, h2, h3, hs, hsc, r1, r2⟩ := hI'
  obtain ⟨fs0, hx0⟩ := hC.cell
  refine aw_run 5 (F' := (352, [some (.ref sc), some (.ref B), some (.ref (B + 29)), some (.int (nI (6 * c)))], [.int (nI (6 * c) + nI 1), .ref sc, .ref B])) rfl ?_
  rw [nI_add]
  refine law_ld hs rfl (by omega) (by omega) ?_
  refine aw_run 4 (F' := (357, [some (.ref sc), some (.ref B), some (.ref (B + 29)), some (.int (nI (6 * c)))], [.int (nI (6 * c) + nI 2), .ref sc, .int (xs ((6 * c) + 1)), .ref B])) rfl ?_
  rw [nI_add]
  refine law_ld hs rfl (by omega) (by omega) ?_
  refine aw_run 4 (F' := (362, [some (.ref sc), some (.ref B), some (.ref (B + 29)), some (.int (nI (6 * c)))], [.int (nI (6 * c) + nI 3), .ref sc, .int (xs ((6 * c) + 2)), .int (xs ((6 * c) + 1)), .ref B])) rfl ?_
  rw [nI_add]
  refine law_ld hs rfl (by omega) (by omega) ?_
  refine aw_v [.ref B, .int (xs ((6 * c) + 1)), .int (xs ((6 * c) + 2)), .int (xs ((6 * c) + 3))] [] rfl (by decide) rfl hx0 rfl rfl (Nat.le_of_ble_eq_true rfl) (Nat.le_of_ble_eq_true rfl) ?_
  refine c_text hC _ _ _ ?_
  have hC1 := hC
  have hf1 : cfr B 48 σ σ 0 0 := cfr.self
  obtain ⟨hM1, hs1⟩ := hI.mid hC1 hf1
  show AW g _ 0 (366, [some (.ref sc), some (.ref B), some (.ref (B + 29)), some (.int (nI (6 * c)))], [.int (sp_text S (xs ((6 * c) + 1)) (xs ((6 * c) + 2)) (xs ((6 * c) + 3)))]) σ _
  refine aw_run 5 (F' := (371, [some (.ref sc), some (.ref B), some (.ref (B + 29)), some (.int (nI (6 * c)))], [.int (nI (6 * c) + nI 1), .ref sc, .ref (B + 29), .int (sp_text S (xs ((6 * c) + 1)) (xs ((6 * c) + 2)) (xs ((6 * c) + 3)))])) rfl ?_
  rw [nI_add]
  refine law_ld hs rfl (by omega) (by omega) ?_
  refine aw_run 4 (F' := (376, [some (.ref sc), some (.ref B), some (.ref (B + 29)), some (.int (nI (6 * c)))], [.int (nI (6 * c) + nI 2), .ref sc, .int (xs ((6 * c) + 1)), .ref (B + 29), .int (sp_text S (xs ((6 * c) + 1)) (xs ((6 * c) + 2)) (xs ((6 * c) + 3)))])) rfl ?_
  rw [nI_add]
  refine law_ld hs rfl (by omega) (by omega) ?_
  refine aw_run 4 (F' := (381, [some (.ref sc), some (.ref B), some (.ref (B + 29)), some (.int (nI (6 * c)))], [.int (nI (6 * c) + nI 3), .ref sc, .int (xs ((6 * c) + 2)), .int (xs ((6 * c) + 1)), .ref (B + 29), .int (sp_text S (xs ((6 * c) + 1)) (xs ((6 * c) + 2)) (xs ((6 * c) + 3)))])) rfl ?_
  rw [nI_add]
  refine law_ld hs rfl (by omega) (by omega) ?_
  refine aw_v [.ref (B + 29), .int (xs ((6 * c) + 1)), .int (xs ((6 * c) + 2)), .int (xs ((6 * c) + 3))] [.int (sp_text S (xs ((6 * c) + 1)) (xs ((6 * c) + 2)) (xs ((6 * c) + 3)))] rfl (by decide) rfl hM1.o rfl rfl (Nat.le_of_ble_eq_true rfl) (Nat.le_of_ble_eq_true rfl) ?_
  refine m_text hM1 h3 _ _ _ ?_
  have hM2 := hM1
  have h32 := h3
  show AW g _ 0 (385, [some (.ref sc), some (.ref B), some (.ref (B + 29)), some (.int (nI (6 * c)))], [.int (sp_text S (xs ((6 * c) + 1)) (xs ((6 * c) + 2)) (xs ((6 * c) + 3))), .int (sp_text S (xs ((6 * c) + 1)) (xs ((6 * c) + 2)) (xs ((6 * c) + 3)))]) σ _
  refine aw_ceq rfl (fun _ => ?_) (fun z => absurd rfl z)
  obtain ⟨-, k1, k2, k3, k4⟩ := hf1
  have hfe := hC1.fed
  exact hN _ _ _ (LI.fin hC1 hM2 h32 hs1 hsc (by omega) (by omega))
set_option maxRecDepth 100000 in
theorem law_between (hI : LI g B sc Ln xs c σ S μ) (hL : Ln ≤ 3072) (hc : 6 * c + 6 ≤ Ln) (hN : ∀ σ' S' μ', LI g B sc Ln xs (c + 1) σ' S' μ' → AW g (d + 100) 0 (538, [some (.ref sc), some (.ref B), some (.ref (B + 29)), some (.int (nI (6 * c)))], []) σ' Q) : AW g (d + 100) 0 (390, [some (.ref sc), some (.ref B), some (.ref (B + 29)), some (.int (nI (6 * c)))], []) σ Q := by
  have hI' := hI
  obtain ⟨hC, h2, h3, hs, hsc, r1, r2⟩ := hI'
  obtain ⟨fs0, hx0⟩ := hC.cell
  refine aw_run 5 (F' := (395, [some (.ref sc), some (.ref B), some (.ref (B + 29)), some (.int (nI (6 * c)))], [.int (nI (6 * c) + nI 1), .ref sc, .ref B])) rfl ?_
  rw [nI_add]
  refine law_ld hs rfl (by omega) (by omega) ?_
  refine aw_run 4 (F' := (400, [some (.ref sc), some (.ref B), some (.ref (B + 29)), some (.int (nI (6 * c)))], [.int (nI (6 * c) + nI 2), .ref sc, .int (xs ((6 * c) + 1)), .ref B])) rfl ?_
  rw [nI_add]
  refine law_ld hs rfl (by omega) (by omega) ?_
  refine aw_v [.ref B, .int (xs ((6 * c) + 1)), .int (xs ((6 * c) + 2))] [] rfl (by decide) rfl hx0 rfl rfl (Nat.le_of_ble_eq_true rfl) (Nat.le_of_ble_eq_true rfl) ?_
  refine c_between hC _ _ (by omega) ?_
  have hC1 := hC
  have hf1 : cfr B 48 σ σ 0 0 := cfr.self
  obtain ⟨hM1, hs1⟩ := hI.mid hC1 hf1
  show AW g _ 0 (404, [some (.ref sc), some (.ref B), some (.ref (B + 29)), some (.int (nI (6 * c)))], [.int (sp_between S (xs ((6 * c) + 1)) (xs ((6 * c) + 2)))]) σ _
  refine aw_run 5 (F' := (409, [some (.ref sc), some (.ref B), some (.ref (B + 29)), some (.int (nI (6 * c)))], [.int (nI (6 * c) + nI 1), .ref sc, .ref (B + 29), .int (sp_between S (xs ((6 * c) + 1)) (xs ((6 * c) + 2)))])) rfl ?_
  rw [nI_add]
  refine law_ld hs rfl (by omega) (by omega) ?_
  refine aw_run 4 (F' := (414, [some (.ref sc), some (.ref B), some (.ref (B + 29)), some (.int (nI (6 * c)))], [.int (nI (6 * c) + nI 2), .ref sc, .int (xs ((6 * c) + 1)), .ref (B + 29), .int (sp_between S (xs ((6 * c) + 1)) (xs ((6 * c) + 2)))])) rfl ?_
  rw [nI_add]
  refine law_ld hs rfl (by omega) (by omega) ?_
  refine aw_v [.ref (B + 29), .int (xs ((6 * c) + 1)), .int (xs ((6 * c) + 2))] [.int (sp_between S (xs ((6 * c) + 1)) (xs ((6 * c) + 2)))] rfl (by decide) rfl hM1.o rfl rfl (Nat.le_of_ble_eq_true rfl) (Nat.le_of_ble_eq_true rfl) ?_
  refine m_between hM1 h3 _ _ (fun s2 μ2 hM2 h32 => ?_)
  show AW g _ 0 (418, [some (.ref sc), some (.ref B), some (.ref (B + 29)), some (.int (nI (6 * c)))], [.int (sp_between S (xs ((6 * c) + 1)) (xs ((6 * c) + 2))), .int (sp_between S (xs ((6 * c) + 1)) (xs ((6 * c) + 2)))]) s2 _
  refine aw_ceq rfl (fun _ => ?_) (fun z => absurd rfl z)
  obtain ⟨-, k1, k2, k3, k4⟩ := hf1
  have hfe := hC1.fed
  exact hN _ _ _ (LI.fin hC1 hM2 h32 hs1 hsc (by omega) (by omega))
set_option maxRecDepth 100000 in
theorem law_sort (hI : LI g B sc Ln xs c σ S μ) (hL : Ln ≤ 3072) (hc : 6 * c + 6 ≤ Ln) (hN : ∀ σ' S' μ', LI g B sc Ln xs (c + 1) σ' S' μ' → AW g (d + 100) 0 (538, [some (.ref sc), some (.ref B), some (.ref (B + 29)), some (.int (nI (6 * c)))], []) σ' Q) : AW g (d + 100) 0 (423, [some (.ref sc), some (.ref B), some (.ref (B + 29)), some (.int (nI (6 * c)))], []) σ Q := by
  have hI' := hI
  obtain ⟨hC, h2, h3, hs, hsc, r1, r2⟩ := hI'
  obtain ⟨fs0, hx0⟩ := hC.cell
  refine aw_run 5 (F' := (428, [some (.ref sc), some (.ref B), some (.ref (B + 29)), some (.int (nI (6 * c)))], [.int (nI (6 * c) + nI 1), .ref sc, .ref B])) rfl ?_
  rw [nI_add]
  refine law_ld hs rfl (by omega) (by omega) ?_
  refine aw_v [.ref B, .int (xs ((6 * c) + 1))] [] rfl (by decide) rfl hx0 rfl rfl (Nat.le_of_ble_eq_true rfl) (Nat.le_of_ble_eq_true rfl) ?_
  refine c_sort hC _ (by omega) (fun s1 hC1 hf1 => ?_)
  obtain ⟨hM1, hs1⟩ := hI.mid hC1 hf1
  show AW g _ 0 (432, [some (.ref sc), some (.ref B), some (.ref (B + 29)), some (.int (nI (6 * c)))], [.int ((sp_sort S (xs ((6 * c) + 1))).2)]) s1 _
  refine aw_run 5 (F' := (437, [some (.ref sc), some (.ref B), some (.ref (B + 29)), some (.int (nI (6 * c)))], [.int (nI (6 * c) + nI 1), .ref sc, .ref (B + 29), .int ((sp_sort S (xs ((6 * c) + 1))).2)])) rfl ?_
  rw [nI_add]
  refine law_ld hs1 rfl (by omega) (by omega) ?_
  refine aw_v [.ref (B + 29), .int (xs ((6 * c) + 1))] [.int ((sp_sort S (xs ((6 * c) + 1))).2)] rfl (by decide) rfl hM1.o rfl rfl (Nat.le_of_ble_eq_true rfl) (Nat.le_of_ble_eq_true rfl) ?_
  refine m_sort hM1 h3 _ (fun s2 μ2 hM2 h32 => ?_)
  show AW g _ 0 (441, [some (.ref sc), some (.ref B), some (.ref (B + 29)), some (.int (nI (6 * c)))], [.int ((sp_sort S (xs ((6 * c) + 1))).2), .int ((sp_sort S (xs ((6 * c) + 1))).2)]) s2 _
  refine aw_ceq rfl (fun _ => ?_) (fun z => absurd rfl z)
  obtain ⟨-, k1, k2, k3, k4⟩ := hf1
  have hfe := hC1.fed
  have hfd := sort_fed S (xs (6 * c + 1))
  exact hN _ _ _ (LI.fin hC1 hM2 h32 hs1 hsc (by omega) (by omega))
set_option maxRecDepth 100000 in
theorem law_from (hI : LI g B sc Ln xs c σ S μ) (hL : Ln ≤ 3072) (hc : 6 * c + 6 ≤ Ln) (hN : ∀ σ' S' μ', LI g B sc Ln xs (c + 1) σ' S' μ' → AW g (d + 100) 0 (538, [some (.ref sc), some (.ref B), some (.ref (B + 29)), some (.int (nI (6 * c)))], []) σ' Q) : AW g (d + 100) 0 (446, [some (.ref sc), some (.ref B), some (.ref (B + 29)), some (.int (nI (6 * c)))], []) σ Q := by
  have hI' := hI
  obtain ⟨hC, h2, h3, hs, hsc, r1, r2⟩ := hI'
  obtain ⟨fs0, hx0⟩ := hC.cell
  refine aw_run 5 (F' := (451, [some (.ref sc), some (.ref B), some (.ref (B + 29)), some (.int (nI (6 * c)))], [.int (nI (6 * c) + nI 1), .ref sc, .ref B])) rfl ?_
  rw [nI_add]
  refine law_ld hs rfl (by omega) (by omega) ?_
  refine aw_run 4 (F' := (456, [some (.ref sc), some (.ref B), some (.ref (B + 29)), some (.int (nI (6 * c)))], [.int (nI (6 * c) + nI 2), .ref sc, .int (xs ((6 * c) + 1)), .ref B])) rfl ?_
  rw [nI_add]
  refine law_ld hs rfl (by omega) (by omega) ?_
  refine aw_v [.ref B, .int (xs ((6 * c) + 1)), .int (xs ((6 * c) + 2))] [] rfl (by decide) rfl hx0 rfl rfl (Nat.le_of_ble_eq_true rfl) (Nat.le_of_ble_eq_true rfl) ?_
  refine c_from hC _ _ ?_
  have hC1 := hC
  have hf1 : cfr B 48 σ σ 0 0 := cfr.self
  obtain ⟨hM1, hs1⟩ := hI.mid hC1 hf1
  show AW g _ 0 (460, [some (.ref sc), some (.ref B), some (.ref (B + 29)), some (.int (nI (6 * c)))], [.int (sp_from S (xs ((6 * c) + 1)) (xs ((6 * c) + 2)))]) σ _
  refine aw_run 5 (F' := (465, [some (.ref sc), some (.ref B), some (.ref (B + 29)), some (.int (nI (6 * c)))], [.int (nI (6 * c) + nI 1), .ref sc, .ref (B + 29), .int (sp_from S (xs ((6 * c) + 1)) (xs ((6 * c) + 2)))])) rfl ?_
  rw [nI_add]
  refine law_ld hs rfl (by omega) (by omega) ?_
  refine aw_run 4 (F' := (470, [some (.ref sc), some (.ref B), some (.ref (B + 29)), some (.int (nI (6 * c)))], [.int (nI (6 * c) + nI 2), .ref sc, .int (xs ((6 * c) + 1)), .ref (B + 29), .int (sp_from S (xs ((6 * c) + 1)) (xs ((6 * c) + 2)))])) rfl ?_
  rw [nI_add]
  refine law_ld hs rfl (by omega) (by omega) ?_
  refine aw_v [.ref (B + 29), .int (xs ((6 * c) + 1)), .int (xs ((6 * c) + 2))] [.int (sp_from S (xs ((6 * c) + 1)) (xs ((6 * c) + 2)))] rfl (by decide) rfl hM1.o rfl rfl (Nat.le_of_ble_eq_true rfl) (Nat.le_of_ble_eq_true rfl) ?_
  refine m_from hM1 h3 _ _ ?_
  have hM2 := hM1
  have h32 := h3
  show AW g _ 0 (474, [some (.ref sc), some (.ref B), some (.ref (B + 29)), some (.int (nI (6 * c)))], [.int (sp_from S (xs ((6 * c) + 1)) (xs ((6 * c) + 2))), .int (sp_from S (xs ((6 * c) + 1)) (xs ((6 * c) + 2)))]) σ _
  refine aw_ceq rfl (fun _ => ?_) (fun z => absurd rfl z)
  obtain ⟨-, k1, k2, k3, k4⟩ := hf1
  have hfe := hC1.fed
  exact hN _ _ _ (LI.fin hC1 hM2 h32 hs1 hsc (by omega) (by omega))
set_option maxRecDepth 100000 in
theorem law_meet (hI : LI g B sc Ln xs c σ S μ) (hL : Ln ≤ 3072) (hc : 6 * c + 6 ≤ Ln) (hN : ∀ σ' S' μ', LI g B sc Ln xs (c + 1) σ' S' μ' → AW g (d + 100) 0 (538, [some (.ref sc), some (.ref B), some (.ref (B + 29)), some (.int (nI (6 * c)))], []) σ' Q) : AW g (d + 100) 0 (479, [some (.ref sc), some (.ref B), some (.ref (B + 29)), some (.int (nI (6 * c)))], []) σ Q := by
  have hI' := hI
  obtain ⟨hC, h2, h3, hs, hsc, r1, r2⟩ := hI'
  obtain ⟨fs0, hx0⟩ := hC.cell
  refine aw_run 5 (F' := (484, [some (.ref sc), some (.ref B), some (.ref (B + 29)), some (.int (nI (6 * c)))], [.int (nI (6 * c) + nI 1), .ref sc, .ref B])) rfl ?_
  rw [nI_add]
  refine law_ld hs rfl (by omega) (by omega) ?_
  refine aw_run 4 (F' := (489, [some (.ref sc), some (.ref B), some (.ref (B + 29)), some (.int (nI (6 * c)))], [.int (nI (6 * c) + nI 2), .ref sc, .int (xs ((6 * c) + 1)), .ref B])) rfl ?_
  rw [nI_add]
  refine law_ld hs rfl (by omega) (by omega) ?_
  refine aw_run 4 (F' := (494, [some (.ref sc), some (.ref B), some (.ref (B + 29)), some (.int (nI (6 * c)))], [.int (nI (6 * c) + nI 3), .ref sc, .int (xs ((6 * c) + 2)), .int (xs ((6 * c) + 1)), .ref B])) rfl ?_
  rw [nI_add]
  refine law_ld hs rfl (by omega) (by omega) ?_
  refine aw_zeq rfl (fun h1 => ?_) (fun h1 => ?_)
  · refine aw_run 1 (F' := (503, [some (.ref sc), some (.ref B), some (.ref (B + 29)), some (.int (nI (6 * c)))], [.int (nI 0), .int (xs ((6 * c) + 2)), .int (xs ((6 * c) + 1)), .ref B])) rfl ?_
    refine aw_v [.ref B, .int (xs ((6 * c) + 1)), .int (xs ((6 * c) + 2)), .int (nI 0)] [] rfl (by decide) rfl hx0 rfl rfl (Nat.le_of_ble_eq_true rfl) (Nat.le_of_ble_eq_true rfl) ?_
    refine c_meet hC _ _ false (by omega) (fun s1 hC1 hf1 => ?_)
    obtain ⟨hM1, hs1⟩ := hI.mid hC1 hf1
    show AW g _ 0 (506, [some (.ref sc), some (.ref B), some (.ref (B + 29)), some (.int (nI (6 * c)))], [.int (bI (sp_meet S (xs ((6 * c) + 1)) (xs ((6 * c) + 2)) false))]) s1 _
    refine aw_run 5 (F' := (511, [some (.ref sc), some (.ref B), some (.ref (B + 29)), some (.int (nI (6 * c)))], [.int (nI (6 * c) + nI 1), .ref sc, .ref (B + 29), .int (bI (sp_meet S (xs ((6 * c) + 1)) (xs ((6 * c) + 2)) false))])) rfl ?_
    rw [nI_add]
    refine law_ld hs1 rfl (by omega) (by omega) ?_
    refine aw_run 4 (F' := (516, [some (.ref sc), some (.ref B), some (.ref (B + 29)), some (.int (nI (6 * c)))], [.int (nI (6 * c) + nI 2), .ref sc, .int (xs ((6 * c) + 1)), .ref (B + 29), .int (bI (sp_meet S (xs ((6 * c) + 1)) (xs ((6 * c) + 2)) false))])) rfl ?_
    rw [nI_add]
    refine law_ld hs1 rfl (by omega) (by omega) ?_
    refine aw_run 4 (F' := (521, [some (.ref sc), some (.ref B), some (.ref (B + 29)), some (.int (nI (6 * c)))], [.int (nI (6 * c) + nI 3), .ref sc, .int (xs ((6 * c) + 2)), .int (xs ((6 * c) + 1)), .ref (B + 29), .int (bI (sp_meet S (xs ((6 * c) + 1)) (xs ((6 * c) + 2)) false))])) rfl ?_
    rw [nI_add]
    refine law_ld hs1 rfl (by omega) (by omega) ?_
    refine aw_zeq rfl (fun h2 => ?_) (fun h2 => ?_)
    · refine aw_run 1 (F' := (530, [some (.ref sc), some (.ref B), some (.ref (B + 29)), some (.int (nI (6 * c)))], [.int (nI 0), .int (xs ((6 * c) + 2)), .int (xs ((6 * c) + 1)), .ref (B + 29), .int (bI (sp_meet S (xs ((6 * c) + 1)) (xs ((6 * c) + 2)) false))])) rfl ?_
      refine aw_v [.ref (B + 29), .int (xs ((6 * c) + 1)), .int (xs ((6 * c) + 2)), .int (nI 0)] [.int (bI (sp_meet S (xs ((6 * c) + 1)) (xs ((6 * c) + 2)) false))] rfl (by decide) rfl hM1.o rfl rfl (Nat.le_of_ble_eq_true rfl) (Nat.le_of_ble_eq_true rfl) ?_
      refine m_meet hM1 h3 _ _ false (fun s2 μ2 hM2 h32 => ?_)
      show AW g _ 0 (533, [some (.ref sc), some (.ref B), some (.ref (B + 29)), some (.int (nI (6 * c)))], [.int (bI (sp_meet S (xs ((6 * c) + 1)) (xs ((6 * c) + 2)) false)), .int (bI (sp_meet S (xs ((6 * c) + 1)) (xs ((6 * c) + 2)) false))]) s2 _
      refine aw_ceq rfl (fun _ => ?_) (fun z => absurd rfl z)
      obtain ⟨-, k1, k2, k3, k4⟩ := hf1
      have hfe := hC1.fed
      exact hN _ _ _ (LI.fin hC1 hM2 h32 hs1 hsc (by omega) (by omega))
    · exact absurd h1 h2
  · refine aw_run 2 (F' := (503, [some (.ref sc), some (.ref B), some (.ref (B + 29)), some (.int (nI (6 * c)))], [.int (nI 1), .int (xs ((6 * c) + 2)), .int (xs ((6 * c) + 1)), .ref B])) rfl ?_
    refine aw_v [.ref B, .int (xs ((6 * c) + 1)), .int (xs ((6 * c) + 2)), .int (nI 1)] [] rfl (by decide) rfl hx0 rfl rfl (Nat.le_of_ble_eq_true rfl) (Nat.le_of_ble_eq_true rfl) ?_
    refine c_meet hC _ _ true (by omega) (fun s1 hC1 hf1 => ?_)
    obtain ⟨hM1, hs1⟩ := hI.mid hC1 hf1
    show AW g _ 0 (506, [some (.ref sc), some (.ref B), some (.ref (B + 29)), some (.int (nI (6 * c)))], [.int (bI (sp_meet S (xs ((6 * c) + 1)) (xs ((6 * c) + 2)) true))]) s1 _
    refine aw_run 5 (F' := (511, [some (.ref sc), some (.ref B), some (.ref (B + 29)), some (.int (nI (6 * c)))], [.int (nI (6 * c) + nI 1), .ref sc, .ref (B + 29), .int (bI (sp_meet S (xs ((6 * c) + 1)) (xs ((6 * c) + 2)) true))])) rfl ?_
    rw [nI_add]
    refine law_ld hs1 rfl (by omega) (by omega) ?_
    refine aw_run 4 (F' := (516, [some (.ref sc), some (.ref B), some (.ref (B + 29)), some (.int (nI (6 * c)))], [.int (nI (6 * c) + nI 2), .ref sc, .int (xs ((6 * c) + 1)), .ref (B + 29), .int (bI (sp_meet S (xs ((6 * c) + 1)) (xs ((6 * c) + 2)) true))])) rfl ?_
    rw [nI_add]
    refine law_ld hs1 rfl (by omega) (by omega) ?_
    refine aw_run 4 (F' := (521, [some (.ref sc), some (.ref B), some (.ref (B + 29)), some (.int (nI (6 * c)))], [.int (nI (6 * c) + nI 3), .ref sc, .int (xs ((6 * c) + 2)), .int (xs ((6 * c) + 1)), .ref (B + 29), .int (bI (sp_meet S (xs ((6 * c) + 1)) (xs ((6 * c) + 2)) true))])) rfl ?_
    rw [nI_add]
    refine law_ld hs1 rfl (by omega) (by omega) ?_
    refine aw_zeq rfl (fun h4 => ?_) (fun h4 => ?_)
    · exact absurd h4 h1
    · refine aw_run 2 (F' := (530, [some (.ref sc), some (.ref B), some (.ref (B + 29)), some (.int (nI (6 * c)))], [.int (nI 1), .int (xs ((6 * c) + 2)), .int (xs ((6 * c) + 1)), .ref (B + 29), .int (bI (sp_meet S (xs ((6 * c) + 1)) (xs ((6 * c) + 2)) true))])) rfl ?_
      refine aw_v [.ref (B + 29), .int (xs ((6 * c) + 1)), .int (xs ((6 * c) + 2)), .int (nI 1)] [.int (bI (sp_meet S (xs ((6 * c) + 1)) (xs ((6 * c) + 2)) true))] rfl (by decide) rfl hM1.o rfl rfl (Nat.le_of_ble_eq_true rfl) (Nat.le_of_ble_eq_true rfl) ?_
      refine m_meet hM1 h3 _ _ true (fun s2 μ2 hM2 h32 => ?_)
      show AW g _ 0 (533, [some (.ref sc), some (.ref B), some (.ref (B + 29)), some (.int (nI (6 * c)))], [.int (bI (sp_meet S (xs ((6 * c) + 1)) (xs ((6 * c) + 2)) true)), .int (bI (sp_meet S (xs ((6 * c) + 1)) (xs ((6 * c) + 2)) true))]) s2 _
      refine aw_ceq rfl (fun _ => ?_) (fun z => absurd rfl z)
      obtain ⟨-, k1, k2, k3, k4⟩ := hf1
      have hfe := hC1.fed
      exact hN _ _ _ (LI.fin hC1 hM2 h32 hs1 hsc (by omega) (by omega))
end P97
