def sp_docs (F : sp_F) : List sp_V := (sp_toL F).filter (fun w => decide (w.1.1 = 3))
/-- all but the pile -/
def pfr (μ μ' : sp_M) : Prop := ∀ f, f < 13 ∨ 17 ≤ f → μ' f = μ f
theorem pfr.up {μ μ' : sp_M} {k i v : Nat} (h : pfr μ μ') (hk : 13 ≤ k ∧ k ≤ 16) : pfr μ (mup μ' k i v) := fun f hf => by
  rw [mup_k _ _ _ (by omega)]
  exact h f hf
/-- a stretch turned round, so far -/
def rvd (f : Nat → Nat) (a z i j : Nat) : Nat → Nat := fun x => if a ≤ x ∧ x ≤ z ∧ (x < i ∨ j < x) then f (a + z - x) else f x
theorem rvd_st {f f' : Nat → Nat} {a z i j : Nat} (h : f' = rvd f a z i j) (h1 : a ≤ i) (h2 : i < j) (h3 : j ≤ z) (h4 : i + j = a + z) : (fun x => if x = j then f' i else if x = i then f' j else f' x) = rvd f a z (i + 1) (j - 1) := by
  funext x
  subst h
  unfold rvd
  by_cases e1 : x = j
  · subst e1
    rw [if_pos rfl, if_neg (by omega), if_pos (by omega)]
    congr 1
    omega
  · rw [if_neg e1]
    by_cases e2 : x = i
    · subst e2
      rw [if_pos rfl, if_neg (by omega), if_pos (by omega)]
      congr 1
      omega
    · rw [if_neg e2]
      by_cases q : a ≤ x ∧ x ≤ z ∧ (x < i ∨ j < x)
      · rw [if_pos q, if_pos (by omega)]
      · rw [if_neg q, if_neg (by omega)]
theorem rvd_end {f : Nat → Nat} {a z i j x : Nat} (h1 : j ≤ i) (h4 : i + j = a + z) (hx : a ≤ x) (hz : x ≤ z) : rvd f a z i j x = f (a + z - x) := by
  unfold rvd
  by_cases q : a ≤ x ∧ x ≤ z ∧ (x < i ∨ j < x)
  · rw [if_pos q]
  · rw [if_neg q]
    congr 1
    omega
theorem rvd_out {f : Nat → Nat} {a z i j x : Nat} (h : x < a ∨ z < x) : rvd f a z i j x = f x := if_neg (by omega)
theorem plx_rev {μ μ' : sp_M} {β : Nat → Nat} {lo wd s : Nat} {bs : List (sp_V × Nat)} {ds : List sp_V} (h : plx μ β lo wd (bs ++ ds.map (fun w => (w, s)))) (h14 : μ' 14 = μ 14) (h16 : μ' 16 = μ 16) (hk : ∀ w ∈ ds, w.1.1 = 3) (h1 : ∀ x, x < bs.length → μ' 15 x = μ 15 x) (h2 : ∀ x, bs.length ≤ x → x < bs.length + ds.length → μ' 15 x = μ 15 (bs.length + (bs.length + ds.length - 1) - x)) : plx μ' β lo wd (bs ++ (ds.reverse.map (fun w => (w, s)))) := by
  intro t x hx
  rw [h14, h16]
  by_cases ht : t < bs.length
  · rw [List.getElem?_append_left ht] at hx
    rw [h1 t ht]
    exact h t x (by rw [List.getElem?_append_left ht]; exact hx)
  · have hlt := (List.getElem?_eq_some_iff.mp hx).1
    simp only [List.length_append, List.length_map, List.length_reverse] at hlt
    rw [List.getElem?_append_right (by omega), List.getElem?_map, List.getElem?_reverse (by omega)] at hx
    obtain ⟨w, hw, rfl⟩ : ∃ w, ds[ds.length - 1 - (t - bs.length)]? = some w ∧ x = (w, s) := by
      cases hq : ds[ds.length - 1 - (t - bs.length)]? with
      | none => rw [hq] at hx; cases hx
      | some w => rw [hq] at hx; exact ⟨w, rfl, (Option.some.inj hx).symm⟩
    have hmem := List.mem_of_getElem? hw
    have a1 := h (bs.length + (ds.length - 1 - (t - bs.length))) (w, s) (by rw [List.getElem?_append_right (by omega), Nat.add_sub_cancel_left, List.getElem?_map, hw]; rfl)
    have hd : t - bs.length < ds.length := by omega
    have hw2 : ds[t - bs.length]? = some ds[t - bs.length] := List.getElem?_eq_getElem hd
    have a2 := h t (ds[t - bs.length], s) (by rw [List.getElem?_append_right (by omega), List.getElem?_map, hw2]; rfl)
    have k2 := hk _ (List.getElem_mem hd)
    refine ⟨?_, a2.2.1, ?_⟩
    · rw [a2.1, hk w hmem]
      exact k2
    · rw [h2 t (by omega) (by omega), show bs.length + (bs.length + ds.length - 1) - t = bs.length + (ds.length - 1 - (t - bs.length)) by omega]
      exact a1.2.2
theorem toL_len : ∀ F : sp_F, (sp_toL F).length = sp_len F
  | .leaf => rfl
  | .inner _ _ _ _ r => by simp [sp_toL, sp_len, toL_len r]
section P89
variable {g : Nat × Nat} {d : Nat} {σ0 σ : am_H} {Q : Option Value → am_H → Prop} {m : Nat} {μ : sp_M}
theorem m_pd1 {β : Nat → Nat} {lo wd e f s f0 : Nat} {row : Bool} {x6 x7 : Option Value} (he : e ≤ lo + wd) (hlo : lo + wd ≤ 14000) : ∀ (F : sp_F) (i k : Nat) (bs : List (sp_V × Nat)) (σ : am_H) (μ : sp_M), MS g m σ0 σ μ → μ 1 = β → lyF β F row i k e → lo ≤ k → sp_hgt F ≤ 17 → μ 13 0 = bs.length → plx μ β lo wd bs → bs.length + sp_len F ≤ 2999 → (∀ σ' μ', MS g m σ0 σ' μ' → pfr μ μ' → μ' 13 0 = (bs ++ (sp_docs F).map (fun w => (w, s))).length → plx μ' β lo wd (bs ++ (sp_docs F).map (fun w => (w, s))) → AW g (d + 3) 90 (80, [some (.ref m), some (.int (nI f)), some (.int (nI s)), some (.int (nI e)), some (.int (nI f0)), some (.int (nI e)), x6, x7], []) σ' Q) → AW g (d + 3) 90 (21, [some (.ref m), some (.int (nI f)), some (.int (nI s)), some (.int (nI e)), some (.int (nI f0)), some (.int (nI k)), x6, x7], []) σ Q := by
  intro F
  induction F with
  | leaf =>
    intro i k bs σ μ hM hβ hl hlk hh h13 hp hll hQ
    have hl' : k = e := hl
    subst hl'
    have hd : bs ++ (sp_docs .leaf).map (fun w => (w, s)) = bs := List.append_nil _
    have hq := hQ σ μ hM (fun _ _ => rfl) (by rw [hd]; exact h13) (by rw [hd]; exact hp)
    refine aw_run 2 (F' := (24, [some (.ref m), some (.int (nI f)), some (.int (nI s)), some (.int (nI k)), some (.int (nI f0)), some (.int (nI k)), x6, x7], [.int (nI k), .int (nI k)])) rfl ?_
    refine an_cge rfl (by omega) (by omega) (fun h1 => ?_) (fun h1 => ?_)
    · exact hq
    · omega
  | inner sz b u c r ih1 ih2 =>
    intro i k bs σ μ hM hβ hl hlk hh h13 hp hll hQ
    subst hβ
    obtain ⟨s', q, z1, z2, z3, z4, z5, z6, z7, z8⟩ := hl
    have y1 := z1.1
    have y2 := z6.le
    have y3 := z6.bh
    have y4 : b.1 = 2 ∨ b.1 = 3 ∨ b.1 = 4 → s' + 1 + 3 < 14000 := by
      unfold ly1 at z6
      omega
    have hkd := z6.kd
    obtain ⟨hg1, hg2⟩ := hgt_in sz b u c r
    have hll' : bs.length + (sp_len r + 1) ≤ 2999 := hll
    refine aw_run 2 (F' := (24, [some (.ref m), some (.int (nI f)), some (.int (nI s)), some (.int (nI e)), some (.int (nI f0)), some (.int (nI k)), x6, x7], [.int (nI e), .int (nI k)])) rfl ?_
    refine an_cge rfl (by omega) (by omega) (fun h1 => ?_) (fun h1 => ?_)
    · omega
    · refine aw_run 2 (F' := (30, [some (.ref m), some (.int (nI f)), some (.int (nI s)), some (.int (nI e)), some (.int (nI f0)), some (.int (nI k)), x6, x7], [.int (nI k), .ref m])) rfl ?_
      refine aw_v [.ref m, .int (nI k)] [] rfl (by decide) rfl hM.o rfl rfl (Nat.le_of_ble_eq_true rfl) (Nat.le_of_ble_eq_true rfl) ?_
      have hB1 := hM.by (i := k) (by omega)
      rw [show μ 1 k = b.1 from z3] at hB1
      refine m_at hM (by omega) ?_
      rw [show μ 1 k = b.1 from z3]
      show AW g _ 90 (33, [some (.ref m), some (.int (nI f)), some (.int (nI s)), some (.int (nI e)), some (.int (nI f0)), some (.int (nI k)), x6, x7], [.int (nI b.1)]) σ _
      refine aw_run 1 (F' := (34, [some (.ref m), some (.int (nI f)), some (.int (nI s)), some (.int (nI e)), some (.int (nI f0)), some (.int (nI k)), x6, x7], [.int (nI 3), .int (nI b.1)])) rfl ?_
      refine an_cne rfl (by omega) (by omega) (fun h2 => ?_) (fun h2 => ?_)
      · refine aw_run 3 (F' := (58, [some (.ref m), some (.int (nI f)), some (.int (nI s)), some (.int (nI e)), some (.int (nI f0)), some (.int (nI k)), x6, x7], [.int (nI k), .ref m, .ref m])) rfl ?_
        refine aw_v [.ref m, .int (nI k)] [.ref m] rfl (by decide) rfl hM.o rfl rfl (Nat.le_of_ble_eq_true rfl) (Nat.le_of_ble_eq_true rfl) ?_
        have hB2 := hM.by (i := k) (by omega)
        rw [show μ 1 k = b.1 from z3] at hB2
        refine m_at hM (by omega) ?_
        rw [show μ 1 k = b.1 from z3]
        show AW g _ 90 (61, [some (.ref m), some (.int (nI f)), some (.int (nI s)), some (.int (nI e)), some (.int (nI f0)), some (.int (nI k)), x6, x7], [.int (nI b.1), .ref m]) σ _
        refine aw_run 4 (F' := (66, [some (.ref m), some (.int (nI f)), some (.int (nI s)), some (.int (nI e)), some (.int (nI f0)), some (.int (nI k)), x6, x7], [.int (nI k + nI 1), .ref m, .int (nI b.1), .ref m])) rfl ?_
        rw [nI_add]
        refine aw_run 1 (F' := (67, [some (.ref m), some (.int (nI f)), some (.int (nI s)), some (.int (nI e)), some (.int (nI f0)), some (.int (nI k)), x6, x7], [.int (nI e), .int (nI (k + 1)), .ref m, .int (nI b.1), .ref m])) rfl ?_
        refine aw_v [.ref m, .int (nI (k + 1)), .int (nI e)] [.int (nI b.1), .ref m] rfl (by decide) rfl hM.o rfl rfl (Nat.le_of_ble_eq_true rfl) (Nat.le_of_ble_eq_true rfl) ?_
        refine m_nes hM (by omega) z1 z2 ?_
        show AW g _ 90 (70, [some (.ref m), some (.int (nI f)), some (.int (nI s)), some (.int (nI e)), some (.int (nI f0)), some (.int (nI k)), x6, x7], [.int (nI s'), .int (nI b.1), .ref m]) σ _
        refine aw_run 2 (F' := (72, [some (.ref m), some (.int (nI f)), some (.int (nI s)), some (.int (nI e)), some (.int (nI f0)), some (.int (nI k)), x6, x7], [.int (nI s' + nI 1), .int (nI b.1), .ref m])) rfl ?_
        rw [nI_add]
        refine aw_v [.ref m, .int (nI b.1), .int (nI (s' + 1))] [] rfl (by decide) rfl hM.o rfl rfl (Nat.le_of_ble_eq_true rfl) (Nat.le_of_ble_eq_true rfl) ?_
        refine m_bhd hM (by omega) y4 ?_
        rw [show bhd (μ 1) b.1 (s' + 1) = q from y3]
        show AW g _ 90 (75, [some (.ref m), some (.int (nI f)), some (.int (nI s)), some (.int (nI e)), some (.int (nI f0)), some (.int (nI k)), x6, x7], [.int (nI q)]) σ _
        refine aw_run 2 (F' := (21, [some (.ref m), some (.int (nI f)), some (.int (nI s)), some (.int (nI e)), some (.int (nI f0)), some (.int (nI q)), x6, x7], [])) rfl ?_
        have hd : (sp_docs (.inner sz b u c r)).map (fun w => (w, s)) = (sp_docs r).map (fun w => (w, s)) := by
          have hb3 : ¬ b.1 = 3 := by assumption
          simp [sp_docs, sp_toL, hb3]
        rw [hd] at hQ
        exact ih2 (i + 1) q bs σ μ hM rfl z8 (by omega) (by omega) h13 hp (by omega) hQ
      · refine aw_run 6 (F' := (44, [some (.ref m), some (.int (nI f)), some (.int (nI s)), some (.int (nI e)), some (.int (nI f0)), some (.int (nI k)), x6, x7], [.int (nI k + nI 1), .ref m, .int (nI 3), .ref m])) rfl ?_
        rw [nI_add]
        refine aw_run 1 (F' := (45, [some (.ref m), some (.int (nI f)), some (.int (nI s)), some (.int (nI e)), some (.int (nI f0)), some (.int (nI k)), x6, x7], [.int (nI e), .int (nI (k + 1)), .ref m, .int (nI 3), .ref m])) rfl ?_
        refine aw_v [.ref m, .int (nI (k + 1)), .int (nI e)] [.int (nI 3), .ref m] rfl (by decide) rfl hM.o rfl rfl (Nat.le_of_ble_eq_true rfl) (Nat.le_of_ble_eq_true rfl) ?_
        refine m_nes hM (by omega) z1 z2 ?_
        show AW g _ 90 (48, [some (.ref m), some (.int (nI f)), some (.int (nI s)), some (.int (nI e)), some (.int (nI f0)), some (.int (nI k)), x6, x7], [.int (nI s'), .int (nI 3), .ref m]) σ _
        refine aw_run 2 (F' := (50, [some (.ref m), some (.int (nI f)), some (.int (nI s)), some (.int (nI e)), some (.int (nI f0)), some (.int (nI k)), x6, x7], [.int (nI s' + nI 1), .int (nI 3), .ref m])) rfl ?_
        rw [nI_add]
        refine aw_run 1 (F' := (51, [some (.ref m), some (.int (nI f)), some (.int (nI s)), some (.int (nI e)), some (.int (nI f0)), some (.int (nI k)), x6, x7], [.int (nI s), .int (nI (s' + 1)), .int (nI 3), .ref m])) rfl ?_
        refine aw_v [.ref m, .int (nI 3), .int (nI (s' + 1)), .int (nI s)] [] rfl (by decide) rfl hM.o rfl rfl (Nat.le_of_ble_eq_true rfl) (Nat.le_of_ble_eq_true rfl) ?_
        refine m_push hM h13 (by omega) (fun s1 hM1 => ?_)
        have z1' : nmd ((mup (mup (mup (mup μ 14 bs.length 3) 15 bs.length (s' + 1)) 16 bs.length s) 13 0 (bs.length + 1)) 1) (k + 1) s' := z1
        show AW g _ 90 (54, [some (.ref m), some (.int (nI f)), some (.int (nI s)), some (.int (nI e)), some (.int (nI f0)), some (.int (nI k)), x6, x7], []) s1 _
        refine aw_run 3 (F' := (58, [some (.ref m), some (.int (nI f)), some (.int (nI s)), some (.int (nI e)), some (.int (nI f0)), some (.int (nI k)), x6, x7], [.int (nI k), .ref m, .ref m])) rfl ?_
        refine aw_v [.ref m, .int (nI k)] [.ref m] rfl (by decide) rfl hM1.o rfl rfl (Nat.le_of_ble_eq_true rfl) (Nat.le_of_ble_eq_true rfl) ?_
        have hB3 := hM1.by (i := k) (by omega)
        rw [show (mup (mup (mup (mup μ 14 bs.length 3) 15 bs.length (s' + 1)) 16 bs.length s) 13 0 (bs.length + 1)) 1 k = b.1 from z3] at hB3
        refine m_at hM1 (by omega) ?_
        rw [show (mup (mup (mup (mup μ 14 bs.length 3) 15 bs.length (s' + 1)) 16 bs.length s) 13 0 (bs.length + 1)) 1 k = b.1 from z3]
        show AW g _ 90 (61, [some (.ref m), some (.int (nI f)), some (.int (nI s)), some (.int (nI e)), some (.int (nI f0)), some (.int (nI k)), x6, x7], [.int (nI b.1), .ref m]) s1 _
        refine aw_run 4 (F' := (66, [some (.ref m), some (.int (nI f)), some (.int (nI s)), some (.int (nI e)), some (.int (nI f0)), some (.int (nI k)), x6, x7], [.int (nI k + nI 1), .ref m, .int (nI b.1), .ref m])) rfl ?_
        rw [nI_add]
        refine aw_run 1 (F' := (67, [some (.ref m), some (.int (nI f)), some (.int (nI s)), some (.int (nI e)), some (.int (nI f0)), some (.int (nI k)), x6, x7], [.int (nI e), .int (nI (k + 1)), .ref m, .int (nI b.1), .ref m])) rfl ?_
        refine aw_v [.ref m, .int (nI (k + 1)), .int (nI e)] [.int (nI b.1), .ref m] rfl (by decide) rfl hM1.o rfl rfl (Nat.le_of_ble_eq_true rfl) (Nat.le_of_ble_eq_true rfl) ?_
        refine m_nes hM1 (by omega) z1' z2 ?_
        show AW g _ 90 (70, [some (.ref m), some (.int (nI f)), some (.int (nI s)), some (.int (nI e)), some (.int (nI f0)), some (.int (nI k)), x6, x7], [.int (nI s'), .int (nI b.1), .ref m]) s1 _
        refine aw_run 2 (F' := (72, [some (.ref m), some (.int (nI f)), some (.int (nI s)), some (.int (nI e)), some (.int (nI f0)), some (.int (nI k)), x6, x7], [.int (nI s' + nI 1), .int (nI b.1), .ref m])) rfl ?_
        rw [nI_add]
        refine aw_v [.ref m, .int (nI b.1), .int (nI (s' + 1))] [] rfl (by decide) rfl hM1.o rfl rfl (Nat.le_of_ble_eq_true rfl) (Nat.le_of_ble_eq_true rfl) ?_
        refine m_bhd hM1 (by omega) y4 ?_
        rw [show bhd ((mup (mup (mup (mup μ 14 bs.length 3) 15 bs.length (s' + 1)) 16 bs.length s) 13 0 (bs.length + 1)) 1) b.1 (s' + 1) = q from y3]
        show AW g _ 90 (75, [some (.ref m), some (.int (nI f)), some (.int (nI s)), some (.int (nI e)), some (.int (nI f0)), some (.int (nI k)), x6, x7], [.int (nI q)]) s1 _
        refine aw_run 2 (F' := (21, [some (.ref m), some (.int (nI f)), some (.int (nI s)), some (.int (nI e)), some (.int (nI f0)), some (.int (nI q)), x6, x7], [])) rfl ?_
        have hd : (sp_docs (.inner sz b u c r)).map (fun w => (w, s)) = ((b, c), s) :: (sp_docs r).map (fun w => (w, s)) := by
          have hb3 : b.1 = 3 := by assumption
          simp [sp_docs, sp_toL, hb3]
        rw [hd] at hQ
        have hp1 := hp.push (s := s) (p := s' + 1) (v := (b, c)) ⟨by show sp_hgt c ≤ 16; omega, by omega, q, by omega, z6⟩
        have hb3 : b.1 = 3 := by assumption
        rw [show ((b, c) : sp_V).1.1 = 3 from hb3] at hp1
        refine ih2 (i + 1) q (bs ++ [((b, c), s)]) s1 _ hM1 rfl z8 (by omega) (by omega) (by rw [mup_s]; simp) hp1 (by simp; omega) (fun σ' μ' hM' hf' h13' hp' => ?_)
        rw [List.append_assoc] at h13' hp'
        exact hQ σ' μ' hM' (fun f hf => (hf' f hf).trans (by rw [mup_k _ _ _ (by omega), mup_k _ _ _ (by omega), mup_k _ _ _ (by omega), mup_k _ _ _ (by omega)])) h13' hp'
theorem m_pd2 {f s e f0 a z : Nat} {μ1 : sp_M} (hz : z < 3000) (haz : a ≤ 3000) (hC : ∀ σ' μ' i j, MS g m σ0 σ' μ' → (∀ k, k ≠ 15 → μ' k = μ1 k) → μ' 15 = rvd (μ1 15) a z i j → j ≤ i → i + j = a + z → Q none σ') : ∀ (n i j : Nat) (σ : am_H) (μ : sp_M) (x7 : Option Value), j - i < n → a ≤ i → j ≤ z → i + j = a + z → MS g m σ0 σ μ → (∀ k, k ≠ 15 → μ k = μ1 k) → μ 15 = rvd (μ1 15) a z i j → AW g d 90 (92, [some (.ref m), some (.int (nI f)), some (.int (nI s)), some (.int (nI e)), some (.int (nI f0)), some (.int (nI i)), some (.int (nI j)), x7], []) σ Q := by
  intro n
  induction n with
  | zero => intro i j σ μ x7 hn; omega
  | succ n ih =>
    intro i j σ μ x7 hn hai hjz hij hM hk h15
    refine aw_run 2 (F' := (96, [some (.ref m), some (.int (nI f)), some (.int (nI s)), some (.int (nI e)), some (.int (nI f0)), some (.int (nI i)), some (.int (nI j)), x7], [.int (nI j), .int (nI i)])) rfl ?_
    refine an_cge rfl (by omega) (by omega) (fun h1 => ?_) (fun h1 => ?_)
    · exact aw_vret rfl rfl (hC _ _ i j hM hk h15 (by omega) hij)
    · refine aw_run 1 (F' := (100, [some (.ref m), some (.int (nI f)), some (.int (nI s)), some (.int (nI e)), some (.int (nI f0)), some (.int (nI i)), some (.int (nI j)), x7], [.ref m])) rfl ?_
      refine aw_get rfl hM.o rfl ?_
      refine aw_run 1 (F' := (105, [some (.ref m), some (.int (nI f)), some (.int (nI s)), some (.int (nI e)), some (.int (nI f0)), some (.int (nI i)), some (.int (nI j)), x7], [.int (nI i), .ref (m + 11)])) rfl ?_
      refine ms_ild hM rfl (k := 15) (n := 3000) (by decide) (by omega) ?_
      refine aw_run 2 (F' := (109, [some (.ref m), some (.int (nI f)), some (.int (nI s)), some (.int (nI e)), some (.int (nI f0)), some (.int (nI i)), some (.int (nI j)), some (.int (nI (μ 15 i)))], [.ref m])) rfl ?_
      refine aw_get rfl hM.o rfl ?_
      refine aw_run 2 (F' := (115, [some (.ref m), some (.int (nI f)), some (.int (nI s)), some (.int (nI e)), some (.int (nI f0)), some (.int (nI i)), some (.int (nI j)), some (.int (nI (μ 15 i)))], [.ref m, .int (nI i), .ref (m + 11)])) rfl ?_
      refine aw_get rfl hM.o rfl ?_
      refine aw_run 1 (F' := (120, [some (.ref m), some (.int (nI f)), some (.int (nI s)), some (.int (nI e)), some (.int (nI f0)), some (.int (nI i)), some (.int (nI j)), some (.int (nI (μ 15 i)))], [.int (nI j), .ref (m + 11), .int (nI i), .ref (m + 11)])) rfl ?_
      refine ms_ild hM rfl (k := 15) (n := 3000) (by decide) (by omega) ?_
      refine ms_ist hM rfl (k := 15) (n := 3000) (by decide) (by omega) (fun s1 hM1 => ?_)
      refine aw_run 1 (F' := (123, [some (.ref m), some (.int (nI f)), some (.int (nI s)), some (.int (nI e)), some (.int (nI f0)), some (.int (nI i)), some (.int (nI j)), some (.int (nI (μ 15 i)))], [.ref m])) rfl ?_
      refine aw_get rfl hM1.o rfl ?_
      refine aw_run 2 (F' := (130, [some (.ref m), some (.int (nI f)), some (.int (nI s)), some (.int (nI e)), some (.int (nI f0)), some (.int (nI i)), some (.int (nI j)), some (.int (nI (μ 15 i)))], [.int (nI (μ 15 i)), .int (nI j), .ref (m + 11)])) rfl ?_
      refine ms_ist hM1 rfl (k := 15) (n := 3000) (by decide) (by omega) (fun s2 hM2 => ?_)
      refine aw_run 1 (F' := (134, [some (.ref m), some (.int (nI f)), some (.int (nI s)), some (.int (nI e)), some (.int (nI f0)), some (.int (nI i + nI 1)), some (.int (nI j)), some (.int (nI (μ 15 i)))], [])) rfl ?_
      rw [nI_add]
      refine aw_run 1 (F' := (137, [some (.ref m), some (.int (nI f)), some (.int (nI s)), some (.int (nI e)), some (.int (nI f0)), some (.int (nI (i + 1))), some (.int (nI j + (-1))), some (.int (nI (μ 15 i)))], [])) rfl ?_
      rw [show nI j + (-1) = nI (j - 1) from nI_dec (by omega) (by decide)]
      refine aw_run 1 (F' := (92, [some (.ref m), some (.int (nI f)), some (.int (nI s)), some (.int (nI e)), some (.int (nI f0)), some (.int (nI (i + 1))), some (.int (nI (j - 1))), some (.int (nI (μ 15 i)))], [])) rfl ?_
      refine ih (i + 1) (j - 1) _ _ _ (by omega) (by omega) (by omega) (by omega) hM2 (fun k hk' => by rw [mup_k _ _ _ hk', mup_k _ _ _ hk']; exact hk k hk') ?_
      rw [mup_f, mup_f]
      exact rvd_st h15 hai (by omega) (by omega) hij
/-- pushDocuments -/
theorem m_pd (hM : MS g m σ0 σ μ) {β : Nat → Nat} {lo wd p s : Nat} {v : sp_V} {bs : List (sp_V × Nat)} (hβ : μ 1 = β) (hlo : lo + wd ≤ 14000) (hv : lvl β v lo wd p) (hk : v.1.1 = 4) (h13 : μ 13 0 = bs.length) (hp : plx μ β lo wd bs) (hcap : bs.length + sp_len v.2 ≤ 2999) (hQ : ∀ σ' μ', MS g m σ0 σ' μ' → pfr μ μ' → μ' 13 0 = (bs ++ (sp_docs v.2).reverse.map (fun w => (w, s))).length → plx μ' β lo wd (bs ++ (sp_docs v.2).reverse.map (fun w => (w, s))) → Q none σ') : AW g (d + 3) 90 (0, [some (.ref m), some (.int (nI p)), some (.int (nI s)), none, none, none, none, none], []) σ Q := by
  subst hβ
  obtain ⟨v1, v2, q, v3, v4⟩ := hv
  obtain ⟨-, -, n1, n2, n3⟩ := ly_nst v4 (Or.inr hk)
  have hdl : (sp_docs v.2).length ≤ sp_len v.2 := by
    unfold sp_docs
    have := List.length_filter_le (fun w : sp_V => decide (w.1.1 = 3)) (sp_toL v.2)
    rw [toL_len] at this
    exact this
  refine aw_run 3 (F' := (3, [some (.ref m), some (.int (nI p)), some (.int (nI s)), none, none, none, none, none], [.int (nI p), .ref m, .int (nI p)])) rfl ?_
  refine aw_v [.ref m, .int (nI p)] [.int (nI p)] rfl (by decide) rfl hM.o rfl rfl (Nat.le_of_ble_eq_true rfl) (Nat.le_of_ble_eq_true rfl) ?_
  refine m_whole hM (by omega) ?_
  show AW g _ 90 (6, [some (.ref m), some (.int (nI p)), some (.int (nI s)), none, none, none, none, none], [.int (nI (sp_le (μ 1) p 4)), .int (nI p)]) σ _
  refine aw_run 1 (F' := (7, [some (.ref m), some (.int (nI p)), some (.int (nI s)), none, none, none, none, none], [.int (nI p + nI (sp_le (μ 1) p 4))])) rfl ?_
  rw [nI_add]
  refine aw_run 2 (F' := (9, [some (.ref m), some (.int (nI p)), some (.int (nI s)), none, none, none, none, none], [.int (nI (p + (sp_le (μ 1) p 4)) - nI 1)])) rfl ?_
  rw [nI_sub (by omega)]
  refine aw_run 2 (F' := (11, [some (.ref m), some (.int (nI p)), some (.int (nI s)), some (.int (nI ((p + (sp_le (μ 1) p 4)) - 1))), none, none, none, none], [.ref m])) rfl ?_
  refine aw_get rfl hM.o rfl ?_
  rw [show μ 13 0 = bs.length from h13]
  refine aw_run 4 (F' := (19, [some (.ref m), some (.int (nI p)), some (.int (nI s)), some (.int (nI ((p + (sp_le (μ 1) p 4)) - 1))), some (.int (nI bs.length)), none, none, none], [.int (nI p + nI 4)])) rfl ?_
  rw [nI_add]
  refine aw_run 1 (F' := (21, [some (.ref m), some (.int (nI p)), some (.int (nI s)), some (.int (nI ((p + (sp_le (μ 1) p 4)) - 1))), some (.int (nI bs.length)), some (.int (nI (p + 4))), none, none], [])) rfl ?_
  rw [show p + sp_le (μ 1) p 4 - 1 = q - 1 by omega]
  refine m_pd1 (β := μ 1) (lo := lo) (by omega) hlo v.2 0 (p + 4) bs σ μ hM rfl n3 (by omega) (by omega) h13 hp hcap (fun σ1 μ1 hM1 hf1 h131 hp1 => ?_)
  have hlen : (bs ++ (sp_docs v.2).map (fun w => (w, s))).length = bs.length + (sp_docs v.2).length := by simp
  rw [hlen] at h131
  have hlen2 : (bs ++ (sp_docs v.2).reverse.map (fun w => (w, s))).length = bs.length + (sp_docs v.2).length := by simp
  rw [hlen2] at hQ
  have hk3 : ∀ w ∈ sp_docs v.2, w.1.1 = 3 := fun w hw => of_decide_eq_true (List.mem_filter.mp hw).2
  refine aw_run 3 (F' := (85, [some (.ref m), some (.int (nI p)), some (.int (nI s)), some (.int (nI (q - 1))), some (.int (nI bs.length)), some (.int (nI bs.length)), none, none], [.ref m])) rfl ?_
  refine aw_get rfl hM1.o rfl ?_
  rw [show μ1 13 0 = bs.length + (sp_docs v.2).length from h131]
  by_cases h0 : bs.length + (sp_docs v.2).length = 0
  · refine aw_run 5 (F' := (96, [some (.ref m), some (.int (nI p)), some (.int (nI s)), some (.int (nI (q - 1))), some (.int (nI bs.length)), some (.int (nI bs.length)), some (.int (nI (bs.length + (sp_docs v.2).length) - nI 1)), none], [.int (nI (bs.length + (sp_docs v.2).length) - nI 1), .int (nI bs.length)])) rfl ?_
    refine aw_cge rfl (fun _ => ?_) (fun z => absurd ?_ z)
    · refine aw_vret rfl rfl (hQ σ1 μ1 hM1 hf1 h131 ?_)
      have hd0 : sp_docs v.2 = [] := List.length_eq_zero_iff.mp (by omega)
      rw [hd0] at hp1 ⊢
      exact hp1
    · rw [h0, show bs.length = 0 by omega]
      decide
  · refine aw_run 2 (F' := (90, [some (.ref m), some (.int (nI p)), some (.int (nI s)), some (.int (nI (q - 1))), some (.int (nI bs.length)), some (.int (nI bs.length)), none, none], [.int (nI (bs.length + (sp_docs v.2).length) - nI 1)])) rfl ?_
    rw [nI_sub (by omega)]
    refine aw_run 1 (F' := (92, [some (.ref m), some (.int (nI p)), some (.int (nI s)), some (.int (nI (q - 1))), some (.int (nI bs.length)), some (.int (nI bs.length)), some (.int (nI (bs.length + (sp_docs v.2).length - 1))), none], [])) rfl ?_
    refine m_pd2 (a := bs.length) (z := bs.length + (sp_docs v.2).length - 1) (μ1 := μ1) (by omega) (by omega) (fun σ2 μ2 i j hM2 g1 g2 g3 g4 => ?_) _ bs.length (bs.length + (sp_docs v.2).length - 1) σ1 μ1 none (Nat.lt_succ_self _) (Nat.le_refl _) (Nat.le_refl _) rfl hM1 (fun _ _ => rfl) ?_
    · refine hQ σ2 μ2 hM2 (fun f hf => (g1 f (by omega)).trans (hf1 f hf)) (by rw [g1 13 (by decide)]; exact h131) ?_
      refine plx_rev hp1 (g1 14 (by decide)) (g1 16 (by decide)) hk3 (fun x hx => ?_) (fun x hx1 hx2 => ?_)
      · rw [g2]
        exact rvd_out (Or.inl hx)
      · rw [g2]
        exact rvd_end g3 g4 hx1 (by omega)
    · funext x
      unfold rvd
      rw [if_neg (by omega)]
end P89
