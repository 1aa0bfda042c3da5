theorem toL_b : ∀ {F : sp_F} {w : sp_V}, w ∈ sp_toL F → sp_hgt w.2 + 1 ≤ sp_hgt F ∧ (sp_toL F).length + sp_all w.2 ≤ sp_all F
  | .leaf, w, h => by cases h
  | .inner s b u c r, w, h => by
    obtain ⟨hg1, hg2⟩ := hgt_in s b u c r
    have hl : (sp_toL (.inner s b u c r)).length = (sp_toL r).length + 1 := rfl
    have hr : (sp_toL r).length ≤ sp_all r := by rw [toL_len]; exact sp_len_all r
    simp only [sp_all]
    rcases List.mem_cons.mp h with z | z
    · rw [z]
      refine ⟨hg1, ?_⟩
      show (sp_toL (.inner s b u c r)).length + sp_all c ≤ _
      omega
    · obtain ⟨a1, a2⟩ := toL_b z
      exact ⟨by omega, by omega⟩
theorem fnd_mem {nm : List Nat} : ∀ {F : sp_F} {w : sp_V}, sp_fnd nm F = some w → w ∈ sp_toL F
  | .leaf, w, h => by cases h
  | .inner s b u c r, w, h => by
    have h' : (if b.2.1 = nm then some (b, c) else sp_fnd nm r) = some w := h
    split at h'
    · cases h'
      exact List.mem_cons_self
    · exact List.mem_cons_of_mem _ (fnd_mem h')
theorem docs_mem {F : sp_F} {w : sp_V} (h : w ∈ sp_docs F) : w ∈ sp_toL F ∧ w.1.1 = 3 := ⟨(List.mem_filter.mp h).1, of_decide_eq_true (List.mem_filter.mp h).2⟩
theorem flat_docs {it : Bool} {n : Nat} {P : List (List Nat)} : ∀ l : List sp_V, l.flatMap (fun w => if w.1.1 = 3 then sp_lv it n w P else []) = (l.filter (fun w => decide (w.1.1 = 3))).flatMap (fun w => sp_lv it n w P)
  | [] => rfl
  | w :: l => by
    rw [List.flatMap_cons, List.filter_cons, flat_docs l]
    by_cases h : w.1.1 = 3
    · rw [if_pos h, if_pos (by simpa using h), List.flatMap_cons]
    · rw [if_neg h, if_neg (by simpa using h), List.nil_append]
theorem drop_nm {P : List (List Nat)} {s : Nat} (h : s < P.length) : P.drop s = P[s] :: P.drop (s + 1) := List.drop_eq_getElem_cons h
section P90
variable {g : Nat × Nat} {d : Nat} {σ0 σ : am_H} {Q : Option Value → am_H → Prop} {m : Nat} {μ : sp_M}
variable {sl iN base : Nat}
theorem m_fOv {x4 x5 x6 x7 : Option Value} (hM : MS g m σ0 σ μ) (h : 500 < μ 10 0) (hb : μ 10 0 < 20000) (hp : μ 13 0 < 2 ^ 31) (hQ : Q (some (.int (nI 501))) σ) : AW g d 84 (21, [some (.ref m), some (.int (nI sl)), some (.int (nI iN)), some (.int (nI base)), x4, x5, x6, x7], []) σ Q := by
  refine aw_run 1 (F' := (22, [some (.ref m), some (.int (nI sl)), some (.int (nI iN)), some (.int (nI base)), x4, x5, x6, x7], [.ref m])) rfl ?_
  refine aw_get rfl hM.o rfl ?_
  refine an_zle rfl (by omega) (fun h1 => ?_) (fun h1 => ?_)
  · refine aw_run 1 (F' := (201, [some (.ref m), some (.int (nI sl)), some (.int (nI iN)), some (.int (nI base)), x4, x5, x6, x7], [.ref m])) rfl ?_
    refine aw_get rfl hM.o rfl ?_
    refine aw_run 1 (F' := (207, [some (.ref m), some (.int (nI sl)), some (.int (nI iN)), some (.int (nI base)), x4, x5, x6, x7], [.int (nI 500), .int (nI (μ 10 0))])) rfl ?_
    refine an_cle rfl (by omega) (by omega) (fun h2 => ?_) (fun h2 => ?_)
    · omega
    · refine aw_run 2 (F' := (220, [some (.ref m), some (.int (nI sl)), some (.int (nI iN)), some (.int (nI base)), x4, x5, x6, x7], [.int (nI 501)])) rfl ?_
      exact aw_iret rfl ⟨_, rfl, rfl⟩ (hQ)
  · refine aw_run 1 (F' := (29, [some (.ref m), some (.int (nI sl)), some (.int (nI iN)), some (.int (nI base)), x4, x5, x6, x7], [.ref m])) rfl ?_
    refine aw_get rfl hM.o rfl ?_
    refine aw_run 1 (F' := (35, [some (.ref m), some (.int (nI sl)), some (.int (nI iN)), some (.int (nI base)), x4, x5, x6, x7], [.int (nI 500), .int (nI (μ 10 0))])) rfl ?_
    refine an_cgt rfl (by omega) (by omega) (fun h3 => ?_) (fun h3 => ?_)
    · refine aw_run 1 (F' := (201, [some (.ref m), some (.int (nI sl)), some (.int (nI iN)), some (.int (nI base)), x4, x5, x6, x7], [.ref m])) rfl ?_
      refine aw_get rfl hM.o rfl ?_
      refine aw_run 1 (F' := (207, [some (.ref m), some (.int (nI sl)), some (.int (nI iN)), some (.int (nI base)), x4, x5, x6, x7], [.int (nI 500), .int (nI (μ 10 0))])) rfl ?_
      refine an_cle rfl (by omega) (by omega) (fun h4 => ?_) (fun h4 => ?_)
      · omega
      · refine aw_run 2 (F' := (220, [some (.ref m), some (.int (nI sl)), some (.int (nI iN)), some (.int (nI base)), x4, x5, x6, x7], [.int (nI 501)])) rfl ?_
        exact aw_iret rfl ⟨_, rfl, rfl⟩ (hQ)
    · omega
theorem m_fEnd {x4 x5 x6 x7 : Option Value} (hM : MS g m σ0 σ μ) {L : Nat} (h : μ 10 0 = L) (hL : L ≤ 500) (hp : μ 13 0 = 0) (hQ : Q (some (.int (nI L))) σ) : AW g d 84 (21, [some (.ref m), some (.int (nI sl)), some (.int (nI iN)), some (.int (nI base)), x4, x5, x6, x7], []) σ Q := by
  refine aw_run 1 (F' := (22, [some (.ref m), some (.int (nI sl)), some (.int (nI iN)), some (.int (nI base)), x4, x5, x6, x7], [.ref m])) rfl ?_
  refine aw_get rfl hM.o rfl ?_
  rw [show μ 13 0 = 0 from hp]
  refine an_zle rfl (by omega) (fun _ => ?_) (fun z => absurd z (by omega))
  refine aw_run 1 (F' := (201, [some (.ref m), some (.int (nI sl)), some (.int (nI iN)), some (.int (nI base)), x4, x5, x6, x7], [.ref m])) rfl ?_
  refine aw_get rfl hM.o rfl ?_
  rw [show μ 10 0 = L from h]
  refine aw_run 1 (F' := (207, [some (.ref m), some (.int (nI sl)), some (.int (nI iN)), some (.int (nI base)), x4, x5, x6, x7], [.int (nI 500), .int (nI L)])) rfl ?_
  refine an_cle rfl (by omega) (by omega) (fun h2 => ?_) (fun h2 => ?_)
  · refine aw_run 1 (F' := (217, [some (.ref m), some (.int (nI sl)), some (.int (nI iN)), some (.int (nI base)), x4, x5, x6, x7], [.ref m])) rfl ?_
    refine aw_get rfl hM.o rfl ?_
    rw [show μ 10 0 = L from h]
    exact aw_iret rfl ⟨_, rfl, rfl⟩ (hQ)
  · omega
theorem m_fPop {x4 x5 x6 x7 : Option Value} (hM : MS g m σ0 σ μ) {L B kd p s : Nat} (h : μ 10 0 = L) (hL : L ≤ 500) (hp : μ 13 0 = B + 1) (hB : B < 3000) (h14 : μ 14 B = kd) (h15 : μ 15 B = p) (h16 : μ 16 B = s) (hQ : ∀ σ', MS g m σ0 σ' (mup μ 13 0 B) → AW g d 84 (81, [some (.ref m), some (.int (nI sl)), some (.int (nI iN)), some (.int (nI base)), some (.int (nI kd)), some (.int (nI p)), some (.int (nI s)), x7], []) σ' Q) : AW g d 84 (21, [some (.ref m), some (.int (nI sl)), some (.int (nI iN)), some (.int (nI base)), x4, x5, x6, x7], []) σ Q := by
  refine aw_run 1 (F' := (22, [some (.ref m), some (.int (nI sl)), some (.int (nI iN)), some (.int (nI base)), x4, x5, x6, x7], [.ref m])) rfl ?_
  refine aw_get rfl hM.o rfl ?_
  rw [show μ 13 0 = B + 1 from hp]
  refine an_zle rfl (by omega) (fun h1 => ?_) (fun h1 => ?_)
  · omega
  · refine aw_run 1 (F' := (29, [some (.ref m), some (.int (nI sl)), some (.int (nI iN)), some (.int (nI base)), x4, x5, x6, x7], [.ref m])) rfl ?_
    refine aw_get rfl hM.o rfl ?_
    rw [show μ 10 0 = L from h]
    refine aw_run 1 (F' := (35, [some (.ref m), some (.int (nI sl)), some (.int (nI iN)), some (.int (nI base)), x4, x5, x6, x7], [.int (nI 500), .int (nI L)])) rfl ?_
    refine an_cgt rfl (by omega) (by omega) (fun h2 => ?_) (fun h2 => ?_)
    · omega
    · refine aw_run 2 (F' := (40, [some (.ref m), some (.int (nI sl)), some (.int (nI iN)), some (.int (nI base)), x4, x5, x6, x7], [.ref m, .ref m])) rfl ?_
      refine aw_get rfl hM.o rfl ?_
      rw [show μ 13 0 = B + 1 from hp]
      refine aw_run 2 (F' := (45, [some (.ref m), some (.int (nI sl)), some (.int (nI iN)), some (.int (nI base)), x4, x5, x6, x7], [.int (nI (B + 1) - nI 1), .ref m])) rfl ?_
      rw [nI_sub (by omega)]
      rw [show (B + 1) - 1 = B from rfl]
      refine ms_put hM rfl (by decide) (fun s1 hM1 => ?_)
      refine aw_run 1 (F' := (49, [some (.ref m), some (.int (nI sl)), some (.int (nI iN)), some (.int (nI base)), x4, x5, x6, x7], [.ref m])) rfl ?_
      refine aw_get rfl hM1.o rfl ?_
      refine aw_run 1 (F' := (53, [some (.ref m), some (.int (nI sl)), some (.int (nI iN)), some (.int (nI base)), x4, x5, x6, x7], [.ref m, .ref (m + 10)])) rfl ?_
      refine aw_get rfl hM1.o rfl ?_
      rw [show (mup μ 13 0 B) 13 0 = B from rfl]
      refine ms_ild hM1 rfl (k := 14) (n := 3000) (by decide) (by omega) ?_
      rw [show (mup μ 13 0 B) 14 B = kd from h14]
      refine aw_run 2 (F' := (60, [some (.ref m), some (.int (nI sl)), some (.int (nI iN)), some (.int (nI base)), some (.int (nI kd)), x5, x6, x7], [.ref m])) rfl ?_
      refine aw_get rfl hM1.o rfl ?_
      refine aw_run 1 (F' := (64, [some (.ref m), some (.int (nI sl)), some (.int (nI iN)), some (.int (nI base)), some (.int (nI kd)), x5, x6, x7], [.ref m, .ref (m + 11)])) rfl ?_
      refine aw_get rfl hM1.o rfl ?_
      rw [show (mup μ 13 0 B) 13 0 = B from rfl]
      refine ms_ild hM1 rfl (k := 15) (n := 3000) (by decide) (by omega) ?_
      rw [show (mup μ 13 0 B) 15 B = p from h15]
      refine aw_run 2 (F' := (71, [some (.ref m), some (.int (nI sl)), some (.int (nI iN)), some (.int (nI base)), some (.int (nI kd)), some (.int (nI p)), x6, x7], [.ref m])) rfl ?_
      refine aw_get rfl hM1.o rfl ?_
      refine aw_run 1 (F' := (75, [some (.ref m), some (.int (nI sl)), some (.int (nI iN)), some (.int (nI base)), some (.int (nI kd)), some (.int (nI p)), x6, x7], [.ref m, .ref (m + 12)])) rfl ?_
      refine aw_get rfl hM1.o rfl ?_
      rw [show (mup μ 13 0 B) 13 0 = B from rfl]
      refine ms_ild hM1 rfl (k := 16) (n := 3000) (by decide) (by omega) ?_
      rw [show (mup μ 13 0 B) 16 B = s from h16]
      refine aw_run 1 (F' := (81, [some (.ref m), some (.int (nI sl)), some (.int (nI iN)), some (.int (nI base)), some (.int (nI kd)), some (.int (nI p)), some (.int (nI s)), x7], [])) rfl ?_
      exact hQ _ hM1
theorem m_fA {x7 : Option Value} (hM : MS g m σ0 σ μ) {β : Nat → Nat} {lo wd p s : Nat} {it : Bool} {v : sp_V} {L : List sp_V} (hβ : μ 1 = β) (hb : base ≤ 500) (hlo : lo + wd ≤ 14000) (hv : lvl β v lo wd p) (hL : lfs μ β lo wd base L) (hll : L.length ≤ 500) (hs : s ≤ 8) (h3 : μ 3 0 = s) (hiN : iN = (if it = true then 1 else 0)) (hQ : ∀ σ' μ' (x4 x5 x6 x7 : Option Value), MS g m σ0 σ' μ' → ffr base μ μ' → (∀ f, 13 ≤ f → μ' f = μ f) → lfs μ' β lo wd base (L ++ v :: sp_its v it) → AW g (d + 4) 84 (21, [some (.ref m), some (.int (nI sl)), some (.int (nI ((if it = true then 1 else 0)))), some (.int (nI base)), x4, x5, x6, x7], []) σ' Q) : AW g (d + 4) 84 (81, [some (.ref m), some (.int (nI sl)), some (.int (nI iN)), some (.int (nI base)), some (.int (nI v.1.1)), some (.int (nI p)), some (.int (nI s)), x7], []) σ Q := by
  subst hiN
  refine aw_run 2 (F' := (84, [some (.ref m), some (.int (nI sl)), some (.int (nI ((if it = true then 1 else 0)))), some (.int (nI base)), some (.int (nI v.1.1)), some (.int (nI p)), some (.int (nI s)), x7], [.ref m, .int (nI s)])) rfl ?_
  refine aw_get rfl hM.o rfl ?_
  rw [show μ 3 0 = s from h3]
  refine an_cne rfl (by omega) (by omega) (fun h1 => ?_) (fun h1 => ?_)
  · omega
  · refine aw_run 5 (F' := (97, [some (.ref m), some (.int (nI sl)), some (.int (nI ((if it = true then 1 else 0)))), some (.int (nI base)), some (.int (nI v.1.1)), some (.int (nI p)), some (.int (nI s)), x7], [.int (nI ((if it = true then 1 else 0))), .int (nI p), .int (nI v.1.1), .int (nI base), .ref m])) rfl ?_
    refine aw_v [.ref m, .int (nI base), .int (nI v.1.1), .int (nI p), .int (nI ((if it = true then 1 else 0)))] [] rfl (by decide) rfl hM.o rfl rfl (Nat.le_of_ble_eq_true rfl) (Nat.le_of_ble_eq_true rfl) ?_
    refine m_al hM hβ hb hlo hv hL hll (fun s1 μ1 hM1 hf1 hp1 hL1 => ?_)
    show AW g _ 84 (100, [some (.ref m), some (.int (nI sl)), some (.int (nI ((if it = true then 1 else 0)))), some (.int (nI base)), some (.int (nI v.1.1)), some (.int (nI p)), some (.int (nI s)), x7], []) s1 _
    refine aw_run 2 (F' := (21, [some (.ref m), some (.int (nI sl)), some (.int (nI ((if it = true then 1 else 0)))), some (.int (nI base)), some (.int (nI v.1.1)), some (.int (nI p)), some (.int (nI s)), x7], [])) rfl ?_
    exact hQ s1 μ1 _ _ _ _ hM1 hf1 hp1 hL1
theorem m_fM {x7 : Option Value} (hM : MS g m σ0 σ μ) {β : Nat → Nat} {lo wd p s n : Nat} {v : sp_V} {L : List sp_V} (hb : base ≤ 500) (hL : lfs μ β lo wd base L) (hll : L.length ≤ 500) (hs : s < n) (hn : n ≤ 8) (h3 : μ 3 0 = n) (hkv : v.1.1 < 2 ^ 31) (hk3 : ¬ v.1.1 = 3) (hk4 : ¬ v.1.1 = 4) (hQ : ∀ σ' μ' (x4 x5 x6 x7 : Option Value), MS g m σ0 σ' μ' → ffr base μ μ' → (∀ f, 13 ≤ f → μ' f = μ f) → lfs μ' β lo wd base (L ++ [sp_miss]) → AW g (d + 4) 84 (21, [some (.ref m), some (.int (nI sl)), some (.int (nI iN)), some (.int (nI base)), x4, x5, x6, x7], []) σ' Q) : AW g (d + 4) 84 (81, [some (.ref m), some (.int (nI sl)), some (.int (nI iN)), some (.int (nI base)), some (.int (nI v.1.1)), some (.int (nI p)), some (.int (nI s)), x7], []) σ Q := by
  refine aw_run 2 (F' := (84, [some (.ref m), some (.int (nI sl)), some (.int (nI iN)), some (.int (nI base)), some (.int (nI v.1.1)), some (.int (nI p)), some (.int (nI s)), x7], [.ref m, .int (nI s)])) rfl ?_
  refine aw_get rfl hM.o rfl ?_
  rw [show μ 3 0 = n from h3]
  refine an_cne rfl (by omega) (by omega) (fun h1 => ?_) (fun h1 => ?_)
  · refine aw_run 2 (F' := (106, [some (.ref m), some (.int (nI sl)), some (.int (nI iN)), some (.int (nI base)), some (.int (nI v.1.1)), some (.int (nI p)), some (.int (nI s)), x7], [.int (nI 3), .int (nI v.1.1)])) rfl ?_
    refine an_ceq rfl (by omega) (by omega) (fun h2 => ?_) (fun h2 => ?_)
    · exact absurd h2 hk3
    · refine aw_run 2 (F' := (112, [some (.ref m), some (.int (nI sl)), some (.int (nI iN)), some (.int (nI base)), some (.int (nI v.1.1)), some (.int (nI p)), some (.int (nI s)), x7], [.int (nI 4), .int (nI v.1.1)])) rfl ?_
      refine an_cne rfl (by omega) (by omega) (fun h3 => ?_) (fun h3 => ?_)
      · refine aw_run 4 (F' := (194, [some (.ref m), some (.int (nI sl)), some (.int (nI iN)), some (.int (nI base)), some (.int (nI v.1.1)), some (.int (nI p)), some (.int (nI s)), x7], [.int (nI 0), .int (nI 0), .int (nI base), .ref m])) rfl ?_
        refine aw_v [.ref m, .int (nI base), .int (nI 0), .int (nI 0)] [] rfl (by decide) rfl hM.o rfl rfl (Nat.le_of_ble_eq_true rfl) (Nat.le_of_ble_eq_true rfl) ?_
        refine m_leaf hM (v := sp_miss) (p := 0) hb hL (by omega) miss_d rfl (fun s9 μ9 hM9 hf9 hp9 hL9 => ?_)
        show AW g _ 84 (197, [some (.ref m), some (.int (nI sl)), some (.int (nI iN)), some (.int (nI base)), some (.int (nI v.1.1)), some (.int (nI p)), some (.int (nI s)), x7], []) s9 _
        refine aw_run 1 (F' := (21, [some (.ref m), some (.int (nI sl)), some (.int (nI iN)), some (.int (nI base)), some (.int (nI v.1.1)), some (.int (nI p)), some (.int (nI s)), x7], [])) rfl ?_
        exact hQ s9 μ9 _ _ _ _ hM9 hf9 hp9 hL9
      · exact absurd h3 hk4
  · omega
theorem m_fD {x7 : Option Value} (hM : MS g m σ0 σ μ) {β : Nat → Nat} {lo wd p q s n t : Nat} {v : sp_V} {nm : List Nat} {L : List sp_V} {B : Nat} (hβ : μ 1 = β) (hb : base ≤ 500) (hL : lfs μ β lo wd base L) (hll : L.length ≤ 500) (hs : s < n) (hn : n ≤ 8) (h3 : μ 3 0 = n) (hk3 : v.1.1 = 3) (hlp : p ≤ 14000) (hl : lyV (μ 1) v p q) (hq : q ≤ 14000) (hb' : nmd (μ 5) (μ 4 s) t) (ht : t < 2010) (hnm : sp_sub (μ 5) (μ 4 s) t = nm) (h13 : μ 13 0 = B) (hB : B < 3000) (gN : sp_fnd nm v.2 = none → ∀ σ' μ' (x4 x5 x6 x7 : Option Value), MS g m σ0 σ' μ' → ffr base μ μ' → (∀ f, 13 ≤ f → μ' f = μ f) → lfs μ' β lo wd base (L ++ [sp_miss]) → AW g (d + 4) 84 (21, [some (.ref m), some (.int (nI sl)), some (.int (nI iN)), some (.int (nI base)), x4, x5, x6, x7], []) σ' Q) (gS : ∀ w s' q', sp_fnd nm v.2 = some w → p ≤ s' → lyV (μ 1) w (s' + 1) q' → q' ≤ q → ∀ σ' (x4 x5 x6 x7 : Option Value), MS g m σ0 σ' (mup (mup (mup (mup μ 14 B w.1.1) 15 B (s' + 1)) 16 B (s + 1)) 13 0 (B + 1)) → AW g (d + 4) 84 (21, [some (.ref m), some (.int (nI sl)), some (.int (nI iN)), some (.int (nI base)), x4, x5, x6, x7], []) σ' Q) : AW g (d + 4) 84 (81, [some (.ref m), some (.int (nI sl)), some (.int (nI iN)), some (.int (nI base)), some (.int (nI v.1.1)), some (.int (nI p)), some (.int (nI s)), x7], []) σ Q := by
  have hkv : v.1.1 < 2 ^ 31 := by omega
  refine aw_run 2 (F' := (84, [some (.ref m), some (.int (nI sl)), some (.int (nI iN)), some (.int (nI base)), some (.int (nI v.1.1)), some (.int (nI p)), some (.int (nI s)), x7], [.ref m, .int (nI s)])) rfl ?_
  refine aw_get rfl hM.o rfl ?_
  rw [show μ 3 0 = n from h3]
  refine an_cne rfl (by omega) (by omega) (fun h1 => ?_) (fun h1 => ?_)
  · refine aw_run 2 (F' := (106, [some (.ref m), some (.int (nI sl)), some (.int (nI iN)), some (.int (nI base)), some (.int (nI v.1.1)), some (.int (nI p)), some (.int (nI s)), x7], [.int (nI 3), .int (nI v.1.1)])) rfl ?_
    refine an_ceq rfl (by omega) (by omega) (fun h2 => ?_) (fun h2 => ?_)
    · refine aw_run 3 (F' := (120, [some (.ref m), some (.int (nI sl)), some (.int (nI iN)), some (.int (nI base)), some (.int (nI v.1.1)), some (.int (nI p)), some (.int (nI s)), x7], [.int (nI s), .int (nI p), .ref m])) rfl ?_
      refine aw_v [.ref m, .int (nI p), .int (nI s)] [] rfl (by decide) rfl hM.o rfl rfl (Nat.le_of_ble_eq_true rfl) (Nat.le_of_ble_eq_true rfl) ?_
      refine m_nmd hM hl (by omega) hq hb' ht (by omega) hnm (fun hf => ?_) (fun w k' s' q' hf e1 e2 e3 e4 e5 e6 => ?_)
      · skip
        show AW g _ 84 (123, [some (.ref m), some (.int (nI sl)), some (.int (nI iN)), some (.int (nI base)), some (.int (nI v.1.1)), some (.int (nI p)), some (.int (nI s)), x7], [.int (-1)]) σ _
        refine aw_run 3 (F' := (128, [some (.ref m), some (.int (nI sl)), some (.int (nI iN)), some (.int (nI base)), some (.int (nI v.1.1)), some (.int (nI p)), some (.int (nI s)), some (.int (-1))], [.int (nI 4), .int (nI v.1.1)])) rfl ?_
        refine an_cne rfl (by omega) (by omega) (fun h3 => ?_) (fun h3 => ?_)
        · refine aw_run 1 (F' := (141, [some (.ref m), some (.int (nI sl)), some (.int (nI iN)), some (.int (nI base)), some (.int (nI v.1.1)), some (.int (nI p)), some (.int (nI s)), some (.int (-1))], [.int (-1)])) rfl ?_
          refine aw_zlt rfl (fun h4 => ?_) (fun h4 => ?_)
          · refine aw_run 2 (F' := (177, [some (.ref m), some (.int (nI sl)), some (.int (nI iN)), some (.int (nI base)), some (.int (nI v.1.1)), some (.int (nI p)), some (.int (nI s)), some (.int (-1))], [.int (nI 3), .int (nI v.1.1)])) rfl ?_
            refine an_cne rfl (by omega) (by omega) (fun h5 => ?_) (fun h5 => ?_)
            · omega
            · refine aw_run 4 (F' := (184, [some (.ref m), some (.int (nI sl)), some (.int (nI iN)), some (.int (nI base)), some (.int (nI v.1.1)), some (.int (nI p)), some (.int (nI s)), some (.int (-1))], [.int (nI 0), .int (nI 0), .int (nI base), .ref m])) rfl ?_
              refine aw_v [.ref m, .int (nI base), .int (nI 0), .int (nI 0)] [] rfl (by decide) rfl hM.o rfl rfl (Nat.le_of_ble_eq_true rfl) (Nat.le_of_ble_eq_true rfl) ?_
              refine m_leaf hM (v := sp_miss) (p := 0) hb hL (by omega) miss_d rfl (fun s9 μ9 hM9 hf9 hp9 hL9 => ?_)
              show AW g _ 84 (187, [some (.ref m), some (.int (nI sl)), some (.int (nI iN)), some (.int (nI base)), some (.int (nI v.1.1)), some (.int (nI p)), some (.int (nI s)), some (.int (-1))], []) s9 _
              refine aw_run 2 (F' := (21, [some (.ref m), some (.int (nI sl)), some (.int (nI iN)), some (.int (nI base)), some (.int (nI v.1.1)), some (.int (nI p)), some (.int (nI s)), some (.int (-1))], [])) rfl ?_
              exact gN hf s9 μ9 _ _ _ _ hM9 hf9 hp9 hL9
          · exact absurd (by decide) h4
        · omega
      · have e7 := ly1.le e4
        have e8 := e2.1
        have e9 := e4.kd
        show AW g _ 84 (123, [some (.ref m), some (.int (nI sl)), some (.int (nI iN)), some (.int (nI base)), some (.int (nI v.1.1)), some (.int (nI p)), some (.int (nI s)), x7], [.int (nI k')]) σ _
        refine aw_run 3 (F' := (128, [some (.ref m), some (.int (nI sl)), some (.int (nI iN)), some (.int (nI base)), some (.int (nI v.1.1)), some (.int (nI p)), some (.int (nI s)), some (.int (nI k'))], [.int (nI 4), .int (nI v.1.1)])) rfl ?_
        refine an_cne rfl (by omega) (by omega) (fun h6 => ?_) (fun h6 => ?_)
        · refine aw_run 1 (F' := (141, [some (.ref m), some (.int (nI sl)), some (.int (nI iN)), some (.int (nI base)), some (.int (nI v.1.1)), some (.int (nI p)), some (.int (nI s)), some (.int (nI k'))], [.int (nI k')])) rfl ?_
          refine an_zlt rfl (by omega) ?_
          refine aw_run 3 (F' := (148, [some (.ref m), some (.int (nI sl)), some (.int (nI iN)), some (.int (nI base)), some (.int (nI v.1.1)), some (.int (nI p)), some (.int (nI s)), some (.int (nI k'))], [.int (nI k'), .ref m, .ref m])) rfl ?_
          refine aw_v [.ref m, .int (nI k')] [.ref m] rfl (by decide) rfl hM.o rfl rfl (Nat.le_of_ble_eq_true rfl) (Nat.le_of_ble_eq_true rfl) ?_
          have hB1 := hM.by (i := k') (by omega)
          rw [show μ 1 k' = w.1.1 from e3] at hB1
          refine m_at hM (by omega) ?_
          rw [show μ 1 k' = w.1.1 from e3]
          show AW g _ 84 (151, [some (.ref m), some (.int (nI sl)), some (.int (nI iN)), some (.int (nI base)), some (.int (nI v.1.1)), some (.int (nI p)), some (.int (nI s)), some (.int (nI k'))], [.int (nI w.1.1), .ref m]) σ _
          refine aw_run 4 (F' := (156, [some (.ref m), some (.int (nI sl)), some (.int (nI iN)), some (.int (nI base)), some (.int (nI v.1.1)), some (.int (nI p)), some (.int (nI s)), some (.int (nI k'))], [.int (nI k' + nI 1), .ref m, .int (nI w.1.1), .ref m])) rfl ?_
          rw [nI_add]
          refine aw_run 1 (F' := (159, [some (.ref m), some (.int (nI sl)), some (.int (nI iN)), some (.int (nI base)), some (.int (nI v.1.1)), some (.int (nI p)), some (.int (nI s)), some (.int (nI k'))], [.int (nI 14000), .int (nI (k' + 1)), .ref m, .int (nI w.1.1), .ref m])) rfl ?_
          refine aw_v [.ref m, .int (nI (k' + 1)), .int (nI 14000)] [.int (nI w.1.1), .ref m] rfl (by decide) rfl hM.o rfl rfl (Nat.le_of_ble_eq_true rfl) (Nat.le_of_ble_eq_true rfl) ?_
          refine m_nes hM (by omega) (s := s') e2 (by omega) ?_
          show AW g _ 84 (162, [some (.ref m), some (.int (nI sl)), some (.int (nI iN)), some (.int (nI base)), some (.int (nI v.1.1)), some (.int (nI p)), some (.int (nI s)), some (.int (nI k'))], [.int (nI s'), .int (nI w.1.1), .ref m]) σ _
          refine aw_run 2 (F' := (164, [some (.ref m), some (.int (nI sl)), some (.int (nI iN)), some (.int (nI base)), some (.int (nI v.1.1)), some (.int (nI p)), some (.int (nI s)), some (.int (nI k'))], [.int (nI s' + nI 1), .int (nI w.1.1), .ref m])) rfl ?_
          rw [nI_add]
          refine aw_run 3 (F' := (168, [some (.ref m), some (.int (nI sl)), some (.int (nI iN)), some (.int (nI base)), some (.int (nI v.1.1)), some (.int (nI p)), some (.int (nI s)), some (.int (nI k'))], [.int (nI s + nI 1), .int (nI (s' + 1)), .int (nI w.1.1), .ref m])) rfl ?_
          rw [nI_add]
          refine aw_v [.ref m, .int (nI w.1.1), .int (nI (s' + 1)), .int (nI (s + 1))] [] rfl (by decide) rfl hM.o rfl rfl (Nat.le_of_ble_eq_true rfl) (Nat.le_of_ble_eq_true rfl) ?_
          refine m_push hM (L := B) h13 (by omega) (fun s8 hM8 => ?_)
          show AW g _ 84 (171, [some (.ref m), some (.int (nI sl)), some (.int (nI iN)), some (.int (nI base)), some (.int (nI v.1.1)), some (.int (nI p)), some (.int (nI s)), some (.int (nI k'))], []) s8 _
          refine aw_run 3 (F' := (21, [some (.ref m), some (.int (nI sl)), some (.int (nI iN)), some (.int (nI base)), some (.int (nI v.1.1)), some (.int (nI p)), some (.int (nI s)), some (.int (nI k'))], [])) rfl ?_
          exact gS w s' q' hf (by omega) e4 (by omega) s8 _ _ _ _ hM8
        · omega
    · omega
  · omega
theorem m_fR {x7 : Option Value} (hM : MS g m σ0 σ μ) {lo wd p q s n t : Nat} {v : sp_V} {nm : List Nat} {bs : List (sp_V × Nat)} (hlo : lo + wd ≤ 14000) (hs : s < n) (hn : n ≤ 8) (h3 : μ 3 0 = n) (hk4 : v.1.1 = 4) (hlp : p ≤ 14000) (hv : lvl (μ 1) v lo wd p) (hl : lyV (μ 1) v p q) (hq : q ≤ 14000) (hb' : nmd (μ 5) (μ 4 s) t) (ht : t < 2010) (hnm : sp_sub (μ 5) (μ 4 s) t = nm) (h13 : μ 13 0 = bs.length) (hp : plx μ (μ 1) lo wd bs) (hcap : bs.length + sp_len v.2 ≤ 2998) (gN : sp_fnd nm v.2 = none → ∀ σ' μ' (x4 x5 x6 x7 : Option Value), MS g m σ0 σ' μ' → pfr μ μ' → μ' 13 0 = (bs ++ (sp_docs v.2).reverse.map (fun w => (w, s))).length → plx μ' (μ 1) lo wd (bs ++ (sp_docs v.2).reverse.map (fun w => (w, s))) → AW g (d + 4) 84 (21, [some (.ref m), some (.int (nI sl)), some (.int (nI iN)), some (.int (nI base)), x4, x5, x6, x7], []) σ' Q) (gS : ∀ w s' q', sp_fnd nm v.2 = some w → p ≤ s' → lyV (μ 1) w (s' + 1) q' → q' ≤ q → ∀ σ' μ' (x4 x5 x6 x7 : Option Value), MS g m σ0 σ' (mup (mup (mup (mup μ' 14 (bs ++ (sp_docs v.2).reverse.map (fun w => (w, s))).length w.1.1) 15 (bs ++ (sp_docs v.2).reverse.map (fun w => (w, s))).length (s' + 1)) 16 (bs ++ (sp_docs v.2).reverse.map (fun w => (w, s))).length (s + 1)) 13 0 ((bs ++ (sp_docs v.2).reverse.map (fun w => (w, s))).length + 1)) → pfr μ μ' → plx μ' (μ 1) lo wd (bs ++ (sp_docs v.2).reverse.map (fun w => (w, s))) → AW g (d + 4) 84 (21, [some (.ref m), some (.int (nI sl)), some (.int (nI iN)), some (.int (nI base)), x4, x5, x6, x7], []) σ' Q) : AW g (d + 4) 84 (81, [some (.ref m), some (.int (nI sl)), some (.int (nI iN)), some (.int (nI base)), some (.int (nI v.1.1)), some (.int (nI p)), some (.int (nI s)), x7], []) σ Q := by
  have hkv : v.1.1 < 2 ^ 31 := by omega
  have hdl : (bs ++ (sp_docs v.2).reverse.map (fun w => (w, s))).length < 3000 := by
    have := List.length_filter_le (fun w : sp_V => decide (w.1.1 = 3)) (sp_toL v.2)
    rw [toL_len] at this
    simp only [List.length_append, List.length_map, List.length_reverse]
    unfold sp_docs
    omega
  generalize hbs : bs ++ (sp_docs v.2).reverse.map (fun w => (w, s)) = bs' at gN gS hdl
  generalize hB' : bs'.length = B' at gN gS hdl
  refine aw_run 2 (F' := (84, [some (.ref m), some (.int (nI sl)), some (.int (nI iN)), some (.int (nI base)), some (.int (nI v.1.1)), some (.int (nI p)), some (.int (nI s)), x7], [.ref m, .int (nI s)])) rfl ?_
  refine aw_get rfl hM.o rfl ?_
  rw [show μ 3 0 = n from h3]
  refine an_cne rfl (by omega) (by omega) (fun h1 => ?_) (fun h1 => ?_)
  · refine aw_run 2 (F' := (106, [some (.ref m), some (.int (nI sl)), some (.int (nI iN)), some (.int (nI base)), some (.int (nI v.1.1)), some (.int (nI p)), some (.int (nI s)), x7], [.int (nI 3), .int (nI v.1.1)])) rfl ?_
    refine an_ceq rfl (by omega) (by omega) (fun h2 => ?_) (fun h2 => ?_)
    · omega
    · refine aw_run 2 (F' := (112, [some (.ref m), some (.int (nI sl)), some (.int (nI iN)), some (.int (nI base)), some (.int (nI v.1.1)), some (.int (nI p)), some (.int (nI s)), x7], [.int (nI 4), .int (nI v.1.1)])) rfl ?_
      refine an_cne rfl (by omega) (by omega) (fun h3 => ?_) (fun h3 => ?_)
      · omega
      · refine aw_run 3 (F' := (120, [some (.ref m), some (.int (nI sl)), some (.int (nI iN)), some (.int (nI base)), some (.int (nI v.1.1)), some (.int (nI p)), some (.int (nI s)), x7], [.int (nI s), .int (nI p), .ref m])) rfl ?_
        refine aw_v [.ref m, .int (nI p), .int (nI s)] [] rfl (by decide) rfl hM.o rfl rfl (Nat.le_of_ble_eq_true rfl) (Nat.le_of_ble_eq_true rfl) ?_
        refine m_nmd hM hl (by omega) hq hb' ht (by omega) hnm (fun hf => ?_) (fun w k' s' q' hf e1 e2 e3 e4 e5 e6 => ?_)
        · skip
          show AW g _ 84 (123, [some (.ref m), some (.int (nI sl)), some (.int (nI iN)), some (.int (nI base)), some (.int (nI v.1.1)), some (.int (nI p)), some (.int (nI s)), x7], [.int (-1)]) σ _
          refine aw_run 3 (F' := (128, [some (.ref m), some (.int (nI sl)), some (.int (nI iN)), some (.int (nI base)), some (.int (nI v.1.1)), some (.int (nI p)), some (.int (nI s)), some (.int (-1))], [.int (nI 4), .int (nI v.1.1)])) rfl ?_
          refine an_cne rfl (by omega) (by omega) (fun h4 => ?_) (fun h4 => ?_)
          · omega
          · refine aw_run 3 (F' := (136, [some (.ref m), some (.int (nI sl)), some (.int (nI iN)), some (.int (nI base)), some (.int (nI v.1.1)), some (.int (nI p)), some (.int (nI s)), some (.int (-1))], [.int (nI s), .int (nI p), .ref m])) rfl ?_
            refine aw_v [.ref m, .int (nI p), .int (nI s)] [] rfl (by decide) rfl hM.o rfl rfl (Nat.le_of_ble_eq_true rfl) (Nat.le_of_ble_eq_true rfl) ?_
            refine m_pd hM rfl hlo hv hk4 h13 hp (by omega) (fun s7 μ7 hM7 hf7 h13' hp7 => ?_)
            rw [hbs] at h13' hp7
            rw [hB'] at h13'
            show AW g _ 84 (139, [some (.ref m), some (.int (nI sl)), some (.int (nI iN)), some (.int (nI base)), some (.int (nI v.1.1)), some (.int (nI p)), some (.int (nI s)), some (.int (-1))], []) s7 _
            refine aw_run 1 (F' := (141, [some (.ref m), some (.int (nI sl)), some (.int (nI iN)), some (.int (nI base)), some (.int (nI v.1.1)), some (.int (nI p)), some (.int (nI s)), some (.int (-1))], [.int (-1)])) rfl ?_
            refine aw_zlt rfl (fun h5 => ?_) (fun h5 => ?_)
            · refine aw_run 2 (F' := (177, [some (.ref m), some (.int (nI sl)), some (.int (nI iN)), some (.int (nI base)), some (.int (nI v.1.1)), some (.int (nI p)), some (.int (nI s)), some (.int (-1))], [.int (nI 3), .int (nI v.1.1)])) rfl ?_
              refine an_cne rfl (by omega) (by omega) (fun h6 => ?_) (fun h6 => ?_)
              · refine aw_run 2 (F' := (21, [some (.ref m), some (.int (nI sl)), some (.int (nI iN)), some (.int (nI base)), some (.int (nI v.1.1)), some (.int (nI p)), some (.int (nI s)), some (.int (-1))], [])) rfl ?_
                exact gN hf s7 μ7 _ _ _ _ hM7 hf7 h13' hp7
              · omega
            · exact absurd (by decide) h5
        · have e7 := ly1.le e4
          have e8 := e2.1
          have e9 := e4.kd
          show AW g _ 84 (123, [some (.ref m), some (.int (nI sl)), some (.int (nI iN)), some (.int (nI base)), some (.int (nI v.1.1)), some (.int (nI p)), some (.int (nI s)), x7], [.int (nI k')]) σ _
          refine aw_run 3 (F' := (128, [some (.ref m), some (.int (nI sl)), some (.int (nI iN)), some (.int (nI base)), some (.int (nI v.1.1)), some (.int (nI p)), some (.int (nI s)), some (.int (nI k'))], [.int (nI 4), .int (nI v.1.1)])) rfl ?_
          refine an_cne rfl (by omega) (by omega) (fun h7 => ?_) (fun h7 => ?_)
          · omega
          · refine aw_run 3 (F' := (136, [some (.ref m), some (.int (nI sl)), some (.int (nI iN)), some (.int (nI base)), some (.int (nI v.1.1)), some (.int (nI p)), some (.int (nI s)), some (.int (nI k'))], [.int (nI s), .int (nI p), .ref m])) rfl ?_
            refine aw_v [.ref m, .int (nI p), .int (nI s)] [] rfl (by decide) rfl hM.o rfl rfl (Nat.le_of_ble_eq_true rfl) (Nat.le_of_ble_eq_true rfl) ?_
            refine m_pd hM rfl hlo hv hk4 h13 hp (by omega) (fun s7 μ7 hM7 hf7 h13' hp7 => ?_)
            rw [hbs] at h13' hp7
            rw [hB'] at h13'
            have e2' : nmd (μ7 1) (k' + 1) s' := by rw [hf7 1 (by omega)]; exact e2
            have e3' : μ7 1 k' = w.1.1 := by rw [hf7 1 (by omega)]; exact e3
            show AW g _ 84 (139, [some (.ref m), some (.int (nI sl)), some (.int (nI iN)), some (.int (nI base)), some (.int (nI v.1.1)), some (.int (nI p)), some (.int (nI s)), some (.int (nI k'))], []) s7 _
            refine aw_run 1 (F' := (141, [some (.ref m), some (.int (nI sl)), some (.int (nI iN)), some (.int (nI base)), some (.int (nI v.1.1)), some (.int (nI p)), some (.int (nI s)), some (.int (nI k'))], [.int (nI k')])) rfl ?_
            refine an_zlt rfl (by omega) ?_
            refine aw_run 3 (F' := (148, [some (.ref m), some (.int (nI sl)), some (.int (nI iN)), some (.int (nI base)), some (.int (nI v.1.1)), some (.int (nI p)), some (.int (nI s)), some (.int (nI k'))], [.int (nI k'), .ref m, .ref m])) rfl ?_
            refine aw_v [.ref m, .int (nI k')] [.ref m] rfl (by decide) rfl hM7.o rfl rfl (Nat.le_of_ble_eq_true rfl) (Nat.le_of_ble_eq_true rfl) ?_
            have hB2 := hM7.by (i := k') (by omega)
            rw [show μ7 1 k' = w.1.1 from e3'] at hB2
            refine m_at hM7 (by omega) ?_
            rw [show μ7 1 k' = w.1.1 from e3']
            show AW g _ 84 (151, [some (.ref m), some (.int (nI sl)), some (.int (nI iN)), some (.int (nI base)), some (.int (nI v.1.1)), some (.int (nI p)), some (.int (nI s)), some (.int (nI k'))], [.int (nI w.1.1), .ref m]) s7 _
            refine aw_run 4 (F' := (156, [some (.ref m), some (.int (nI sl)), some (.int (nI iN)), some (.int (nI base)), some (.int (nI v.1.1)), some (.int (nI p)), some (.int (nI s)), some (.int (nI k'))], [.int (nI k' + nI 1), .ref m, .int (nI w.1.1), .ref m])) rfl ?_
            rw [nI_add]
            refine aw_run 1 (F' := (159, [some (.ref m), some (.int (nI sl)), some (.int (nI iN)), some (.int (nI base)), some (.int (nI v.1.1)), some (.int (nI p)), some (.int (nI s)), some (.int (nI k'))], [.int (nI 14000), .int (nI (k' + 1)), .ref m, .int (nI w.1.1), .ref m])) rfl ?_
            refine aw_v [.ref m, .int (nI (k' + 1)), .int (nI 14000)] [.int (nI w.1.1), .ref m] rfl (by decide) rfl hM7.o rfl rfl (Nat.le_of_ble_eq_true rfl) (Nat.le_of_ble_eq_true rfl) ?_
            refine m_nes hM7 (by omega) (s := s') e2' (by omega) ?_
            show AW g _ 84 (162, [some (.ref m), some (.int (nI sl)), some (.int (nI iN)), some (.int (nI base)), some (.int (nI v.1.1)), some (.int (nI p)), some (.int (nI s)), some (.int (nI k'))], [.int (nI s'), .int (nI w.1.1), .ref m]) s7 _
            refine aw_run 2 (F' := (164, [some (.ref m), some (.int (nI sl)), some (.int (nI iN)), some (.int (nI base)), some (.int (nI v.1.1)), some (.int (nI p)), some (.int (nI s)), some (.int (nI k'))], [.int (nI s' + nI 1), .int (nI w.1.1), .ref m])) rfl ?_
            rw [nI_add]
            refine aw_run 3 (F' := (168, [some (.ref m), some (.int (nI sl)), some (.int (nI iN)), some (.int (nI base)), some (.int (nI v.1.1)), some (.int (nI p)), some (.int (nI s)), some (.int (nI k'))], [.int (nI s + nI 1), .int (nI (s' + 1)), .int (nI w.1.1), .ref m])) rfl ?_
            rw [nI_add]
            refine aw_v [.ref m, .int (nI w.1.1), .int (nI (s' + 1)), .int (nI (s + 1))] [] rfl (by decide) rfl hM7.o rfl rfl (Nat.le_of_ble_eq_true rfl) (Nat.le_of_ble_eq_true rfl) ?_
            refine m_push hM7 (L := B') h13' (by omega) (fun s8 hM8 => ?_)
            show AW g _ 84 (171, [some (.ref m), some (.int (nI sl)), some (.int (nI iN)), some (.int (nI base)), some (.int (nI v.1.1)), some (.int (nI p)), some (.int (nI s)), some (.int (nI k'))], []) s8 _
            refine aw_run 3 (F' := (21, [some (.ref m), some (.int (nI sl)), some (.int (nI iN)), some (.int (nI base)), some (.int (nI v.1.1)), some (.int (nI p)), some (.int (nI s)), some (.int (nI k'))], [])) rfl ?_
            exact gS w s' q' hf (by omega) e4 (by omega) s8 μ7 _ _ _ _ hM8 hf7 hp7
  · omega
end P90
