theorem sp_shr_mt (L L' : List sp_V) : sp_shr (sp_srt L.zipIdx) (sp_srt L'.zipIdx) ↔ sp_mt L L' = true := by
  have mem : ∀ (L : List sp_V) (x : sp_I), x ∈ sp_srt L.zipIdx → x.1 ∈ L := fun L x hx => List.mem_of_getElem? (List.mem_zipIdx_iff_getElem?.mp ((sp_srt_eq _).mem hx))
  have mem2 : ∀ (L : List sp_V) (v : sp_V), v ∈ L → ∃ x ∈ sp_srt L.zipIdx, x.1 = v := by
    intro L v hv
    obtain ⟨i, hi⟩ := List.mem_iff_getElem?.mp hv
    exact ⟨(v, i), (sp_srt_eq _).sy.mem (List.mem_zipIdx_iff_getElem?.mpr hi), rfl⟩
  unfold sp_shr sp_mt
  rw [List.any_eq_true]
  refine ⟨fun ⟨a, ha, b, hb, hab⟩ => ⟨a.1, mem L a ha, List.any_eq_true.mpr ⟨b.1, mem L' b hb, decide_eq_true hab⟩⟩, fun ⟨a, ha, h⟩ => ?_⟩
  obtain ⟨b, hb, hab⟩ := List.any_eq_true.mp h
  obtain ⟨x, hx, rfl⟩ := mem2 L a ha
  obtain ⟨y, hy, rfl⟩ := mem2 L' b hb
  exact ⟨x, hx, y, hy, of_decide_eq_true hab⟩
section P53
variable {g : Nat × Nat} {d b R : Nat} {σ : am_H} {S : sp_S} {Q : Option Value → am_H → Prop}
set_option maxHeartbeats 2000000 in
/-- meet -/
theorem c_meet (hC : CS g b R σ S) (r s : Int32) (it : Bool) (hd : 57 ≤ d) (hQ : ∀ σ' : am_H, CS g b R σ' S → cfr b R σ σ' 2 6 → Q (some (.int (bI (sp_meet S r s it)))) σ') : AW g d 56 (0, [some (.ref b), some (.int r), some (.int s), some (.int (bI it))], []) σ Q := by
  obtain ⟨d, rfl⟩ : ∃ d', d = d' + 2 := ⟨d - 2, by omega⟩
  have hC' := hC
  obtain ⟨c1, c2, c3, c4, c5, c6, c7, c8, ⟨st, ho, hst⟩, ⟨fs, hs, hsl⟩, -, -, ⟨X2, hl2⟩, ⟨X3, hl3⟩, -⟩ := hC'
  have no : sp_meet S r s it = false → AW g (d + 2) 56 (23, [some (.ref b), some (.int r), some (.int s), some (.int (bI it))], []) σ Q := by
    intro q
    rw [q] at hQ
    refine aw_run 1 (F' := (24, [some (.ref b), some (.int r), some (.int s), some (.int (bI it))], [.int 0])) rfl ?_
    exact aw_iret rfl ⟨_, rfl, rfl⟩ (hQ σ hC ⟨fun _ _ => rfl, by omega, by omega, by omega, by omega⟩)
  refine aw_run 2 (F' := (2, [some (.ref b), some (.int r), some (.int s), some (.int (bI it))], [.int r, .ref b])) rfl ?_
  refine aw_v [.ref b, .int r] [] rfl (by decide) rfl ho rfl rfl (Nat.le_of_ble_eq_true rfl) (Nat.le_of_ble_eq_true rfl) ?_
  refine c_slot hC r (fun i hi er ei => ?_) (fun e => ?_)
  rotate_left
  · exact aw_zeq rfl (fun _ => no (by unfold sp_meet; rw [e])) (fun z => absurd rfl z)
  refine aw_zeq rfl (fun z => absurd z (by decide)) (fun _ => ?_)
  refine aw_run 2 (F' := (10, [some (.ref b), some (.int r), some (.int s), some (.int (bI it))], [.int s, .ref b])) rfl ?_
  refine aw_v [.ref b, .int s] [] rfl (by decide) rfl ho rfl rfl (Nat.le_of_ble_eq_true rfl) (Nat.le_of_ble_eq_true rfl) ?_
  refine c_slot hC s (fun j hj es ej => ?_) (fun e => ?_)
  rotate_left
  · exact aw_zeq rfl (fun _ => no (by unfold sp_meet; rw [e, ei])) (fun z => absurd rfl z)
  refine aw_zeq rfl (fun z => absurd z (by decide)) (fun _ => ?_)
  have hr : sp_meet S r s it = decide (¬ S.2.2.2.2 = [] ∧ (sp_lv it 17 (sp_dv (S.2.2.1 i)) S.2.2.2.2).length ≤ 500 ∧ (sp_lv it 17 (sp_dv (S.2.2.1 j)) S.2.2.2.2).length ≤ 500 ∧ sp_mt (sp_lv it 17 (sp_dv (S.2.2.1 i)) S.2.2.2.2) (sp_lv it 17 (sp_dv (S.2.2.1 j)) S.2.2.2.2) = true) := by unfold sp_meet; rw [ei, ej]
  refine aw_run 1 (F' := (17, [some (.ref b), some (.int r), some (.int s), some (.int (bI it))], [.ref b])) rfl ?_
  refine aw_get rfl ho rfl ?_
  rcases hst.nul with ⟨hP, rfl⟩ | ⟨hP, y, rfl⟩
  · refine aw_ifnon_n rfl ?_
    exact no (by rw [hr]; exact decide_eq_false (fun z => z.1 hP))
  subst er
  subst es
  refine aw_ifnon_r rfl ?_
  obtain ⟨hh, x, hx1, hx2⟩ := hsl i hi
  refine aw_run 2 (F' := (27, [some (.ref b), some (.int (nI i)), some (.int (nI j)), some (.int (bI it))], [.ref b, .ref b])) rfl ?_
  refine aw_get rfl ho rfl ?_
  refine aw_run 1 (F' := (31, [some (.ref b), some (.int (nI i)), some (.int (nI j)), some (.int (bI it))], [.ref b, .ref (b + 18), .ref b])) rfl ?_
  refine aw_get rfl ho rfl ?_
  refine aw_run 1 (F' := (35, [some (.ref b), some (.int (nI i)), some (.int (nI j)), some (.int (bI it))], [.int (nI i), .ref (b + 2), .ref (b + 18), .ref b])) rfl ?_
  refine aw_aald rfl (by decide) hs (vp_in_nI hi (by omega)) ?_
  rw [nI_clamp (by omega), hx1]
  refine aw_run 1 (F' := (37, [some (.ref b), some (.int (nI i)), some (.int (nI j)), some (.int (bI it))], [.int (bI it), .ref x, .ref (b + 18), .ref b])) rfl ?_
  refine aw_v [.ref b, .ref (b + 18), .ref x, .int (bI it)] [] rfl (by decide) rfl ho rfl rfl (Nat.le_of_ble_eq_true rfl) (Nat.le_of_ble_eq_true rfl) ?_
  refine c_fill hC (w := b + 18) (it := it) (by omega) (by omega) (by omega) hl2 hx2 hh (fun hL σ1 k1 k2 k3 k4 k5 => ?_) (fun hL σ1 k1 k2 k3 k4 k5 => ?_)
  rotate_left
  · have hC1 := (cs_fill hC k1 (by omega) k4 k5 (by omega) (by omega)).2.2 (Or.inl rfl)
    refine aw_zeq rfl (fun _ => ?_) (fun z => absurd rfl z)
    refine aw_run 1 (F' := (62, [some (.ref b), some (.int (nI i)), some (.int (nI j)), some (.int (bI it))], [.int 0])) rfl ?_
    have hr' : sp_meet S (nI i) (nI j) it = false := by rw [hr]; exact decide_eq_false (fun z => hL z.2.1)
    rw [hr'] at hQ
    exact aw_iret rfl ⟨_, rfl, rfl⟩ (hQ σ1 hC1 ⟨fun a ha => k1 a (by omega) (by omega), by omega, by omega, by omega, by omega⟩)
  have hcf := cs_fill hC k1 (by omega) k4 k5 (by omega) (by omega)
  have hC1 := hcf.2.2 (Or.inl rfl)
  have hlL1 := hcf.1
  have hC1' := hC1
  obtain ⟨-, -, -, d4, d5, -, -, -, ⟨st1, ho1, -⟩, ⟨fs1, hs1, hsl1⟩, -, -, -, ⟨X4, hl4⟩, -⟩ := hC1'
  refine aw_zeq rfl (fun z => absurd z (by decide)) (fun _ => ?_)
  obtain ⟨hh2, x2, hy1, hy2⟩ := hsl1 j hj
  refine aw_run 2 (F' := (45, [some (.ref b), some (.int (nI i)), some (.int (nI j)), some (.int (bI it))], [.ref b, .ref b])) rfl ?_
  refine aw_get rfl ho1 rfl ?_
  refine aw_run 1 (F' := (49, [some (.ref b), some (.int (nI i)), some (.int (nI j)), some (.int (bI it))], [.ref b, .ref (b + 23), .ref b])) rfl ?_
  refine aw_get rfl ho1 rfl ?_
  refine aw_run 1 (F' := (53, [some (.ref b), some (.int (nI i)), some (.int (nI j)), some (.int (bI it))], [.int (nI j), .ref (b + 2), .ref (b + 23), .ref b])) rfl ?_
  refine aw_aald rfl (by decide) hs1 (vp_in_nI hj (by omega)) ?_
  rw [nI_clamp (by omega), hy1]
  refine aw_run 1 (F' := (55, [some (.ref b), some (.int (nI i)), some (.int (nI j)), some (.int (bI it))], [.int (bI it), .ref x2, .ref (b + 23), .ref b])) rfl ?_
  refine aw_v [.ref b, .ref (b + 23), .ref x2, .int (bI it)] [] rfl (by decide) rfl ho1 rfl rfl (Nat.le_of_ble_eq_true rfl) (Nat.le_of_ble_eq_true rfl) ?_
  refine c_fill hC1 (w := b + 23) (it := it) (by omega) (by omega) (by omega) hl4 hy2 hh2 (fun hL2 σ2 j1 j2 j3 j4 j5 => ?_) (fun hL2 σ2 j1 j2 j3 j4 j5 => ?_)
  rotate_left
  · have hC2 := (cs_fill hC1 j1 (by omega) j4 j5 (by omega) (by omega)).2.2 (Or.inr rfl)
    refine aw_zne rfl (fun z => absurd rfl z) (fun _ => ?_)
    refine aw_run 1 (F' := (62, [some (.ref b), some (.int (nI i)), some (.int (nI j)), some (.int (bI it))], [.int 0])) rfl ?_
    have hr' : sp_meet S (nI i) (nI j) it = false := by rw [hr]; exact decide_eq_false (fun z => hL2 z.2.2.1)
    rw [hr'] at hQ
    exact aw_iret rfl ⟨_, rfl, rfl⟩ (hQ σ2 hC2 ⟨fun a ha => (j1 a (by omega) (by omega)).trans (k1 a (by omega) (by omega)), by omega, by omega, by omega, by omega⟩)
  have hcf2 := cs_fill hC1 j1 (by omega) j4 j5 (by omega) (by omega)
  have hC2 := hcf2.2.2 (Or.inr rfl)
  have hlR2 := hcf2.1
  have hzz : ∀ a, Zc g b R σ1.2.1 a → σ2.1 a = σ1.1 a := by
    intro a ha
    unfold Zc at ha
    exact j1 a (by omega) (by omega)
  have hlL2 : lsx (Zc g b R σ2.2.1) σ2.1 (b + 18) (sp_lv it 17 (sp_dv (S.2.2.1 i)) S.2.2.2.2).zipIdx := hlL1.kept hzz (fun a q1 q2 => j1 a (by omega) (by omega)) (Zc.mono (by omega))
  have hC2' := hC2
  obtain ⟨-, -, -, e4, e5, -, -, -, ⟨st2, ho2, -⟩, -, -, hls2, -⟩ := hC2'
  refine aw_zne rfl (fun _ => ?_) (fun z => absurd (by decide) z)
  have wcell : ∀ {Z : Nat → Prop} {h : Nat → Option am_C} {w : Nat} {X : sp_X}, lsx Z h w X → ∃ wl, h w = some (.inr (2, wl)) := by
    intro Z h w X q
    obtain ⟨⟨-, fv, fo, h2, -⟩, -⟩ := q
    exact ⟨_, h2⟩
  obtain ⟨wl, hwl⟩ := wcell hlL2
  refine aw_run 1 (F' := (64, [some (.ref b), some (.int (nI i)), some (.int (nI j)), some (.int (bI it))], [.ref b])) rfl ?_
  refine aw_get rfl ho2 rfl ?_
  refine aw_v [.ref (b + 18)] [] rfl (by decide) rfl hwl rfl rfl (Nat.le_of_ble_eq_true rfl) (Nat.le_of_ble_eq_true rfl) ?_
  refine c_arrx (d := d + 1) (by omega) (fw5_of (by omega) (by omega) c1 c2 c3) hlL2 (fun σ3 u1 u2 u3 u4 => ?_)
  have hlR3 := hlR2.kept (h' := σ3.1) u3 (fun a q1 q2 => u1 a (by omega)) (fun _ z => z)
  have ho3 := (u1 b (by omega)).trans ho2
  obtain ⟨wl3, hwl3⟩ := wcell hlR3
  refine aw_run 1 (F' := (71, [some (.ref b), some (.int (nI i)), some (.int (nI j)), some (.int (bI it))], [.ref b])) rfl ?_
  refine aw_get rfl ho3 rfl ?_
  refine aw_v [.ref (b + 23)] [] rfl (by decide) rfl hwl3 rfl rfl (Nat.le_of_ble_eq_true rfl) (Nat.le_of_ble_eq_true rfl) ?_
  refine c_arrx (d := d + 1) (by omega) (fw5_of (by omega) (by omega) c1 c2 c3) hlR3 (fun σ4 v1 v2 v3 v4 => ?_)
  have hlL4 := u4.kept (h' := σ4.1) v3 (fun a q1 q2 => v1 a (by omega)) (fun _ z => z)
  have ho4 := (v1 b (by omega)).trans ho3
  have n42 : σ4.2 = σ2.2 := v2.trans u2
  have hwf4 : wf σ4 := by
    intro a c hc
    rw [n42]
    by_cases q : a < b + 18 ∨ b + 28 ≤ a
    · rw [v1 a (by omega), u1 a (by omega)] at hc
      exact e5 _ _ hc
    · omega
  have hC4 : CS g b R σ4 S := by
    have e21 : σ4.2.1 = σ2.2.1 := by rw [n42]
    refine hC2.lists (fun a q1 q2 => (v1 a (by omega)).trans (u1 a (by omega))) (by omega) hwf4 S.2.2.2.1 (fun p hp => ?_) ⟨_, by rw [e21]; exact hlL4⟩ ⟨_, by rw [e21]; exact v4⟩
    rw [e21]
    exact (hls2 p hp).kept (fun a ha => (v3 a ha).trans (u3 a ha)) (fun a q1 q2 => (v1 a (by omega)).trans (u1 a (by omega))) (fun _ z => z)
  have hfr : cfr b R σ σ4 2 6 := by
    refine ⟨fun a ha => (v1 a (by omega)).trans ((u1 a (by omega)).trans ((j1 a (by omega) (by omega)).trans (k1 a (by omega) (by omega)))), ?_, ?_, ?_, ?_⟩ <;> rw [n42] <;> omega
  refine aw_run 1 (F' := (78, [some (.ref b), some (.int (nI i)), some (.int (nI j)), some (.int (bI it))], [.ref b])) rfl ?_
  refine aw_get rfl ho4 rfl ?_
  refine aw_run 1 (F' := (82, [some (.ref b), some (.int (nI i)), some (.int (nI j)), some (.int (bI it))], [.ref b, .ref (b + 18)])) rfl ?_
  refine aw_get rfl ho4 rfl ?_
  obtain ⟨⟨p1, fv, fo, p2, p3, p4, p5⟩, p6, -, -⟩ := hlL4
  obtain ⟨⟨q1, fv2, fo2, q2, q3, q4, q5⟩, q6, -, -⟩ := v4
  refine aw_v [.ref (b + 18), .ref (b + 23)] [] rfl (by decide) rfl p2 rfl rfl (Nat.le_of_ble_eq_true rfl) (Nat.le_of_ble_eq_true rfl) ?_
  refine c_sh (d := d) (Z := Zc g b R σ2.2.1) (by omega) p2 p1 p3 (fun j x hx => ?_) p6 q2 q1 q3 (fun j x hx => ?_) (sp_srt_so _) (sp_srt_so _) (fun z => ?_) (fun z => ?_)
  · obtain ⟨a, b1, b2, b3⟩ := p5 j x.1 x.2 hx
    exact ⟨a, b1, b2⟩
  · obtain ⟨a, b1, b2, b3⟩ := q5 j x.1 x.2 hx
    exact ⟨a, b1, b2⟩
  · rw [sp_shr_mt] at z
    have hr' : sp_meet S (nI i) (nI j) it = true := by rw [hr]; exact decide_eq_true ⟨hP, hL, hL2, z⟩
    have := hQ σ4 hC4 hfr
    rw [hr'] at this
    exact aw_iret rfl ⟨_, rfl, rfl⟩ this
  · rw [sp_shr_mt] at z
    have hr' : sp_meet S (nI i) (nI j) it = false := by rw [hr]; exact decide_eq_false (fun y => z y.2.2.2)
    have := hQ σ4 hC4 hfr
    rw [hr'] at this
    exact aw_iret rfl ⟨_, rfl, rfl⟩ this
end P53
