/-! filling a list with leaves -/
theorem sp_hgt_in (s : Nat) (b : sp_B) (u : Unit) (c r : sp_F) : sp_hgt (.inner s b u c r) = max (sp_hgt c + 1) (sp_hgt r) := rfl
theorem sp_toL_hgt : ∀ {c : sp_F} {x : sp_V}, x ∈ sp_toL c → sp_hgt x.2 ≤ sp_hgt c
  | .leaf, x, h => by cases h
  | .inner _ b _ c r, x, h => by
    rw [sp_hgt_in]
    rcases List.mem_cons.mp h with q | q
    · have : sp_hgt x.2 = sp_hgt c := by rw [q]
      omega
    · have := sp_toL_hgt q
      omega
theorem sp_fnd_hgt {nm : List Nat} : ∀ {c : sp_F} {x : sp_V}, sp_fnd nm c = some x → sp_hgt x.2 ≤ sp_hgt c
  | .leaf, x, h => by cases h
  | .inner _ b _ c r, x, h => by
    unfold sp_fnd at h
    rw [sp_hgt_in]
    split at h
    · have q := Option.some.inj h
      have : sp_hgt x.2 = sp_hgt c := by rw [← q]
      omega
    · have := sp_fnd_hgt h
      omega
theorem sp_lv_hgt {it : Bool} {H : Nat} : ∀ (n : Nat) (v : sp_V) (P : List (List Nat)), sp_hgt v.2 ≤ H → ∀ x ∈ sp_lv it n v P, sp_hgt x.2 ≤ H
  | 0, _, _, _, x, h => by cases h
  | n + 1, v, [], hv, x, h => by
    unfold sp_lv at h
    rcases List.mem_cons.mp h with q | q
    · rw [q]; exact hv
    · unfold sp_its at q
      split at q
      · exact Nat.le_trans (sp_toL_hgt q) hv
      · cases q
  | n + 1, v, s :: ss, hv, x, h => by
    unfold sp_lv at h
    split at h
    · rcases List.mem_append.mp h with q | q
      · split at q
        · cases q
        · rename_i w hw
          exact sp_lv_hgt n w ss (Nat.le_trans (sp_fnd_hgt hw) hv) x q
      · obtain ⟨w, hw1, hw2⟩ := List.mem_flatMap.mp q
        split at hw2
        · exact sp_lv_hgt n w (s :: ss) (Nat.le_trans (sp_toL_hgt hw1) hv) x hw2
        · cases hw2
    · split at h
      · rw [List.mem_singleton.mp h]
        exact Nat.zero_le _
      · rename_i w hw
        exact sp_lv_hgt n w ss (Nat.le_trans (sp_fnd_hgt hw) hv) x h
section P51
variable {g : Nat × Nat} {d b R : Nat} {σ : am_H} {S : sp_S} {Q : Option Value → am_H → Prop}
set_option maxHeartbeats 2000000 in
/-- fillWithLeaves -/
theorem c_fill (hC : CS g b R σ S) {w a : Nat} {X0 : sp_X} {it : Bool} {v : sp_V} (hd : 40 ≤ d) (hwb : b + 8 ≤ w) (hwe : w + 4 < b + 28) (hl : lsx (Zc g b R σ.2.1) σ.1 w X0) (hv : vlz (Zc g b R σ.2.1) σ.1 a v) (hh : sp_hgt v.2 ≤ 16)
    (h1 : (sp_lv it 17 v S.2.2.2.2).length ≤ 500 → ∀ σ' : am_H, (∀ x, x < σ.2.1 → (x < w ∨ w + 4 < x) → σ'.1 x = σ.1 x) → σ'.2.1 = σ.2.1 + 1 → σ'.2.2 = σ.2.2 + 3 → wf σ' → lsx (Zc g b R σ.2.1) σ'.1 w (sp_lv it 17 v S.2.2.2.2).zipIdx → Q (some (.int 1)) σ')
    (h0 : ¬ (sp_lv it 17 v S.2.2.2.2).length ≤ 500 → ∀ σ' : am_H, (∀ x, x < σ.2.1 → (x < w ∨ w + 4 < x) → σ'.1 x = σ.1 x) → σ'.2.1 = σ.2.1 + 1 → σ'.2.2 = σ.2.2 + 3 → wf σ' → lsx (Zc g b R σ.2.1) σ'.1 w [] → Q (some (.int 0)) σ') : AW g d 37 (0, [some (.ref b), some (.ref w), some (.ref a), some (.int (bI it))], []) σ Q := by
  obtain ⟨d, rfl⟩ : ∃ d', d = d' + 2 := ⟨d - 2, by omega⟩
  have hC' := hC
  obtain ⟨c1, c2, c3, c4, c5, c6, c7, c8, ⟨st, ho, hst⟩, -, -, -, -, -, hmi⟩ := hC'
  have hf := fw5_of (g := g) (b := b) (R := R) (hi := σ.2.1) (w := w) hwb hwe c1 c2 c3
  have hf' := hf.1
  obtain ⟨hls, hhx, ⟨fs, hfs⟩, ⟨fp, hfp⟩⟩ := hl
  have hls' := hls
  obtain ⟨-, fv0, fo0, hwc0, -⟩ := hls'
  refine aw_run 1 (F' := (1, [some (.ref b), some (.ref w), some (.ref a), some (.int (bI it))], [.ref w])) rfl ?_
  refine aw_v [.ref w] [] rfl (by decide) rfl hwc0 rfl rfl (Nat.le_of_ble_eq_true rfl) (Nat.le_of_ble_eq_true rfl) ?_
  refine c_clr (σ0 := σ) hf' ⟨fun _ _ _ _ => rfl, rfl⟩ hls (fun σ1 hfil1 hls1 => ?_)
  have e1 : σ1.2 = σ.2 := hfil1.2
  have ho1 := (hfil1.1 b (by omega) (by omega) (by omega)).trans ho
  -- the walk
  refine aw_new rfl ?_
  have hk2 := am_psh_same σ1 (.inr (4, am_def 4)) (am_nf 4)
  have ho2 : (am_psh σ1 (.inr (4, am_def 4)) (am_nf 4)).1 b = some (.inr (0, [.ref (b + 1), .int (nI S.2.1), .ref (b + 2), .ref (b + 7), .ref (b + 18), .ref (b + 23), .ref (b + 28), va_rf st])) := (am_psh_ne _ _ _ (by rw [e1]; omega)).trans ho1
  refine aw_run 4 (F' := (11, [some (.ref b), some (.ref w), some (.ref a), some (.int (bI it))], [.ref b, .int (bI it), .ref w, .ref σ1.2.1, .ref σ1.2.1])) rfl ?_
  refine aw_get rfl ho2 rfl ?_
  refine aw_i [.ref σ1.2.1, .ref w, .int (bI it), .ref (b + 28)] [.ref σ1.2.1] rfl (by decide) rfl rfl rfl (Nat.le_of_ble_eq_true rfl) (Nat.le_of_ble_eq_true rfl) ?_
  refine c_wnew (d := d) (by rw [e1]; omega) hk2 ?_
  rw [am_set_psh]
  have hwf1 : wf σ1 := by
    intro x c hx
    rw [e1]
    by_cases q : x = w ∨ x = w + 1 ∨ x = w + 2
    · omega
    · rw [hfil1.1 x (by omega) (by omega) (by omega)] at hx
      exact c5 _ _ hx
  have hwf2 : wf (am_psh σ1 (.inr (4, [.ref w, .int (bI it), .ref (b + 28)])) (am_nf 4)) := hwf1.psh
  have kept2 : ∀ x, x < σ.2.1 → (am_psh σ1 (.inr (4, [.ref w, .int (bI it), .ref (b + 28)])) (am_nf 4)).1 x = σ1.1 x := fun x hx => am_psh_ne _ _ _ (by rw [e1]; omega)
  have hkc := am_psh_same σ1 (.inr (4, [.ref w, .int (bI it), .ref (b + 28)])) (am_nf 4)
  have n1 : (am_psh σ1 (.inr (4, [.ref w, .int (bI it), .ref (b + 28)])) (am_nf 4)).2.1 = σ.2.1 + 1 := by show σ1.2.1 + 1 = _; rw [e1]
  have n2 : (am_psh σ1 (.inr (4, [.ref w, .int (bI it), .ref (b + 28)])) (am_nf 4)).2.2 = σ.2.2 + 3 := by show σ1.2.2 + 3 = _; rw [e1]
  have e1' : σ1.2.1 = σ.2.1 := by rw [e1]
  rw [e1'] at hkc ⊢
  generalize am_psh σ1 (.inr (4, [.ref w, .int (bI it), .ref (b + 28)])) (am_nf 4) = σ2 at hwf2 kept2 hkc n1 n2 ⊢
  have zlt : ∀ x, Zc g b R σ.2.1 x → x < σ.2.1 := by
    intro x hx
    unfold Zc at hx
    omega
  have hz1 := hfil1.z hf'
  have hz2 : ∀ x, Zc g b R σ.2.1 x → σ2.1 x = σ.1 x := fun x hx => (kept2 x (zlt x hx)).trans (hz1 x hx)
  have out2 : ∀ x, x < σ.2.1 → (x < w ∨ w + 4 < x) → σ2.1 x = σ.1 x := fun x hx hq => (kept2 x hx).trans (hfil1.1 x (by omega) (by omega) (by omega))
  have ho3 := (out2 b (by omega) (by omega)).trans ho
  have hls2 : ls (Zc g b R σ.2.1) σ2.1 σ2.1 w (w + 1) (w + 2) (w + 3) (w + 4) ([], false) := by
    obtain ⟨q1, fv, fo, q2, q3, q4, q5⟩ := hls1
    exact ⟨q1, fv, fo, (kept2 _ (by omega)).trans q2, (kept2 _ (by omega)).trans q3, (kept2 _ (by omega)).trans q4, fun i v o hi => by simp at hi⟩
  have hwlk : wlk g (Zc g b R σ.2.1) σ2 σ.2.1 w (w + 1) (w + 2) (b + 28) it := ⟨hf', by omega, by omega, by omega, hkc, hmi.kept hz2 (fun _ z => z)⟩
  have hst2 := hst.kept hz2 (fun _ z => z)
  have hv2 := hv.kept hz2 (fun _ z => z)
  have fin : ∀ σ3 : am_H, fil σ2 σ3 w (w + 1) (w + 2) → ls (Zc g b R σ.2.1) σ2.1 σ3.1 w (w + 1) (w + 2) (w + 3) (w + 4) (sp_adds ([], false) (sp_lv it 17 v S.2.2.2.2)) → AW g (d + 2) 37 (26, [some (.ref b), some (.ref w), some (.ref a), some (.int (bI it))], []) σ3 Q := by
    intro σ3 hfil3 hls3
    have hlvh := sp_lv_hgt (it := it) 17 v S.2.2.2.2 hh
    generalize sp_lv it 17 v S.2.2.2.2 = L at h1 h0 hls3 hlvh
    have hall := sp_adds_all L [] (by simp)
    have post : ∀ σ4 : am_H, fil σ2 σ4 w (w + 1) (w + 2) → (∀ x, x < σ.2.1 → (x < w ∨ w + 4 < x) → σ4.1 x = σ.1 x) ∧ σ4.2.1 = σ.2.1 + 1 ∧ σ4.2.2 = σ.2.2 + 3 ∧ wf σ4 ∧ (∀ X : sp_X, ls (Zc g b R σ.2.1) σ2.1 σ4.1 w (w + 1) (w + 2) (w + 3) (w + 4) (X, false) → (∀ x ∈ X, sp_hgt x.1.2 ≤ 16) → lsx (Zc g b R σ.2.1) σ4.1 w X) := by
      intro σ4 hfil4
      have e4 : σ4.2 = σ2.2 := hfil4.2
      have hz4 := hfil4.z hf'
      refine ⟨fun x hx hq => (hfil4.1 x (by omega) (by omega) (by omega)).trans (out2 x hx hq), by rw [e4]; exact n1, by rw [e4]; exact n2, fun x c hx => ?_, fun X hX hXh => ?_⟩
      · rw [e4]
        by_cases q : x = w ∨ x = w + 1 ∨ x = w + 2
        · omega
        · rw [hfil4.1 x (by omega) (by omega) (by omega)] at hx
          exact hwf2 _ _ hx
      · obtain ⟨q1, fv, fo, q2, q3, q4, q5⟩ := hX
        refine ⟨⟨q1, fv, fo, q2, q3, q4, fun i v' o hi => ?_⟩, hXh, ⟨fs, ?_⟩, ⟨fp, ?_⟩⟩
        · obtain ⟨y, y1, y2, y3⟩ := q5 i v' o hi
          exact ⟨y, y1, y2.kept hz4 (fun _ z => z), y3⟩
        · rw [hfil4.1 _ (by omega) (by omega) (by omega), kept2 _ (by omega), hfil1.1 _ (by omega) (by omega) (by omega)]
          exact hfs
        · rw [hfil4.1 _ (by omega) (by omega) (by omega), kept2 _ (by omega), hfil1.1 _ (by omega) (by omega) (by omega)]
          exact hfp
    have hls3' := hls3
    obtain ⟨-, fv3, fo3, hwc3, -⟩ := hls3'
    refine aw_run 1 (F' := (27, [some (.ref b), some (.ref w), some (.ref a), some (.int (bI it))], [.ref w])) rfl ?_
    refine aw_get rfl hwc3 rfl ?_
    by_cases hL : L.length ≤ 500
    · have hS := hall.1 (by simpa using hL)
      rw [hS] at hls3
      have hS2 : (sp_adds ([], false) L).2 = false := by rw [hS]
      rw [hS2]
      refine aw_zeq rfl (fun _ => ?_) (fun z => absurd rfl z)
      refine aw_run 1 (F' := (40, [some (.ref b), some (.ref w), some (.ref a), some (.int (bI it))], [.int 1])) rfl ?_
      obtain ⟨p1, p2, p3, p4, p5⟩ := post σ3 hfil3
      refine aw_iret rfl ⟨_, rfl, rfl⟩ (h1 hL σ3 p1 p2 p3 p4 (p5 _ hls3 (fun x hx => ?_)))
      have hx' := List.mem_zipIdx_iff_getElem?.mp hx
      exact hlvh x.1 (List.mem_of_getElem? hx')
    · have hS := hall.2 (by simp; omega)
      rw [hS]
      refine aw_zeq rfl (fun z => absurd z (by decide)) (fun _ => ?_)
      refine aw_run 1 (F' := (34, [some (.ref b), some (.ref w), some (.ref a), some (.int (bI it))], [.ref w])) rfl ?_
      refine aw_v [.ref w] [] rfl (by decide) rfl hwc3 rfl rfl (Nat.le_of_ble_eq_true rfl) (Nat.le_of_ble_eq_true rfl) ?_
      refine c_clr (σ0 := σ2) hf' hfil3 hls3 (fun σ4 hfil4 hls4 => ?_)
      refine aw_run 1 (F' := (38, [some (.ref b), some (.ref w), some (.ref a), some (.int (bI it))], [.int 0])) rfl ?_
      obtain ⟨p1, p2, p3, p4, p5⟩ := post σ4 hfil4
      exact aw_iret rfl ⟨_, rfl, rfl⟩ (h0 hL σ4 p1 p2 p3 p4 (p5 _ hls4 (fun x hx => by cases hx)))
  have key := FW_all 17 g (d + 1) (Zc g b R σ.2.1) σ2 σ2 (fun (v : Option Value) (σ' : am_H) => AW g (d + 2) 37 (23 + 3, [some (.ref b), some (.ref w), some (.ref a), some (.int (bI it))], v.toList ++ []) σ' Q) σ.2.1 w (w + 1) (w + 2) (w + 3) (w + 4) (b + 28) a 1 it v S.2.2.2.2 st ([], false) hwlk hv2 hst2 ⟨fun _ _ _ _ => rfl, rfl⟩ hls2 (by omega) (by omega) (fun σ3 k1 k2 => fin σ3 k1 k2)
  refine aw_run 2 (F' := (19, [some (.ref b), some (.ref w), some (.ref a), some (.int (bI it))], [.ref b, .ref a, .ref σ.2.1])) rfl ?_
  refine aw_get rfl ho3 rfl ?_
  rcases st with _ | y
  · refine aw_run 1 (F' := (23, [some (.ref b), some (.ref w), some (.ref a), some (.int (bI it))], [.int (nI 1), .null, .ref a, .ref σ.2.1])) rfl ?_
    refine aw_v [.ref σ.2.1, .ref a, .null, .int (nI 1)] [] rfl (by decide) rfl hkc rfl rfl (Nat.le_of_ble_eq_true rfl) (Nat.le_of_ble_eq_true rfl) ?_
    exact key
  · refine aw_run 1 (F' := (23, [some (.ref b), some (.ref w), some (.ref a), some (.int (bI it))], [.int (nI 1), .ref y, .ref a, .ref σ.2.1])) rfl ?_
    refine aw_v [.ref σ.2.1, .ref a, .ref y, .int (nI 1)] [] rfl (by decide) rfl hkc rfl rfl (Nat.le_of_ble_eq_true rfl) (Nat.le_of_ble_eq_true rfl) ?_
    exact key
end P51
