/-! list and meet -/
def sp_list (S : sp_S) (which slot : Int32) (it : Bool) : sp_S × Int32 := match sp_ix which 2, sp_ix slot 4 with
  | some i, some j => if S.2.2.2.2 = [] then (S, -2) else if (sp_lv it 17 (sp_dv (S.2.2.1 j)) S.2.2.2.2).length ≤ 500 then (setl S i (sp_lv it 17 (sp_dv (S.2.2.1 j)) S.2.2.2.2).zipIdx, nI (sp_lv it 17 (sp_dv (S.2.2.1 j)) S.2.2.2.2).length) else (setl S i [], -1)
  | _, _ => (S, -2)
/-- whether two lists of values share one -/
def sp_mt (L L' : List sp_V) : Bool := L.any (fun a => L'.any (fun b => decide (sp_vc a b = 0)))
def sp_meet (S : sp_S) (r s : Int32) (it : Bool) : Bool := match sp_ix r 4, sp_ix s 4 with
  | some i, some j => decide (¬ S.2.2.2.2 = [] ∧ (sp_lv it 17 (sp_dv (S.2.2.1 i)) S.2.2.2.2).length ≤ 500 ∧ (sp_lv it 17 (sp_dv (S.2.2.1 j)) S.2.2.2.2).length ≤ 500 ∧ sp_mt (sp_lv it 17 (sp_dv (S.2.2.1 i)) S.2.2.2.2) (sp_lv it 17 (sp_dv (S.2.2.1 j)) S.2.2.2.2) = true)
  | _, _ => false
section P52
variable {g : Nat × Nat} {d b R : Nat} {σ : am_H} {S : sp_S} {Q : Option Value → am_H → Prop}
/-- the lists are others, all else is as it was -/
theorem CS.lists {σ' : am_H} (hC : CS g b R σ S) (h1 : ∀ a, a < σ.2.1 → (a < b + 8 ∨ b + 28 ≤ a) → σ'.1 a = σ.1 a) (hle : σ.2.1 ≤ σ'.2.1) (hw : wf σ') (l' : Nat → sp_X) (hl : ∀ i, i < 2 → lsx (Zc g b R σ'.2.1) σ'.1 (b + 8 + 5 * i) (l' i)) (hL : ∃ X, lsx (Zc g b R σ'.2.1) σ'.1 (b + 18) X) (hR : ∃ X, lsx (Zc g b R σ'.2.1) σ'.1 (b + 23) X) : CS g b R σ' (S.1, S.2.1, S.2.2.1, l', S.2.2.2.2) := by
  obtain ⟨c1, c2, c3, c4, c5, c6, c7, c8, ⟨st, c9, c10⟩, ⟨fs, c11, c12⟩, ⟨fl, c13, c14⟩, -, -, -, c18⟩ := hC
  have hz : ∀ a, Zc g b R σ.2.1 a → σ'.1 a = σ.1 a := by
    intro a ha
    unfold Zc at ha
    exact h1 a (by omega) (by omega)
  have hm := Zc.mono (g := g) (b := b) (R := R) hle
  refine ⟨c1, c2, c3, by omega, hw, c6.kept (h1 _ (by omega) (by omega)), c7, c8.kept (h1 _ (by omega) (by omega)), ⟨st, (h1 _ (by omega) (by omega)).trans c9, c10.kept hz hm⟩, ⟨fs, (h1 _ (by omega) (by omega)).trans c11, fun j hj => ?_⟩, ⟨fl, (h1 _ (by omega) (by omega)).trans c13, c14⟩, hl, hL, hR, c18.kept hz hm⟩
  obtain ⟨k1, a, k2, k3⟩ := c12 j hj
  exact ⟨k1, a, k2, k3.kept hz hm⟩
/-- one list of the four is another -/
theorem cs_fill {σ' : am_H} {w : Nat} {Y : sp_X} (hC : CS g b R σ S) (h1 : ∀ a, a < σ.2.1 → (a < w ∨ w + 4 < a) → σ'.1 a = σ.1 a) (hle : σ.2.1 ≤ σ'.2.1) (hw : wf σ') (hl : lsx (Zc g b R σ.2.1) σ'.1 w Y) (hwb : b + 8 ≤ w) (hwe : w + 4 < b + 28) : lsx (Zc g b R σ'.2.1) σ'.1 w Y ∧ (∀ i, w = b + 8 + 5 * i → i < 2 → CS g b R σ' (setl S i Y)) ∧ ((w = b + 18 ∨ w = b + 23) → CS g b R σ' S) := by
  have hC' := hC
  obtain ⟨c1, c2, c3, c4, c5, c6, c7, c8, -, -, -, c15, ⟨X2, c16⟩, ⟨X3, c17⟩, -⟩ := hC'
  have hz : ∀ a, Zc g b R σ.2.1 a → σ'.1 a = σ.1 a := by
    intro a ha
    unfold Zc at ha
    exact h1 a (by omega) (by omega)
  have hm := Zc.mono (g := g) (b := b) (R := R) hle
  have hlY := hl.kept (h' := σ'.1) (fun _ _ => rfl) (fun _ _ _ => rfl) hm
  refine ⟨hlY, fun i hi hi2 => ?_, fun hq => ?_⟩
  · subst hi
    refine hC.lists (fun a q1 q2 => h1 a q1 (by omega)) hle hw (fun j => if j = i then Y else S.2.2.2.1 j) (fun j hj => ?_) ⟨X2, c16.kept hz (fun a q1 q2 => h1 a (by omega) (by omega)) hm⟩ ⟨X3, c17.kept hz (fun a q1 q2 => h1 a (by omega) (by omega)) hm⟩
    by_cases q : j = i
    · rw [if_pos q, q]
      exact hlY
    · rw [if_neg q]
      exact (c15 j hj).kept hz (fun a q1 q2 => h1 a (by omega) (by omega)) hm
  · refine hC.lists (fun a q1 q2 => h1 a q1 (by omega)) hle hw S.2.2.2.1 (fun j hj => (c15 j hj).kept hz (fun a q1 q2 => h1 a (by omega) (by omega)) hm) ?_ ?_
    · rcases hq with q | q
      · exact ⟨Y, q ▸ hlY⟩
      · exact ⟨X2, c16.kept hz (fun a q1 q2 => h1 a (by omega) (by omega)) hm⟩
    · rcases hq with q | q
      · exact ⟨X3, c17.kept hz (fun a q1 q2 => h1 a (by omega) (by omega)) hm⟩
      · exact ⟨Y, q ▸ hlY⟩
theorem stc.nul {Z : Nat → Prop} {h : Nat → Option am_C} {P : List (List Nat)} {o : Option Nat} (q : stc Z h P o) : (P = [] ∧ o = none) ∨ (P ≠ [] ∧ ∃ a, o = some a) := by
  rcases q.cnt with h | ⟨h, a, -, -, e, -⟩
  · exact Or.inl h
  · exact Or.inr ⟨h, a, e⟩
/-- list -/
theorem c_list (hC : CS g b R σ S) (which slot : Int32) (it : Bool) (hd : 42 ≤ d) (hQ : ∀ σ' : am_H, CS g b R σ' (sp_list S which slot it).1 → cfr b R σ σ' 1 3 → Q (some (.int (sp_list S which slot it).2)) σ') : AW g d 35 (0, [some (.ref b), some (.int which), some (.int slot), some (.int (bI it))], []) σ Q := by
  obtain ⟨d, rfl⟩ : ∃ d', d = d' + 1 := ⟨d - 1, by omega⟩
  have hC' := hC
  obtain ⟨c1, c2, c3, c4, c5, c6, c7, c8, ⟨st, ho, hst⟩, ⟨fs, hs, hsl⟩, ⟨fl, hl, hfl⟩, hls, -⟩ := hC'
  have no : sp_list S which slot it = (S, -2) → AW g (d + 1) 35 (23, [some (.ref b), some (.int which), some (.int slot), some (.int (bI it))], []) σ Q := by
    intro q
    rw [q] at hQ
    refine aw_run 1 (F' := (25, [some (.ref b), some (.int which), some (.int slot), some (.int (bI it))], [.int (-2)])) rfl ?_
    exact aw_iret rfl ⟨_, rfl, rfl⟩ (hQ σ hC ⟨fun _ _ => rfl, by omega, by omega, by omega, by omega⟩)
  refine aw_run 2 (F' := (2, [some (.ref b), some (.int which), some (.int slot), some (.int (bI it))], [.int which, .ref b])) rfl ?_
  refine aw_v [.ref b, .int which] [] rfl (by decide) rfl ho rfl rfl (Nat.le_of_ble_eq_true rfl) (Nat.le_of_ble_eq_true rfl) ?_
  refine c_isl hC which (fun i hi er ei => ?_) (fun e => ?_)
  rotate_left
  · exact aw_zeq rfl (fun _ => no (by unfold sp_list; rw [e])) (fun z => absurd rfl z)
  refine aw_zeq rfl (fun z => absurd z (by decide)) (fun _ => ?_)
  refine aw_run 2 (F' := (10, [some (.ref b), some (.int which), some (.int slot), some (.int (bI it))], [.int slot, .ref b])) rfl ?_
  refine aw_v [.ref b, .int slot] [] rfl (by decide) rfl ho rfl rfl (Nat.le_of_ble_eq_true rfl) (Nat.le_of_ble_eq_true rfl) ?_
  refine c_slot hC slot (fun j hj es ej => ?_) (fun e => ?_)
  rotate_left
  · exact aw_zeq rfl (fun _ => no (by unfold sp_list; rw [e, ei])) (fun z => absurd rfl z)
  refine aw_zeq rfl (fun z => absurd z (by decide)) (fun _ => ?_)
  have hr : sp_list S which slot it = (if S.2.2.2.2 = [] then (S, -2) else if (sp_lv it 17 (sp_dv (S.2.2.1 j)) S.2.2.2.2).length ≤ 500 then (setl S i (sp_lv it 17 (sp_dv (S.2.2.1 j)) S.2.2.2.2).zipIdx, nI (sp_lv it 17 (sp_dv (S.2.2.1 j)) S.2.2.2.2).length) else (setl S i [], -1)) := by unfold sp_list; rw [ei, ej]
  refine aw_run 1 (F' := (17, [some (.ref b), some (.int which), some (.int slot), some (.int (bI it))], [.ref b])) rfl ?_
  refine aw_get rfl ho rfl ?_
  rcases hst.nul with ⟨hP, rfl⟩ | ⟨hP, y, rfl⟩
  · refine aw_ifnon_n rfl ?_
    exact no (by rw [hr, if_pos hP])
  rw [if_neg hP] at hr
  rw [hr] at hQ
  subst er
  subst es
  refine aw_ifnon_r rfl ?_
  obtain ⟨hh, x, hx1, hx2⟩ := hsl j hj
  refine aw_run 2 (F' := (28, [some (.ref b), some (.int (nI i)), some (.int (nI j)), some (.int (bI it))], [.ref b, .ref b])) rfl ?_
  refine aw_get rfl ho rfl ?_
  refine aw_run 1 (F' := (32, [some (.ref b), some (.int (nI i)), some (.int (nI j)), some (.int (bI it))], [.int (nI i), .ref (b + 7), .ref b])) rfl ?_
  refine aw_aald rfl (by decide) hl (vp_in_nI hi (by omega)) ?_
  rw [nI_clamp (by omega), hfl i hi]
  refine aw_run 1 (F' := (34, [some (.ref b), some (.int (nI i)), some (.int (nI j)), some (.int (bI it))], [.ref b, .ref (b + 8 + 5 * i), .ref b])) rfl ?_
  refine aw_get rfl ho rfl ?_
  refine aw_run 1 (F' := (38, [some (.ref b), some (.int (nI i)), some (.int (nI j)), some (.int (bI it))], [.int (nI j), .ref (b + 2), .ref (b + 8 + 5 * i), .ref b])) rfl ?_
  refine aw_aald rfl (by decide) hs (vp_in_nI hj (by omega)) ?_
  rw [nI_clamp (by omega), hx1]
  refine aw_run 1 (F' := (40, [some (.ref b), some (.int (nI i)), some (.int (nI j)), some (.int (bI it))], [.int (bI it), .ref x, .ref (b + 8 + 5 * i), .ref b])) rfl ?_
  refine aw_v [.ref b, .ref (b + 8 + 5 * i), .ref x, .int (bI it)] [] rfl (by decide) rfl ho rfl rfl (Nat.le_of_ble_eq_true rfl) (Nat.le_of_ble_eq_true rfl) ?_
  refine c_fill hC (w := b + 8 + 5 * i) (it := it) (by omega) (by omega) (by omega) (hls i hi) hx2 hh (fun hL σ' k1 k2 k3 k4 k5 => ?_) (fun hL σ' k1 k2 k3 k4 k5 => ?_)
  · rw [if_pos hL] at hQ
    have hCn := (cs_fill hC k1 (by omega) k4 k5 (by omega) (by omega)).2.1 i rfl hi
    have ho' := (k1 b (by omega) (by omega)).trans ho
    have hl' := (k1 (b + 7) (by omega) (by omega)).trans hl
    have k5' := k5
    obtain ⟨⟨n1, fv, fo, n2, -⟩, -⟩ := k5'
    dsimp only at n2
    rw [List.length_zipIdx] at n2
    refine aw_zeq rfl (fun z => absurd z (by decide)) (fun _ => ?_)
    refine aw_run 1 (F' := (47, [some (.ref b), some (.int (nI i)), some (.int (nI j)), some (.int (bI it))], [.ref b])) rfl ?_
    refine aw_get rfl ho' rfl ?_
    refine aw_run 1 (F' := (51, [some (.ref b), some (.int (nI i)), some (.int (nI j)), some (.int (bI it))], [.int (nI i), .ref (b + 7)])) rfl ?_
    refine aw_aald rfl (by decide) hl' (vp_in_nI hi (by omega)) ?_
    rw [nI_clamp (by omega), hfl i hi]
    refine aw_get rfl n2 rfl ?_
    refine aw_run 1 (F' := (59, [some (.ref b), some (.int (nI i)), some (.int (nI j)), some (.int (bI it))], [.int (nI (sp_lv it 17 (sp_dv (S.2.2.1 j)) S.2.2.2.2).length)])) rfl ?_
    exact aw_iret rfl ⟨_, rfl, rfl⟩ (hQ σ' hCn ⟨fun a ha => k1 a (by omega) (by omega), by omega, by omega, by omega, by omega⟩)
  · rw [if_neg hL] at hQ
    have hCn := (cs_fill hC k1 (by omega) k4 k5 (by omega) (by omega)).2.1 i rfl hi
    refine aw_zeq rfl (fun _ => ?_) (fun z => absurd rfl z)
    refine aw_run 1 (F' := (59, [some (.ref b), some (.int (nI i)), some (.int (nI j)), some (.int (bI it))], [.int (-1)])) rfl ?_
    exact aw_iret rfl ⟨_, rfl, rfl⟩ (hQ σ' hCn ⟨fun a ha => k1 a (by omega) (by omega), by omega, by omega, by omega, by omega⟩)
end P52
