/-! sort -/
def sp_srt : sp_X → sp_X
  | [] => []
  | x :: X => sp_mrg (X.length + 1) [x] (sp_srt X)
theorem sp_srt_len : ∀ X, (sp_srt X).length = X.length
  | [] => rfl
  | x :: X => by
    unfold sp_srt
    rw [sp_mrg_len, sp_srt_len X]
    simp
    omega
theorem sp_srt_so : ∀ X, sp_so (sp_srt X)
  | [] => List.Pairwise.nil
  | x :: X => sp_mrg_so _ _ _ (by rw [sp_srt_len]; simp; omega) (List.pairwise_singleton _ _) (sp_srt_so X)
theorem sp_srt_eq : ∀ X, sp_eq X (sp_srt X)
  | [] => sp_eq.rf _
  | x :: X => by
    have h1 : sp_eq ([x] ++ X) ([x] ++ sp_srt X) := (sp_eq.rf [x]).app (sp_srt_eq X)
    exact h1.tr (sp_mrg_eq _ _ _ (List.pairwise_singleton _ _))
theorem sp_srt_un {X Y : sp_X} (h1 : sp_so Y) (h2 : sp_eq X Y) : Y = sp_srt X := sp_so_eq h1 (sp_srt_so X) (h2.sy.tr (sp_srt_eq X))
def setl (S : sp_S) (i : Nat) (Y : sp_X) : sp_S := (S.1, S.2.1, S.2.2.1, (fun j => if j = i then Y else S.2.2.2.1 j), S.2.2.2.2)
def sp_sort (S : sp_S) (which : Int32) : sp_S × Int32 := match sp_ix which 2 with
  | none => (S, -1)
  | some i => (setl S i (sp_srt (S.2.2.2.1 i)), nI (sp_cd (sp_srt (S.2.2.2.1 i)) (sp_srt (S.2.2.2.1 i)).length))
/-- what a call of the object leaves as it was, and what it makes -/
def cfr (b R : Nat) (σ σ' : am_H) (K M : Nat) : Prop := (∀ a, a < b ∨ (b + 29 ≤ a ∧ a < b + R) → σ'.1 a = σ.1 a) ∧ σ.2.1 ≤ σ'.2.1 ∧ σ'.2.1 ≤ σ.2.1 + K ∧ σ.2.2 ≤ σ'.2.2 ∧ σ'.2.2 ≤ σ.2.2 + M
theorem cfr.self {b R : Nat} {σ : am_H} : cfr b R σ σ 0 0 := ⟨fun _ _ => rfl, Nat.le_refl _, Nat.le_refl _, Nat.le_refl _, Nat.le_refl _⟩
theorem fw5_of {g : Nat × Nat} {b R hi w : Nat} (h1 : b + 8 ≤ w) (h2 : w + 4 < b + 28) (h3 : g.1 ≤ b) (h4 : g.2 < g.1) (h5 : 29 ≤ R) : fw5 g (Zc g b R hi) w (w + 1) (w + 2) (w + 3) (w + 4) := by
  have nz : ∀ a, w ≤ a → a ≤ w + 4 → ¬ Zc g b R hi a := by
    intro a q1 q2 q
    unfold Zc at q
    omega
  exact ⟨⟨by omega, by omega, by omega, by omega, by omega, by omega, nz _ (by omega) (by omega), nz _ (by omega) (by omega), nz _ (by omega) (by omega)⟩, by omega, by omega, by omega, by omega, by omega, by omega, by omega, by omega, by omega, nz _ (by omega) (by omega), nz _ (by omega) (by omega)⟩
theorem lsx.kept {Z Z' : Nat → Prop} {h h' : Nat → Option am_C} {w : Nat} {X : sp_X} (q : lsx Z h w X) (e : ∀ a, Z a → h' a = h a) (ew : ∀ a, w ≤ a → a ≤ w + 4 → h' a = h a) (hZ : ∀ a, Z a → Z' a) : lsx Z' h' w X := by
  obtain ⟨⟨h1, fv, fo, h2, h3, h4, h5⟩, hh, ⟨fs, h6⟩, ⟨fp, h7⟩⟩ := q
  refine ⟨⟨h1, fv, fo, (ew _ (by omega) (by omega)).trans h2, (ew _ (by omega) (by omega)).trans h3, (ew _ (by omega) (by omega)).trans h4, fun i v o hi => ?_⟩, hh, ⟨fs, (ew _ (by omega) (by omega)).trans h6⟩, ⟨fp, (ew _ (by omega) (by omega)).trans h7⟩⟩
  obtain ⟨a, b1, b2, b3⟩ := h5 i v o hi
  exact ⟨a, b1, b2.kept e hZ, b3⟩
theorem lsx.ast {g : Nat × Nat} {Z : Nat → Prop} {σ σ' : am_H} {w : Nat} {X Y : sp_X} (q : lsx Z σ.1 w X) (hf : fw5 g Z w (w + 1) (w + 2) (w + 3) (w + 4)) (h : ast g Z σ σ' (w + 1) (w + 2) (w + 3) (w + 4) X Y) : lsx Z σ'.1 w Y := by
  obtain ⟨⟨h1, fv, fo, h2, h3, h4, h5⟩, hh, ⟨fs, h6⟩, ⟨fp, h7⟩⟩ := q
  obtain ⟨e1, e2, fv', fo', fs', fp', hm, hit⟩ := h
  have hz := hm.sz hf
  have hwc := hm.sw hf
  obtain ⟨m1, m2, m3, m4, m5, m6⟩ := hm
  dsimp only at h1 h2
  refine ⟨⟨by show Y.length ≤ 500; omega, fv', fo', ?_, m3, m4, fun i v o hi => ?_⟩, fun x hx => hh x (e2.mem hx), ⟨fs', m5⟩, ⟨fp', m6⟩⟩
  · show σ'.1 w = some (.inr (2, [.ref (w + 1), .ref (w + 2), .ref (w + 3), .ref (w + 4), .int (nI Y.length), .int (bI false)]))
    rw [e1]
    exact hwc.trans h2
  · obtain ⟨a, b1, b2, b3⟩ := hit i (v, o) hi
    exact ⟨a, b1, b2.kept hz (fun _ z => z), b3⟩
section P50
variable {g : Nat × Nat} {d b R : Nat} {σ : am_H} {S : sp_S} {Q : Option Value → am_H → Prop}
/-- arrange, for a list of the object -/
theorem c_arrx {Z : Nat → Prop} {w : Nat} {X : sp_X} (hd : 55 ≤ d) (hf : fw5 g Z w (w + 1) (w + 2) (w + 3) (w + 4)) (hl : lsx Z σ.1 w X) (hQ : ∀ σ' : am_H, (∀ a, a < w ∨ w + 4 < a → σ'.1 a = σ.1 a) → σ'.2 = σ.2 → (∀ a, Z a → σ'.1 a = σ.1 a) → lsx Z σ'.1 w (sp_srt X) → Q none σ') : AW g d 51 (0, [some (.ref w), none, none], []) σ Q := by
  have hl' := hl
  obtain ⟨⟨h1, fv, fo, h2, h3, h4, h5⟩, hh, ⟨fs, h6⟩, ⟨fp, h7⟩⟩ := hl'
  refine c_arr hd hf h2 h1 h3 h4 h6 h7 (fun i x hx => ?_) hh (fun σ' Y ha hs => ?_)
  · obtain ⟨a, b1, b2, b3⟩ := h5 i x.1 x.2 hx
    exact ⟨a, b1, b2, b3⟩
  · have hY := sp_srt_un hs ha.2.1
    subst hY
    have ha' := ha
    obtain ⟨e1, e2, fv', fo', fs', fp', hm, hit⟩ := ha'
    exact hQ σ' (fun a h => hm.1 a (by omega) (by omega) (by omega) (by omega)) hm.2.1 (hm.sz hf) (hl.ast hf ha)
/-- a list of the two is another, all else is as it was -/
theorem CS.setl {i : Nat} {Y : sp_X} {σ' : am_H} (hC : CS g b R σ S) (hi : i < 2) (h1 : ∀ a, a < b + 8 + 5 * i ∨ b + 8 + 5 * i + 4 < a → σ'.1 a = σ.1 a) (h2 : σ'.2 = σ.2) (hw : wf σ') (hl : lsx (Zc g b R σ.2.1) σ'.1 (b + 8 + 5 * i) Y) : CS g b R σ' (setl S i Y) := by
  obtain ⟨c1, c2, c3, c4, c5, c6, c7, c8, ⟨st, c9, c10⟩, ⟨fs, c11, c12⟩, ⟨fl, c13, c14⟩, c15, ⟨X2, c16⟩, ⟨X3, c17⟩, c18⟩ := hC
  have hz : ∀ a, Zc g b R σ.2.1 a → σ'.1 a = σ.1 a := by
    intro a ha
    refine h1 a ?_
    unfold Zc at ha
    omega
  have e21 : σ'.2.1 = σ.2.1 := by rw [h2]
  unfold CS
  rw [e21]
  refine ⟨c1, c2, c3, c4, hw, c6.kept (h1 _ (by omega)), c7, c8.kept (h1 _ (by omega)), ⟨st, (h1 _ (by omega)).trans c9, c10.kept hz (fun _ z => z)⟩, ⟨fs, (h1 _ (by omega)).trans c11, fun j hj => ?_⟩, ⟨fl, (h1 _ (by omega)).trans c13, c14⟩, fun j hj => ?_, ⟨X2, c16.kept hz (fun a q1 q2 => h1 a (by omega)) (fun _ z => z)⟩, ⟨X3, c17.kept hz (fun a q1 q2 => h1 a (by omega)) (fun _ z => z)⟩, c18.kept hz (fun _ z => z)⟩
  · obtain ⟨k1, a, k2, k3⟩ := c12 j hj
    exact ⟨k1, a, k2, k3.kept hz (fun _ z => z)⟩
  · show lsx _ _ _ (if j = i then Y else S.2.2.2.1 j)
    by_cases q : j = i
    · rw [if_pos q, q]
      exact hl
    · rw [if_neg q]
      exact (c15 j hj).kept hz (fun a q1 q2 => h1 a (by omega)) (fun _ z => z)
/-- sort -/
theorem c_sort (hC : CS g b R σ S) (which : Int32) (hd : 56 ≤ d) (hQ : ∀ σ' : am_H, CS g b R σ' (sp_sort S which).1 → cfr b R σ σ' 0 0 → Q (some (.int (sp_sort S which).2)) σ') : AW g d 50 (0, [some (.ref b), some (.int which)], []) σ Q := by
  obtain ⟨d, rfl⟩ : ∃ d', d = d' + 2 := ⟨d - 2, by omega⟩
  have hC' := hC
  obtain ⟨c1, c2, c3, c4, c5, c6, c7, c8, ⟨st, ho, -⟩, -, ⟨fl, hl, hfl⟩, hls, -⟩ := hC'
  refine aw_run 2 (F' := (2, [some (.ref b), some (.int which)], [.int which, .ref b])) rfl ?_
  refine aw_v [.ref b, .int which] [] rfl (by decide) rfl ho rfl rfl (Nat.le_of_ble_eq_true rfl) (Nat.le_of_ble_eq_true rfl) ?_
  refine c_isl hC which (fun i hi er ei => ?_) (fun e => ?_)
  rotate_left
  · have hr : sp_sort S which = (S, -1) := by unfold sp_sort; rw [e]
    rw [hr] at hQ
    refine aw_zne rfl (fun z => absurd rfl z) (fun _ => ?_)
    refine aw_run 1 (F' := (9, [some (.ref b), some (.int which)], [.int (-1)])) rfl ?_
    exact aw_iret rfl ⟨_, rfl, rfl⟩ (hQ σ hC cfr.self)
  refine aw_zne rfl (fun _ => ?_) (fun z => absurd (by decide) z)
  subst er
  have hr : sp_sort S (nI i) = (setl S i (sp_srt (S.2.2.2.1 i)), nI (sp_cd (sp_srt (S.2.2.2.1 i)) (sp_srt (S.2.2.2.1 i)).length)) := by unfold sp_sort; rw [ei]
  rw [hr] at hQ
  dsimp only at hQ
  have hlx := hls i hi
  have hf := fw5_of (g := g) (b := b) (R := R) (hi := σ.2.1) (w := b + 8 + 5 * i) (by omega) (by omega) c1 c2 c3
  have hw : ∃ wl, σ.1 (b + 8 + 5 * i) = some (.inr (2, wl)) := by
    obtain ⟨⟨-, fv, fo, h2, -⟩, -⟩ := hlx
    exact ⟨_, h2⟩
  obtain ⟨wl, hwl⟩ := hw
  refine aw_run 1 (F' := (11, [some (.ref b), some (.int (nI i))], [.ref b])) rfl ?_
  refine aw_get rfl ho rfl ?_
  refine aw_run 1 (F' := (15, [some (.ref b), some (.int (nI i))], [.int (nI i), .ref (b + 7)])) rfl ?_
  refine aw_aald rfl (by decide) hl (vp_in_nI hi (by omega)) ?_
  rw [nI_clamp (by omega), hfl i hi]
  refine aw_v [.ref (b + 8 + 5 * i)] [] rfl (by decide) rfl hwl rfl rfl (Nat.le_of_ble_eq_true rfl) (Nat.le_of_ble_eq_true rfl) ?_
  refine c_arrx (d := d + 1) (by omega) hf hlx (fun σ' k1 k2 k3 k4 => ?_)
  have e21 : σ'.2.1 = σ.2.1 := by rw [k2]
  have hwf' : wf σ' := by
    intro a c hc
    rw [e21]
    by_cases q : a < b + 8 + 5 * i ∨ b + 8 + 5 * i + 4 < a
    · rw [k1 a q] at hc
      exact c5 _ _ hc
    · omega
  have hCn := hC.setl hi k1 k2 hwf' k4
  have ho' := (k1 b (by omega)).trans ho
  have hl' := (k1 (b + 7) (by omega)).trans hl
  obtain ⟨⟨n1, fv, fo, n2, n3, n4, n5⟩, nh, -, -⟩ := k4
  refine aw_run 1 (F' := (20, [some (.ref b), some (.int (nI i))], [.ref b])) rfl ?_
  refine aw_get rfl ho' rfl ?_
  refine aw_run 1 (F' := (24, [some (.ref b), some (.int (nI i))], [.int (nI i), .ref (b + 7)])) rfl ?_
  refine aw_aald rfl (by decide) hl' (vp_in_nI hi (by omega)) ?_
  rw [nI_clamp (by omega), hfl i hi]
  refine aw_v [.ref (b + 8 + 5 * i)] [] rfl (by decide) rfl n2 rfl rfl (Nat.le_of_ble_eq_true rfl) (Nat.le_of_ble_eq_true rfl) ?_
  refine c_cd (d := d) (Z := Zc g b R σ.2.1) (by omega) n2 n1 n3 (fun j x hx => ?_) nh ?_
  · obtain ⟨a, b1, b2, b3⟩ := n5 j x.1 x.2 hx
    exact ⟨a, b1, b2⟩
  · refine aw_iret rfl ⟨_, rfl, rfl⟩ (hQ σ' hCn ⟨fun a ha => k1 a (by omega), by omega, by omega, ?_, ?_⟩)
    · rw [k2]; exact Nat.le_refl _
    · rw [k2]; exact Nat.le_refl _
end P50
