/-! the leaves of a path -/
def sp_its (v : sp_V) (it : Bool) : List sp_V := if it = true ∧ v.1.1 = 4 then sp_toL v.2 else []
def sp_lv (it : Bool) : Nat → sp_V → List (List Nat) → List sp_V
  | 0, _, _ => []
  | _ + 1, v, [] => v :: sp_its v it
  | n + 1, v, s :: ss => if v.1.1 = 4 then (match sp_fnd s v.2 with
      | none => []
      | some w => sp_lv it n w ss) ++ (sp_toL v.2).flatMap (fun w => if w.1.1 = 3 then sp_lv it n w (s :: ss) else [])
    else match sp_fnd s v.2 with
      | none => [sp_miss]
      | some w => sp_lv it n w ss
/-- the steps of a path, in the heap -/
def stc (Z : Nat → Prop) (h : Nat → Option am_C) : List (List Nat) → Option Nat → Prop
  | [], o => o = none
  | nm :: P, o => ∃ (a na : Nat) (nx : Option Nat), o = some a ∧ Z a ∧ Z na ∧ h a = some (.inr (5, [.ref na, va_rf nx, .int (nI (P.length + 1))])) ∧ bya h na nm ∧ stc Z h P nx
theorem stc.kept {Z Z' : Nat → Prop} {h h' : Nat → Option am_C} (e : ∀ x, Z x → h' x = h x) (hZ : ∀ x, Z x → Z' x) : ∀ {P : List (List Nat)} {o : Option Nat}, stc Z h P o → stc Z' h' P o
  | [], _, q => q
  | _ :: _, _, ⟨a, na, nx, h1, z1, z2, h2, h3, h4⟩ => ⟨a, na, nx, h1, hZ _ z1, hZ _ z2, (e _ z1).trans h2, h3.kept (e _ z2), stc.kept e hZ h4⟩
/-- what a walk stands on -/
def wlk (g : Nat × Nat) (Z : Nat → Prop) (σ0 : am_H) (k w va oa m : Nat) (it : Bool) : Prop := fwk g Z w va oa ∧ k ≠ w ∧ k ≠ va ∧ k ≠ oa ∧ σ0.1 k = some (.inr (4, [.ref w, .int (bI it), .ref m])) ∧ vlz Z σ0.1 m sp_miss
section P40
variable {g : Nat × Nat} {d : Nat} {σ : am_H} {Q : Option Value → am_H → Prop}
theorem frz.one {Z : Nat → Prop} {h : Nat → Option am_C} {s : Nat} {b : sp_B} {u : Unit} {c r : sp_F} {o : Option Nat} (q : frz Z h (.inner s b u c r) o) : ∃ x, o = some x ∧ vlz Z h x (b, c) ∧ ∃ w0 w1 w2 w3 w4 w5 w6 nx, h x = some (.inr (1, [.int w0, w1, w2, w3, w4, w5, w6, va_rf nx])) ∧ w0 = nI b.1 ∧ frz Z h r nx := by
  obtain ⟨a, fi, la, nx, h1, z, h2, h3, h4⟩ := q
  have h2' := h2
  obtain ⟨-, -, na, ba, num, -, -, hc, -⟩ := h2'
  exact ⟨a, h1, ⟨z, fi, la, nx, h2, h3⟩, _, _, _, _, _, _, _, nx, hc, rfl, h4⟩
/-- addLeaf's loop -/
theorem c_leafL {Z : Nat → Prop} {σ0 : am_H} {k w va oa sa pa m x : Nat} {it : Bool} (hw : wlk g Z σ0 k w va oa m it) : ∀ (c : sp_F) (o : Option Nat) (σ : am_H) (S : sp_X × Bool), frz Z σ0.1 c o → fil σ0 σ w va oa → ls Z σ0.1 σ.1 w va oa sa pa S → (∀ σ' : am_H, fil σ0 σ' w va oa → ls Z σ0.1 σ'.1 w va oa sa pa (sp_adds S (sp_toL c)) → Q none σ') → AW g (d + 1) 41 (29, [some (.ref k), some (.ref x), some (va_rf o)], []) σ Q := by
  intro c
  induction c with
  | leaf =>
    intro o σ S hc hfil hls hQ
    have ho : o = none := hc
    subst ho
    refine aw_run 1 (F' := (30, [some (.ref k), some (.ref x), some .null], [.null])) rfl ?_
    refine aw_ifnull_n rfl ?_
    exact aw_vret rfl rfl (hQ σ hfil hls)
  | inner s b u c r ihc ihr =>
    intro o σ S hc hfil hls hQ
    obtain ⟨hf, k1, k2, k3, hk, hm⟩ := hw
    have hZ := hfil.z hf
    have hkc := (hfil.1 k k1 k2 k3).trans hk
    obtain ⟨y, rfl, hy, w0, w1, w2, w3, w4, w5, w6, nx, hyc, -, hr⟩ := hc.one
    refine aw_run 1 (F' := (30, [some (.ref k), some (.ref x), some (.ref y)], [.ref y])) rfl ?_
    refine aw_ifnull_r rfl ?_
    refine aw_run 1 (F' := (34, [some (.ref k), some (.ref x), some (.ref y)], [.ref k])) rfl ?_
    refine aw_get rfl hkc rfl ?_
    have hls' := hls
    obtain ⟨hl, fv, fo, hwc, hva, hoa, hv⟩ := hls'
    refine aw_get rfl hwc rfl ?_
    by_cases hov : S.2 = true
    · rw [hov]
      refine aw_zne rfl (fun _ => ?_) (fun z => absurd (by decide) z)
      rw [sp_adds_ov hov] at hQ
      exact aw_vret rfl rfl (hQ σ hfil hls)
    · have hof : S.2 = false := by simpa using hov
      rw [hof]
      refine aw_zne rfl (fun z => absurd rfl z) (fun _ => ?_)
      refine aw_run 1 (F' := (44, [some (.ref k), some (.ref x), some (.ref y)], [.ref k])) rfl ?_
      refine aw_get rfl hkc rfl ?_
      refine aw_run 1 (F' := (48, [some (.ref k), some (.ref x), some (.ref y)], [.ref y, .ref w])) rfl ?_
      refine aw_v [.ref w, .ref y] [] rfl (by decide) rfl hwc rfl rfl (Nat.le_of_ble_eq_true rfl) (Nat.le_of_ble_eq_true rfl) ?_
      refine c_add hf hfil hls hy (fun σ' hfil' hls' => ?_)
      have hyc' := (hfil'.z hf y hy.1).trans hyc
      refine aw_run 1 (F' := (52, [some (.ref k), some (.ref x), some (.ref y)], [.ref y])) rfl ?_
      refine aw_get rfl hyc' rfl ?_
      have key := ihr nx σ' (sp_add S (b, c)) hr hfil' hls' (by
        intro σ'' h1 h2
        refine hQ σ'' h1 ?_
        show ls Z σ0.1 σ''.1 w va oa sa pa (sp_adds S ((b, c) :: sp_toL r))
        rw [sp_adds_cons hov]
        exact h2)
      rcases nx with _ | z
      · refine aw_run 2 (F' := (29, [some (.ref k), some (.ref x), some .null], [])) rfl ?_
        exact key
      · refine aw_run 2 (F' := (29, [some (.ref k), some (.ref x), some (.ref z)], [])) rfl ?_
        exact key
/-- Walk.addLeaf -/
theorem c_leaf {Z : Nat → Prop} {σ0 : am_H} {k w va oa sa pa m x : Nat} {it : Bool} {v : sp_V} {S : sp_X × Bool} (hw : wlk g Z σ0 k w va oa m it) (hx : vlz Z σ0.1 x v) (hfil : fil σ0 σ w va oa) (hls : ls Z σ0.1 σ.1 w va oa sa pa S) (hov : ¬ S.2 = true) (hQ : ∀ σ' : am_H, fil σ0 σ' w va oa → ls Z σ0.1 σ'.1 w va oa sa pa (sp_adds S (v :: sp_its v it)) → Q none σ') : AW g (d + 1) 41 (0, [some (.ref k), some (.ref x), none], []) σ Q := by
  have hw' := hw
  obtain ⟨hf, k1, k2, k3, hk, hm⟩ := hw'
  have hkc := (hfil.1 k k1 k2 k3).trans hk
  have hls' := hls
  obtain ⟨hl, fv, fo, hwc, hva, hoa, hv⟩ := hls'
  refine aw_run 1 (F' := (1, [some (.ref k), some (.ref x), none], [.ref k])) rfl ?_
  refine aw_get rfl hkc rfl ?_
  refine aw_run 1 (F' := (5, [some (.ref k), some (.ref x), none], [.ref x, .ref w])) rfl ?_
  refine aw_v [.ref w, .ref x] [] rfl (by decide) rfl hwc rfl rfl (Nat.le_of_ble_eq_true rfl) (Nat.le_of_ble_eq_true rfl) ?_
  refine c_add hf hfil hls hx (fun σ' hfil' hls' => ?_)
  have hkc' := (hfil'.1 k k1 k2 k3).trans hk
  refine aw_run 1 (F' := (9, [some (.ref k), some (.ref x), none], [.ref k])) rfl ?_
  refine aw_get rfl hkc' rfl ?_
  rw [sp_adds_cons hov] at hQ
  unfold sp_its at hQ
  by_cases hit : it = true
  · rw [hit]
    refine aw_zeq rfl (fun z => absurd z (by decide)) (fun _ => ?_)
    have hx' := hx.kept (hfil'.z hf) (fun _ z => z)
    obtain ⟨zx0, fi, la, nx, ⟨kk, -, na, ba, num, -, -, hxc, -⟩, hfr⟩ := hx
    have hxc' := (hfil'.z hf x zx0).trans hxc
    refine aw_run 1 (F' := (16, [some (.ref k), some (.ref x), none], [.ref x])) rfl ?_
    refine aw_get rfl hxc' rfl ?_
    refine aw_run 1 (F' := (20, [some (.ref k), some (.ref x), none], [.int (nI 4), .int (nI v.1.1)])) rfl ?_
    have hk18 : v.1.1 < 19 := by unfold kd at kk; omega
    refine aw_ceq rfl (fun z => ?_) (fun z => ?_)
    · have z' : v.1.1 = 4 := (nI_eq (by omega) (by omega)).mp z
      rw [if_pos ⟨hit, z'⟩] at hQ
      refine aw_run 1 (F' := (25, [some (.ref k), some (.ref x), none], [.ref x])) rfl ?_
      refine aw_get rfl hxc' rfl ?_
      have key := c_leafL (g := g) (d := d) (Q := Q) (x := x) hw v.2 fi σ' (sp_add S v) hfr hfil' hls' hQ
      rcases fi with _ | z
      · refine aw_run 1 (F' := (29, [some (.ref k), some (.ref x), some .null], [])) rfl ?_
        exact key
      · refine aw_run 1 (F' := (29, [some (.ref k), some (.ref x), some (.ref z)], [])) rfl ?_
        exact key
    · have z' : ¬ v.1.1 = 4 := fun y => z (by rw [y])
      rw [if_neg (fun y => z' y.2)] at hQ
      exact aw_vret rfl rfl (hQ σ' hfil' hls')
  · have hif : it = false := by simpa using hit
    rw [hif]
    refine aw_zeq rfl (fun _ => ?_) (fun z => absurd rfl z)
    rw [if_neg (fun y => hit y.1)] at hQ
    exact aw_vret rfl rfl (hQ σ' hfil' hls')
end P40
