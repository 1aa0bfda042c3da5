/-! counting, sharing, and the small ones -/
/-- how many different ones among the first k of a sorted list -/
def sp_cd (X : sp_X) : Nat → Nat
  | 0 => 0
  | k + 1 => sp_cd X k + (match X[k - 1]?, X[k]? with
    | some a, some b => if k = 0 ∨ ¬ sp_vc a.1 b.1 = 0 then 1 else 0
    | _, _ => 0)
theorem sp_cd_le (X : sp_X) : ∀ k, sp_cd X k ≤ k
  | 0 => Nat.le_refl _
  | k + 1 => by
    have := sp_cd_le X k
    unfold sp_cd
    split
    · split <;> omega
    · omega
def sp_shr (X Y : sp_X) : Prop := ∃ a ∈ X, ∃ b ∈ Y, sp_vc a.1 b.1 = 0
section P47
variable {g : Nat × Nat} {d : Nat} {σ : am_H} {Q : Option Value → am_H → Prop}
/-- ValueList.countDifferent: its loop -/
theorem c_cdL {Z : Nat → Prop} {w va oa sa pa : Nat} {ov : Bool} {X : sp_X} {fv : Nat → Option Nat} (hd : 53 ≤ d) (hw : σ.1 w = some (cLs va oa sa pa X.length ov)) (hX : X.length ≤ 500) (hva : σ.1 va = some (cA3 fv)) (hit : ∀ i x, X[i]? = some x → ∃ a, fv i = some a ∧ vlz Z σ.1 a x.1) (hh : ∀ x ∈ X, sp_hgt x.1.2 ≤ 16) (hQ : Q (some (.int (nI (sp_cd X X.length)))) σ) : ∀ (n k : Nat), k + n = X.length → AW g (d + 1) 53 (4, [some (.ref w), some (.int (nI (sp_cd X k))), some (.int (nI k))], []) σ Q := by
  intro n
  induction n with
  | zero =>
    intro k hk
    have : k = X.length := by omega
    subst this
    refine aw_run 2 (F' := (6, [some (.ref w), some (.int (nI (sp_cd X X.length))), some (.int (nI X.length))], [.ref w, .int (nI X.length)])) rfl ?_
    refine aw_get rfl hw rfl ?_
    refine aw_cge rfl (fun _ => ?_) (fun z => absurd (Int32.le_refl _) z)
    refine aw_run 1 (F' := (47, [some (.ref w), some (.int (nI (sp_cd X X.length))), some (.int (nI X.length))], [.int (nI (sp_cd X X.length))])) rfl ?_
    exact aw_iret rfl ⟨_, rfl, rfl⟩ hQ
  | succ n ih =>
    intro k hk
    have get : ∀ i, i < X.length → ∃ x, X[i]? = some x := fun i hi => ⟨_, List.getElem?_eq_getElem hi⟩
    obtain ⟨xa, hxa⟩ := get (k - 1) (by omega)
    obtain ⟨xb, hxb⟩ := get k (by omega)
    obtain ⟨aa, ha1, ha2⟩ := hit _ _ hxa
    obtain ⟨bb, hb1, hb2⟩ := hit _ _ hxb
    have hcd : sp_cd X (k + 1) = sp_cd X k + (if k = 0 ∨ ¬ sp_vc xa.1 xb.1 = 0 then 1 else 0) := by
      rw [sp_cd, hxa, hxb]
    refine aw_run 2 (F' := (6, [some (.ref w), some (.int (nI (sp_cd X k))), some (.int (nI k))], [.ref w, .int (nI k)])) rfl ?_
    refine aw_get rfl hw rfl ?_
    refine aw_cge rfl (fun z => absurd ((nI_leI (by omega) (by omega)).mp z) (by omega)) (fun _ => ?_)
    refine aw_run 1 (F' := (13, [some (.ref w), some (.int (nI (sp_cd X k))), some (.int (nI k))], [.int (nI k)])) rfl ?_
    have more : (k = 0 ∨ ¬ sp_vc xa.1 xb.1 = 0) → AW g (d + 1) 53 (37, [some (.ref w), some (.int (nI (sp_cd X k))), some (.int (nI k))], []) σ Q := by
      intro q
      rw [if_pos q] at hcd
      refine aw_run 3 (F' := (4, [some (.ref w), some (.int (nI (sp_cd X k) + 1)), some (.int (nI k + 1))], [])) rfl ?_
      rw [nI_1, nI_1, ← hcd]
      exact ih (k + 1) (by omega)
    refine aw_zeq rfl (fun z => more (Or.inl ((nI_eq (b := 0) (by omega) (by omega)).mp z))) (fun z => ?_)
    have hk0 : k ≠ 0 := fun y => z (by rw [y]; rfl)
    refine aw_run 1 (F' := (17, [some (.ref w), some (.int (nI (sp_cd X k))), some (.int (nI k))], [.ref w])) rfl ?_
    refine aw_get rfl hw rfl ?_
    refine aw_run 3 (F' := (23, [some (.ref w), some (.int (nI (sp_cd X k))), some (.int (nI k))], [.int (nI k - nI 1), .ref va])) rfl ?_
    rw [pk_sub (by omega)]
    refine aw_aald rfl (by decide) hva (vp_in_nI (by omega) (by omega)) ?_
    rw [nI_clamp (by omega), ha1]
    refine aw_run 1 (F' := (25, [some (.ref w), some (.int (nI (sp_cd X k))), some (.int (nI k))], [.ref w, .ref aa])) rfl ?_
    refine aw_get rfl hw rfl ?_
    refine aw_run 1 (F' := (29, [some (.ref w), some (.int (nI (sp_cd X k))), some (.int (nI k))], [.int (nI k), .ref va, .ref aa])) rfl ?_
    refine aw_aald rfl (by decide) hva (vp_in_nI (by omega) (by omega)) ?_
    rw [nI_clamp (by omega), hb1]
    refine aw_run 1 (F' := (31, [some (.ref w), some (.int (nI (sp_cd X k))), some (.int (nI k))], [.int (nI 1), .ref bb, .ref aa])) rfl ?_
    refine aw_s [.ref aa, .ref bb, .int (nI 1)] [] rfl ⟨by decide, by decide⟩ rfl rfl (Nat.le_of_ble_eq_true rfl) (Nat.le_of_ble_eq_true rfl) ?_
    have hha := hh xa (List.mem_of_getElem? hxa)
    refine c_ofValues ha2.vl hb2.vl (by omega) (by omega) ?_
    refine aw_zeq rfl (fun y => ?_) (fun y => more (Or.inr y))
    rw [if_neg (fun u => by rcases u with u | u; exact hk0 u; exact u y)] at hcd
    have hcd' : sp_cd X k = sp_cd X (k + 1) := hcd.symm
    refine aw_run 2 (F' := (4, [some (.ref w), some (.int (nI (sp_cd X k))), some (.int (nI k + 1))], [])) rfl ?_
    rw [nI_1, hcd']
    exact ih (k + 1) (by omega)
theorem c_cd {Z : Nat → Prop} {w va oa sa pa : Nat} {ov : Bool} {X : sp_X} {fv : Nat → Option Nat} (hd : 53 ≤ d) (hw : σ.1 w = some (cLs va oa sa pa X.length ov)) (hX : X.length ≤ 500) (hva : σ.1 va = some (cA3 fv)) (hit : ∀ i x, X[i]? = some x → ∃ a, fv i = some a ∧ vlz Z σ.1 a x.1) (hh : ∀ x ∈ X, sp_hgt x.1.2 ≤ 16) (hQ : Q (some (.int (nI (sp_cd X X.length)))) σ) : AW g (d + 1) 53 (0, [some (.ref w), none, none], []) σ Q := by
  refine aw_run 4 (F' := (4, [some (.ref w), some (.int (nI 0)), some (.int (nI 0))], [])) rfl ?_
  exact c_cdL hd hw hX hva hit hh hQ X.length 0 (by omega)
/-- ValueList.sharesWith: its loop -/
theorem c_shL {Z : Nat → Prop} {w va oa sa pa w2 va2 oa2 sa2 pa2 : Nat} {ov ov2 : Bool} {X Y : sp_X} {fv fv2 : Nat → Option Nat} (hd : 53 ≤ d) (hw : σ.1 w = some (cLs va oa sa pa X.length ov)) (hX : X.length ≤ 500) (hva : σ.1 va = some (cA3 fv)) (hit : ∀ i x, X[i]? = some x → ∃ a, fv i = some a ∧ vlz Z σ.1 a x.1) (hh : ∀ x ∈ X, sp_hgt x.1.2 ≤ 16) (hw2 : σ.1 w2 = some (cLs va2 oa2 sa2 pa2 Y.length ov2)) (hY : Y.length ≤ 500) (hva2 : σ.1 va2 = some (cA3 fv2)) (hit2 : ∀ i x, Y[i]? = some x → ∃ a, fv2 i = some a ∧ vlz Z σ.1 a x.1) (sX : sp_so X) (sY : sp_so Y) (h1 : sp_shr X Y → Q (some (.int 1)) σ) (h0 : ¬ sp_shr X Y → Q (some (.int 0)) σ) : ∀ (n i j : Nat) (f : Option Value), X.length + Y.length ≤ i + j + n → i ≤ X.length → j ≤ Y.length → (∀ (p q : Nat) (a b : sp_I), p < i ∨ q < j → X[p]? = some a → Y[q]? = some b → ¬ sp_vc a.1 b.1 = 0) → AW g (d + 1) 57 (4, [some (.ref w), some (.ref w2), some (.int (nI i)), some (.int (nI j)), f], []) σ Q := by
  have srt : ∀ {W : sp_X}, sp_so W → ∀ (p q : Nat) (a b : sp_I), p ≤ q → W[p]? = some a → W[q]? = some b → sp_lq a b := by
    intro W sW p q a b hpq ha hb
    obtain ⟨h1, rfl⟩ := List.getElem?_eq_some_iff.mp ha
    obtain ⟨h2, rfl⟩ := List.getElem?_eq_some_iff.mp hb
    rcases Nat.lt_or_ge p q with u | u
    · exact List.pairwise_iff_getElem.mp sW p q h1 h2 u
    · have : p = q := by omega
      subst this
      exact sp_lq_rf _
  have none' : ∀ (i j : Nat), X.length ≤ i ∨ Y.length ≤ j → (∀ (p q : Nat) (a b : sp_I), p < i ∨ q < j → X[p]? = some a → Y[q]? = some b → ¬ sp_vc a.1 b.1 = 0) → ¬ sp_shr X Y := by
    rintro i j hij hn ⟨a, ha, b, hb, hab⟩
    obtain ⟨p, hp⟩ := List.mem_iff_getElem?.mp ha
    obtain ⟨q, hq⟩ := List.mem_iff_getElem?.mp hb
    have := (List.getElem?_eq_some_iff.mp hp).1
    have := (List.getElem?_eq_some_iff.mp hq).1
    exact hn p q a b (by omega) hp hq hab
  intro n
  induction n with
  | zero =>
    intro i j f hl hi hj hn
    refine aw_run 2 (F' := (6, [some (.ref w), some (.ref w2), some (.int (nI i)), some (.int (nI j)), f], [.ref w, .int (nI i)])) rfl ?_
    refine aw_get rfl hw rfl ?_
    refine aw_cge rfl (fun _ => ?_) (fun z => absurd ((nI_leI (by omega) (by omega)).mpr (by omega)) z)
    refine aw_run 1 (F' := (63, [some (.ref w), some (.ref w2), some (.int (nI i)), some (.int (nI j)), f], [.int 0])) rfl ?_
    exact aw_iret rfl ⟨_, rfl, rfl⟩ (h0 (none' i j (by omega) hn))
  | succ n ih =>
    intro i j f hl hi hj hn
    have fin : X.length ≤ i ∨ Y.length ≤ j → AW g (d + 1) 57 (62, [some (.ref w), some (.ref w2), some (.int (nI i)), some (.int (nI j)), f], []) σ Q := by
      intro q
      refine aw_run 1 (F' := (63, [some (.ref w), some (.ref w2), some (.int (nI i)), some (.int (nI j)), f], [.int 0])) rfl ?_
      exact aw_iret rfl ⟨_, rfl, rfl⟩ (h0 (none' i j q hn))
    refine aw_run 2 (F' := (6, [some (.ref w), some (.ref w2), some (.int (nI i)), some (.int (nI j)), f], [.ref w, .int (nI i)])) rfl ?_
    refine aw_get rfl hw rfl ?_
    refine aw_cge rfl (fun z => fin (Or.inl ((nI_leI (by omega) (by omega)).mp z))) (fun z => ?_)
    have z' : ¬ X.length ≤ i := fun y => z ((nI_leI (by omega) (by omega)).mpr y)
    refine aw_run 2 (F' := (14, [some (.ref w), some (.ref w2), some (.int (nI i)), some (.int (nI j)), f], [.ref w2, .int (nI j)])) rfl ?_
    refine aw_get rfl hw2 rfl ?_
    refine aw_cge rfl (fun z => fin (Or.inr ((nI_leI (by omega) (by omega)).mp z))) (fun y => ?_)
    have y' : ¬ Y.length ≤ j := fun u => y ((nI_leI (by omega) (by omega)).mpr u)
    have hxa := List.getElem?_eq_getElem (l := X) (i := i) (by omega)
    have hxb := List.getElem?_eq_getElem (l := Y) (i := j) (by omega)
    generalize X[i] = xa at hxa
    generalize Y[j] = xb at hxb
    obtain ⟨aa, ha1, ha2⟩ := hit _ _ hxa
    obtain ⟨bb, hb1, hb2⟩ := hit2 _ _ hxb
    refine aw_run 1 (F' := (21, [some (.ref w), some (.ref w2), some (.int (nI i)), some (.int (nI j)), f], [.ref w])) rfl ?_
    refine aw_get rfl hw rfl ?_
    refine aw_run 1 (F' := (25, [some (.ref w), some (.ref w2), some (.int (nI i)), some (.int (nI j)), f], [.int (nI i), .ref va])) rfl ?_
    refine aw_aald rfl (by decide) hva (vp_in_nI (by omega) (by omega)) ?_
    rw [nI_clamp (by omega), ha1]
    refine aw_run 1 (F' := (27, [some (.ref w), some (.ref w2), some (.int (nI i)), some (.int (nI j)), f], [.ref w2, .ref aa])) rfl ?_
    refine aw_get rfl hw2 rfl ?_
    refine aw_run 1 (F' := (31, [some (.ref w), some (.ref w2), some (.int (nI i)), some (.int (nI j)), f], [.int (nI j), .ref va2, .ref aa])) rfl ?_
    refine aw_aald rfl (by decide) hva2 (vp_in_nI (by omega) (by omega)) ?_
    rw [nI_clamp (by omega), hb1]
    refine aw_run 1 (F' := (33, [some (.ref w), some (.ref w2), some (.int (nI i)), some (.int (nI j)), f], [.int (nI 1), .ref bb, .ref aa])) rfl ?_
    refine aw_s [.ref aa, .ref bb, .int (nI 1)] [] rfl ⟨by decide, by decide⟩ rfl rfl (Nat.le_of_ble_eq_true rfl) (Nat.le_of_ble_eq_true rfl) ?_
    have hha := hh xa (List.mem_of_getElem? hxa)
    refine c_ofValues ha2.vl hb2.vl (by omega) (by omega) ?_
    refine aw_run 2 (F' := (40, [some (.ref w), some (.ref w2), some (.int (nI i)), some (.int (nI j)), some (.int (sp_vc xa.1 xb.1))], [.int (sp_vc xa.1 xb.1)])) rfl ?_
    refine aw_zne rfl (fun u => ?_) (fun u => ?_)
    rotate_left
    · refine aw_run 1 (F' := (44, [some (.ref w), some (.ref w2), some (.int (nI i)), some (.int (nI j)), some (.int (sp_vc xa.1 xb.1))], [.int 1])) rfl ?_
      exact aw_iret rfl ⟨_, rfl, rfl⟩ (h1 ⟨xa, List.mem_of_getElem? hxa, xb, List.mem_of_getElem? hxb, Decidable.of_not_not u⟩)
    refine aw_run 1 (F' := (47, [some (.ref w), some (.ref w2), some (.int (nI i)), some (.int (nI j)), some (.int (sp_vc xa.1 xb.1))], [.int (sp_vc xa.1 xb.1)])) rfl ?_
    refine aw_zge rfl (fun v => ?_) (fun v => ?_)
    · -- the right one is less
      have hv : sp_vc xb.1 xa.1 = -1 := by
        have h := sp_vc_neg xa.1 xb.1
        rcases is3_vc xa.1 xb.1 with e | e | e
        · rw [e] at v; exact absurd v (by decide)
        · exact absurd e u
        · rw [h, e]
      refine aw_run 2 (F' := (4, [some (.ref w), some (.ref w2), some (.int (nI i)), some (.int (nI j + 1)), some (.int (sp_vc xa.1 xb.1))], [])) rfl ?_
      rw [nI_1]
      refine ih i (j + 1) _ (by omega) hi (by omega) (fun p q a b hpq hp hq hab => ?_)
      by_cases e : p < i ∨ q < j
      · exact hn p q a b e hp hq hab
      · have hqj : q = j := by omega
        subst hqj
        rw [hxb] at hq
        cases hq
        have h3 := sp_gt_ns hv (srt sX i p xa a (by omega) hxa hp)
        have h4 := sp_vc_neg a.1 xb.1
        rw [hab] at h4
        rw [h4] at h3
        exact absurd h3 (by decide)
    · have hv : sp_vc xa.1 xb.1 = -1 := by
        rcases is3_vc xa.1 xb.1 with e | e | e
        · exact e
        · exact absurd e u
        · rw [e] at v; exact absurd (by decide) v
      refine aw_run 3 (F' := (4, [some (.ref w), some (.ref w2), some (.int (nI i + 1)), some (.int (nI j)), some (.int (sp_vc xa.1 xb.1))], [])) rfl ?_
      rw [nI_1]
      refine ih (i + 1) j _ (by omega) (by omega) hj (fun p q a b hpq hp hq hab => ?_)
      by_cases e : p < i ∨ q < j
      · exact hn p q a b e hp hq hab
      · have hpi : p = i := by omega
        subst hpi
        rw [hxa] at hp
        cases hp
        have h3 := sp_gt_ns hv (srt sY j q xb b (by omega) hxb hq)
        rw [hab] at h3
        exact absurd h3 (by decide)
theorem c_sh {Z : Nat → Prop} {w va oa sa pa w2 va2 oa2 sa2 pa2 : Nat} {ov ov2 : Bool} {X Y : sp_X} {fv fv2 : Nat → Option Nat} (hd : 53 ≤ d) (hw : σ.1 w = some (cLs va oa sa pa X.length ov)) (hX : X.length ≤ 500) (hva : σ.1 va = some (cA3 fv)) (hit : ∀ i x, X[i]? = some x → ∃ a, fv i = some a ∧ vlz Z σ.1 a x.1) (hh : ∀ x ∈ X, sp_hgt x.1.2 ≤ 16) (hw2 : σ.1 w2 = some (cLs va2 oa2 sa2 pa2 Y.length ov2)) (hY : Y.length ≤ 500) (hva2 : σ.1 va2 = some (cA3 fv2)) (hit2 : ∀ i x, Y[i]? = some x → ∃ a, fv2 i = some a ∧ vlz Z σ.1 a x.1) (sX : sp_so X) (sY : sp_so Y) (h1 : sp_shr X Y → Q (some (.int 1)) σ) (h0 : ¬ sp_shr X Y → Q (some (.int 0)) σ) : AW g (d + 1) 57 (0, [some (.ref w), some (.ref w2), none, none, none], []) σ Q := by
  refine aw_run 4 (F' := (4, [some (.ref w), some (.ref w2), some (.int (nI 0)), some (.int (nI 0)), none], [])) rfl ?_
  exact c_shL hd hw hX hva hit hh hw2 hY hva2 hit2 sX sY h1 h0 (X.length + Y.length) 0 0 none (by omega) (by omega) (by omega) (fun p q a b h => by omega)
/-- Walk's constructor -/
theorem c_wnew {k w m : Nat} {b : Bool} {w0 w1 w2 : Value} (hg : g.1 ≤ k) (hk : σ.1 k = some (.inr (4, [w0, w1, w2]))) (hQ : Q none (am_set σ k (.inr (4, [.ref w, .int (bI b), .ref m])))) : AW g (d + 1) 39 (0, [some (.ref k), some (.ref w), some (.int (bI b)), some (.ref m)], []) σ Q := by
  refine aw_run 1 (F' := (1, [some (.ref k), some (.ref w), some (.int (bI b)), some (.ref m)], [.ref k])) rfl ?_
  refine aw_obj rfl (Nat.le_of_ble_eq_true rfl) (by omega) ?_
  refine aw_run 2 (F' := (6, [some (.ref k), some (.ref w), some (.int (bI b)), some (.ref m)], [.ref w, .ref k])) rfl ?_
  refine aw_put rfl hg hk (Nat.le_of_ble_eq_true rfl) rfl rfl ?_
  refine aw_run 2 (F' := (11, [some (.ref k), some (.ref w), some (.int (bI b)), some (.ref m)], [.int (bI b), .ref k])) rfl ?_
  have hb : narrow (am_ty 4 1) (.int (bI b)) = .int (bI b) := by cases b <;> rfl
  refine aw_put rfl hg (am_set_same _ _ _) (Nat.le_of_ble_eq_true rfl) hb (by cases b <;> rfl) ?_
  rw [am_set_set]
  refine aw_run 2 (F' := (16, [some (.ref k), some (.ref w), some (.int (bI b)), some (.ref m)], [.ref m, .ref k])) rfl ?_
  refine aw_put rfl hg (am_set_same _ _ _) (Nat.le_of_ble_eq_true rfl) rfl rfl ?_
  rw [am_set_set]
  exact aw_vret rfl rfl hQ
end P47
