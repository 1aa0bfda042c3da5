/-- readNest's loop -/
def NL (β : Nat → Nat) (N t n : Nat) : Prop := ∀ (g : Nat × Nat) (d : Nat) (σ0 σ : am_H) (Q : Option Value → am_H → Prop) (r na p e dep k x p0 : Nat) (E u : Int32) (row : Bool) (l : List sp_V) (as : List Nat) (o : Option Value), rok g σ0 r t N p0 β → p0 + 4 + 2 * l.length ≤ p → p ≤ e → e ≤ N → e < p + n → 1 ≤ dep → dep ≤ 16 → 2 * (17 - dep) + 6 ≤ d → k = (if row = true then 4 else 3) → σ0.2.1 ≤ x → rdx g r t σ0 σ p (2 * (p - p0)) (10 * (p - p0)) →
  σ.1 x = some (.inr (1, [.int (nI k), .ref na, .long 0, .ref g.2, .int (nI l.length), va_rf as.head?, va_rf as.getLast?, .null])) → chn g σ.1 l as (x + 1) σ.2.1 →
  (sp_es β n dep row p e l = none → ∀ (σ' : am_H) (p' : Nat), rdx g r t σ0 σ' p' (2 * (e - p0)) (10 * (e - p0)) → Q (some .null) σ') →
  (∀ (l' : List sp_V) (as' : List Nat) (o' : Option Value) (σ' : am_H), sp_es β n dep row p e l = some l' → l'.length < 2000 → rdx g r t σ0 σ' e (2 * (e - p0)) (10 * (e - p0)) → σ'.1 x = some (.inr (1, [.int (nI k), .ref na, .long 0, .ref g.2, .int (nI l'.length), va_rf as'.head?, va_rf as'.getLast?, .null])) → chn g σ'.1 l' as' (x + 1) σ'.2.1 → AW g d 11 (136, [some (.ref r), some (.int (nI k)), some (.ref na), some (.int E), some (.int (nI dep)), some (.int (nI p0)), some (.int u), some (.int (nI e)), some (.ref x), some (.int (nI l'.length)), o'], []) σ' Q) →
  AW g d 11 (76, [some (.ref r), some (.int (nI k)), some (.ref na), some (.int E), some (.int (nI dep)), some (.int (nI p0)), some (.int u), some (.int (nI e)), some (.ref x), some (.int (nI l.length)), o], []) σ Q
theorem NL_0 (β : Nat → Nat) (N t : Nat) : NL β N t 0 := by
  intro g d σ0 σ Q r na p e dep k x p0 E u row l as o h1 h2 h3 h4 h5
  omega
/-- the state behind an append -/
theorem app_ok {g : Nat × Nat} {r t q x y k na : Nat} {σ σ1 : am_H} {l : List sp_V} {as : List Nat} {v : sp_V} {d : Nat} {Q : Option Value → am_H → Prop} (hgx : g.1 ≤ x) (hg2 : g.2 < g.1) (hl : l.length < 2000) (hrx : r < x) (hmid : x < σ.2.1) (hmid1 : σ.2.1 ≤ σ1.2.1)
    (hx : σ1.1 x = some (.inr (1, [.int (nI k), .ref na, .long 0, .ref g.2, .int (nI l.length), va_rf as.head?, va_rf as.getLast?, .null]))) (hc : chn g σ1.1 l as (x + 1) σ.2.1) (hv : elz g σ1.1 σ.2.1 σ1.2.1 y v none)
    (hQ : ∀ σ2 : am_H, (∀ (σ0 : am_H) (K M : Nat), rdx g r t σ0 σ1 q K M → σ0.2.1 ≤ x → rdx g r t σ0 σ2 q K M) → σ2.1 x = some (.inr (1, [.int (nI k), .ref na, .long 0, .ref g.2, .int (nI (l ++ [v]).length), va_rf (as ++ [y]).head?, va_rf (as ++ [y]).getLast?, .null])) → chn g σ2.1 (l ++ [v]) (as ++ [y]) (x + 1) σ2.2.1 → Q none σ2) : AW g d 27 (0, [some (.ref x), some (.ref y)], []) σ1 Q := by
  have hlen : (l ++ [v]).length = l.length + 1 := by simp
  cases hz : as.getLast? with
  | none =>
    have has : as = [] := List.getLast?_eq_none_iff.mp hz
    subst has
    have hl0 := hc.len
    refine c_app1 hgx (by omega) (hx.trans rfl) (hQ _ (fun σ0 K M h h0 => ?_) ?_ ?_)
    · exact h.setx h0 (by omega) hx
    · rw [am_set_same, hlen]
      rfl
    · refine chn.app (h := σ1.1) (by omega) (am_set_ne _ _ (by omega)) (hv.kept (fun a a1 a2 => am_set_ne _ _ (by omega)) (am_set_ne _ _ (by omega))) (by omega) hc (fun a a1 a2 _ => am_set_ne _ _ (by omega)) (fun z hz => by cases hz)
  | some z =>
    obtain ⟨z1, z2, v0, v1, v2, v3, v4, v5, v6, v7, hzc⟩ := hc.last hz
    rw [hz] at hx
    refine c_app2 hgx (by omega) (by omega) (by omega) (hx.trans rfl) hzc (hQ _ (fun σ0 K M h h0 => ?_) ?_ ?_)
    · have h1 := h.setx (x := z) (c := .inr (1, [v0, v1, v2, v3, v4, v5, v6, .ref y])) (by omega) (by omega) hzc
      exact h1.setx h0 (by omega) ((am_set_ne _ _ (by omega)).trans hx)
    · rw [am_set_same, hlen]
      cases as with
      | nil => cases hz
      | cons a as =>
        have e1 : (a :: as ++ [y]).getLast? = some y := by rw [List.getLast?_append]; rfl
        rw [e1]
        rfl
    · refine chn.app (h := σ1.1) (by omega) ((am_set_ne _ _ (by omega)).trans (am_set_ne _ _ (by omega))) (hv.kept (fun a a1 a2 => (am_set_ne _ _ (by omega)).trans (am_set_ne _ _ (by omega))) ((am_set_ne _ _ (by omega)).trans (am_set_ne _ _ (by omega)))) (by omega) hc (fun a a1 a2 a3 => (am_set_ne _ _ (by omega)).trans (am_set_ne _ _ (fun q => a3 (by rw [q]; exact hz)))) (fun z' hz' w hw => ?_)
      rw [hz] at hz'
      cases hz'
      rw [hzc] at hw
      cases hw
      rw [am_set_ne _ _ (by omega), am_set_same]
      rfl
set_option maxHeartbeats 4000000 in
theorem NL_S {β : Nat → Nat} {N t n : Nat} (hD : decOK) (hN2 : N ≤ 2000) (hRN : RN β N t n) (ih : NL β N t n) : NL β N t (n + 1) := by
  intro g d σ0 σ Q r na p e dep k x p0 E u row l as o ho0 h2 h3 h4 h5 d1 d2 hd hk hx0 hat hx hc hN hS
  have ho := ho0.go hat
  have ho' := ho
  obtain ⟨a1, a2, a3, a4, a5, a6, a7, a8⟩ := ho'
  have hr0 : r < σ0.2.1 := ho0.2.2.2.2.1 _ _ ho0.2.2.2.2.2.1
  have hg0 : g.1 ≤ σ0.2.1 := ho0.2.2.1
  have hxl := a5 _ _ hx
  have hl : l.length < 2000 := by omega
  refine aw_run 2 (F' := (81, [some (.ref r), some (.int (nI k)), some (.ref na), some (.int E), some (.int (nI dep)), some (.int (nI p0)), some (.int u), some (.int (nI e)), some (.ref x), some (.int (nI l.length)), o], [.int (nI 2000), .int (nI l.length)])) rfl ?_
  refine aw_cge rfl (fun q => absurd ((nI_leI (by omega) (by omega)).mp q) (by omega)) (fun _ => ?_)
  refine aw_run 1 (F' := (85, [some (.ref r), some (.int (nI k)), some (.ref na), some (.int E), some (.int (nI dep)), some (.int (nI p0)), some (.int u), some (.int (nI e)), some (.ref x), some (.int (nI l.length)), o], [.ref r])) rfl ?_
  refine aw_get rfl a6 rfl ?_
  refine aw_run 1 (F' := (90, [some (.ref r), some (.int (nI k)), some (.ref na), some (.int E), some (.int (nI dep)), some (.int (nI p0)), some (.int u), some (.int (nI e)), some (.ref x), some (.int (nI l.length)), o], [.int (nI e), .int (nI p)])) rfl ?_
  refine aw_cge rfl (fun q => ?_) (fun q => ?_)
  · have q' := (nI_leI (by omega) (by omega)).mp q
    have hpe : p = e := by omega
    subst hpe
    exact hS l as o σ (by simp [sp_es]) hl hat hx hc
  have q' : ¬ e ≤ p := fun z => q ((nI_leI (by omega) (by omega)).mpr z)
  obtain ⟨d, rfl⟩ : ∃ d', d = d' + 5 := ⟨d - 5, by omega⟩
  refine aw_run 3 (F' := (98, [some (.ref r), some (.int (nI k)), some (.ref na), some (.int E), some (.int (nI dep)), some (.int (nI p0)), some (.int u), some (.int (nI e)), some (.ref x), some (.int (nI l.length)), o], [.int (nI dep), .int (nI e), .ref r])) rfl ?_
  refine aw_v [.ref r, .int (nI e), .int (nI dep)] [] rfl (by decide) rfl a6 rfl rfl (Nat.le_of_ble_eq_true rfl) (Nat.le_of_ble_eq_true rfl) ?_
  have hes : sp_es β (n + 1) dep row p e l = (match sp_el (sp_nst (sp_es β n) β) β dep p e with
    | none => none
    | some (v, q) => if sp_adm row l v.1.2.1 then sp_es β n dep row q e (l ++ [v]) else none) := by
    rw [sp_es, if_neg q']
    rfl
  rw [hes] at hN
  simp only [hes] at hS
  refine c_rel (d := d + 4) hRN ho h3 h4 (by omega) d1 d2 (by omega) (fun z σ' p' h => ?_) (fun v q σ1 y z hq1 hq2 h hv => ?_)
  · rw [z] at hN
    refine aw_run 2 (F' := (105, [some (.ref r), some (.int (nI k)), some (.ref na), some (.int E), some (.int (nI dep)), some (.int (nI p0)), some (.int u), some (.int (nI e)), some (.ref x), some (.int (nI l.length)), some .null], [.null])) rfl ?_
    refine aw_ifnull_n rfl ?_
    refine aw_run 1 (F' := (122, [some (.ref r), some (.int (nI k)), some (.ref na), some (.int E), some (.int (nI dep)), some (.int (nI p0)), some (.int u), some (.int (nI e)), some (.ref x), some (.int (nI l.length)), some .null], [.null])) rfl ?_
    exact aw_nret rfl ⟨_, rfl, Or.inl ⟨_, rfl⟩⟩ (hN rfl σ' p' ((hat.trans h).mono (by omega) (by omega)))
  · rw [z] at hN
    simp only [z] at hS
    dsimp only at hN
    have htot := (hat.trans h).mono (k' := 2 * (q - p0)) (m' := 10 * (q - p0)) (by omega) (by omega)
    have hm1 : σ.2.1 ≤ σ1.2.1 := h.2.2.1
    have hx1 : σ1.1 x = some (.inr (1, [.int (nI k), .ref na, .long 0, .ref g.2, .int (nI l.length), va_rf as.head?, va_rf as.getLast?, .null])) := (h.2.1 x hxl (by omega)).trans hx
    have hc1 : chn g σ1.1 l as (x + 1) σ.2.1 := hc.kept (h.2.1 _ (by omega) (by omega)) (fun a b1 b2 => h.2.1 a b2 (by omega))
    have hv' := hv
    obtain ⟨y1, y2, fi, la, ⟨k1, k2, nb, bb, num, zz1, zz2, hyc, hnum, hnb, hbb⟩, hf⟩ := hv'
    refine aw_run 2 (F' := (105, [some (.ref r), some (.int (nI k)), some (.ref na), some (.int E), some (.int (nI dep)), some (.int (nI p0)), some (.int u), some (.int (nI e)), some (.ref x), some (.int (nI l.length)), some (.ref y)], [.ref y])) rfl ?_
    refine aw_ifnull_r rfl ?_
    refine aw_run 2 (F' := (112, [some (.ref r), some (.int (nI k)), some (.ref na), some (.int E), some (.int (nI dep)), some (.int (nI p0)), some (.int u), some (.int (nI e)), some (.ref x), some (.int (nI l.length)), some (.ref y)], [.ref y, .ref x])) rfl ?_
    refine aw_get rfl hyc rfl ?_
    refine aw_v [.ref x, .ref nb] [] rfl (by decide) rfl hx1 rfl rfl (Nat.le_of_ble_eq_true rfl) (Nat.le_of_ble_eq_true rfl) ?_
    refine c_adm_open (d := d + 1) hD hk (by omega) hx1 hnb hc1.frz (fun w => ?_) (fun w => ?_)
    · rw [if_pos w] at hN
      simp only [if_pos w] at hS
      refine aw_zne rfl (fun _ => ?_) (fun z => absurd (by decide) z)
      refine aw_run 2 (F' := (127, [some (.ref r), some (.int (nI k)), some (.ref na), some (.int E), some (.int (nI dep)), some (.int (nI p0)), some (.int u), some (.int (nI e)), some (.ref x), some (.int (nI l.length)), some (.ref y)], [.ref y, .ref x])) rfl ?_
      refine aw_v [.ref x, .ref y] [] rfl (by decide) rfl hx1 rfl rfl (Nat.le_of_ble_eq_true rfl) (Nat.le_of_ble_eq_true rfl) ?_
      refine app_ok (r := r) (t := t) (q := q) (by omega) a4 hl (by omega) hxl hm1 hx1 hc1 hv (fun σ2 hr2 hx2 hc2 => ?_)
      refine aw_run 2 (F' := (76, [some (.ref r), some (.int (nI k)), some (.ref na), some (.int E), some (.int (nI dep)), some (.int (nI p0)), some (.int u), some (.int (nI e)), some (.ref x), some (.int (nI l.length + 1)), some (.ref y)], [])) rfl ?_
      rw [nI_1]
      have hlen : l.length + 1 = (l ++ [v]).length := by simp
      rw [hlen]
      exact ih g (d + 5) σ0 σ2 Q r na q e dep k x p0 E u row (l ++ [v]) (as ++ [y]) _ ho0 (by rw [← hlen]; omega) hq2 h4 (by omega) d1 d2 hd hk hx0 (hr2 σ0 _ _ htot hx0) hx2 hc2 hN hS
    · rw [if_neg w] at hN
      refine aw_zne rfl (fun z => absurd rfl z) (fun _ => ?_)
      refine aw_run 1 (F' := (122, [some (.ref r), some (.int (nI k)), some (.ref na), some (.int E), some (.int (nI dep)), some (.int (nI p0)), some (.int u), some (.int (nI e)), some (.ref x), some (.int (nI l.length)), some (.ref y)], [.null])) rfl ?_
      exact aw_nret rfl ⟨_, rfl, Or.inl ⟨_, rfl⟩⟩ (hN rfl σ1 q (htot.mono (by omega) (by omega)))
set_option maxHeartbeats 4000000 in
theorem RN_of {β : Nat → Nat} {N t n : Nat} (hN2 : N ≤ 2000) (hL : NL β N t n) : RN β N t n := by
  intro g d σ Q r na p e dep lo k row nm ho hp he hen hna hz hlo hrlo hglo d1 d2 hd hk hN hS
  have ho' := ho
  obtain ⟨a1, a2, a3, a4, a5, a6, a7, a8⟩ := ho'
  have hrl := a5 _ _ a6
  obtain ⟨d, rfl⟩ : ∃ d', d = d' + 5 := ⟨d - 5, by omega⟩
  refine aw_run 1 (F' := (1, [some (.ref r), some (.int (nI k)), some (.ref na), some (.int (nI e)), some (.int (nI dep)), none, none, none, none, none, none], [.ref r])) rfl ?_
  refine aw_get rfl a6 rfl ?_
  refine aw_run 3 (F' := (10, [some (.ref r), some (.int (nI k)), some (.ref na), some (.int (nI e)), some (.int (nI dep)), some (.int (nI p)), none, none, none, none, none], [.int (nI 16), .int (nI dep)])) rfl ?_
  have fail : sp_nst (sp_es β n) β dep row p e = none → AW g (d + 5) 11 (22, [some (.ref r), some (.int (nI k)), some (.ref na), some (.int (nI e)), some (.int (nI dep)), some (.int (nI p)), none, none, none, none, none], []) σ Q := by
    intro z
    refine aw_run 1 (F' := (23, [some (.ref r), some (.int (nI k)), some (.ref na), some (.int (nI e)), some (.int (nI dep)), some (.int (nI p)), none, none, none, none, none], [.null])) rfl ?_
    exact aw_nret rfl ⟨_, rfl, Or.inl ⟨_, rfl⟩⟩ (hN z σ p (ho.self.mono (Nat.zero_le _) (Nat.zero_le _)))
  refine aw_cgt rfl (fun q => ?_) (fun q => ?_)
  · have q' := (nI_ltI (by omega) (by omega)).mp q
    exact fail (by unfold sp_nst; rw [if_pos (Or.inl q')])
  have q' : ¬ 16 < dep := fun z => q ((nI_ltI (by omega) (by omega)).mpr z)
  refine aw_run 3 (F' := (16, [some (.ref r), some (.int (nI k)), some (.ref na), some (.int (nI e)), some (.int (nI dep)), some (.int (nI p)), none, none, none, none, none], [.int (nI e), .int (nI 5), .ref r])) rfl ?_
  refine aw_v [.ref r, .int (nI 5), .int (nI e)] [] rfl (by decide) rfl a6 rfl rfl (Nat.le_of_ble_eq_true rfl) (Nat.le_of_ble_eq_true rfl) ?_
  refine c_has a6 a7 (by omega) hp (by omega) ?_
  by_cases h1 : p + 5 ≤ e
  · rw [if_pos ⟨h1, he⟩]
    refine aw_zne rfl (fun _ => ?_) (fun z => absurd (by decide) z)
    refine aw_run 2 (F' := (26, [some (.ref r), some (.int (nI k)), some (.ref na), some (.int (nI e)), some (.int (nI dep)), some (.int (nI p)), none, none, none, none, none], [.int (nI 4), .ref r])) rfl ?_
    refine aw_v [.ref r, .int (nI 4)] [] rfl (by decide) rfl a6 rfl rfl (Nat.le_of_ble_eq_true rfl) (Nat.le_of_ble_eq_true rfl) ?_
    refine c_num a1 a6 a7 (by omega) (by omega) ?_
    have hu : sp_le β p 4 < 2 ^ 32 := by
      obtain ⟨-, f, -, hf⟩ := a7
      exact sp_le_lt (β := β) (p := p) (w := 4) (fun i hi => (hf (p + i) (by omega)).1)
    have hat := rdx.at (g := g) (p' := p + 4) a5 a6
    have hn1 : (am_set σ r (.inr (3, [.ref t, .int (nI (p + 4))]))).2.1 = σ.2.1 := rfl
    generalize am_set σ r (.inr (3, [.ref t, .int (nI (p + 4))])) = σ1 at hat hn1 ⊢
    unfold sp_nst at hN hS
    rw [if_neg (by omega)] at hN hS
    generalize hue : sp_le β p 4 = u at hN hS hu ⊢
    refine aw_run 4 (F' := (35, [some (.ref r), some (.int (nI k)), some (.ref na), some (.int (nI e)), some (.int (nI dep)), some (.int (nI p)), some (.int ((lN u).toInt32)), none, none, none, none], [.int (nI 5), .int ((lN u).toInt32)])) rfl ?_
    rw [lN_i]
    have fail2 : (u < 5 ∨ e < p + u) → AW g (d + 5) 11 (47, [some (.ref r), some (.int (nI k)), some (.ref na), some (.int (nI e)), some (.int (nI dep)), some (.int (nI p)), some (.int (nI u)), none, none, none, none], []) σ1 Q := by
      intro z
      rw [if_pos z] at hN
      refine aw_run 1 (F' := (48, [some (.ref r), some (.int (nI k)), some (.ref na), some (.int (nI e)), some (.int (nI dep)), some (.int (nI p)), some (.int (nI u)), none, none, none, none], [.null])) rfl ?_
      exact aw_nret rfl ⟨_, rfl, Or.inl ⟨_, rfl⟩⟩ (hN rfl σ1 (p + 4) (hat.mono (Nat.zero_le _) (Nat.zero_le _)))
    refine aw_clt rfl (fun w => ?_) (fun w => ?_)
    · refine fail2 ?_
      by_cases hbig : 2 ^ 31 ≤ u
      · exact Or.inr (by omega)
      · exact Or.inl ((nI_ltI (by omega) (by omega)).mp w)
    have hbig : ¬ 2 ^ 31 ≤ u := fun z => w (by
      have h5 := nI_neg z hu
      rw [Int32.lt_iff_toInt_lt] at h5 ⊢
      have e5 : (nI 5).toInt = 5 := rfl
      have e0 : (0 : Int32).toInt = 0 := rfl
      omega)
    have w' : ¬ u < 5 := fun z => w ((nI_ltI (by omega) (by omega)).mpr z)
    refine aw_run 4 (F' := (44, [some (.ref r), some (.int (nI k)), some (.ref na), some (.int (nI e)), some (.int (nI dep)), some (.int (nI p)), some (.int (nI u)), none, none, none, none], [.int (nI e - nI p), .int (nI u)])) rfl ?_
    rw [pk_sub hp]
    refine aw_cle rfl (fun v => ?_) (fun v => ?_)
    rotate_left
    · refine fail2 (Or.inr ?_)
      have v' : ¬ u ≤ e - p := fun z => v ((nI_leI (by omega) (by omega)).mpr z)
      omega
    have v' := (nI_leI (by omega) (by omega)).mp v
    rw [if_neg (by omega)] at hN
    simp only [if_neg (show ¬ (u < 5 ∨ e < p + u) by omega)] at hS
    refine aw_run 6 (F' := (58, [some (.ref r), some (.int (nI k)), some (.ref na), some (.int (nI e)), some (.int (nI dep)), some (.int (nI p)), some (.int (nI u)), some (.int (nI p + nI u - nI 1)), none, none, none], [])) rfl ?_
    rw [nI_add, pk_sub (show 1 ≤ p + u by omega)]
    refine aw_new rfl ?_
    have ho1 := ho.go hat
    have hat3 := hat.new (c := .inr (1, am_def 1)) (n := am_nf 1)
    have hc3 := am_psh_same σ1 (.inr (1, am_def 1)) (am_nf 1)
    have hn3 : (am_psh σ1 (.inr (1, am_def 1)) (am_nf 1)).2.1 = σ1.2.1 + 1 := rfl
    generalize am_psh σ1 (.inr (1, am_def 1)) (am_nf 1) = σ3 at hat3 hc3 hn3 ⊢
    have ho3 := ho.go hat3
    have ho3' := ho3
    obtain ⟨e1, e2, e3, e4, e5, e6, e7, e8⟩ := ho3'
    refine aw_run 4 (F' := (65, [some (.ref r), some (.int (nI k)), some (.ref na), some (.int (nI e)), some (.int (nI dep)), some (.int (nI p)), some (.int (nI u)), some (.int (nI (p + u - 1))), none, none, none], [.long 0, .ref na, .int (nI k), .ref σ1.2.1, .ref σ1.2.1])) rfl ?_
    refine aw_sta rfl ?_
    refine aw_i [.ref σ1.2.1, .int (nI k), .ref na, .long 0, .ref g.2] [.ref σ1.2.1] rfl (by decide) rfl rfl rfl (Nat.le_of_ble_eq_true rfl) (Nat.le_of_ble_eq_true rfl) ?_
    refine c_mk1 (by omega) a4 hc3 e8 ?_
    have hat4 := (hat3.setx (c := .inr (1, [.int (nI k), .ref na, .long 0, .ref g.2, .int (nI 0), .null, .null, .null])) (x := σ1.2.1) (by omega) (by omega) hc3).mono (k' := 2 * (p + 4 - p)) (m' := 10 * (p + 4 - p)) (by omega) (by show 0 + 8 ≤ _; omega)
    have hc4 := am_set_same σ3 σ1.2.1 (.inr (1, [.int (nI k), .ref na, .long 0, .ref g.2, .int (nI 0), .null, .null, .null]))
    have hn4 : (am_set σ3 σ1.2.1 (.inr (1, [.int (nI k), .ref na, .long 0, .ref g.2, .int (nI 0), .null, .null, .null]))).2.1 = σ1.2.1 + 1 := hn3
    generalize am_set σ3 σ1.2.1 (.inr (1, [.int (nI k), .ref na, .long 0, .ref g.2, .int (nI 0), .null, .null, .null])) = σ4 at hat4 hc4 hn4 ⊢
    refine aw_run 3 (F' := (76, [some (.ref r), some (.int (nI k)), some (.ref na), some (.int (nI e)), some (.int (nI dep)), some (.int (nI p)), some (.int (nI u)), some (.int (nI (p + u - 1))), some (.ref σ1.2.1), some (.int (nI 0)), none], [])) rfl ?_
    refine hL g (d + 5) σ σ4 Q r na (p + 4) (p + u - 1) dep k σ1.2.1 p (nI e) (nI u) row [] [] none ho (Nat.le_refl _) (by omega) (by omega) (by omega) d1 (by omega) hd hk (by omega) hat4 hc4 (by show _ ≤ _; omega) (fun z σ' p' h => ?_) (fun l' as' o' σ' z hl' h hx hc => ?_)
    · rw [z] at hN
      exact hN rfl σ' p' (h.mono (by omega) (by omega))
    · rw [z] at hN
      simp only [z] at hS
      dsimp only at hN
      have hf := (ho.go h)
      have hf' := hf
      obtain ⟨f1, f2, f3, f4, f5, f6, f7, f8⟩ := hf'
      have hxl := f5 _ _ hx
      refine aw_run 1 (F' := (137, [some (.ref r), some (.int (nI k)), some (.ref na), some (.int (nI e)), some (.int (nI dep)), some (.int (nI p)), some (.int (nI u)), some (.int (nI (p + u - 1))), some (.ref σ1.2.1), some (.int (nI l'.length)), o'], [.ref r])) rfl ?_
      refine aw_get rfl f6 rfl ?_
      refine aw_run 1 (F' := (142, [some (.ref r), some (.int (nI k)), some (.ref na), some (.int (nI e)), some (.int (nI dep)), some (.int (nI p)), some (.int (nI u)), some (.int (nI (p + u - 1))), some (.ref σ1.2.1), some (.int (nI l'.length)), o'], [.int (nI (p + u - 1)), .int (nI (p + u - 1))])) rfl ?_
      refine aw_cne rfl (fun y => absurd rfl y) (fun _ => ?_)
      refine aw_run 1 (F' := (146, [some (.ref r), some (.int (nI k)), some (.ref na), some (.int (nI e)), some (.int (nI dep)), some (.int (nI p)), some (.int (nI u)), some (.int (nI (p + u - 1))), some (.ref σ1.2.1), some (.int (nI l'.length)), o'], [.ref r])) rfl ?_
      refine aw_v [.ref r] [] rfl (by decide) rfl f6 rfl rfl (Nat.le_of_ble_eq_true rfl) (Nat.le_of_ble_eq_true rfl) ?_
      refine c_skip f1 f6 f7 (by omega) (fun y => ?_) (fun y => ?_)
      · simp only [if_pos y] at hS
        refine aw_zeq rfl (fun y => absurd y (by decide)) (fun _ => ?_)
        refine aw_run 2 (F' := (158, [some (.ref r), some (.int (nI k)), some (.ref na), some (.int (nI e)), some (.int (nI dep)), some (.int (nI p)), some (.int (nI u)), some (.int (nI (p + u - 1))), some (.ref σ1.2.1), some (.int (nI l'.length)), o'], [.ref σ1.2.1])) rfl ?_
        have hat5 := rdx.at (g := g) (p' := p + u) f5 f6
        rw [show p + u - 1 + 1 = p + u by omega]
        have hk5 : ∀ a, a ≠ r → (am_set σ' r (.inr (3, [.ref t, .int (nI (p + u))]))).1 a = σ'.1 a := fun a ha => am_set_ne _ _ ha
        have hn5 : (am_set σ' r (.inr (3, [.ref t, .int (nI (p + u))]))).2.1 = σ'.2.1 := rfl
        generalize am_set σ' r (.inr (3, [.ref t, .int (nI (p + u))])) = σ5 at hat5 hk5 hn5 ⊢
        refine aw_aret rfl ⟨_, rfl, Or.inl ⟨_, rfl⟩⟩ (hS (sp_ofL l') (p + u) σ5 σ1.2.1 rfl ((h.trans hat5).mono (by omega) (by omega)) ?_)
        refine nest_elz (na := na) (as := as') ?_ (by omega) ((hk5 _ (by omega)).trans hx) (by omega) (by omega) (hna.kept ?_) (by rcases hz with z | z <;> omega) (f8.kept (hk5 _ (by omega))) ?_
        · subst hk
          unfold kd
          split <;> omega
        · have hnl : na < σ.2.1 := by rcases hz with z | z <;> omega
          have hnr : na ≠ r := by rcases hz with z | z <;> omega
          exact (hk5 _ hnr).trans (h.2.1 na hnl hnr)
        · rw [hn5]
          exact hc.kept (hk5 _ (by omega)) (fun a b1 b2 => hk5 _ (by omega))
      · rw [if_neg y] at hN
        refine aw_zeq rfl (fun _ => ?_) (fun y => absurd rfl y)
        refine aw_run 1 (F' := (158, [some (.ref r), some (.int (nI k)), some (.ref na), some (.int (nI e)), some (.int (nI dep)), some (.int (nI p)), some (.int (nI u)), some (.int (nI (p + u - 1))), some (.ref σ1.2.1), some (.int (nI l'.length)), o'], [.null])) rfl ?_
        exact aw_nret rfl ⟨_, rfl, Or.inl ⟨_, rfl⟩⟩ (hN rfl σ' (p + u - 1) (h.mono (by omega) (by omega)))
  · rw [if_neg (fun z => h1 z.1)]
    refine aw_zne rfl (fun z => absurd rfl z) (fun _ => ?_)
    exact fail (by unfold sp_nst; rw [if_pos (Or.inr (by omega))])
theorem NL_all {β : Nat → Nat} {N t : Nat} (hD : decOK) (hN2 : N ≤ 2000) : ∀ n, NL β N t n
  | 0 => NL_0 β N t
  | n + 1 => NL_S hD hN2 (RN_of hN2 (NL_all hD hN2 n)) (NL_all hD hN2 n)
theorem RN_all {β : Nat → Nat} {N t : Nat} (hD : decOK) (hN2 : N ≤ 2000) (n : Nat) : RN β N t n := RN_of hN2 (NL_all hD hN2 n)
