/-! paths read from bytes -/
def sp_pl (β : Nat → Nat) : Nat → Nat → List (List Nat) → Option (List (List Nat))
  | 0, e, acc => if 0 = e ∨ acc.length = 8 then none else some (sp_sub β 0 e :: acc)
  | j + 1, e, acc => if β j = 0 then none else if β j = 46 then (if j + 1 = e ∨ acc.length = 8 then none else sp_pl β j j (sp_sub β (j + 1) e :: acc)) else sp_pl β j e acc
def sp_pth (β : Nat → Nat) (n : Nat) : Option (List (List Nat)) := if sp_tx β n 0 n = true then sp_pl β n n [] else none
/-- only new cells -/
def nwx (σ σ' : am_H) (k m : Nat) : Prop := (∀ a, a < σ.2.1 → σ'.1 a = σ.1 a) ∧ σ.2.1 ≤ σ'.2.1 ∧ σ'.2.1 ≤ σ.2.1 + k ∧ σ.2.2 ≤ σ'.2.2 ∧ σ'.2.2 ≤ σ.2.2 + m ∧ wf σ'
theorem nwx.trans {σ σ' σ'' : am_H} {k m k' m' : Nat} (h : nwx σ σ' k m) (h' : nwx σ' σ'' k' m') : nwx σ σ'' (k + k') (m + m') := by
  obtain ⟨a1, a2, a3, a4, a5, a6⟩ := h
  obtain ⟨b1, b2, b3, b4, b5, b6⟩ := h'
  exact ⟨fun a h => (b1 a (by omega)).trans (a1 a h), by omega, by omega, by omega, by omega, b6⟩
theorem nwx.mono {σ σ' : am_H} {k m k' m' : Nat} (h : nwx σ σ' k m) (hk : k ≤ k') (hm : m ≤ m') : nwx σ σ' k' m' := by
  obtain ⟨a1, a2, a3, a4, a5, a6⟩ := h
  exact ⟨a1, a2, by omega, a4, by omega, a6⟩
theorem nwx.self {σ : am_H} (h : wf σ) : nwx σ σ 0 0 := ⟨fun _ _ => rfl, Nat.le_refl _, Nat.le_refl _, Nat.le_refl _, Nat.le_refl _, h⟩
theorem nwx.new {σ : am_H} (h : wf σ) {c : am_C} {n : Nat} : nwx σ (am_psh σ c n) 1 n := ⟨fun a ha => am_psh_ne _ _ _ (by omega), by show σ.2.1 ≤ σ.2.1 + 1; omega, Nat.le_refl _, by show σ.2.2 ≤ σ.2.2 + n; omega, Nat.le_refl _, h.psh⟩
theorem nwx.setx {σ σ2 : am_H} {k m x : Nat} {c0 c : am_C} (h : nwx σ σ2 k m) (hx : σ.2.1 ≤ x) (hc : σ2.1 x = some c0) : nwx σ (am_set σ2 x c) k m := by
  obtain ⟨a1, a2, a3, a4, a5, a6⟩ := h
  exact ⟨fun a h1 => (am_set_ne _ _ (by omega)).trans (a1 a h1), a2, a3, a4, a5, a6.set hc⟩
def tok (g : Nat × Nat) (σ : am_H) (t N : Nat) (β : Nat → Nat) : Prop := g.1 ≤ t ∧ g.1 ≤ σ.2.1 ∧ g.2 < g.1 ∧ wf σ ∧ byf σ.1 t N β ∧ bya σ.1 g.2 []
theorem tok.go {g : Nat × Nat} {σ σ' : am_H} {t N k m : Nat} {β : Nat → Nat} (h : tok g σ t N β) (h' : nwx σ σ' k m) : tok g σ' t N β := by
  obtain ⟨a1, a2, a3, a4, a5, a6⟩ := h
  obtain ⟨b1, b2, b3, b4, b5, b6⟩ := h'
  have ht : t < σ.2.1 := by
    obtain ⟨-, f, q, -⟩ := id a5
    exact a4 _ _ q
  exact ⟨a1, by omega, a3, b6, a5.kept (b1 t ht), a6.kept (b1 _ (by omega))⟩
theorem stc.cnt {Z : Nat → Prop} {h : Nat → Option am_C} {P : List (List Nat)} {o : Option Nat} (q : stc Z h P o) : (P = [] ∧ o = none) ∨ (P ≠ [] ∧ ∃ a w0 w1, o = some a ∧ h a = some (.inr (5, [w0, w1, .int (nI P.length)]))) := by
  cases P with
  | nil => exact Or.inl ⟨rfl, q⟩
  | cons s P =>
    obtain ⟨a, na, nx, h1, -, -, h2, -⟩ := q
    exact Or.inr ⟨by simp, a, _, _, h1, h2⟩
section P42
variable {g : Nat × Nat} {d : Nat} {σ : am_H} {Q : Option Value → am_H → Prop}
/-- Step's constructor -/
theorem c_stp {Z : Nat → Prop} {x na : Nat} {acc : List (List Nat)} {o : Option Nat} {w0 w1 w2 : Value} (hg : g.1 ≤ x) (hx : σ.1 x = some (.inr (5, [w0, w1, w2]))) (hst : stc Z σ.1 acc o) (hxo : ¬ Z x) (hQ : Q none (am_set σ x (.inr (5, [.ref na, va_rf o, .int (nI (acc.length + 1))])))) : AW g (d + 1) 30 (0, [some (.ref x), some (.ref na), some (va_rf o)], []) σ Q := by
  refine aw_run 1 (F' := (1, [some (.ref x), some (.ref na), some (va_rf o)], [.ref x])) rfl ?_
  refine aw_obj rfl (Nat.le_of_ble_eq_true rfl) (by omega) ?_
  refine aw_run 2 (F' := (6, [some (.ref x), some (.ref na), some (va_rf o)], [.ref na, .ref x])) rfl ?_
  refine aw_put rfl hg hx (Nat.le_of_ble_eq_true rfl) rfl rfl ?_
  cases acc with
  | nil =>
    have ho : o = none := hst
    subst ho
    refine aw_run 2 (F' := (11, [some (.ref x), some (.ref na), some .null], [.null, .ref x])) rfl ?_
    refine aw_put rfl hg (am_set_same _ _ _) (Nat.le_of_ble_eq_true rfl) rfl rfl ?_
    rw [am_set_set]
    refine aw_run 2 (F' := (16, [some (.ref x), some (.ref na), some .null], [.null, .ref x])) rfl ?_
    refine aw_ifnon_n rfl ?_
    refine aw_run 2 (F' := (29, [some (.ref x), some (.ref na), some .null], [.int (nI 1), .ref x])) rfl ?_
    refine aw_put rfl hg (am_set_same _ _ _) (Nat.le_of_ble_eq_true rfl) rfl rfl ?_
    rw [am_set_set]
    exact aw_vret rfl rfl hQ
  | cons s acc =>
    obtain ⟨a, nb, nx, rfl, za, -, hac, -⟩ := hst
    have hax : a ≠ x := fun q => hxo (q ▸ za)
    refine aw_run 2 (F' := (11, [some (.ref x), some (.ref na), some (.ref a)], [.ref a, .ref x])) rfl ?_
    refine aw_put rfl hg (am_set_same _ _ _) (Nat.le_of_ble_eq_true rfl) rfl rfl ?_
    rw [am_set_set]
    refine aw_run 2 (F' := (16, [some (.ref x), some (.ref na), some (.ref a)], [.ref a, .ref x])) rfl ?_
    refine aw_ifnon_r rfl ?_
    refine aw_run 1 (F' := (24, [some (.ref x), some (.ref na), some (.ref a)], [.ref a, .ref x])) rfl ?_
    refine aw_get rfl ((am_set_ne _ _ hax).trans hac) rfl ?_
    refine aw_run 2 (F' := (29, [some (.ref x), some (.ref na), some (.ref a)], [.int (nI (acc.length + 1) + 1), .ref x])) rfl ?_
    rw [nI_1]
    refine aw_put rfl hg (am_set_same _ _ _) (Nat.le_of_ble_eq_true rfl) rfl rfl ?_
    rw [am_set_set]
    exact aw_vret rfl rfl hQ
/-- chainOf: a step is made -/
theorem c_ch60 {β : Nat → Nat} {N t n e jj lo : Nat} {I : Int32} {acc : List (List Nat)} {o : Option Nat} {f : Option Value} (ht : tok g σ t N β) (hI : I + 1 = nI jj) (hje : jj ≤ e) (heN : e ≤ N) (hlo : g.2 < lo) (hlo2 : lo ≤ σ.2.1) (hst : stc (zn g lo σ.2.1) σ.1 acc o) (hacc : acc.length ≤ 8) (hN : (jj = e ∨ acc.length = 8) → Q (some .null) σ) (hS : ¬ (jj = e ∨ acc.length = 8) → ∀ (σ' : am_H) (x : Nat) (f' : Int32), nwx σ σ' 2 (3 + (e - jj)) → stc (zn g lo σ'.2.1) σ'.1 (sp_sub β jj e :: acc) (some x) → AW g (d + 4) 29 (116, [some (.ref t), some (.int (nI n)), some (.ref x), some (.int I), some (.int I), some (.int f')], []) σ' Q) : AW g (d + 4) 29 (60, [some (.ref t), some (.int (nI n)), some (va_rf o), some (.int (nI e)), some (.int I), f], []) σ Q := by
  have ht' := ht
  obtain ⟨a1, a2, a3, a4, a5, a6⟩ := ht'
  have hbN : N < 65536 := a5.1
  have tail : ∀ b : Int32, b = bI (decide (acc.length = 8)) → AW g (d + 4) 29 (78, [some (.ref t), some (.int (nI n)), some (va_rf o), some (.int (nI e)), some (.int I), f], [.int b]) σ Q := by
    intro b hb
    refine aw_run 5 (F' := (85, [some (.ref t), some (.int (nI n)), some (va_rf o), some (.int (nI e)), some (.int I), some (.int b)], [.int (nI e), .int (I + 1)])) rfl ?_
    rw [hI]
    have fail : (jj = e ∨ acc.length = 8) → AW g (d + 4) 29 (93, [some (.ref t), some (.int (nI n)), some (va_rf o), some (.int (nI e)), some (.int I), some (.int b)], []) σ Q := by
      intro q
      refine aw_run 1 (F' := (94, [some (.ref t), some (.int (nI n)), some (va_rf o), some (.int (nI e)), some (.int I), some (.int b)], [.null])) rfl ?_
      exact aw_nret rfl ⟨_, rfl, Or.inl ⟨_, rfl⟩⟩ (hN q)
    refine aw_ceq rfl (fun q => fail (Or.inl ((nI_eq (by omega) (by omega)).mp q))) (fun q => ?_)
    have q' : ¬ jj = e := fun z => q (by rw [z])
    refine aw_run 1 (F' := (90, [some (.ref t), some (.int (nI n)), some (va_rf o), some (.int (nI e)), some (.int I), some (.int b)], [.int b])) rfl ?_
    by_cases h8 : acc.length = 8
    · refine aw_zeq rfl (fun z => absurd z (by rw [hb, h8]; decide)) (fun _ => fail (Or.inr h8))
    have hb0 : b = 0 := by rw [hb, decide_eq_false h8]; rfl
    subst hb0
    refine aw_zeq rfl (fun _ => ?_) (fun z => absurd rfl z)
    refine aw_new rfl ?_
    have hat1 := nwx.new a4 (c := .inr (5, am_def 5)) (n := am_nf 5)
    have hc1 := am_psh_same σ (.inr (5, am_def 5)) (am_nf 5)
    have hn1 : (am_psh σ (.inr (5, am_def 5)) (am_nf 5)).2.1 = σ.2.1 + 1 := rfl
    generalize am_psh σ (.inr (5, am_def 5)) (am_nf 5) = σ1 at hat1 hc1 hn1 ⊢
    have ht1 := ht.go hat1
    have ht1' := ht1
    obtain ⟨b1, b2, b3, b4, b5, b6⟩ := ht1'
    refine aw_run 6 (F' := (105, [some (.ref t), some (.int (nI n)), some (va_rf o), some (.int (nI e)), some (.int I), some (.int 0)], [.int (nI e), .int (I + 1), .ref t, .ref σ.2.1, .ref σ.2.1])) rfl ?_
    rw [hI]
    refine aw_s [.ref t, .int (nI jj), .int (nI e)] [.ref σ.2.1, .ref σ.2.1] rfl ⟨by decide, by decide⟩ rfl rfl (Nat.le_of_ble_eq_true rfl) (Nat.le_of_ble_eq_true rfl) ?_
    refine c_cobL (d := d) b1 b2 b4 b5 hje heN b6 (fun na σ2 hna hz k1 k2 k3 k4 k5 k6 => ?_)
    have hat2 : nwx σ1 σ2 1 (e - jj) := ⟨k1, k2, k3, k4, k5, k6⟩
    have hx2 : σ2.1 σ.2.1 = some (.inr (5, am_def 5)) := (k1 _ (by omega)).trans hc1
    have h02 := hat1.trans hat2
    have hst2 := hst.kept (h' := σ2.1) (Z' := zn g lo σ.2.1) (fun a ha => by
      rcases ha with ⟨z1, z2⟩ | rfl
      · exact h02.1 a z2
      · exact h02.1 _ (by omega)) (fun _ z => z)
    have hxz : ¬ zn g lo σ.2.1 σ.2.1 := by
      rintro (⟨z1, z2⟩ | z)
      · omega
      · omega
    have key := c_stp (g := g) (d := d + 2) (σ := σ2) (na := na) (Q := fun v σ' => AW g (d + 4) 29 (109 + 3, [some (.ref t), some (.int (nI n)), some (va_rf o), some (.int (nI e)), some (.int I), some (.int 0)], v.toList ++ [.ref σ.2.1]) σ' Q) (by omega : g.1 ≤ σ.2.1) hx2 hst2 hxz ?_
    · rcases o with _ | y
      · refine aw_run 1 (F' := (109, [some (.ref t), some (.int (nI n)), some .null, some (.int (nI e)), some (.int I), some (.int 0)], [.null, .ref na, .ref σ.2.1, .ref σ.2.1])) rfl ?_
        refine aw_i [.ref σ.2.1, .ref na, .null] [.ref σ.2.1] rfl (by decide) rfl rfl rfl (Nat.le_of_ble_eq_true rfl) (Nat.le_of_ble_eq_true rfl) ?_
        exact key
      · refine aw_run 1 (F' := (109, [some (.ref t), some (.int (nI n)), some (.ref y), some (.int (nI e)), some (.int I), some (.int 0)], [.ref y, .ref na, .ref σ.2.1, .ref σ.2.1])) rfl ?_
        refine aw_i [.ref σ.2.1, .ref na, .ref y] [.ref σ.2.1] rfl (by decide) rfl rfl rfl (Nat.le_of_ble_eq_true rfl) (Nat.le_of_ble_eq_true rfl) ?_
        exact key
    · have hat3 := (h02.setx (c := .inr (5, [.ref na, va_rf o, .int (nI (acc.length + 1))])) (Nat.le_refl _) hx2).mono (k' := 2) (m' := 3 + (e - jj)) (by omega) (Nat.le_refl _)
      have hx3 := am_set_same σ2 σ.2.1 (.inr (5, [.ref na, va_rf o, .int (nI (acc.length + 1))]))
      have hk3 : ∀ a, a ≠ σ.2.1 → (am_set σ2 σ.2.1 (.inr (5, [.ref na, va_rf o, .int (nI (acc.length + 1))]))).1 a = σ2.1 a := fun a ha => am_set_ne _ _ ha
      have hn3 : (am_set σ2 σ.2.1 (.inr (5, [.ref na, va_rf o, .int (nI (acc.length + 1))]))).2.1 = σ2.2.1 := rfl
      show AW g (d + 4) 29 (112, [some (.ref t), some (.int (nI n)), some (va_rf o), some (.int (nI e)), some (.int I), some (.int 0)], [.ref σ.2.1]) (am_set σ2 σ.2.1 (.inr (5, [.ref na, va_rf o, .int (nI (acc.length + 1))]))) Q
      generalize am_set σ2 σ.2.1 (.inr (5, [.ref na, va_rf o, .int (nI (acc.length + 1))])) = σ3 at hat3 hx3 hk3 hn3 ⊢
      refine aw_run 3 (F' := (116, [some (.ref t), some (.int (nI n)), some (.ref σ.2.1), some (.int I), some (.int I), some (.int 0)], [])) rfl ?_
      refine hS (fun z => by rcases z with z | z <;> contradiction) σ3 σ.2.1 0 hat3 ⟨σ.2.1, na, o, rfl, Or.inl ⟨hlo2, by omega⟩, ?_, hx3, hna.kept (hk3 _ ?_), stc.kept (Z := zn g lo σ.2.1) (fun a ha => hk3 a (fun q => hxz (by rw [q] at ha; exact ha))) ?_ hst2⟩
      · rcases hz with ⟨z1, z2⟩ | z
        · exact Or.inl ⟨by omega, by omega⟩
        · exact Or.inr z
      · rcases hz with ⟨z1, z2⟩ | z <;> omega
      · intro a ha
        rcases ha with ⟨z1, z2⟩ | z
        · exact Or.inl ⟨z1, by omega⟩
        · exact Or.inr z
  rcases hst.cnt with ⟨rfl, rfl⟩ | ⟨hne, a, w0, w1, rfl, hac⟩
  · refine aw_run 1 (F' := (61, [some (.ref t), some (.int (nI n)), some .null, some (.int (nI e)), some (.int I), f], [.null])) rfl ?_
    refine aw_ifnull_n rfl ?_
    refine aw_run 1 (F' := (78, [some (.ref t), some (.int (nI n)), some .null, some (.int (nI e)), some (.int I), f], [.int 0])) rfl ?_
    exact tail 0 rfl
  · refine aw_run 1 (F' := (61, [some (.ref t), some (.int (nI n)), some (.ref a), some (.int (nI e)), some (.int I), f], [.ref a])) rfl ?_
    refine aw_ifnull_r rfl ?_
    refine aw_run 1 (F' := (65, [some (.ref t), some (.int (nI n)), some (.ref a), some (.int (nI e)), some (.int I), f], [.ref a])) rfl ?_
    refine aw_get rfl hac rfl ?_
    refine aw_run 1 (F' := (70, [some (.ref t), some (.int (nI n)), some (.ref a), some (.int (nI e)), some (.int I), f], [.int (nI 8), .int (nI acc.length)])) rfl ?_
    refine aw_cne rfl (fun z => ?_) (fun z => ?_)
    · have z' : ¬ acc.length = 8 := fun y => z (by rw [y])
      refine aw_run 1 (F' := (78, [some (.ref t), some (.int (nI n)), some (.ref a), some (.int (nI e)), some (.int I), f], [.int 0])) rfl ?_
      exact tail 0 (by rw [decide_eq_false z']; rfl)
    · have z' : acc.length = 8 := (nI_eq (by omega) (by omega)).mp (Decidable.of_not_not z)
      refine aw_run 2 (F' := (78, [some (.ref t), some (.int (nI n)), some (.ref a), some (.int (nI e)), some (.int I), f], [.int 1])) rfl ?_
      exact tail 1 (by rw [decide_eq_true z']; rfl)
/-- chainOf: its loop -/
theorem c_chL {β : Nat → Nat} {N t n lo : Nat} {σ0 : am_H} (ht0 : tok g σ0 t N β) (hlo : lo = σ0.2.1) (hn : n ≤ N) (hf0 : ∀ (σ' : am_H), nwx σ0 σ' 16 (24 + n) → sp_pth β n = none → Q (some .null) σ') (hS : ∀ (P : List (List Nat)) (σ' : am_H) (x : Nat), sp_pth β n = some P → nwx σ0 σ' 16 (24 + n) → stc (zn g lo σ'.2.1) σ'.1 P (some x) → Q (some (.ref x)) σ') : ∀ (j e : Nat) (σ : am_H) (acc : List (List Nat)) (o : Option Nat) (I : Int32) (f : Option Value), I + 1 = nI j → j ≤ e → e ≤ n → acc.length ≤ 8 → nwx σ0 σ (2 * acc.length) (3 * acc.length + (n - e)) → stc (zn g lo σ.2.1) σ.1 acc o → sp_pth β n = sp_pl β j e acc → AW g (d + 4) 29 (26, [some (.ref t), some (.int (nI n)), some (va_rf o), some (.int (nI e)), some (.int I), f], []) σ Q := by
  subst hlo
  have ht0' := ht0
  obtain ⟨a1, a2, a3, a4, a5, a6⟩ := ht0'
  have hbN : N < 65536 := a5.1
  intro j
  induction j with
  | zero =>
    intro e σ acc o I f hI hje hen hacc hat hst hp
    have hI' : I = -1 := by
      have : I + 1 - 1 = nI 0 - 1 := by rw [hI]
      rw [Int32.add_sub_cancel] at this
      rw [this]
      decide
    subst hI'
    refine aw_run 2 (F' := (29, [some (.ref t), some (.int (nI n)), some (va_rf o), some (.int (nI e)), some (.int (-1)), f], [.int (-1), .int (-1)])) rfl ?_
    refine aw_clt rfl (fun z => absurd z (by decide)) (fun _ => ?_)
    refine aw_run 1 (F' := (34, [some (.ref t), some (.int (nI n)), some (va_rf o), some (.int (nI e)), some (.int (-1)), f], [.int (-1)])) rfl ?_
    refine aw_zlt rfl (fun _ => ?_) (fun z => absurd (by decide) z)
    refine aw_run 1 (F' := (48, [some (.ref t), some (.int (nI n)), some (va_rf o), some (.int (nI e)), some (.int (-1)), f], [.int (-1)])) rfl ?_
    refine aw_zlt rfl (fun _ => ?_) (fun z => absurd (by decide) z)
    refine c_ch60 (d := d) (ht0.go hat) hI (by omega) (by omega) (by omega) hat.2.1 hst hacc (fun q => ?_) (fun q σ' x f' h hst' => ?_)
    · exact hf0 σ (hat.mono (by omega) (by omega)) (by rw [hp]; exact if_pos q)
    · have hp' : sp_pth β n = some (sp_sub β 0 e :: acc) := by rw [hp]; exact if_neg q
      refine aw_run 4 (F' := (29, [some (.ref t), some (.int (nI n)), some (.ref x), some (.int (-1)), some (.int (-1 + -1)), some (.int f')], [.int (-1), .int (-1 + -1)])) rfl ?_
      refine aw_clt rfl (fun _ => ?_) (fun z => absurd (by decide) z)
      refine aw_run 1 (F' := (123, [some (.ref t), some (.int (nI n)), some (.ref x), some (.int (-1)), some (.int (-1 + -1)), some (.int f')], [.ref x])) rfl ?_
      exact aw_aret rfl ⟨_, rfl, Or.inl ⟨_, rfl⟩⟩ (hS _ σ' x hp' ((hat.trans h).mono (by omega) (by omega)) hst')
  | succ j ih =>
    intro e σ acc o I f hI hje hen hacc hat hst hp
    have hI' : I = nI j := by
      have : I + 1 - 1 = nI (j + 1) - 1 := by rw [hI]
      rw [Int32.add_sub_cancel, nI_pred] at this
      exact this
    subst hI'
    have htk := ht0.go hat
    obtain ⟨-, -, -, -, b5, -⟩ := htk
    obtain ⟨-, fb, hb, hbf⟩ := b5
    have hbj := hbf j (by omega)
    have e1 : fb (nI j).toNatClampNeg = sb_b (β j) := by rw [nI_clamp (by omega), hbj.2]
    have hpos := nI_pos (n := j) (by omega)
    refine aw_run 2 (F' := (29, [some (.ref t), some (.int (nI n)), some (va_rf o), some (.int (nI e)), some (.int (nI j)), f], [.int (-1), .int (nI j)])) rfl ?_
    refine aw_clt rfl (fun z => absurd z (fun z => hpos (Int32.lt_trans z (by decide)))) (fun _ => ?_)
    refine aw_run 1 (F' := (34, [some (.ref t), some (.int (nI n)), some (va_rf o), some (.int (nI e)), some (.int (nI j)), f], [.int (nI j)])) rfl ?_
    refine aw_zlt rfl (fun z => absurd z hpos) (fun _ => ?_)
    refine aw_run 2 (F' := (40, [some (.ref t), some (.int (nI n)), some (va_rf o), some (.int (nI e)), some (.int (nI j)), f], [.int (nI j), .ref t])) rfl ?_
    refine aw_bald rfl hb (vp_in_nI (by omega) (by omega)) ?_
    rw [e1]
    refine aw_zne rfl (fun z => ?_) (fun z => ?_)
    rotate_left
    · have z' : β j = 0 := sb_inj _ hbj.1 0 (by omega) (Decidable.of_not_not z)
      refine aw_run 1 (F' := (45, [some (.ref t), some (.int (nI n)), some (va_rf o), some (.int (nI e)), some (.int (nI j)), f], [.null])) rfl ?_
      exact aw_nret rfl ⟨_, rfl, Or.inl ⟨_, rfl⟩⟩ (hf0 σ (hat.mono (by omega) (by omega)) (by rw [hp]; exact if_pos z'))
    have z' : ¬ β j = 0 := fun y => z (by rw [y]; rfl)
    refine aw_run 1 (F' := (48, [some (.ref t), some (.int (nI n)), some (va_rf o), some (.int (nI e)), some (.int (nI j)), f], [.int (nI j)])) rfl ?_
    refine aw_zlt rfl (fun z => absurd z hpos) (fun _ => ?_)
    refine aw_run 2 (F' := (54, [some (.ref t), some (.int (nI n)), some (va_rf o), some (.int (nI e)), some (.int (nI j)), f], [.int (nI j), .ref t])) rfl ?_
    refine aw_bald rfl hb (vp_in_nI (by omega) (by omega)) ?_
    rw [e1]
    refine aw_run 1 (F' := (57, [some (.ref t), some (.int (nI n)), some (va_rf o), some (.int (nI e)), some (.int (nI j)), f], [.int 46, .int (sb_b (β j))])) rfl ?_
    unfold sp_pl at hp
    rw [if_neg z'] at hp
    refine aw_cne rfl (fun y => ?_) (fun y => ?_)
    · have y' : ¬ β j = 46 := fun q => y (by rw [q]; rfl)
      rw [if_neg y'] at hp
      refine aw_run 2 (F' := (26, [some (.ref t), some (.int (nI n)), some (va_rf o), some (.int (nI e)), some (.int (nI j + -1)), f], [])) rfl ?_
      exact ih e σ acc o (nI j + -1) f (by rw [Int32.add_assoc]; show nI j + 0 = _; rw [Int32.add_zero]) (by omega) hen hacc hat hst hp
    · have y' : β j = 46 := sb_inj _ hbj.1 46 (by omega) (Decidable.of_not_not y)
      rw [if_pos y'] at hp
      refine c_ch60 (d := d) (ht0.go hat) hI (by omega) (by omega) (by omega) hat.2.1 hst hacc (fun q => ?_) (fun q σ' x f' h hst' => ?_)
      · exact hf0 σ (hat.mono (by omega) (by omega)) (by rw [hp]; exact if_pos q)
      · rw [if_neg q] at hp
        have htot := (hat.trans h).mono (k' := 2 * (sp_sub β (j + 1) e :: acc).length) (m' := 3 * (sp_sub β (j + 1) e :: acc).length + (n - j)) (by simp; omega) (by simp; omega)
        refine aw_run 2 (F' := (26, [some (.ref t), some (.int (nI n)), some (.ref x), some (.int (nI j)), some (.int (nI j + -1)), some (.int f')], [])) rfl ?_
        exact ih j σ' (sp_sub β (j + 1) e :: acc) (some x) (nI j + -1) _ (by rw [Int32.add_assoc]; show nI j + 0 = _; rw [Int32.add_zero]) (Nat.le_refl _) (by omega) (by simp; omega) htot hst' hp
/-- Step.chainOf -/
theorem c_chn {β : Nat → Nat} {N t n : Nat} (ht : tok g σ t N β) (hn : n ≤ N) (hN : ∀ (σ' : am_H), nwx σ σ' 16 (24 + n) → sp_pth β n = none → Q (some .null) σ') (hS : ∀ (P : List (List Nat)) (σ' : am_H) (x : Nat), sp_pth β n = some P → nwx σ σ' 16 (24 + n) → stc (zn g σ.2.1 σ'.2.1) σ'.1 P (some x) → Q (some (.ref x)) σ') : AW g (d + 4) 29 (0, [some (.ref t), some (.int (nI n)), none, none, none, none], []) σ Q := by
  have ht' := ht
  obtain ⟨a1, a2, a3, a4, a5, a6⟩ := ht'
  have a5' := a5
  obtain ⟨hbN, fb, hb, hbf⟩ := a5'
  refine aw_run 2 (F' := (2, [some (.ref t), some (.int (nI n)), none, none, none, none], [.ref t, .int (nI n)])) rfl ?_
  refine aw_len rfl hb (by decide) ?_
  refine aw_cgt rfl (fun z => absurd ((nI_ltI (by omega) (by omega)).mp z) (by omega)) (fun _ => ?_)
  refine aw_run 3 (F' := (9, [some (.ref t), some (.int (nI n)), none, none, none, none], [.int (nI n), .int (nI 0), .ref t])) rfl ?_
  refine aw_s [.ref t, .int (nI 0), .int (nI n)] [] rfl ⟨by decide, by decide⟩ rfl rfl (Nat.le_of_ble_eq_true rfl) (Nat.le_of_ble_eq_true rfl) ?_
  refine c_isRight (d := d + 2) a5 (by omega) hn ?_
  rw [Nat.sub_zero]
  by_cases hr : sp_tx β n 0 n = true
  · rw [if_pos hr]
    refine aw_zne rfl (fun _ => ?_) (fun z => absurd (by decide) z)
    refine aw_run 8 (F' := (26, [some (.ref t), some (.int (nI n)), some .null, some (.int (nI n)), some (.int (nI n - 1)), none], [])) rfl ?_
    exact c_chL (d := d) ht rfl hn hN hS n n σ [] none (nI n - 1) none (Int32.sub_add_cancel _ _) (Nat.le_refl _) (Nat.le_refl _) (by simp) ((nwx.self a4).mono (by simp) (by simp)) rfl (by unfold sp_pth; rw [if_pos hr])
  · rw [if_neg hr]
    refine aw_zne rfl (fun z => absurd rfl z) (fun _ => ?_)
    refine aw_run 1 (F' := (16, [some (.ref t), some (.int (nI n)), none, none, none, none], [.null])) rfl ?_
    exact aw_nret rfl ⟨_, rfl, Or.inl ⟨_, rfl⟩⟩ (hN σ ((nwx.self a4).mono (by omega) (by omega)) (by unfold sp_pth; rw [if_neg hr]))
end P42
