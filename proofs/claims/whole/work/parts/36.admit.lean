theorem chn.last {g : Nat × Nat} {h : Nat → Option am_C} : ∀ {l : List sp_V} {as : List Nat} {lo hi y : Nat}, chn g h l as lo hi → as.getLast? = some y → lo ≤ y ∧ y < hi ∧ ∃ v0 v1 v2 v3 v4 v5 v6 v7 : Value, h y = some (.inr (1, [v0, v1, v2, v3, v4, v5, v6, v7]))
  | [], [], _, _, _, _, e => by cases e
  | [v], [x], lo, hi, y, ⟨mid, ⟨h1, h2, fi, la, ⟨_, _, na, ba, num, _, _, h3, _⟩, _⟩, q⟩, e => by
    have hm : mid ≤ hi := q
    simp at e
    subst e
    exact ⟨h1, by omega, _, _, _, _, _, _, _, _, h3⟩
  | v :: v1 :: l, x :: x1 :: as, lo, hi, y, ⟨mid, ⟨h1, h2, _⟩, q⟩, e => by
    obtain ⟨a1, a2, a3⟩ := chn.last q (y := y) (by simpa using e)
    exact ⟨by omega, a2, a3⟩
  | [], _ :: _, _, _, _, q, _ => q.elim
  | _ :: _, [], _, _, _, q, _ => q.elim
  | [_], _ :: _ :: _, _, _, _, ⟨_, _, q⟩, _ => q.elim
  | _ :: _ :: _, [_], _, _, _, ⟨_, _, q⟩, _ => q.elim
theorem chn.len {g : Nat × Nat} {h : Nat → Option am_C} : ∀ {l : List sp_V} {as : List Nat} {lo hi : Nat}, chn g h l as lo hi → l.length = as.length
  | [], [], _, _, _ => rfl
  | _ :: _, _ :: _, _, _, ⟨_, _, q⟩ => by simp [chn.len q]
  | [], _ :: _, _, _, q => q.elim
  | _ :: _, [], _, _, q => q.elim
/-- a nest, its node and its chain, is a value -/
theorem nest_elz {g : Nat × Nat} {h : Nat → Option am_C} {lo x hi na k : Nat} {nm : List Nat} {l : List sp_V} {as : List Nat} (hk : kd k) (hl : l.length < 65536) (hx : h x = some (.inr (1, [.int (nI k), .ref na, .long 0, .ref g.2, .int (nI l.length), va_rf as.head?, va_rf as.getLast?, .null]))) (hlo : lo ≤ x) (hhi : x < hi) (hn : bya h na nm) (hz : (lo ≤ na ∧ na < x) ∨ na = g.2) (hnb : bya h g.2 []) (hc : chn g h l as (x + 1) hi) : elz g h lo hi x ((k, nm, 0, []), sp_ofL l) none := by
  refine ⟨hlo, hhi, as.head?, as.getLast?, ⟨hk, ?_, na, g.2, 0, ?_, Or.inr rfl, ?_, rfl, hn, hnb⟩, ?_⟩
  · show 0 + sp_len (sp_ofL l) < 65536
    rw [sp_len_ofL]
    omega
  · rcases hz with ⟨a, b⟩ | a
    · exact Or.inl ⟨a, by omega, by omega⟩
    · exact Or.inr a
  · show h x = some (.inr (1, [.int (nI k), .ref na, .long 0, .ref g.2, .int (nI (0 + sp_len (sp_ofL l))), va_rf as.head?, va_rf as.getLast?, va_rf none]))
    rw [sp_len_ofL, Nat.zero_add]
    exact hx
  · refine hc.frz.kept (fun _ _ => rfl) ?_
    intro a ha
    rcases ha with ⟨b, c⟩ | b
    · exact Or.inl ⟨by omega, c, by omega⟩
    · exact Or.inr b
/-- what isDecimal must do (its contract is wanting until it keeps the document) -/
def decOK : Prop := ∀ (g : Nat × Nat) (d : Nat) (σ : am_H) (Q : Option Value → am_H → Prop) (a k : Nat) (l : List Nat), bya σ.1 a l → k < 65536 → Q (some (.int (if l = sp_dec k then 1 else 0))) σ → AW g (d + 1) 24 (0, [some (.ref a), some (.int (nI k)), none, none, none], []) σ Q
section P36
variable {g : Nat × Nat} {d : Nat} {σ : am_H} {Q : Option Value → am_H → Prop}
/-- Value.admitsName -/
theorem c_adm_open (hD : decOK) {Z : Nat → Prop} {x w k : Nat} {row : Bool} {nm : List Nat} {l : List sp_V} {fi : Option Nat} {w1 w2 w3 w6 w7 : Value} (hk : k = (if row = true then 4 else 3)) (hl : l.length < 65536) (hx : σ.1 x = some (.inr (1, [.int (nI k), w1, w2, w3, .int (nI l.length), va_rf fi, w6, w7]))) (hw : bya σ.1 w nm) (hc : frz Z σ.1 (sp_ofL l) fi) (h1 : sp_adm row l nm → Q (some (.int 1)) σ) (h2 : ¬ sp_adm row l nm → Q (some (.int 0)) σ) : AW g (d + 3) 23 (0, [some (.ref x), some (.ref w)], []) σ Q := by
  refine aw_run 1 (F' := (1, [some (.ref x), some (.ref w)], [.ref x])) rfl ?_
  refine aw_get rfl hx rfl ?_
  refine aw_run 1 (F' := (5, [some (.ref x), some (.ref w)], [.int (nI 4), .int (nI k)])) rfl ?_
  cases row with
  | true =>
    have hk4 : k = 4 := hk
    subst hk4
    refine aw_cne rfl (fun z => absurd rfl z) (fun _ => ?_)
    refine aw_run 2 (F' := (10, [some (.ref x), some (.ref w)], [.ref x, .ref w])) rfl ?_
    refine aw_get rfl hx rfl ?_
    refine aw_s [.ref w, .int (nI l.length)] [] rfl ⟨by decide, by decide⟩ rfl rfl (Nat.le_of_ble_eq_true rfl) (Nat.le_of_ble_eq_true rfl) ?_
    refine hD g (d + 1) σ _ w l.length nm hw hl ?_
    by_cases q : nm = sp_dec l.length
    · rw [if_pos q]
      refine aw_run 1 (F' := (32, [some (.ref x), some (.ref w)], [.int 1])) rfl ?_
      exact aw_iret rfl ⟨_, rfl, rfl⟩ (h1 q)
    · rw [if_neg q]
      refine aw_run 1 (F' := (32, [some (.ref x), some (.ref w)], [.int 0])) rfl ?_
      exact aw_iret rfl ⟨_, rfl, rfl⟩ (h2 q)
  | false =>
    have hk3 : k = 3 := hk
    subst hk3
    refine aw_cne rfl (fun _ => ?_) (fun z => absurd (by decide) z)
    refine aw_run 2 (F' := (21, [some (.ref x), some (.ref w)], [.ref w, .ref x])) rfl ?_
    refine aw_v [.ref x, .ref w] [] rfl (by decide) rfl hx rfl rfl (Nat.le_of_ble_eq_true rfl) (Nat.le_of_ble_eq_true rfl) ?_
    refine c_elem hx hw hc (fun q => ?_) (fun y v q _ => ?_)
    · refine aw_ifnon_n rfl ?_
      refine aw_run 2 (F' := (32, [some (.ref x), some (.ref w)], [.int 1])) rfl ?_
      exact aw_iret rfl ⟨_, rfl, rfl⟩ (h1 q)
    · refine aw_ifnon_r rfl ?_
      refine aw_run 1 (F' := (32, [some (.ref x), some (.ref w)], [.int 0])) rfl ?_
      exact aw_iret rfl ⟨_, rfl, rfl⟩ (h2 (fun z => by have z' : sp_fnd nm (sp_ofL l) = none := z; rw [z'] at q; cases q))
end P36
