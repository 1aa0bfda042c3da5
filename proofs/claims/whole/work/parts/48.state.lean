/-! the object's state, and what its calls answer -/
def sp_ix (x : Int32) (n : Nat) : Option Nat := if x < 0 ∨ nI n ≤ x then none else some x.toNatClampNeg
theorem sp_ix_c (x : Int32) {n : Nat} (hn : n < 2 ^ 31) : ((x < 0 ∨ (¬ x < 0 ∧ nI n ≤ x)) ∧ sp_ix x n = none) ∨ ∃ j, j < n ∧ x = nI j ∧ sp_ix x n = some j := by
  unfold sp_ix
  by_cases h : x < 0
  · exact Or.inl ⟨Or.inl h, if_pos (Or.inl h)⟩
  · by_cases h2 : nI n ≤ x
    · exact Or.inl ⟨Or.inr ⟨h, h2⟩, if_pos (Or.inr h2)⟩
    · rcases pk_ix x hn with z | z | ⟨j, hj, rfl⟩
      · exact absurd z h
      · exact absurd z h2
      · refine Or.inr ⟨j, hj, rfl, ?_⟩
        rw [if_neg (fun z => by rcases z with z | z <;> contradiction), nI_clamp (by omega)]
/-- tape, how many are on it, slots, lists, path -/
abbrev sp_S := (Nat → Nat) × Nat × (Nat → sp_F) × (Nat → sp_X) × List (List Nat)
def sp_dv (F : sp_F) : sp_V := ((3, [], 0, []), F)
/-- what is not changed any more -/
def Zc (g : Nat × Nat) (b R hi : Nat) : Nat → Prop := fun a => a = g.2 ∨ (b + 3 ≤ a ∧ a ≤ b + 6) ∨ a = b + 28 ∨ (b + R ≤ a ∧ a < hi)
theorem Zc.mono {g : Nat × Nat} {b R hi hi' : Nat} (h : hi ≤ hi') : ∀ a, Zc g b R hi a → Zc g b R hi' a := by
  intro a ha
  unfold Zc at ha ⊢
  omega
def lsx (Z : Nat → Prop) (h : Nat → Option am_C) (w : Nat) (X : sp_X) : Prop := ls Z h h w (w + 1) (w + 2) (w + 3) (w + 4) (X, false) ∧ (∀ x ∈ X, sp_hgt x.1.2 ≤ 16) ∧ (∃ fs, h (w + 3) = some (cA3 fs)) ∧ ∃ fp, h (w + 4) = some (cA0 fp)
def CS (g : Nat × Nat) (b R : Nat) (σ : am_H) (S : sp_S) : Prop := g.1 ≤ b ∧ g.2 < g.1 ∧ 29 ≤ R ∧ b + R ≤ σ.2.1 ∧ wf σ ∧ bya σ.1 g.2 [] ∧ S.2.1 ≤ 2000 ∧ byf σ.1 (b + 1) 2000 S.1 ∧
  (∃ st : Option Nat, σ.1 b = some (.inr (0, [.ref (b + 1), .int (nI S.2.1), .ref (b + 2), .ref (b + 7), .ref (b + 18), .ref (b + 23), .ref (b + 28), va_rf st])) ∧ stc (Zc g b R σ.2.1) σ.1 S.2.2.2.2 st) ∧
  (∃ fs : Nat → Option Nat, σ.1 (b + 2) = some (.inl (3, 4, .inr (.inr (.inr (.inr fs))))) ∧ ∀ i, i < 4 → sp_hgt (S.2.2.1 i) ≤ 16 ∧ ∃ a, fs i = some a ∧ vlz (Zc g b R σ.2.1) σ.1 a (sp_dv (S.2.2.1 i))) ∧
  (∃ fl : Nat → Option Nat, σ.1 (b + 7) = some (.inl (4, 2, .inr (.inr (.inr (.inr fl))))) ∧ ∀ i, i < 2 → fl i = some (b + 8 + 5 * i)) ∧
  (∀ i, i < 2 → lsx (Zc g b R σ.2.1) σ.1 (b + 8 + 5 * i) (S.2.2.2.1 i)) ∧ (∃ X, lsx (Zc g b R σ.2.1) σ.1 (b + 18) X) ∧ (∃ X, lsx (Zc g b R σ.2.1) σ.1 (b + 23) X) ∧ vlz (Zc g b R σ.2.1) σ.1 (b + 28) sp_miss
def sp_compare (S : sp_S) (r s : Int32) : Int32 := match sp_ix r 4, sp_ix s 4 with
  | some i, some j => sp_vc (sp_dv (S.2.2.1 i)) (sp_dv (S.2.2.1 j))
  | _, _ => -2
def sp_at (S : sp_S) (which k : Int32) : Option sp_I := match sp_ix which 2 with
  | none => none
  | some i => match sp_ix k (S.2.2.2.1 i).length with
    | none => none
    | some j => (S.2.2.2.1 i)[j]?
def sp_value (S : sp_S) (which k what : Int32) : Int64 := match sp_at S which k with
  | none => -1
  | some x => if what = 0 then lN x.1.1.1 else if what = 1 then lN (sp_cls x.1.1.1) else if what = 2 then Int64.ofInt x.1.1.2.2.1 else if what = 3 then lN (x.1.1.2.2.2.length + sp_len x.1.2) else -1
def sp_text (S : sp_S) (which k i : Int32) : Int32 := match sp_at S which k with
  | none => -1
  | some x => match sp_ix i x.1.1.2.2.2.length with
    | none => -1
    | some j => nI (x.1.1.2.2.2.getD j 0)
def sp_between (S : sp_S) (k j : Int32) : Int32 := match sp_at S 0 k, sp_at S 1 j with
  | some a, some b => sp_vc a.1 b.1
  | _, _ => -2
def sp_from (S : sp_S) (which k : Int32) : Int32 := match sp_at S which k with
  | none => -1
  | some x => nI x.2
section P48
variable {g : Nat × Nat} {d b R : Nat} {σ : am_H} {S : sp_S} {Q : Option Value → am_H → Prop}
/-- isSlot -/
theorem c_slot (hC : CS g b R σ S) (r : Int32) (h1 : ∀ j, j < 4 → r = nI j → sp_ix r 4 = some j → Q (some (.int 1)) σ) (h0 : sp_ix r 4 = none → Q (some (.int 0)) σ) : AW g d 7 (0, [some (.ref b), some (.int r)], []) σ Q := by
  obtain ⟨-, -, -, -, -, -, -, -, ⟨st, ho, -⟩, ⟨fs, hs, -⟩, -⟩ := hC
  refine aw_run 1 (F' := (1, [some (.ref b), some (.int r)], [.int r])) rfl ?_
  have no : sp_ix r 4 = none → AW g d 7 (17, [some (.ref b), some (.int r)], []) σ Q := by
    intro q
    refine aw_run 1 (F' := (18, [some (.ref b), some (.int r)], [.int 0])) rfl ?_
    exact aw_iret rfl ⟨_, rfl, rfl⟩ (h0 q)
  rcases sp_ix_c r (n := 4) (by omega) with ⟨q | ⟨q, q2⟩, e⟩ | ⟨j, hj, rfl, e⟩
  · exact aw_zlt rfl (fun _ => no e) (fun z => absurd q z)
  · refine aw_zlt rfl (fun z => absurd z q) (fun _ => ?_)
    refine aw_run 2 (F' := (6, [some (.ref b), some (.int r)], [.ref b, .int r])) rfl ?_
    refine aw_get rfl ho rfl ?_
    refine aw_lenq rfl hs (by decide) ?_
    exact aw_cge rfl (fun _ => no e) (fun z => absurd q2 z)
  · refine aw_zlt rfl (fun z => absurd z (nI_pos (by omega))) (fun _ => ?_)
    refine aw_run 2 (F' := (6, [some (.ref b), some (.int (nI j))], [.ref b, .int (nI j)])) rfl ?_
    refine aw_get rfl ho rfl ?_
    refine aw_lenq rfl hs (by decide) ?_
    refine aw_cge rfl (fun z => absurd ((nI_leI (a := 4) (by omega) (by omega)).mp z) (by omega)) (fun _ => ?_)
    refine aw_run 2 (F' := (18, [some (.ref b), some (.int (nI j))], [.int 1])) rfl ?_
    exact aw_iret rfl ⟨_, rfl, rfl⟩ (h1 j hj rfl e)
/-- isList -/
theorem c_isl (hC : CS g b R σ S) (r : Int32) (h1 : ∀ j, j < 2 → r = nI j → sp_ix r 2 = some j → Q (some (.int 1)) σ) (h0 : sp_ix r 2 = none → Q (some (.int 0)) σ) : AW g d 36 (0, [some (.ref b), some (.int r)], []) σ Q := by
  obtain ⟨-, -, -, -, -, -, -, -, ⟨st, ho, -⟩, -, ⟨fs, hs, -⟩, -⟩ := hC
  refine aw_run 1 (F' := (1, [some (.ref b), some (.int r)], [.int r])) rfl ?_
  have no : sp_ix r 2 = none → AW g d 36 (17, [some (.ref b), some (.int r)], []) σ Q := by
    intro q
    refine aw_run 1 (F' := (18, [some (.ref b), some (.int r)], [.int 0])) rfl ?_
    exact aw_iret rfl ⟨_, rfl, rfl⟩ (h0 q)
  rcases sp_ix_c r (n := 2) (by omega) with ⟨q | ⟨q, q2⟩, e⟩ | ⟨j, hj, rfl, e⟩
  · exact aw_zlt rfl (fun _ => no e) (fun z => absurd q z)
  · refine aw_zlt rfl (fun z => absurd z q) (fun _ => ?_)
    refine aw_run 2 (F' := (6, [some (.ref b), some (.int r)], [.ref b, .int r])) rfl ?_
    refine aw_get rfl ho rfl ?_
    refine aw_lenq rfl hs (by decide) ?_
    exact aw_cge rfl (fun _ => no e) (fun z => absurd q2 z)
  · refine aw_zlt rfl (fun z => absurd z (nI_pos (by omega))) (fun _ => ?_)
    refine aw_run 2 (F' := (6, [some (.ref b), some (.int (nI j))], [.ref b, .int (nI j)])) rfl ?_
    refine aw_get rfl ho rfl ?_
    refine aw_lenq rfl hs (by decide) ?_
    refine aw_cge rfl (fun z => absurd ((nI_leI (a := 2) (by omega) (by omega)).mp z) (by omega)) (fun _ => ?_)
    refine aw_run 2 (F' := (18, [some (.ref b), some (.int (nI j))], [.int 1])) rfl ?_
    exact aw_iret rfl ⟨_, rfl, rfl⟩ (h1 j hj rfl e)
/-- isOnTape -/
theorem c_tap (hC : CS g b R σ S) (r : Int32) (h1 : ∀ j, j ≤ S.2.1 → r = nI j → sp_ix r (S.2.1 + 1) = some j → Q (some (.int 1)) σ) (h0 : sp_ix r (S.2.1 + 1) = none → Q (some (.int 0)) σ) : AW g d 8 (0, [some (.ref b), some (.int r)], []) σ Q := by
  obtain ⟨-, -, -, -, -, -, hfed, -, ⟨st, ho, -⟩, -⟩ := hC
  refine aw_run 1 (F' := (1, [some (.ref b), some (.int r)], [.int r])) rfl ?_
  have no : sp_ix r (S.2.1 + 1) = none → AW g d 8 (16, [some (.ref b), some (.int r)], []) σ Q := by
    intro q
    refine aw_run 1 (F' := (17, [some (.ref b), some (.int r)], [.int 0])) rfl ?_
    exact aw_iret rfl ⟨_, rfl, rfl⟩ (h0 q)
  rcases sp_ix_c r (n := S.2.1 + 1) (by omega) with ⟨q | ⟨q, q2⟩, e⟩ | ⟨j, hj, rfl, e⟩
  · exact aw_zlt rfl (fun _ => no e) (fun z => absurd q z)
  · refine aw_zlt rfl (fun z => absurd z q) (fun _ => ?_)
    refine aw_run 2 (F' := (6, [some (.ref b), some (.int r)], [.ref b, .int r])) rfl ?_
    refine aw_get rfl ho rfl ?_
    refine aw_cgt rfl (fun _ => no e) (fun z => absurd (Int32.lt_of_lt_of_le (nI_lt (Nat.lt_succ_self _) (by omega)) q2) z)
  · refine aw_zlt rfl (fun z => absurd z (nI_pos (by omega))) (fun _ => ?_)
    refine aw_run 2 (F' := (6, [some (.ref b), some (.int (nI j))], [.ref b, .int (nI j)])) rfl ?_
    refine aw_get rfl ho rfl ?_
    refine aw_cgt rfl (fun z => absurd ((nI_ltI (by omega) (by omega)).mp z) (by omega)) (fun _ => ?_)
    refine aw_run 2 (F' := (17, [some (.ref b), some (.int (nI j))], [.int 1])) rfl ?_
    exact aw_iret rfl ⟨_, rfl, rfl⟩ (h1 j (by omega) rfl e)
/-- compare -/
theorem c_compare (hC : CS g b R σ S) (r s : Int32) (hd : 54 ≤ d) (hQ : Q (some (.int (sp_compare S r s))) σ) : AW g d 31 (0, [some (.ref b), some (.int r), some (.int s)], []) σ Q := by
  obtain ⟨d, rfl⟩ : ∃ d', d = d' + 1 := ⟨d - 1, by omega⟩
  have hC' := hC
  obtain ⟨-, -, -, -, -, -, -, -, ⟨st, ho, -⟩, ⟨fs, hs, hsl⟩, -⟩ := hC'
  have no : sp_compare S r s = -2 → AW g (d + 1) 31 (16, [some (.ref b), some (.int r), some (.int s)], []) σ Q := by
    intro q
    rw [q] at hQ
    refine aw_run 1 (F' := (18, [some (.ref b), some (.int r), some (.int s)], [.int (-2)])) rfl ?_
    exact aw_iret rfl ⟨_, rfl, rfl⟩ hQ
  refine aw_run 2 (F' := (2, [some (.ref b), some (.int r), some (.int s)], [.int r, .ref b])) rfl ?_
  refine aw_v [.ref b, .int r] [] rfl (by decide) rfl ho rfl rfl (Nat.le_of_ble_eq_true rfl) (Nat.le_of_ble_eq_true rfl) ?_
  refine c_slot hC r (fun i hi er ei => ?_) (fun e => ?_)
  rotate_left
  · exact aw_zeq rfl (fun _ => no (by unfold sp_compare; rw [e])) (fun z => absurd rfl z)
  refine aw_zeq rfl (fun z => absurd z (by decide)) (fun _ => ?_)
  refine aw_run 2 (F' := (10, [some (.ref b), some (.int r), some (.int s)], [.int s, .ref b])) rfl ?_
  refine aw_v [.ref b, .int s] [] rfl (by decide) rfl ho rfl rfl (Nat.le_of_ble_eq_true rfl) (Nat.le_of_ble_eq_true rfl) ?_
  refine c_slot hC s (fun j hj es ej => ?_) (fun e => ?_)
  rotate_left
  · exact aw_zne rfl (fun z => absurd rfl z) (fun _ => no (by unfold sp_compare; rw [e, ei]))
  refine aw_zne rfl (fun _ => ?_) (fun z => absurd (by decide) z)
  have hr : sp_compare S r s = sp_vc (sp_dv (S.2.2.1 i)) (sp_dv (S.2.2.1 j)) := by unfold sp_compare; rw [ei, ej]
  rw [hr] at hQ
  subst er
  subst es
  obtain ⟨hh1, x, hx1, hx2⟩ := hsl i hi
  obtain ⟨hh2, y, hy1, hy2⟩ := hsl j hj
  refine aw_run 1 (F' := (20, [some (.ref b), some (.int (nI i)), some (.int (nI j))], [.ref b])) rfl ?_
  refine aw_get rfl ho rfl ?_
  refine aw_run 1 (F' := (24, [some (.ref b), some (.int (nI i)), some (.int (nI j))], [.int (nI i), .ref (b + 2)])) rfl ?_
  refine aw_aald rfl (by decide) hs (vp_in_nI hi (by omega)) ?_
  rw [nI_clamp (by omega), hx1]
  refine aw_run 1 (F' := (26, [some (.ref b), some (.int (nI i)), some (.int (nI j))], [.ref b, .ref x])) rfl ?_
  refine aw_get rfl ho rfl ?_
  refine aw_run 1 (F' := (30, [some (.ref b), some (.int (nI i)), some (.int (nI j))], [.int (nI j), .ref (b + 2), .ref x])) rfl ?_
  refine aw_aald rfl (by decide) hs (vp_in_nI hj (by omega)) ?_
  rw [nI_clamp (by omega), hy1]
  refine aw_run 1 (F' := (32, [some (.ref b), some (.int (nI i)), some (.int (nI j))], [.int (nI 1), .ref y, .ref x])) rfl ?_
  refine aw_s [.ref x, .ref y, .int (nI 1)] [] rfl ⟨by decide, by decide⟩ rfl rfl (Nat.le_of_ble_eq_true rfl) (Nat.le_of_ble_eq_true rfl) ?_
  refine c_ofValues hx2.vl hy2.vl (by show 1 + sp_hgt (S.2.2.1 i) ≤ 17; omega) (by show 3 * sp_hgt (S.2.2.1 i) + 5 ≤ d; omega) ?_
  exact aw_iret rfl ⟨_, rfl, rfl⟩ hQ
/-- valueInList -/
theorem c_vil (hC : CS g b R σ S) (which k : Int32) (h0 : sp_at S which k = none → Q (some .null) σ) (h1 : ∀ (x : sp_I) (a : Nat), sp_at S which k = some x → vlz (Zc g b R σ.2.1) σ.1 a x.1 → sp_hgt x.1.2 ≤ 16 → Q (some (.ref a)) σ) : AW g (d + 1) 46 (0, [some (.ref b), some (.int which), some (.int k)], []) σ Q := by
  have hC' := hC
  obtain ⟨-, -, -, -, -, -, -, -, ⟨st, ho, -⟩, -, ⟨fl, hl, hfl⟩, hls, -⟩ := hC'
  refine aw_run 2 (F' := (2, [some (.ref b), some (.int which), some (.int k)], [.int which, .ref b])) rfl ?_
  refine aw_v [.ref b, .int which] [] rfl (by decide) rfl ho rfl rfl (Nat.le_of_ble_eq_true rfl) (Nat.le_of_ble_eq_true rfl) ?_
  refine c_isl hC which (fun i hi er ei => ?_) (fun e => ?_)
  rotate_left
  · refine aw_zeq rfl (fun _ => ?_) (fun z => absurd rfl z)
    refine aw_run 1 (F' := (22, [some (.ref b), some (.int which), some (.int k)], [.null])) rfl ?_
    exact aw_nret rfl ⟨_, rfl, Or.inl ⟨_, rfl⟩⟩ (h0 (by unfold sp_at; rw [e]))
  refine aw_zeq rfl (fun z => absurd z (by decide)) (fun _ => ?_)
  subst er
  obtain ⟨⟨hlen, fv, fo, hw, hva, hoa, hit⟩, hh, -, -⟩ := hls i hi
  have hat : sp_at S (nI i) k = (match sp_ix k (S.2.2.2.1 i).length with
    | none => none
    | some j => (S.2.2.2.1 i)[j]?) := by unfold sp_at; rw [ei]
  dsimp only at hlen hw
  refine aw_run 1 (F' := (9, [some (.ref b), some (.int (nI i)), some (.int k)], [.ref b])) rfl ?_
  refine aw_get rfl ho rfl ?_
  refine aw_run 1 (F' := (13, [some (.ref b), some (.int (nI i)), some (.int k)], [.int (nI i), .ref (b + 7)])) rfl ?_
  refine aw_aald rfl (by decide) hl (vp_in_nI hi (by omega)) ?_
  rw [nI_clamp (by omega), hfl i hi]
  refine aw_run 1 (F' := (15, [some (.ref b), some (.int (nI i)), some (.int k)], [.int k, .ref (b + 8 + 5 * i)])) rfl ?_
  refine aw_v [.ref (b + 8 + 5 * i), .int k] [] rfl (by decide) rfl hw rfl rfl (Nat.le_of_ble_eq_true rfl) (Nat.le_of_ble_eq_true rfl) ?_
  have nul : sp_ix k (S.2.2.2.1 i).length = none → AW g d 47 (21, [some (.ref (b + 8 + 5 * i)), some (.int k)], []) σ (fun (v : Option Value) (σ' : am_H) => AW g (d + 1) 46 (15 + 3, [some (.ref b), some (.int (nI i)), some (.int k)], v.toList ++ []) σ' Q) := by
    intro e
    rw [e] at hat
    refine aw_run 1 (F' := (22, [some (.ref (b + 8 + 5 * i)), some (.int k)], [.null])) rfl ?_
    refine aw_nret rfl ⟨_, rfl, Or.inl ⟨_, rfl⟩⟩ ?_
    refine aw_run 1 (F' := (22, [some (.ref b), some (.int (nI i)), some (.int k)], [.null])) rfl ?_
    exact aw_nret rfl ⟨_, rfl, Or.inl ⟨_, rfl⟩⟩ (h0 hat)
  rcases sp_ix_c k (n := (S.2.2.2.1 i).length) (by omega) with ⟨q | ⟨q, q2⟩, e⟩ | ⟨j, hj, rfl, e⟩
  · refine aw_run 1 (F' := (1, [some (.ref (b + 8 + 5 * i)), some (.int k)], [.int k])) rfl ?_
    exact aw_zlt rfl (fun _ => nul e) (fun z => absurd q z)
  · refine aw_run 1 (F' := (1, [some (.ref (b + 8 + 5 * i)), some (.int k)], [.int k])) rfl ?_
    refine aw_zlt rfl (fun z => absurd z q) (fun _ => ?_)
    refine aw_run 2 (F' := (6, [some (.ref (b + 8 + 5 * i)), some (.int k)], [.ref (b + 8 + 5 * i), .int k])) rfl ?_
    refine aw_get rfl hw rfl ?_
    exact aw_cge rfl (fun _ => nul e) (fun z => absurd q2 z)
  · rw [e] at hat
    dsimp only at hat
    have hx := List.getElem?_eq_getElem hj
    generalize (S.2.2.2.1 i)[j] = x at hx
    obtain ⟨a, ha1, ha2, ha3⟩ := hit j x.1 x.2 hx
    refine c_vat (N := (S.2.2.2.1 i).length) (ov := false) hw hva hj hlen ha1 ?_
    refine aw_run 1 (F' := (22, [some (.ref b), some (.int (nI i)), some (.int (nI j))], [.ref a])) rfl ?_
    exact aw_aret rfl ⟨_, rfl, Or.inl ⟨_, rfl⟩⟩ (h1 x a (hat.trans hx) ha2 (hh x (List.mem_of_getElem? hx)))
end P48
