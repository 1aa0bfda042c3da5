/-- the document that the first e bytes are, if they are one -/
def sp_doc (β : Nat → Nat) (e : Nat) : Option sp_F := match sp_nst (sp_es β 2000) β 1 false 0 e with
  | none => none
  | some (c, q) => if q = e then some c else none
section P38
variable {g : Nat × Nat} {d : Nat} {σ : am_H} {Q : Option Value → am_H → Prop}
/-- Reader.wholeDocument -/
theorem c_whd (hD : decOK) {β : Nat → Nat} {N t r p e : Nat} (hN2 : N ≤ 2000) (ho : rok g σ r t N p β) (he : e ≤ N) (hN : sp_doc β e = none → ∀ (σ' : am_H) (p' : Nat), rdx g r t σ σ' p' (2 * e) (10 * e) → Q (some .null) σ') (hS : ∀ (c : sp_F) (σ' : am_H) (x : Nat), sp_doc β e = some c → rdx g r t σ σ' e (2 * e) (10 * e) → elz g σ'.1 σ.2.1 σ'.2.1 x ((3, [], 0, []), c) none → Q (some (.ref x)) σ') : AW g (d + 39) 10 (0, [some (.ref r), some (.int (nI e)), none], []) σ Q := by
  have ho' := ho
  obtain ⟨a1, a2, a3, a4, a5, a6, a7, a8⟩ := ho'
  have hrl := a5 _ _ a6
  refine aw_run 2 (F' := (2, [some (.ref r), some (.int (nI e)), none], [.int (nI 0), .ref r])) rfl ?_
  refine aw_put rfl a1 a6 (Nat.le_of_ble_eq_true rfl) rfl rfl ?_
  have hat := rdx.at (g := g) (p' := 0) a5 a6
  have hn1 : (am_set σ r (.inr (3, [.ref t, .int (nI 0)]))).2.1 = σ.2.1 := rfl
  show AW g (d + 39) 10 (2 + 3, [some (.ref r), some (.int (nI e)), none], []) (am_set σ r (.inr (3, [.ref t, .int (nI 0)]))) Q
  generalize am_set σ r (.inr (3, [.ref t, .int (nI 0)])) = σ1 at hat hn1 ⊢
  have ho1 := ho.go hat
  have ho1' := ho1
  obtain ⟨b1, b2, b3, b4, b5, b6, b7, b8⟩ := ho1'
  refine aw_run 2 (F' := (7, [some (.ref r), some (.int (nI e)), none], [.int (nI 3), .ref r])) rfl ?_
  refine aw_sta rfl ?_
  refine aw_run 2 (F' := (12, [some (.ref r), some (.int (nI e)), none], [.int (nI 1), .int (nI e), .ref g.2, .int (nI 3), .ref r])) rfl ?_
  refine aw_v [.ref r, .int (nI 3), .ref g.2, .int (nI e), .int (nI 1)] [] rfl (by decide) rfl b6 rfl rfl (Nat.le_of_ble_eq_true rfl) (Nat.le_of_ble_eq_true rfl) ?_
  refine RN_all hD hN2 2000 g (d + 38) σ1 _ r g.2 0 e 1 σ1.2.1 3 false [] ho1 (by omega) he (by omega) b8 (Or.inr rfl) (Nat.le_refl _) (by omega) (by omega) (by omega) (by omega) (by omega) rfl (fun z σ' p' h => ?_) (fun c q σ' x z h hel => ?_)
  · have hz : sp_doc β e = none := by unfold sp_doc; rw [z]
    have htot := (hat.trans h).mono (k' := 2 * e) (m' := 10 * e) (by omega) (by omega)
    refine aw_run 2 (F' := (17, [some (.ref r), some (.int (nI e)), some .null], [.ref r])) rfl ?_
    refine aw_get rfl h.1 rfl ?_
    refine aw_run 1 (F' := (21, [some (.ref r), some (.int (nI e)), some .null], [.int (nI e), .int (nI p')])) rfl ?_
    refine aw_cne rfl (fun _ => ?_) (fun _ => ?_)
    · refine aw_run 1 (F' := (29, [some (.ref r), some (.int (nI e)), some .null], [.null])) rfl ?_
      exact aw_nret rfl ⟨_, rfl, Or.inl ⟨_, rfl⟩⟩ (hN hz σ' p' htot)
    · refine aw_run 2 (F' := (29, [some (.ref r), some (.int (nI e)), some .null], [.null])) rfl ?_
      exact aw_nret rfl ⟨_, rfl, Or.inl ⟨_, rfl⟩⟩ (hN hz σ' p' htot)
  · have hq := sp_nst_le z
    have htot := (hat.trans h).mono (k' := 2 * e) (m' := 10 * e) (by omega) (by omega)
    refine aw_run 2 (F' := (17, [some (.ref r), some (.int (nI e)), some (.ref x)], [.ref r])) rfl ?_
    refine aw_get rfl h.1 rfl ?_
    refine aw_run 1 (F' := (21, [some (.ref r), some (.int (nI e)), some (.ref x)], [.int (nI e), .int (nI q)])) rfl ?_
    refine aw_cne rfl (fun w => ?_) (fun w => ?_)
    · refine aw_run 1 (F' := (29, [some (.ref r), some (.int (nI e)), some (.ref x)], [.null])) rfl ?_
      have hz : sp_doc β e = none := by
        unfold sp_doc
        rw [z]
        exact if_neg (fun y => w (by rw [y]))
      exact aw_nret rfl ⟨_, rfl, Or.inl ⟨_, rfl⟩⟩ (hN hz σ' q htot)
    · have w' : q = e := (nI_eq (by omega) (by omega)).mp (Decidable.of_not_not w)
      subst w'
      have hz : sp_doc β q = some c := by
        unfold sp_doc
        rw [z]
        exact if_pos rfl
      refine aw_run 2 (F' := (29, [some (.ref r), some (.int (nI q)), some (.ref x)], [.ref x])) rfl ?_
      rw [hn1] at hel
      exact aw_aret rfl ⟨_, rfl, Or.inl ⟨_, rfl⟩⟩ (hS c σ' x hz htot hel)
/-- Reader's constructor -/
theorem c_rnew {r t : Nat} {w0 w1 : Value} (hg : g.1 ≤ r) (hr : σ.1 r = some (.inr (3, [w0, w1]))) (hQ : Q none (am_set σ r (.inr (3, [.ref t, w1])))) : AW g (d + 1) 9 (0, [some (.ref r), some (.ref t)], []) σ Q := by
  refine aw_run 1 (F' := (1, [some (.ref r), some (.ref t)], [.ref r])) rfl ?_
  refine aw_obj rfl (Nat.le_of_ble_eq_true rfl) (by omega) ?_
  refine aw_run 2 (F' := (6, [some (.ref r), some (.ref t)], [.ref t, .ref r])) rfl ?_
  refine aw_put rfl hg hr (Nat.le_of_ble_eq_true rfl) rfl rfl ?_
  exact aw_vret rfl rfl hQ
end P38
