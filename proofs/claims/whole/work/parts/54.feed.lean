/-! feed -/
def sp_byte (y : Int32) : Nat := y.toBitVec.toNat % 256
theorem sp_byte_lt (y : Int32) : sp_byte y < 256 := Nat.mod_lt _ (by decide)
theorem sb_nar (y : Int32) : vp_nar .byte (y.toInt8.toInt32) = sb_b (sp_byte y) := by
  have h : y.toInt8 = (nI (sp_byte y)).toInt8 := by
    apply Int8.toBitVec.inj
    apply BitVec.eq_of_toNat_eq
    rw [Int32.toBitVec_toInt8, Int32.toBitVec_toInt8, BitVec.signExtend_eq_setWidth_of_le _ (by decide), BitVec.signExtend_eq_setWidth_of_le _ (by decide), BitVec.toNat_setWidth, BitVec.toNat_setWidth, pk_tn (by have := sp_byte_lt y; omega)]
    unfold sp_byte
    omega
  show (y.toInt8.toInt32).toInt8.toInt32 = (nI (sp_byte y)).toInt8.toInt32
  rw [Int8.toInt8_toInt32, h]
def sp_up (β : Nat → Nat) (i v : Nat) : Nat → Nat := fun j => if j = i then v else β j
def sp_put (T : (Nat → Nat) × Nat) (x : Int32) : (Nat → Nat) × Nat := (sp_up (sp_up (sp_up (sp_up T.1 T.2 (sp_byte (x >>> ((24 : Int32) &&& 31)))) (T.2 + 1) (sp_byte (x >>> ((16 : Int32) &&& 31)))) (T.2 + 2) (sp_byte (x >>> ((8 : Int32) &&& 31)))) (T.2 + 3) (sp_byte (x >>> ((0 : Int32) &&& 31))), T.2 + 4)
def sp_feed (S : sp_S) (x1 x2 x3 x4 x5 : Int32) : sp_S × Int32 := if 2000 < S.2.1 + 20 then (S, -1) else (((sp_put (sp_put (sp_put (sp_put (sp_put (S.1, S.2.1) x1) x2) x3) x4) x5).1, (sp_put (sp_put (sp_put (sp_put (sp_put (S.1, S.2.1) x1) x2) x3) x4) x5).2, S.2.2), nI (S.2.1 + 20))
/-- the tape while bytes come onto it -/
def tst (σ0 σ : am_H) (b : Nat) (T : (Nat → Nat) × Nat) (w6 : Value) : Prop := (∀ a, a ≠ b → a ≠ b + 1 → σ.1 a = σ0.1 a) ∧ σ.2 = σ0.2 ∧ σ.1 b = some (.inr (0, [.ref (b + 1), .int (nI T.2), .ref (b + 2), .ref (b + 7), .ref (b + 18), .ref (b + 23), .ref (b + 28), w6])) ∧ byf σ.1 (b + 1) 2000 T.1
section P54
variable {g : Nat × Nat} {d b R : Nat} {σ : am_H} {S : sp_S} {Q : Option Value → am_H → Prop}
theorem c_put1 {σ0 : am_H} {T : (Nat → Nat) × Nat} {w6 : Value} {x sh : Int32} (hg : g.1 ≤ b) (ht : tst σ0 σ b T w6) (hT : T.2 < 2000) (hsh : ¬ sh < 0) (hQ : ∀ σ' : am_H, tst σ0 σ' b (sp_up T.1 T.2 (sp_byte (x >>> (sh &&& 31))), T.2 + 1) w6 → AW g d 5 (3, [some (.ref b), some (.int x), some (.int (sh + -8))], []) σ' Q) : AW g d 5 (3, [some (.ref b), some (.int x), some (.int sh)], []) σ Q := by
  obtain ⟨t1, t2, t3, t4⟩ := ht
  obtain ⟨hN, f, hb, hbf⟩ := t4
  refine aw_run 1 (F' := (4, [some (.ref b), some (.int x), some (.int sh)], [.int sh])) rfl ?_
  refine aw_zlt rfl (fun z => absurd z hsh) (fun _ => ?_)
  refine aw_run 1 (F' := (8, [some (.ref b), some (.int x), some (.int sh)], [.ref b])) rfl ?_
  refine aw_get rfl t3 rfl ?_
  refine aw_run 1 (F' := (12, [some (.ref b), some (.int x), some (.int sh)], [.ref b, .int (nI T.2)])) rfl ?_
  refine aw_get rfl t3 rfl ?_
  refine aw_len rfl hb (by decide) ?_
  refine aw_cge rfl (fun z => absurd ((nI_leI (a := 2000) (by omega) (by omega)).mp z) (by omega)) (fun _ => ?_)
  refine aw_run 1 (F' := (20, [some (.ref b), some (.int x), some (.int sh)], [.ref b])) rfl ?_
  refine aw_get rfl t3 rfl ?_
  refine aw_run 1 (F' := (24, [some (.ref b), some (.int x), some (.int sh)], [.ref b, .ref (b + 1)])) rfl ?_
  refine aw_get rfl t3 rfl ?_
  refine aw_run 4 (F' := (31, [some (.ref b), some (.int x), some (.int sh)], [.int ((x >>> (sh &&& 31)).toInt8.toInt32), .int (nI T.2), .ref (b + 1)])) rfl ?_
  refine aw_bast rfl (by omega) hb (vp_in_nI hT (by omega)) ?_
  rw [nI_clamp (by omega)]
  rw [sb_nar]
  have hb1 : byf (am_set σ (b + 1) (.inl (1, 2000, .inl (upd f T.2 (sb_b (sp_byte (x >>> (sh &&& 31)))))))).1 (b + 1) 2000 (sp_up T.1 T.2 (sp_byte (x >>> (sh &&& 31)))) := by
    refine ⟨hN, _, am_set_same _ _ _, fun i hi => ?_⟩
    unfold sp_up
    by_cases q : i = T.2
    · rw [if_pos q, q, pk_us]
      exact ⟨sp_byte_lt _, rfl⟩
    · rw [if_neg q, pk_un q]
      exact hbf i hi
  have ho1 := (am_set_ne σ (.inl (1, 2000, .inl (upd f T.2 (sb_b (sp_byte (x >>> (sh &&& 31))))))) (show b ≠ b + 1 by omega)).trans t3
  have hk1 : ∀ a, a ≠ b → a ≠ b + 1 → (am_set σ (b + 1) (.inl (1, 2000, .inl (upd f T.2 (sb_b (sp_byte (x >>> (sh &&& 31)))))))).1 a = σ0.1 a := fun a q1 q2 => (am_set_ne _ _ q2).trans (t1 a q1 q2)
  have hn1 : (am_set σ (b + 1) (.inl (1, 2000, .inl (upd f T.2 (sb_b (sp_byte (x >>> (sh &&& 31)))))))).2 = σ0.2 := t2
  generalize am_set σ (b + 1) (.inl (1, 2000, .inl (upd f T.2 (sb_b (sp_byte (x >>> (sh &&& 31))))))) = σ1 at hb1 ho1 hk1 hn1 ⊢
  refine aw_run 2 (F' := (34, [some (.ref b), some (.int x), some (.int sh)], [.ref b, .ref b])) rfl ?_
  refine aw_get rfl ho1 rfl ?_
  refine aw_run 2 (F' := (39, [some (.ref b), some (.int x), some (.int sh)], [.int (nI T.2 + 1), .ref b])) rfl ?_
  rw [nI_1]
  refine aw_put rfl hg ho1 (Nat.le_of_ble_eq_true rfl) rfl rfl ?_
  refine aw_run 2 (F' := (3, [some (.ref b), some (.int x), some (.int (sh + -8))], [])) rfl ?_
  exact hQ _ ⟨fun a q1 q2 => (am_set_ne _ _ q1).trans (hk1 a q1 q2), hn1, am_set_same _ _ _, hb1.kept (am_set_ne _ _ (by omega))⟩
/-- putNumber -/
theorem c_putn {σ0 : am_H} {T : (Nat → Nat) × Nat} {w6 : Value} {x : Int32} (hg : g.1 ≤ b) (ht : tst σ0 σ b T w6) (hT : T.2 + 4 ≤ 2000) (hQ : ∀ σ' : am_H, tst σ0 σ' b (sp_put T x) w6 → Q none σ') : AW g d 5 (0, [some (.ref b), some (.int x), none], []) σ Q := by
  refine aw_run 2 (F' := (3, [some (.ref b), some (.int x), some (.int 24)], [])) rfl ?_
  refine c_put1 hg ht (by omega) (by decide) (fun σ1 h1 => ?_)
  refine c_put1 hg h1 (by show T.2 + 1 < 2000; omega) (by decide) (fun σ2 h2 => ?_)
  refine c_put1 hg h2 (by show T.2 + 1 + 1 < 2000; omega) (by decide) (fun σ3 h3 => ?_)
  refine c_put1 hg h3 (by show T.2 + 1 + 1 + 1 < 2000; omega) (by decide) (fun σ4 h4 => ?_)
  refine aw_run 1 (F' := (4, [some (.ref b), some (.int x), some (.int (24 + -8 + -8 + -8 + -8))], [.int (24 + -8 + -8 + -8 + -8)])) rfl ?_
  refine aw_zlt rfl (fun _ => ?_) (fun z => absurd (by decide) z)
  exact aw_vret rfl rfl (hQ σ4 h4)
/-- tape and path are others, all else is as it was -/
theorem cs_tape {σ' : am_H} {T : (Nat → Nat) × Nat} {P : List (List Nat)} {st : Option Nat} (hC : CS g b R σ S) (h1 : ∀ a, a < σ.2.1 → a ≠ b → a ≠ b + 1 → σ'.1 a = σ.1 a) (hle : σ.2.1 ≤ σ'.2.1) (hw : wf σ') (hT : T.2 ≤ 2000) (ho : σ'.1 b = some (.inr (0, [.ref (b + 1), .int (nI T.2), .ref (b + 2), .ref (b + 7), .ref (b + 18), .ref (b + 23), .ref (b + 28), va_rf st]))) (hb : byf σ'.1 (b + 1) 2000 T.1) (hst : stc (Zc g b R σ'.2.1) σ'.1 P st) : CS g b R σ' (T.1, T.2, S.2.2.1, S.2.2.2.1, P) := by
  obtain ⟨c1, c2, c3, c4, c5, c6, c7, c8, -, ⟨fs, c11, c12⟩, ⟨fl, c13, c14⟩, c15, ⟨X2, c16⟩, ⟨X3, c17⟩, c18⟩ := hC
  have hz : ∀ a, Zc g b R σ.2.1 a → σ'.1 a = σ.1 a := by
    intro a ha
    unfold Zc at ha
    exact h1 a (by omega) (by omega) (by omega)
  have hm := Zc.mono (g := g) (b := b) (R := R) hle
  refine ⟨c1, c2, c3, by omega, hw, c6.kept (h1 _ (by omega) (by omega) (by omega)), hT, hb, ⟨st, ho, hst⟩, ⟨fs, (h1 _ (by omega) (by omega) (by omega)).trans c11, fun j hj => ?_⟩, ⟨fl, (h1 _ (by omega) (by omega) (by omega)).trans c13, c14⟩, fun j hj => (c15 j hj).kept hz (fun a q1 q2 => h1 a (by omega) (by omega) (by omega)) hm, ⟨X2, c16.kept hz (fun a q1 q2 => h1 a (by omega) (by omega) (by omega)) hm⟩, ⟨X3, c17.kept hz (fun a q1 q2 => h1 a (by omega) (by omega) (by omega)) hm⟩, c18.kept hz hm⟩
  obtain ⟨k1, a, k2, k3⟩ := c12 j hj
  exact ⟨k1, a, k2, k3.kept hz hm⟩
/-- feed -/
theorem c_feed (hC : CS g b R σ S) (x1 x2 x3 x4 x5 : Int32) (hQ : ∀ σ' : am_H, CS g b R σ' (sp_feed S x1 x2 x3 x4 x5).1 → cfr b R σ σ' 0 0 → Q (some (.int (sp_feed S x1 x2 x3 x4 x5).2)) σ') : AW g (d + 1) 4 (0, [some (.ref b), some (.int x1), some (.int x2), some (.int x3), some (.int x4), some (.int x5)], []) σ Q := by
  have hC' := hC
  obtain ⟨c1, c2, c3, c4, c5, c6, c7, c8, ⟨st, ho, hst⟩, -⟩ := hC'
  refine aw_run 1 (F' := (1, [some (.ref b), some (.int x1), some (.int x2), some (.int x3), some (.int x4), some (.int x5)], [.ref b])) rfl ?_
  refine aw_get rfl ho rfl ?_
  refine aw_run 3 (F' := (10, [some (.ref b), some (.int x1), some (.int x2), some (.int x3), some (.int x4), some (.int x5)], [.int (nI 2000), .int (nI S.2.1 + nI 20)])) rfl ?_
  rw [nI_add]
  unfold sp_feed at hQ
  refine aw_cle rfl (fun z => ?_) (fun z => ?_)
  rotate_left
  · have z' : ¬ S.2.1 + 20 ≤ 2000 := fun y => z ((nI_leI (by omega) (by omega)).mpr y)
    rw [if_pos (by omega)] at hQ
    refine aw_run 1 (F' := (14, [some (.ref b), some (.int x1), some (.int x2), some (.int x3), some (.int x4), some (.int x5)], [.int (-1)])) rfl ?_
    exact aw_iret rfl ⟨_, rfl, rfl⟩ (hQ σ hC cfr.self)
  have z' := (nI_leI (by omega) (by omega)).mp z
  rw [if_neg (by omega)] at hQ
  have ht0 : tst σ σ b (S.1, S.2.1) (va_rf st) := ⟨fun _ _ _ => rfl, rfl, ho, c8⟩
  refine aw_run 2 (F' := (17, [some (.ref b), some (.int x1), some (.int x2), some (.int x3), some (.int x4), some (.int x5)], [.int x1, .ref b])) rfl ?_
  refine aw_v [.ref b, .int x1] [] rfl (by decide) rfl ho rfl rfl (Nat.le_of_ble_eq_true rfl) (Nat.le_of_ble_eq_true rfl) ?_
  refine c_putn c1 ht0 (by show S.2.1 + 4 ≤ 2000; omega) (fun σ1 h1 => ?_)
  refine aw_run 2 (F' := (22, [some (.ref b), some (.int x1), some (.int x2), some (.int x3), some (.int x4), some (.int x5)], [.int x2, .ref b])) rfl ?_
  refine aw_v [.ref b, .int x2] [] rfl (by decide) rfl h1.2.2.1 rfl rfl (Nat.le_of_ble_eq_true rfl) (Nat.le_of_ble_eq_true rfl) ?_
  refine c_putn c1 h1 (by show S.2.1 + 4 + 4 ≤ 2000; omega) (fun σ2 h2 => ?_)
  refine aw_run 2 (F' := (27, [some (.ref b), some (.int x1), some (.int x2), some (.int x3), some (.int x4), some (.int x5)], [.int x3, .ref b])) rfl ?_
  refine aw_v [.ref b, .int x3] [] rfl (by decide) rfl h2.2.2.1 rfl rfl (Nat.le_of_ble_eq_true rfl) (Nat.le_of_ble_eq_true rfl) ?_
  refine c_putn c1 h2 (by show S.2.1 + 4 + 4 + 4 ≤ 2000; omega) (fun σ3 h3 => ?_)
  refine aw_run 2 (F' := (33, [some (.ref b), some (.int x1), some (.int x2), some (.int x3), some (.int x4), some (.int x5)], [.int x4, .ref b])) rfl ?_
  refine aw_v [.ref b, .int x4] [] rfl (by decide) rfl h3.2.2.1 rfl rfl (Nat.le_of_ble_eq_true rfl) (Nat.le_of_ble_eq_true rfl) ?_
  refine c_putn c1 h3 (by show S.2.1 + 4 + 4 + 4 + 4 ≤ 2000; omega) (fun σ4 h4 => ?_)
  refine aw_run 2 (F' := (39, [some (.ref b), some (.int x1), some (.int x2), some (.int x3), some (.int x4), some (.int x5)], [.int x5, .ref b])) rfl ?_
  refine aw_v [.ref b, .int x5] [] rfl (by decide) rfl h4.2.2.1 rfl rfl (Nat.le_of_ble_eq_true rfl) (Nat.le_of_ble_eq_true rfl) ?_
  refine c_putn c1 h4 (by show S.2.1 + 4 + 4 + 4 + 4 + 4 ≤ 2000; omega) (fun σ5 h5 => ?_)
  refine aw_run 1 (F' := (43, [some (.ref b), some (.int x1), some (.int x2), some (.int x3), some (.int x4), some (.int x5)], [.ref b])) rfl ?_
  refine aw_get rfl h5.2.2.1 rfl ?_
  obtain ⟨q1, q2, q3, q4⟩ := h5
  have e21 : σ5.2.1 = σ.2.1 := by rw [q2]
  have hwf : wf σ5 := by
    intro a c hc
    rw [e21]
    by_cases q : a = b ∨ a = b + 1
    · omega
    · rw [q1 a (by omega) (by omega)] at hc
      exact c5 _ _ hc
  have hst' : stc (Zc g b R σ5.2.1) σ5.1 S.2.2.2.2 st := by
    rw [e21]
    refine hst.kept (fun a ha => ?_) (fun _ z => z)
    unfold Zc at ha
    exact q1 a (by omega) (by omega)
  refine aw_iret rfl ⟨_, rfl, rfl⟩ (hQ σ5 (cs_tape hC (fun a _ p1 p2 => q1 a p1 p2) (by omega) hwf (by show S.2.1 + 4 + 4 + 4 + 4 + 4 ≤ 2000; omega) q3 q4 hst') ⟨fun a ha => q1 a (by omega) (by omega), by omega, by omega, ?_, ?_⟩)
  · rw [q2]; exact Nat.le_refl _
  · rw [q2]; exact Nat.le_refl _
end P54
