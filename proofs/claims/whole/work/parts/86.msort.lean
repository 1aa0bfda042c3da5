section P86
variable {g : Nat × Nat} {d : Nat} {σ0 σ : am_H} {Q : Option Value → am_H → Prop} {m : Nat} {μ : sp_M}
theorem m_srO {S : sp_S} {w n : Nat} {X : sp_X} (hw : w < 2) (hn : X.length = n) (hC : ∀ (σ : am_H) (μ : sp_M) (x5 x6 x7 x8 : Option Value), MS g m σ0 σ μ → RS (setl S w (sp_srt X)) μ → AW g (d + 5) 96 (213, [some (.ref m), some (.int (nI w)), some (.int (nI (500 * w))), some (.int (nI n)), some (.int (nI n)), x5, x6, x7, x8], []) σ Q) : ∀ (r i : Nat) (A : sp_X) (σ : am_H) (μ : sp_M) (x5 x6 x7 x8 : Option Value), i + r = n → A.length = i → sp_so A → sp_eq (X.take i) A → MS g m σ0 σ μ → RS (setl S w (A ++ X.drop i)) μ → AW g (d + 5) 96 (27, [some (.ref m), some (.int (nI w)), some (.int (nI (500 * w))), some (.int (nI n)), some (.int (nI i)), x5, x6, x7, x8], []) σ Q := by
  intro r
  induction r with
  | zero =>
    intro i A σ μ x5 x6 x7 x8 hi hA hso heq hM hR
    have hi' : i = n := by omega
    subst hi'
    have hX : A ++ X.drop i = sp_srt X := by
      rw [List.drop_eq_nil_of_le (by omega), List.append_nil]
      refine sp_srt_un hso ?_
      rw [List.take_of_length_le (by omega)] at heq
      exact heq
    rw [hX] at hR
    have hl := (hR.ent hw).1
    have hl2 := sp_srt_len X
    refine aw_run 2 (F' := (30, [some (.ref m), some (.int (nI w)), some (.int (nI (500 * w))), some (.int (nI i)), some (.int (nI i)), x5, x6, x7, x8], [.int (nI i), .int (nI i)])) rfl ?_
    refine an_cge rfl (by omega) (by omega) (fun h1 => ?_) (fun h1 => ?_)
    · exact hC σ μ _ _ _ _ hM hR
    · omega
  | succ r ih =>
    intro i A σ μ x5 x6 x7 x8 hi hA hso heq hM hR
    have hiX : i < X.length := by omega
    have hd : X.drop i = X[i] :: X.drop (i + 1) := List.drop_eq_getElem_cons hiX
    generalize hxx : X[i] = x at hd
    rw [hd] at hR
    obtain ⟨u1, u2, u3⟩ := hR.ent hw
    have hlen : (A ++ x :: X.drop (i + 1)).length = n := by simp; omega
    have hx0 : (A ++ x :: X.drop (i + 1))[i]? = some x := by rw [← hA]; exact app_eq
    obtain ⟨v1, v2, v3⟩ := u3 i x hx0
    generalize hP : μ 8 (500 * w + i) = p at v3
    refine aw_run 2 (F' := (30, [some (.ref m), some (.int (nI w)), some (.int (nI (500 * w))), some (.int (nI n)), some (.int (nI i)), x5, x6, x7, x8], [.int (nI n), .int (nI i)])) rfl ?_
    refine an_cge rfl (by omega) (by omega) (fun h1 => ?_) (fun h1 => ?_)
    · omega
    · refine aw_run 1 (F' := (34, [some (.ref m), some (.int (nI w)), some (.int (nI (500 * w))), some (.int (nI n)), some (.int (nI i)), x5, x6, x7, x8], [.ref m])) rfl ?_
      refine aw_get rfl hM.o rfl ?_
      refine aw_run 3 (F' := (41, [some (.ref m), some (.int (nI w)), some (.int (nI (500 * w))), some (.int (nI n)), some (.int (nI i)), x5, x6, x7, x8], [.int (nI (500 * w) + nI i), .ref (m + 5)])) rfl ?_
      rw [nI_add]
      refine ms_ild hM rfl (k := 7) (n := 1000) (by decide) (by omega) ?_
      rw [show μ 7 ((500 * w) + i) = x.1.1.1 from v1]
      refine aw_run 2 (F' := (45, [some (.ref m), some (.int (nI w)), some (.int (nI (500 * w))), some (.int (nI n)), some (.int (nI i)), some (.int (nI x.1.1.1)), x6, x7, x8], [.ref m])) rfl ?_
      refine aw_get rfl hM.o rfl ?_
      refine aw_run 3 (F' := (52, [some (.ref m), some (.int (nI w)), some (.int (nI (500 * w))), some (.int (nI n)), some (.int (nI i)), some (.int (nI x.1.1.1)), x6, x7, x8], [.int (nI (500 * w) + nI i), .ref (m + 6)])) rfl ?_
      rw [nI_add]
      refine ms_ild hM rfl (k := 8) (n := 1000) (by decide) (by omega) ?_
      rw [show μ 8 ((500 * w) + i) = p from hP]
      refine aw_run 2 (F' := (56, [some (.ref m), some (.int (nI w)), some (.int (nI (500 * w))), some (.int (nI n)), some (.int (nI i)), some (.int (nI x.1.1.1)), some (.int (nI p)), x7, x8], [.ref m])) rfl ?_
      refine aw_get rfl hM.o rfl ?_
      refine aw_run 3 (F' := (63, [some (.ref m), some (.int (nI w)), some (.int (nI (500 * w))), some (.int (nI n)), some (.int (nI i)), some (.int (nI x.1.1.1)), some (.int (nI p)), x7, x8], [.int (nI (500 * w) + nI i), .ref (m + 7)])) rfl ?_
      rw [nI_add]
      refine ms_ild hM rfl (k := 9) (n := 1000) (by decide) (by omega) ?_
      rw [show μ 9 ((500 * w) + i) = x.2 from v2]
      refine aw_run 3 (F' := (70, [some (.ref m), some (.int (nI w)), some (.int (nI (500 * w))), some (.int (nI n)), some (.int (nI i)), some (.int (nI x.1.1.1)), some (.int (nI p)), some (.int (nI x.2)), some (.int (nI i))], [])) rfl ?_
      refine m_srI (A := A) (R := X.drop (i + 1)) (β := μ 1) hw v3 (fun σ1 μ1 A1 A2 h b1 b2 b3 b4 b5 b6 => ?_) i σ μ A [] x hA hM rfl hR (List.append_nil _) (fun y hy => by cases hy)
      have bl : A1.length < 500 := by
        have := (b3.ent hw).1
        simp at this
        omega
      refine aw_run 1 (F' := (175, [some (.ref m), some (.int (nI w)), some (.int (nI (500 * w))), some (.int (nI n)), some (.int (nI i)), some (.int (nI x.1.1.1)), some (.int (nI p)), some (.int (nI x.2)), some (.int (nI A1.length))], [.ref m])) rfl ?_
      refine aw_get rfl b1.o rfl ?_
      refine aw_run 3 (F' := (182, [some (.ref m), some (.int (nI w)), some (.int (nI (500 * w))), some (.int (nI n)), some (.int (nI i)), some (.int (nI x.1.1.1)), some (.int (nI p)), some (.int (nI x.2)), some (.int (nI A1.length))], [.int (nI (500 * w) + nI A1.length), .ref (m + 5)])) rfl ?_
      rw [nI_add]
      refine aw_run 1 (F' := (184, [some (.ref m), some (.int (nI w)), some (.int (nI (500 * w))), some (.int (nI n)), some (.int (nI i)), some (.int (nI x.1.1.1)), some (.int (nI p)), some (.int (nI x.2)), some (.int (nI A1.length))], [.int (nI x.1.1.1), .int (nI ((500 * w) + A1.length)), .ref (m + 5)])) rfl ?_
      refine ms_ist b1 rfl (k := 7) (n := 1000) (by decide) (by omega) (fun s1 hM1 => ?_)
      refine aw_run 1 (F' := (186, [some (.ref m), some (.int (nI w)), some (.int (nI (500 * w))), some (.int (nI n)), some (.int (nI i)), some (.int (nI x.1.1.1)), some (.int (nI p)), some (.int (nI x.2)), some (.int (nI A1.length))], [.ref m])) rfl ?_
      refine aw_get rfl hM1.o rfl ?_
      refine aw_run 3 (F' := (193, [some (.ref m), some (.int (nI w)), some (.int (nI (500 * w))), some (.int (nI n)), some (.int (nI i)), some (.int (nI x.1.1.1)), some (.int (nI p)), some (.int (nI x.2)), some (.int (nI A1.length))], [.int (nI (500 * w) + nI A1.length), .ref (m + 6)])) rfl ?_
      rw [nI_add]
      refine aw_run 1 (F' := (195, [some (.ref m), some (.int (nI w)), some (.int (nI (500 * w))), some (.int (nI n)), some (.int (nI i)), some (.int (nI x.1.1.1)), some (.int (nI p)), some (.int (nI x.2)), some (.int (nI A1.length))], [.int (nI p), .int (nI ((500 * w) + A1.length)), .ref (m + 6)])) rfl ?_
      refine ms_ist hM1 rfl (k := 8) (n := 1000) (by decide) (by omega) (fun s2 hM2 => ?_)
      refine aw_run 1 (F' := (197, [some (.ref m), some (.int (nI w)), some (.int (nI (500 * w))), some (.int (nI n)), some (.int (nI i)), some (.int (nI x.1.1.1)), some (.int (nI p)), some (.int (nI x.2)), some (.int (nI A1.length))], [.ref m])) rfl ?_
      refine aw_get rfl hM2.o rfl ?_
      refine aw_run 3 (F' := (204, [some (.ref m), some (.int (nI w)), some (.int (nI (500 * w))), some (.int (nI n)), some (.int (nI i)), some (.int (nI x.1.1.1)), some (.int (nI p)), some (.int (nI x.2)), some (.int (nI A1.length))], [.int (nI (500 * w) + nI A1.length), .ref (m + 7)])) rfl ?_
      rw [nI_add]
      refine aw_run 1 (F' := (206, [some (.ref m), some (.int (nI w)), some (.int (nI (500 * w))), some (.int (nI n)), some (.int (nI i)), some (.int (nI x.1.1.1)), some (.int (nI p)), some (.int (nI x.2)), some (.int (nI A1.length))], [.int (nI x.2), .int (nI ((500 * w) + A1.length)), .ref (m + 7)])) rfl ?_
      refine ms_ist hM2 rfl (k := 9) (n := 1000) (by decide) (by omega) (fun s3 hM3 => ?_)
      refine aw_run 1 (F' := (210, [some (.ref m), some (.int (nI w)), some (.int (nI (500 * w))), some (.int (nI n)), some (.int (nI i + nI 1)), some (.int (nI x.1.1.1)), some (.int (nI p)), some (.int (nI x.2)), some (.int (nI A1.length))], [])) rfl ?_
      rw [nI_add]
      refine aw_run 1 (F' := (27, [some (.ref m), some (.int (nI w)), some (.int (nI (500 * w))), some (.int (nI n)), some (.int (nI (i + 1))), some (.int (nI x.1.1.1)), some (.int (nI p)), some (.int (nI x.2)), some (.int (nI A1.length))], [])) rfl ?_
      have hxp : lvd (μ1 1) x.1 (8000 + 2000 * w) 2000 p := by rw [b2]; exact v3
      have hR1 := RS.put (L := A1) (T := A2 ++ X.drop (i + 1)) (h := h) (x := x) (p := p) b3 hw hxp
      have hio := ins_ok (a := x) (by rw [b4]; exact hso) b5 b6
      refine ih (i + 1) (A1 ++ x :: A2) _ _ _ _ _ _ (by omega) (by have := congrArg List.length b4; simp at this ⊢; omega) hio.1 ?_ hM3 ?_
      · rw [List.take_succ_eq_append_getElem hiX, hxx]
        refine sp_eq.tr ?_ hio.2
        rw [b4]
        exact sp_eq.app heq (sp_eq.rf _)
      · rw [show A1 ++ x :: A2 ++ X.drop (i + 1) = A1 ++ x :: (A2 ++ X.drop (i + 1)) by simp]
        exact hR1
theorem m_srC {S : sp_S} {w n : Nat} {Y : sp_X} (hw : w < 2) (hn : Y.length = n) (hQ : ∀ σ' μ', MS g m σ0 σ' μ' → RS (setl S w Y) μ' → Q (some (.int (nI (sp_cd Y n)))) σ') : ∀ (r i : Nat) (σ : am_H) (μ : sp_M) (x6 x7 x8 : Option Value), i + r = n → 1 ≤ i → MS g m σ0 σ μ → RS (setl S w Y) μ → AW g (d + 5) 96 (227, [some (.ref m), some (.int (nI w)), some (.int (nI (500 * w))), some (.int (nI n)), some (.int (nI (sp_cd Y i))), some (.int (nI i)), x6, x7, x8], []) σ Q := by
  intro r
  induction r with
  | zero =>
    intro i σ μ x6 x7 x8 hi h1i hM hR
    have hi' : i = n := by omega
    subst hi'
    have hl := (hR.ent hw).1
    refine aw_run 2 (F' := (230, [some (.ref m), some (.int (nI w)), some (.int (nI (500 * w))), some (.int (nI i)), some (.int (nI (sp_cd Y i))), some (.int (nI i)), x6, x7, x8], [.int (nI i), .int (nI i)])) rfl ?_
    refine an_cge rfl (by omega) (by omega) (fun h1 => ?_) (fun h1 => ?_)
    · refine aw_run 1 (F' := (298, [some (.ref m), some (.int (nI w)), some (.int (nI (500 * w))), some (.int (nI i)), some (.int (nI (sp_cd Y i))), some (.int (nI i)), x6, x7, x8], [.int (nI (sp_cd Y i))])) rfl ?_
      exact aw_iret rfl ⟨_, rfl, rfl⟩ (hQ _ _ hM hR)
    · omega
  | succ r ih =>
    intro i σ μ x6 x7 x8 hi h1i hM hR
    obtain ⟨u1, u2, u3⟩ := hR.ent hw
    have hb : Y[i]? = some Y[i] := List.getElem?_eq_getElem (by omega)
    have ha : Y[i - 1]? = some Y[i - 1] := List.getElem?_eq_getElem (by omega)
    generalize Y[i] = b at hb
    generalize Y[i - 1] = a at ha
    obtain ⟨v1, v2, v3⟩ := u3 i b hb
    obtain ⟨w1, w2, w3⟩ := u3 (i - 1) a ha
    have vb := v3.at (by omega)
    have va := w3.at (by omega)
    have hcd := sp_cd_le Y i
    have hst : ∀ e : Nat, (¬ sp_vc a.1 b.1 = 0 ∧ e = 1) ∨ (sp_vc a.1 b.1 = 0 ∧ e = 0) → sp_cd Y (i + 1) = sp_cd Y i + e := by
      intro e he
      show sp_cd Y i + (match Y[i - 1]?, Y[i]? with
        | some a, some b => if i = 0 ∨ ¬ sp_vc a.1 b.1 = 0 then 1 else 0
        | _, _ => 0) = _
      rw [ha, hb]
      rcases he with ⟨z1, z2⟩ | ⟨z1, z2⟩
      · simp only [if_pos (show i = 0 ∨ ¬ sp_vc a.1 b.1 = 0 from Or.inr z1), z2]
      · simp only [if_neg (show ¬ (i = 0 ∨ ¬ sp_vc a.1 b.1 = 0) from fun y => y.elim (by omega) (fun y => y z1)), z2]
    generalize hP : μ 8 (500 * w + i) = pb at v3 vb
    generalize hP2 : μ 8 (500 * w + (i - 1)) = pa at w3 va
    refine aw_run 2 (F' := (230, [some (.ref m), some (.int (nI w)), some (.int (nI (500 * w))), some (.int (nI n)), some (.int (nI (sp_cd Y i))), some (.int (nI i)), x6, x7, x8], [.int (nI n), .int (nI i)])) rfl ?_
    refine an_cge rfl (by omega) (by omega) (fun h1 => ?_) (fun h1 => ?_)
    · omega
    · refine aw_run 3 (F' := (237, [some (.ref m), some (.int (nI w)), some (.int (nI (500 * w))), some (.int (nI n)), some (.int (nI (sp_cd Y i))), some (.int (nI i)), x6, x7, x8], [.ref m, .ref m, .int (nI (sp_cd Y i))])) rfl ?_
      refine aw_get rfl hM.o rfl ?_
      refine aw_run 3 (F' := (244, [some (.ref m), some (.int (nI w)), some (.int (nI (500 * w))), some (.int (nI n)), some (.int (nI (sp_cd Y i))), some (.int (nI i)), x6, x7, x8], [.int (nI (500 * w) + nI i), .ref (m + 5), .ref m, .int (nI (sp_cd Y i))])) rfl ?_
      rw [nI_add]
      refine aw_run 2 (F' := (246, [some (.ref m), some (.int (nI w)), some (.int (nI (500 * w))), some (.int (nI n)), some (.int (nI (sp_cd Y i))), some (.int (nI i)), x6, x7, x8], [.int (nI ((500 * w) + i) - nI 1), .ref (m + 5), .ref m, .int (nI (sp_cd Y i))])) rfl ?_
      rw [nI_sub (by omega)]
      rw [show ((500 * w) + i) - 1 = 500 * w + (i - 1) from by omega]
      refine ms_ild hM rfl (k := 7) (n := 1000) (by decide) (by omega) ?_
      rw [show μ 7 (500 * w + (i - 1)) = a.1.1.1 from w1]
      refine aw_run 1 (F' := (248, [some (.ref m), some (.int (nI w)), some (.int (nI (500 * w))), some (.int (nI n)), some (.int (nI (sp_cd Y i))), some (.int (nI i)), x6, x7, x8], [.ref m, .int (nI a.1.1.1), .ref m, .int (nI (sp_cd Y i))])) rfl ?_
      refine aw_get rfl hM.o rfl ?_
      refine aw_run 3 (F' := (255, [some (.ref m), some (.int (nI w)), some (.int (nI (500 * w))), some (.int (nI n)), some (.int (nI (sp_cd Y i))), some (.int (nI i)), x6, x7, x8], [.int (nI (500 * w) + nI i), .ref (m + 6), .int (nI a.1.1.1), .ref m, .int (nI (sp_cd Y i))])) rfl ?_
      rw [nI_add]
      refine aw_run 2 (F' := (257, [some (.ref m), some (.int (nI w)), some (.int (nI (500 * w))), some (.int (nI n)), some (.int (nI (sp_cd Y i))), some (.int (nI i)), x6, x7, x8], [.int (nI ((500 * w) + i) - nI 1), .ref (m + 6), .int (nI a.1.1.1), .ref m, .int (nI (sp_cd Y i))])) rfl ?_
      rw [nI_sub (by omega)]
      rw [show ((500 * w) + i) - 1 = 500 * w + (i - 1) from by omega]
      refine ms_ild hM rfl (k := 8) (n := 1000) (by decide) (by omega) ?_
      rw [show μ 8 (500 * w + (i - 1)) = pa from hP2]
      refine aw_run 1 (F' := (259, [some (.ref m), some (.int (nI w)), some (.int (nI (500 * w))), some (.int (nI n)), some (.int (nI (sp_cd Y i))), some (.int (nI i)), x6, x7, x8], [.ref m, .int (nI pa), .int (nI a.1.1.1), .ref m, .int (nI (sp_cd Y i))])) rfl ?_
      refine aw_get rfl hM.o rfl ?_
      refine aw_run 3 (F' := (266, [some (.ref m), some (.int (nI w)), some (.int (nI (500 * w))), some (.int (nI n)), some (.int (nI (sp_cd Y i))), some (.int (nI i)), x6, x7, x8], [.int (nI (500 * w) + nI i), .ref (m + 5), .int (nI pa), .int (nI a.1.1.1), .ref m, .int (nI (sp_cd Y i))])) rfl ?_
      rw [nI_add]
      refine ms_ild hM rfl (k := 7) (n := 1000) (by decide) (by omega) ?_
      rw [show μ 7 ((500 * w) + i) = b.1.1.1 from v1]
      refine aw_run 1 (F' := (268, [some (.ref m), some (.int (nI w)), some (.int (nI (500 * w))), some (.int (nI n)), some (.int (nI (sp_cd Y i))), some (.int (nI i)), x6, x7, x8], [.ref m, .int (nI b.1.1.1), .int (nI pa), .int (nI a.1.1.1), .ref m, .int (nI (sp_cd Y i))])) rfl ?_
      refine aw_get rfl hM.o rfl ?_
      refine aw_run 3 (F' := (275, [some (.ref m), some (.int (nI w)), some (.int (nI (500 * w))), some (.int (nI n)), some (.int (nI (sp_cd Y i))), some (.int (nI i)), x6, x7, x8], [.int (nI (500 * w) + nI i), .ref (m + 6), .int (nI b.1.1.1), .int (nI pa), .int (nI a.1.1.1), .ref m, .int (nI (sp_cd Y i))])) rfl ?_
      rw [nI_add]
      refine ms_ild hM rfl (k := 8) (n := 1000) (by decide) (by omega) ?_
      rw [show μ 8 ((500 * w) + i) = pb from hP]
      refine aw_v [.ref m, .int (nI a.1.1.1), .int (nI pa), .int (nI b.1.1.1), .int (nI pb)] [.int (nI (sp_cd Y i))] rfl (by decide) rfl hM.o rfl rfl (Nat.le_of_ble_eq_true rfl) (Nat.le_of_ble_eq_true rfl) ?_
      refine m_order hM (v := a.1) (w := b.1) va vb (by have := w3.2.1; omega) (by have := v3.2.1; omega) w3.1 (fun s1 μ1 hM1 hag => ?_)
      show AW g _ 96 (279, [some (.ref m), some (.int (nI w)), some (.int (nI (500 * w))), some (.int (nI n)), some (.int (nI (sp_cd Y i))), some (.int (nI i)), x6, x7, x8], [.int (sp_vc a.1 b.1), .int (nI (sp_cd Y i))]) s1 _
      refine aw_zeq rfl (fun h2 => ?_) (fun h2 => ?_)
      · refine aw_run 2 (F' := (288, [some (.ref m), some (.int (nI w)), some (.int (nI (500 * w))), some (.int (nI n)), some (.int (nI (sp_cd Y i))), some (.int (nI i)), x6, x7, x8], [.int (nI (sp_cd Y i) + nI 0)])) rfl ?_
        rw [nI_add]
        refine aw_run 2 (F' := (293, [some (.ref m), some (.int (nI w)), some (.int (nI (500 * w))), some (.int (nI n)), some (.int (nI ((sp_cd Y i) + 0))), some (.int (nI i + nI 1)), x6, x7, x8], [])) rfl ?_
        rw [nI_add]
        refine aw_run 1 (F' := (227, [some (.ref m), some (.int (nI w)), some (.int (nI (500 * w))), some (.int (nI n)), some (.int (nI ((sp_cd Y i) + 0))), some (.int (nI (i + 1))), x6, x7, x8], [])) rfl ?_
        rw [show (sp_cd Y i) + 0 = sp_cd Y (i + 1) from (hst _ (by first | exact Or.inl ⟨by assumption, rfl⟩ | exact Or.inr ⟨by assumption, rfl⟩)).symm]
        exact ih (i + 1) _ _ _ _ _ (by omega) (by omega) hM1 (hR.ag hag (by decide))
      · refine aw_run 3 (F' := (288, [some (.ref m), some (.int (nI w)), some (.int (nI (500 * w))), some (.int (nI n)), some (.int (nI (sp_cd Y i))), some (.int (nI i)), x6, x7, x8], [.int (nI (sp_cd Y i) + nI 1)])) rfl ?_
        rw [nI_add]
        refine aw_run 2 (F' := (293, [some (.ref m), some (.int (nI w)), some (.int (nI (500 * w))), some (.int (nI n)), some (.int (nI ((sp_cd Y i) + 1))), some (.int (nI i + nI 1)), x6, x7, x8], [])) rfl ?_
        rw [nI_add]
        refine aw_run 1 (F' := (227, [some (.ref m), some (.int (nI w)), some (.int (nI (500 * w))), some (.int (nI n)), some (.int (nI ((sp_cd Y i) + 1))), some (.int (nI (i + 1))), x6, x7, x8], [])) rfl ?_
        rw [show (sp_cd Y i) + 1 = sp_cd Y (i + 1) from (hst _ (by first | exact Or.inl ⟨by assumption, rfl⟩ | exact Or.inr ⟨by assumption, rfl⟩)).symm]
        exact ih (i + 1) _ _ _ _ _ (by omega) (by omega) hM1 (hR.ag hag (by decide))
/-- sort -/
theorem m_sort (hM : MS g m σ0 σ μ) {S : sp_S} (hR : RS S μ) (which : Int32) (hQ : ∀ σ' μ', MS g m σ0 σ' μ' → RS (sp_sort S which).1 μ' → Q (some (.int (sp_sort S which).2)) σ') : AW g (d + 5) 96 (0, [some (.ref m), some (.int which), none, none, none, none, none, none, none], []) σ Q := by
  rcases sp_ix_c which (n := 2) (by omega) with ⟨hz, hi⟩ | ⟨w, hw, rfl, hi⟩
  · have e1 : sp_sort S which = (S, -1) := by unfold sp_sort; rw [hi]
    rw [e1] at hQ
    refine aw_run 1 (F' := (1, [some (.ref m), some (.int (which)), none, none, none, none, none, none, none], [.int (which)])) rfl ?_
    refine aw_zlt rfl (fun h1 => ?_) (fun h1 => ?_)
    · refine aw_run 1 (F' := (10, [some (.ref m), some (.int (which)), none, none, none, none, none, none, none], [.int ((-1))])) rfl ?_
      exact aw_iret rfl ⟨_, rfl, rfl⟩ (hQ _ _ hM hR)
    · refine aw_run 2 (F' := (6, [some (.ref m), some (.int (which)), none, none, none, none, none, none, none], [.int (nI 1), .int (which)])) rfl ?_
      refine aw_cle rfl (fun h2 => ?_) (fun h2 => ?_)
      · exact absurd (hz.resolve_left (by assumption)).2 (fun y => by have h34 : nI 2 ≤ nI 1 := Int32.le_trans y h2; exact absurd ((nI_leI (by omega) (by omega)).mp h34) (by omega))
      · refine aw_run 1 (F' := (10, [some (.ref m), some (.int (which)), none, none, none, none, none, none, none], [.int ((-1))])) rfl ?_
        exact aw_iret rfl ⟨_, rfl, rfl⟩ (hQ _ _ hM hR)
  · have e1 : sp_sort S (nI w) = (setl S w (sp_srt (S.2.2.2.1 w)), nI (sp_cd (sp_srt (S.2.2.2.1 w)) (sp_srt (S.2.2.2.1 w)).length)) := by unfold sp_sort; rw [hi]
    rw [e1] at hQ
    clear e1
    have hS : setl S w (S.2.2.2.1 w) = S := by
      unfold setl
      refine Prod.ext rfl (Prod.ext rfl (Prod.ext rfl (Prod.ext ?_ rfl)))
      funext j
      show (if j = w then S.2.2.2.1 w else S.2.2.2.1 j) = S.2.2.2.1 j
      by_cases e : j = w
      · rw [if_pos e, e]
      · rw [if_neg e]
    generalize hX : S.2.2.2.1 w = X at hQ hS
    have hR1 : RS (setl S w X) μ := by rw [hS]; exact hR
    obtain ⟨u1, u2, u3⟩ := hR1.ent hw
    have hsl := sp_srt_len X
    have cnt : ∀ (σ1 : am_H) (μ1 : sp_M) (i : Nat) (x5 x6 x7 x8 : Option Value), MS g m σ0 σ1 μ1 → RS (setl S w (sp_srt X)) μ1 → AW g (d + 5) 96 (213, [some (.ref m), some (.int (nI w)), some (.int (nI (500 * w))), some (.int (nI X.length)), some (.int (nI i)), x5, x6, x7, x8], []) σ1 Q := by
      intro σ1 μ1 i x5 x6 x7 x8 hM1 hR1
      by_cases h0 : X.length = 0
      · have hcd : sp_cd (sp_srt X) (sp_srt X).length = 0 := by rw [hsl, h0]; rfl
        rw [hcd] at hQ
        refine aw_run 1 (F' := (214, [some (.ref m), some (.int (nI w)), some (.int (nI (500 * w))), some (.int (nI X.length)), some (.int (nI i)), x5, x6, x7, x8], [.int (nI X.length)])) rfl ?_
        refine an_zle rfl (by omega) (fun h1 => ?_) (fun h1 => ?_)
        · refine aw_run 6 (F' := (230, [some (.ref m), some (.int (nI w)), some (.int (nI (500 * w))), some (.int (nI X.length)), some (.int (nI 0)), some (.int (nI 1)), x6, x7, x8], [.int (nI X.length), .int (nI 1)])) rfl ?_
          refine an_cge rfl (by omega) (by omega) (fun h2 => ?_) (fun h2 => ?_)
          · refine aw_run 1 (F' := (298, [some (.ref m), some (.int (nI w)), some (.int (nI (500 * w))), some (.int (nI X.length)), some (.int (nI 0)), some (.int (nI 1)), x6, x7, x8], [.int (nI 0)])) rfl ?_
            exact aw_iret rfl ⟨_, rfl, rfl⟩ (hQ _ _ hM1 hR1)
          · omega
        · omega
      · have hcd : sp_cd (sp_srt X) 1 = 1 := by
          obtain ⟨y, hy⟩ : ∃ y, (sp_srt X)[0]? = some y := ⟨_, List.getElem?_eq_getElem (by omega)⟩
          show 0 + (match (sp_srt X)[0 - 1]?, (sp_srt X)[0]? with
            | some a, some b => if 0 = 0 ∨ ¬ sp_vc a.1 b.1 = 0 then 1 else 0
            | _, _ => 0) = 1
          rw [show 0 - 1 = 0 from rfl, hy]
          simp
        refine aw_run 1 (F' := (214, [some (.ref m), some (.int (nI w)), some (.int (nI (500 * w))), some (.int (nI X.length)), some (.int (nI i)), x5, x6, x7, x8], [.int (nI X.length)])) rfl ?_
        refine an_zle rfl (by omega) (fun h1 => ?_) (fun h1 => ?_)
        · omega
        · refine aw_run 5 (F' := (227, [some (.ref m), some (.int (nI w)), some (.int (nI (500 * w))), some (.int (nI X.length)), some (.int (nI 1)), some (.int (nI 1)), x6, x7, x8], [])) rfl ?_
          have hgo := m_srC (g := g) (d := d) (σ0 := σ0) (m := m) (Q := Q) (S := S) (n := X.length) hw hsl (by rw [hsl] at hQ; exact hQ) (X.length - 1) 1 σ1 μ1 x6 x7 x8 (by omega) (Nat.le_refl _) hM1 hR1
          rw [hcd] at hgo
          exact hgo
    refine aw_run 1 (F' := (1, [some (.ref m), some (.int (nI w)), none, none, none, none, none, none, none], [.int (nI w)])) rfl ?_
    refine an_zlt rfl (by omega) ?_
    refine aw_run 2 (F' := (6, [some (.ref m), some (.int (nI w)), none, none, none, none, none, none, none], [.int (nI 1), .int (nI w)])) rfl ?_
    refine an_cle rfl (by omega) (by omega) (fun h2 => ?_) (fun h2 => ?_)
    · refine aw_run 3 (F' := (16, [some (.ref m), some (.int (nI w)), none, none, none, none, none, none, none], [.int (nI 500 * nI w)])) rfl ?_
      rw [nI_mul]
      refine aw_run 2 (F' := (18, [some (.ref m), some (.int (nI w)), some (.int (nI (500 * w))), none, none, none, none, none, none], [.ref m])) rfl ?_
      refine aw_get rfl hM.o rfl ?_
      refine aw_run 1 (F' := (22, [some (.ref m), some (.int (nI w)), some (.int (nI (500 * w))), none, none, none, none, none, none], [.int (nI w), .ref (m + 4)])) rfl ?_
      refine ms_ild hM rfl (k := 6) (n := 2) (by decide) (by omega) ?_
      rw [show μ 6 w = X.length from u2]
      refine aw_run 3 (F' := (27, [some (.ref m), some (.int (nI w)), some (.int (nI (500 * w))), some (.int (nI X.length)), some (.int (nI 1)), none, none, none, none], [])) rfl ?_
      by_cases h0 : X.length = 0
      · have hs0 : sp_srt X = X := by rw [List.length_eq_zero_iff.mp h0]; rfl
        have hR2 : RS (setl S w (sp_srt X)) μ := by rw [hs0]; exact hR1
        refine aw_run 2 (F' := (30, [some (.ref m), some (.int (nI w)), some (.int (nI (500 * w))), some (.int (nI X.length)), some (.int (nI 1)), none, none, none, none], [.int (nI X.length), .int (nI 1)])) rfl ?_
        refine an_cge rfl (by omega) (by omega) (fun _ => ?_) (fun z => absurd z (by omega))
        exact cnt σ μ 1 _ _ _ _ hM hR2
      · refine m_srO (X := X) (n := X.length) hw rfl (fun σ1 μ1 x5 x6 x7 x8 hM1 hR2 => cnt σ1 μ1 X.length x5 x6 x7 x8 hM1 hR2) (X.length - 1) 1 (X.take 1) σ μ _ _ _ _ (by omega) (by rw [List.length_take]; omega) ?_ (sp_eq.rf _) hM (by rw [List.take_append_drop]; exact hR1)
        cases X with
        | nil => exact absurd rfl h0
        | cons y X => exact List.pairwise_singleton _ _
    · omega
end P86
