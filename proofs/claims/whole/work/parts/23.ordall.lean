set_option maxHeartbeats 4000000 in
theorem ord_all : ∀ c : sp_F, ordL c := by
  intro c
  induction c with
  | leaf =>
    intro g d σ Q a a2 b b2 cnt cnt2 fi la nx fi2 la2 nx2 c' o o2 k dep x5 h1 h2 hc hc2 e1 e2 hdep hd hQ
    obtain ⟨d, rfl⟩ : ∃ d', d = d' + 1 := ⟨d - 1, by omega⟩
    have ho : o = none := hc
    subst ho
    refine aw_run 1 (F' := (12, [some (.ref a), some (.ref a2), some (.int (nI dep)), some .null, some (va_rf o2), x5], [.null])) rfl ?_
    refine aw_ifnull_n rfl ?_
    refine c_ofEend h1 h2 ?_
    have e : sp_nc cnt cnt2 = sp_fc .leaf c' := by
      cases c' with
      | leaf =>
        simp only [sp_len] at e1 e2
        simp [sp_fc, sp_nc, e1, e2]
      | inner s l v ch r =>
        simp only [sp_len] at e1 e2
        have hlt : cnt < cnt2 := by omega
        simp [sp_fc, sp_nc, hlt]
    rw [e]
    exact hQ
  | inner s1 l1 v1 ch r ihc ihr =>
    intro g d σ Q a a2 b b2 cnt cnt2 fi la nx fi2 la2 nx2 c' o o2 k dep x5 h1 h2 hc hc2 e1 e2 hdep hd hQ
    have hh1 : sp_hgt ch + 1 ≤ sp_hgt (.inner s1 l1 v1 ch r : sp_F) := Nat.le_max_left _ _
    have hh2 : sp_hgt r ≤ sp_hgt (.inner s1 l1 v1 ch r : sp_F) := Nat.le_max_right _ _
    obtain ⟨d, rfl⟩ : ∃ d', d = d' + 3 := ⟨d - 3, by omega⟩
    obtain ⟨p1, fi1, la1, nx1, ho, hn1, hf1, hr1⟩ := hc
    subst ho
    refine aw_run 1 (F' := (12, [some (.ref a), some (.ref a2), some (.int (nI dep)), some (.ref p1), some (va_rf o2), x5], [.ref p1])) rfl ?_
    refine aw_ifnull_r rfl ?_
    cases c' with
    | leaf =>
      have ho2 : o2 = none := hc2
      subst ho2
      refine aw_run 1 (F' := (17, [some (.ref a), some (.ref a2), some (.int (nI dep)), some (.ref p1), some .null, x5], [.null])) rfl ?_
      refine aw_ifnull_n rfl ?_
      refine c_ofEend h1 h2 ?_
      simp only [sp_len] at e1 e2
      have hlt : ¬ cnt < cnt2 := by omega
      have hne : ¬ cnt = cnt2 := by omega
      have e : sp_nc cnt cnt2 = 1 := by simp [sp_nc, hlt, hne]
      rw [e]
      exact hQ
    | inner s2 l2 v2 ch2 r2 =>
      obtain ⟨p2, fj1, lb1, ny1, ho2, hn2, hf2, hr2⟩ := hc2
      subst ho2
      have hn1' := hn1
      have hn2' := hn2
      obtain ⟨k1, m1, na, ba, num, ha, hnum, hna, hba⟩ := hn1'
      obtain ⟨k2, m2, na2, ba2, num2, ha2, hnum2, hna2, hba2⟩ := hn2'
      refine aw_run 1 (F' := (17, [some (.ref a), some (.ref a2), some (.int (nI dep)), some (.ref p1), some (.ref p2), x5], [.ref p2])) rfl ?_
      refine aw_ifnull_r rfl ?_
      have fin : ∀ q : Int32, Q (some (.int q)) σ → q ≠ 0 → AW g (d + 3) 34 (69, [some (.ref a), some (.ref a2), some (.int (nI dep)), some (.ref p1), some (.ref p2), some (.int q)], []) σ Q := by
        intro q hq hq0
        refine aw_run 1 (F' := (71, [some (.ref a), some (.ref a2), some (.int (nI dep)), some (.ref p1), some (.ref p2), some (.int q)], [.int q])) rfl ?_
        refine aw_zeq rfl (fun h4 => absurd h4 hq0) (fun h4 => ?_)
        refine aw_run 1 (F' := (76, [some (.ref a), some (.ref a2), some (.int (nI dep)), some (.ref p1), some (.ref p2), some (.int q)], [.int q])) rfl ?_
        exact aw_iret rfl ⟨_, rfl, rfl⟩ hq
      have fin2 : ∀ q : Int32, Q (some (.int q)) σ → q ≠ 0 → AW g (d + 3) 34 (53, [some (.ref a), some (.ref a2), some (.int (nI dep)), some (.ref p1), some (.ref p2), some (.int q)], []) σ Q := by
        intro q hq hq0
        refine aw_run 1 (F' := (55, [some (.ref a), some (.ref a2), some (.int (nI dep)), some (.ref p1), some (.ref p2), some (.int q)], [.int q])) rfl ?_
        refine aw_zne rfl (fun h4 => ?_) (fun h4 => absurd hq0 h4)
        exact fin q hq hq0
      refine aw_run 1 (F' := (21, [some (.ref a), some (.ref a2), some (.int (nI dep)), some (.ref p1), some (.ref p2), x5], [.ref p1])) rfl ?_
      refine aw_v [.ref p1] [] rfl (by decide) rfl ha rfl rfl (Nat.le_of_ble_eq_true rfl) (Nat.le_of_ble_eq_true rfl) ?_
      refine c_rank hn1 ?_
      refine aw_run 1 (F' := (26, [some (.ref a), some (.ref a2), some (.int (nI dep)), some (.ref p1), some (.ref p2), x5], [.ref p2, .int (nI (sp_cls l1.1))])) rfl ?_
      refine aw_v [.ref p2] [.int (nI (sp_cls l1.1))] rfl (by decide) rfl ha2 rfl rfl (Nat.le_of_ble_eq_true rfl) (Nat.le_of_ble_eq_true rfl) ?_
      refine c_rank hn2 ?_
      refine aw_s [.int (nI (sp_cls l1.1)), .int (nI (sp_cls l2.1))] [] rfl ⟨by decide, by decide⟩ rfl rfl (Nat.le_of_ble_eq_true rfl) (Nat.le_of_ble_eq_true rfl) ?_
      refine c_icmpN (sp_cls_lt _) (sp_cls_lt _) ?_
      refine aw_run 2 (F' := (36, [some (.ref a), some (.ref a2), some (.int (nI dep)), some (.ref p1), some (.ref p2), some (.int (sp_nc (sp_cls l1.1) (sp_cls l2.1)))], [.int (sp_nc (sp_cls l1.1) (sp_cls l2.1))])) rfl ?_
      simp only [sp_fc] at hQ
      have hvc : sp_nc (sp_cls l1.1) (sp_cls l2.1) = 0 → sp_vc (l1, ch) (l2, ch2) = sp_or (sp_ic l1.2.2.1 l2.2.2.1) (sp_or (sp_bc l1.2.2.2 l2.2.2.2) (sp_fc ch ch2)) := by
        intro q
        unfold sp_vc
        dsimp only
        rw [q, sp_or_0]
      rcases Decidable.em (sp_nc (sp_cls l1.1) (sp_cls l2.1) = 0) with q0 | q0
      · rw [← hvc q0, q0, sp_or_0] at hQ
        rw [q0]
        refine aw_zne rfl (fun h4 => absurd rfl h4) (fun _ => ?_)
        refine aw_run 1 (F' := (40, [some (.ref a), some (.ref a2), some (.int (nI dep)), some (.ref p1), some (.ref p2), some (.int 0)], [.ref p1])) rfl ?_
        refine aw_get rfl ha rfl ?_
        refine aw_run 1 (F' := (45, [some (.ref a), some (.ref a2), some (.int (nI dep)), some (.ref p1), some (.ref p2), some (.int 0)], [.ref p2, .ref na])) rfl ?_
        refine aw_get rfl ha2 rfl ?_
        refine aw_s [.ref na, .ref na2] [] rfl ⟨by decide, by decide⟩ rfl rfl (Nat.le_of_ble_eq_true rfl) (Nat.le_of_ble_eq_true rfl) ?_
        refine c_ofBytes hna hna2 ?_
        refine aw_run 2 (F' := (55, [some (.ref a), some (.ref a2), some (.int (nI dep)), some (.ref p1), some (.ref p2), some (.int (sp_bc l1.2.1 l2.2.1))], [.int (sp_bc l1.2.1 l2.2.1)])) rfl ?_
        generalize sp_bc l1.2.1 l2.2.1 = r1 at hQ ⊢
        refine aw_zne rfl (fun q1 => ?_) (fun q1 => ?_)
        · rw [sp_or_n q1] at hQ
          exact fin r1 hQ q1
        · have q1 : r1 = 0 := Decidable.of_not_not q1
          subst q1
          rw [sp_or_0] at hQ
          refine aw_run 5 (F' := (64, [some (.ref a), some (.ref a2), some (.int (nI dep)), some (.ref p1), some (.ref p2), some (.int 0)], [.int (nI dep + 1), .ref p2, .ref p1])) rfl ?_
          rw [nI_1]
          refine aw_s [.ref p1, .ref p2, .int (nI (dep + 1))] [] rfl ⟨by decide, by decide⟩ rfl rfl (Nat.le_of_ble_eq_true rfl) (Nat.le_of_ble_eq_true rfl) ?_
          refine c_ofValuesL ihc hn1 hn2 hf1 hf2 rfl rfl (by omega) (by omega) ?_
          refine aw_run 1 (F' := (69, [some (.ref a), some (.ref a2), some (.int (nI dep)), some (.ref p1), some (.ref p2), some (.int (sp_vc (l1, ch) (l2, ch2)))], [])) rfl ?_
          generalize sp_vc (l1, ch) (l2, ch2) = r2' at hQ ⊢
          rcases Decidable.em (r2' = 0) with q2 | q2
          · subst q2
            rw [sp_or_0] at hQ
            refine aw_run 1 (F' := (71, [some (.ref a), some (.ref a2), some (.int (nI dep)), some (.ref p1), some (.ref p2), some (.int 0)], [.int 0])) rfl ?_
            refine aw_zeq rfl (fun _ => ?_) (fun h4 => absurd rfl h4)
            refine aw_run 1 (F' := (78, [some (.ref a), some (.ref a2), some (.int (nI dep)), some (.ref p1), some (.ref p2), some (.int 0)], [.ref p1])) rfl ?_
            refine aw_get rfl ha rfl ?_
            simp only [sp_len] at e1 e2
            have key := ihr g (d + 3) σ Q a a2 b b2 cnt cnt2 fi la nx fi2 la2 nx2 r2 nx1 ny1 (k + 1) dep (some (.int 0)) h1 h2 hr1 hr2 (by omega) (by omega) (by omega) (by omega) hQ
            rcases nx1 with _ | x
            · refine aw_run 2 (F' := (84, [some (.ref a), some (.ref a2), some (.int (nI dep)), some .null, some (.ref p2), some (.int 0)], [.ref p2])) rfl ?_
              refine aw_get rfl ha2 rfl ?_
              rcases ny1 with _ | x2
              · refine aw_run 2 (F' := (11, [some (.ref a), some (.ref a2), some (.int (nI dep)), some .null, some .null, some (.int 0)], [])) rfl ?_
                exact key
              · refine aw_run 2 (F' := (11, [some (.ref a), some (.ref a2), some (.int (nI dep)), some .null, some (.ref x2), some (.int 0)], [])) rfl ?_
                exact key
            · refine aw_run 2 (F' := (84, [some (.ref a), some (.ref a2), some (.int (nI dep)), some (.ref x), some (.ref p2), some (.int 0)], [.ref p2])) rfl ?_
              refine aw_get rfl ha2 rfl ?_
              rcases ny1 with _ | x2
              · refine aw_run 2 (F' := (11, [some (.ref a), some (.ref a2), some (.int (nI dep)), some (.ref x), some .null, some (.int 0)], [])) rfl ?_
                exact key
              · refine aw_run 2 (F' := (11, [some (.ref a), some (.ref a2), some (.int (nI dep)), some (.ref x), some (.ref x2), some (.int 0)], [])) rfl ?_
                exact key
          · rw [sp_or_n q2] at hQ
            exact fin r2' hQ q2
      · rw [sp_or_n q0] at hQ
        refine aw_zne rfl (fun _ => ?_) (fun h4 => absurd q0 h4)
        exact fin2 _ hQ q0
/-- Order.ofValues of two values in the heap -/
theorem c_ofValues {g : Nat × Nat} {d : Nat} {σ : am_H} {Q : Option Value → am_H → Prop} {a a2 : Nat} {v w : sp_V} {dep : Nat} (h1 : vl σ.1 a v) (h2 : vl σ.1 a2 w) (hdep : dep + sp_hgt v.2 ≤ 17) (hd : 3 * sp_hgt v.2 + 5 ≤ d) (hQ : Q (some (.int (sp_vc v w))) σ) : AW g d 32 (0, [some (.ref a), some (.ref a2), some (.int (nI dep)), none], []) σ Q := by
  obtain ⟨fi, la, nx, n1, f1⟩ := h1
  obtain ⟨fi2, la2, nx2, n2, f2⟩ := h2
  exact c_ofValuesL (ord_all v.2) n1 n2 f1 f2 rfl rfl hdep hd hQ
