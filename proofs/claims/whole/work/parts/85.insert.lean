theorem nI_dec {a b : Nat} {z : Int32} (h : b ≤ a) (hz : z = -(nI b)) : nI a + z = nI (a - b) := by
  rw [hz, ← nI_sub h, Int32.sub_eq_add_neg]
/-! sorting by insertion -/
theorem so_last {A : sp_X} {y a : sp_I} (h : sp_so (A ++ [y])) (hy : sp_lq y a) : ∀ x ∈ A ++ [y], sp_lq x a := by
  intro x hx
  rcases List.mem_append.mp hx with z | z
  · exact sp_lq_tr ((List.pairwise_append.mp h).2.2 x z y (by simp)) hy
  · rw [List.mem_singleton.mp z]
    exact hy
theorem ins_ok {A1 A2 : sp_X} {a : sp_I} (h : sp_so (A1 ++ A2)) (h2 : ∀ y ∈ A2, sp_vc y.1 a.1 = 1) (h1 : A1 = [] ∨ ∃ A0 y, A1 = A0 ++ [y] ∧ sp_lq y a) : sp_so (A1 ++ a :: A2) ∧ sp_eq ((A1 ++ A2) ++ [a]) (A1 ++ a :: A2) := by
  have hp := List.pairwise_append.mp h
  have hl : ∀ x ∈ A1, sp_lq x a := by
    rcases h1 with z | ⟨A0, y, z, hy⟩
    · rw [z]; intro x hx; cases hx
    · rw [z]
      exact so_last (by rw [← z]; exact hp.1) hy
  have hr : ∀ y ∈ A2, sp_lq a y := by
    intro y hy
    have := sp_vc_neg y.1 a.1
    rw [h2 y hy] at this
    exact sp_lq_def.mpr (Or.inl this)
  refine ⟨?_, fun v => ?_⟩
  · refine List.pairwise_append.mpr ⟨hp.1, List.pairwise_cons.mpr ⟨hr, hp.2.1⟩, fun x hx y hy => ?_⟩
    rcases List.mem_cons.mp hy with z | z
    · rw [z]; exact hl x hx
    · exact hp.2.2 x hx y z
  · rw [List.append_assoc, List.filter_append, List.filter_append, List.filter_append, List.filter_cons]
    congr 1
    by_cases hv : sp_sm v a = true
    · rw [if_pos hv]
      have hn : A2.filter (sp_sm v) = [] := by
        apply List.filter_eq_nil_iff.mpr
        intro y hy z
        have z1 := sp_sm_sym z
        have z2 := sp_lq_tr (sp_sm_lq z1) (sp_sm_lq hv)
        have z3 := sp_lq_def.mp z2
        rw [h2 y hy] at z3
        rcases z3 with z3 | z3 <;> exact absurd z3 (by decide)
      rw [hn]
      simp [hv]
    · rw [if_neg hv]
      simp [hv]
theorem setl_at (S : sp_S) (w : Nat) (Y : sp_X) : (setl S w Y).2.2.2.1 w = Y := if_pos rfl
theorem setl_set (S : sp_S) (w : Nat) (Y Z : sp_X) : setl (setl S w Y) w Z = setl S w Z := by
  unfold setl
  simp only [Prod.mk.injEq, true_and, and_true]
  funext j
  by_cases h : j = w
  · rw [if_pos h, if_pos h]
  · rw [if_neg h, if_neg h, if_neg h]
theorem RS.ent {S : sp_S} {μ : sp_M} {w : Nat} {Y : sp_X} (h : RS (setl S w Y) μ) (hw : w < 2) : Y.length ≤ 500 ∧ μ 6 w = Y.length ∧ ∀ k x, Y[k]? = some x → μ 7 (500 * w + k) = x.1.1.1 ∧ μ 9 (500 * w + k) = x.2 ∧ lvd (μ 1) x.1 (8000 + 2000 * w) 2000 (μ 8 (500 * w + k)) := by
  have := h.2.2.2.2.2 w hw
  rw [setl_at] at this
  exact this
theorem app_ne {α : Type} {L T : List α} {h h' : α} {k : Nat} (hk : k ≠ L.length) : (L ++ h :: T)[k]? = (L ++ h' :: T)[k]? := by
  by_cases q : k < L.length
  · rw [List.getElem?_append_left q, List.getElem?_append_left q]
  · rw [List.getElem?_append_right (by omega), List.getElem?_append_right (by omega)]
    obtain ⟨j, hj⟩ : ∃ j, k - L.length = j + 1 := ⟨k - L.length - 1, by omega⟩
    rw [hj]
    rfl
theorem app_eq {α : Type} {L T : List α} {h : α} : (L ++ h :: T)[L.length]? = some h := by
  rw [List.getElem?_append_right (Nat.le_refl _), Nat.sub_self]
  rfl
theorem RS.put {S : sp_S} {μ : sp_M} {w : Nat} {L T : sp_X} {h x : sp_I} {p : Nat} (hR : RS (setl S w (L ++ h :: T)) μ) (hw : w < 2) (hx : lvd (μ 1) x.1 (8000 + 2000 * w) 2000 p) : RS (setl S w (L ++ x :: T)) (mup (mup (mup μ 7 (500 * w + L.length) x.1.1.1) 8 (500 * w + L.length) p) 9 (500 * w + L.length) x.2) := by
  obtain ⟨r1, r2, r3, r4, r5, r6⟩ := hR
  have hlen : (L ++ x :: T).length = (L ++ h :: T).length := by simp
  have hL := (r6 w hw).1
  rw [setl_at] at hL
  have hL2 : L.length < 500 := by simp at hL; omega
  refine ⟨r1, r2, r3, r4, r5, fun v hv => ?_⟩
  obtain ⟨u1, u2, u3⟩ := r6 v hv
  rw [mup_k _ _ _ (show (6 : Nat) ≠ 9 by decide), mup_k _ _ _ (show (6 : Nat) ≠ 8 by decide), mup_k _ _ _ (show (6 : Nat) ≠ 7 by decide), mup_k _ _ _ (show (7 : Nat) ≠ 9 by decide), mup_k _ _ _ (show (7 : Nat) ≠ 8 by decide), mup_k _ _ _ (show (8 : Nat) ≠ 9 by decide), mup_k _ _ _ (show (1 : Nat) ≠ 9 by decide), mup_k _ _ _ (show (1 : Nat) ≠ 8 by decide), mup_k _ _ _ (show (1 : Nat) ≠ 7 by decide)]
  by_cases e : v = w
  · subst e
    rw [setl_at] at u1 u2 u3 ⊢
    refine ⟨by rw [hlen]; exact u1, by rw [hlen]; exact u2, fun k y hy => ?_⟩
    by_cases ek : k = L.length
    · subst ek
      rw [app_eq] at hy
      cases hy
      rw [mup_s, mup_s, mup_s]
      exact ⟨rfl, rfl, hx⟩
    · rw [app_ne (h' := h) ek] at hy
      have hne : 500 * v + k ≠ 500 * v + L.length := by omega
      rw [mup_i _ _ _ hne, mup_i _ _ _ hne, mup_i _ _ _ hne, mup_k _ _ _ (show (9 : Nat) ≠ 8 by decide), mup_k _ _ _ (show (9 : Nat) ≠ 7 by decide), mup_k _ _ _ (show (8 : Nat) ≠ 7 by decide)]
      exact u3 k y hy
  · have h1 : (setl S w (L ++ x :: T)).2.2.2.1 v = (setl S w (L ++ h :: T)).2.2.2.1 v := by
      show (if v = w then _ else _) = (if v = w then _ else _)
      rw [if_neg e, if_neg e]
    rw [h1]
    refine ⟨u1, u2, fun k y hy => ?_⟩
    have hk : k < 500 := by
      have := (List.getElem?_eq_some_iff.mp hy).1
      omega
    have hne : 500 * v + k ≠ 500 * w + L.length := by omega
    rw [mup_i _ _ _ hne, mup_i _ _ _ hne, mup_i _ _ _ hne, mup_k _ _ _ (show (9 : Nat) ≠ 8 by decide), mup_k _ _ _ (show (9 : Nat) ≠ 7 by decide), mup_k _ _ _ (show (8 : Nat) ≠ 7 by decide)]
    exact u3 k y hy
section P85
variable {g : Nat × Nat} {d : Nat} {σ0 σ : am_H} {Q : Option Value → am_H → Prop} {m : Nat} {μ : sp_M}
theorem m_srI {S : sp_S} {w n i p : Nat} {x : sp_I} {A R : sp_X} {β : Nat → Nat} (hw : w < 2) (hx : lvd β x.1 (8000 + 2000 * w) 2000 p) (hC : ∀ (σ : am_H) (μ : sp_M) (A1 A2 : sp_X) (h : sp_I), MS g m σ0 σ μ → μ 1 = β → RS (setl S w (A1 ++ h :: (A2 ++ R))) μ → A1 ++ A2 = A → (∀ y ∈ A2, sp_vc y.1 x.1 = 1) → (A1 = [] ∨ ∃ A0 y, A1 = A0 ++ [y] ∧ sp_lq y x) → AW g (d + 5) 96 (174, [some (.ref m), some (.int (nI w)), some (.int (nI (500 * w))), some (.int (nI n)), some (.int (nI i)), some (.int (nI x.1.1.1)), some (.int (nI p)), some (.int (nI x.2)), some (.int (nI A1.length))], []) σ Q) : ∀ (j : Nat) (σ : am_H) (μ : sp_M) (A1 A2 : sp_X) (h : sp_I), A1.length = j → MS g m σ0 σ μ → μ 1 = β → RS (setl S w (A1 ++ h :: (A2 ++ R))) μ → A1 ++ A2 = A → (∀ y ∈ A2, sp_vc y.1 x.1 = 1) → AW g (d + 5) 96 (70, [some (.ref m), some (.int (nI w)), some (.int (nI (500 * w))), some (.int (nI n)), some (.int (nI i)), some (.int (nI x.1.1.1)), some (.int (nI p)), some (.int (nI x.2)), some (.int (nI j))], []) σ Q := by
  intro j
  induction j with
  | zero =>
    intro σ μ A1 A2 h hl hM hβ hR hA hgA
    have hA1 : A1 = [] := List.length_eq_zero_iff.mp hl
    have hc := hC σ μ A1 A2 h hM hβ hR hA hgA (Or.inl hA1)
    rw [hl] at hc
    refine aw_run 1 (F' := (72, [some (.ref m), some (.int (nI w)), some (.int (nI (500 * w))), some (.int (nI n)), some (.int (nI i)), some (.int (nI x.1.1.1)), some (.int (nI p)), some (.int (nI x.2)), some (.int (nI 0))], [.int (nI 0)])) rfl ?_
    refine an_zle rfl (by omega) (fun _ => ?_) (fun z => absurd z (by omega))
    exact hc
  | succ j ih =>
    intro σ μ A1 A2 h hl hM hβ hR hA hgA
    obtain ⟨A0, y, rfl⟩ : ∃ A0 y, A1 = A0 ++ [y] := ⟨A1.dropLast, A1.getLast (by intro z; rw [z] at hl; cases hl), (List.dropLast_concat_getLast _).symm⟩
    have hl0 : A0.length = j := by simpa using hl
    obtain ⟨u1, u2, u3⟩ := hR.ent hw
    have hL : ((A0 ++ [y]) ++ h :: (A2 ++ R)).length = A0.length + 1 + (1 + (A2.length + R.length)) := by simp; omega
    have hy : ((A0 ++ [y]) ++ h :: (A2 ++ R))[j]? = some y := by rw [List.append_assoc, ← hl0]; exact app_eq
    obtain ⟨v1, v2, v3⟩ := u3 j y hy
    have vy := v3.at (by omega)
    have ky := vat_kd vy
    have hx' : lvd (μ 1) x.1 (8000 + 2000 * w) 2000 p := by rw [hβ]; exact hx
    have vx := hx'.at (by omega)
    have kx := vat_kd vx
    generalize hP : μ 8 (500 * w + j) = py at v3 vy
    refine aw_run 1 (F' := (72, [some (.ref m), some (.int (nI w)), some (.int (nI (500 * w))), some (.int (nI n)), some (.int (nI i)), some (.int (nI x.1.1.1)), some (.int (nI p)), some (.int (nI x.2)), some (.int (nI (j + 1)))], [.int (nI (j + 1))])) rfl ?_
    refine an_zle rfl (by omega) (fun h1 => ?_) (fun h1 => ?_)
    · omega
    · refine aw_run 2 (F' := (77, [some (.ref m), some (.int (nI w)), some (.int (nI (500 * w))), some (.int (nI n)), some (.int (nI i)), some (.int (nI x.1.1.1)), some (.int (nI p)), some (.int (nI x.2)), some (.int (nI (j + 1)))], [.ref m, .ref m])) rfl ?_
      refine aw_get rfl hM.o rfl ?_
      refine aw_run 3 (F' := (84, [some (.ref m), some (.int (nI w)), some (.int (nI (500 * w))), some (.int (nI n)), some (.int (nI i)), some (.int (nI x.1.1.1)), some (.int (nI p)), some (.int (nI x.2)), some (.int (nI (j + 1)))], [.int (nI (500 * w) + nI (j + 1)), .ref (m + 5), .ref m])) rfl ?_
      rw [nI_add]
      refine aw_run 2 (F' := (86, [some (.ref m), some (.int (nI w)), some (.int (nI (500 * w))), some (.int (nI n)), some (.int (nI i)), some (.int (nI x.1.1.1)), some (.int (nI p)), some (.int (nI x.2)), some (.int (nI (j + 1)))], [.int (nI ((500 * w) + (j + 1)) - nI 1), .ref (m + 5), .ref m])) rfl ?_
      rw [nI_sub (by omega)]
      rw [show ((500 * w) + (j + 1)) - 1 = 500 * w + j from rfl]
      refine ms_ild hM rfl (k := 7) (n := 1000) (by decide) (by omega) ?_
      rw [show μ 7 (500 * w + j) = y.1.1.1 from v1]
      refine aw_run 1 (F' := (88, [some (.ref m), some (.int (nI w)), some (.int (nI (500 * w))), some (.int (nI n)), some (.int (nI i)), some (.int (nI x.1.1.1)), some (.int (nI p)), some (.int (nI x.2)), some (.int (nI (j + 1)))], [.ref m, .int (nI y.1.1.1), .ref m])) rfl ?_
      refine aw_get rfl hM.o rfl ?_
      refine aw_run 3 (F' := (95, [some (.ref m), some (.int (nI w)), some (.int (nI (500 * w))), some (.int (nI n)), some (.int (nI i)), some (.int (nI x.1.1.1)), some (.int (nI p)), some (.int (nI x.2)), some (.int (nI (j + 1)))], [.int (nI (500 * w) + nI (j + 1)), .ref (m + 6), .int (nI y.1.1.1), .ref m])) rfl ?_
      rw [nI_add]
      refine aw_run 2 (F' := (97, [some (.ref m), some (.int (nI w)), some (.int (nI (500 * w))), some (.int (nI n)), some (.int (nI i)), some (.int (nI x.1.1.1)), some (.int (nI p)), some (.int (nI x.2)), some (.int (nI (j + 1)))], [.int (nI ((500 * w) + (j + 1)) - nI 1), .ref (m + 6), .int (nI y.1.1.1), .ref m])) rfl ?_
      rw [nI_sub (by omega)]
      rw [show ((500 * w) + (j + 1)) - 1 = 500 * w + j from rfl]
      refine ms_ild hM rfl (k := 8) (n := 1000) (by decide) (by omega) ?_
      rw [show μ 8 (500 * w + j) = py from hP]
      refine aw_run 2 (F' := (102, [some (.ref m), some (.int (nI w)), some (.int (nI (500 * w))), some (.int (nI n)), some (.int (nI i)), some (.int (nI x.1.1.1)), some (.int (nI p)), some (.int (nI x.2)), some (.int (nI (j + 1)))], [.int (nI p), .int (nI x.1.1.1), .int (nI py), .int (nI y.1.1.1), .ref m])) rfl ?_
      refine aw_v [.ref m, .int (nI y.1.1.1), .int (nI py), .int (nI x.1.1.1), .int (nI p)] [] rfl (by decide) rfl hM.o rfl rfl (Nat.le_of_ble_eq_true rfl) (Nat.le_of_ble_eq_true rfl) ?_
      refine m_order hM (v := y.1) (w := x.1) vy vx (by have := v3.2.1; omega) (by have := hx.2.1; omega) v3.1 (fun s1 μ1 hM1 hag => ?_)
      have t1 : μ1 7 (500 * w + j) = y.1.1.1 := by rw [hag 7 (by decide)]; exact v1
      have t2 : μ1 8 (500 * w + j) = py := by rw [hag 8 (by decide)]; exact hP
      have t3 : μ1 9 (500 * w + j) = y.2 := by rw [hag 9 (by decide)]; exact v2
      have hR1 := hR.ag hag (by decide)
      have hβ1 : μ1 1 = β := by rw [hag 1 (by decide)]; exact hβ
      show AW g _ 96 (105, [some (.ref m), some (.int (nI w)), some (.int (nI (500 * w))), some (.int (nI n)), some (.int (nI i)), some (.int (nI x.1.1.1)), some (.int (nI p)), some (.int (nI x.2)), some (.int (nI (j + 1)))], [.int (sp_vc y.1 x.1)]) s1 _
      refine aw_zle rfl (fun h2 => ?_) (fun h2 => ?_)
      · have hle : sp_lq y x := h2
        have hc := hC s1 μ1 (A0 ++ [y]) A2 h hM1 hβ1 hR1 hA hgA (Or.inr ⟨A0, y, rfl, (by assumption)⟩)
        rw [hl] at hc
        exact hc
      · have h2' := h2
        refine aw_run 1 (F' := (109, [some (.ref m), some (.int (nI w)), some (.int (nI (500 * w))), some (.int (nI n)), some (.int (nI i)), some (.int (nI x.1.1.1)), some (.int (nI p)), some (.int (nI x.2)), some (.int (nI (j + 1)))], [.ref m])) rfl ?_
        refine aw_get rfl hM1.o rfl ?_
        refine aw_run 3 (F' := (116, [some (.ref m), some (.int (nI w)), some (.int (nI (500 * w))), some (.int (nI n)), some (.int (nI i)), some (.int (nI x.1.1.1)), some (.int (nI p)), some (.int (nI x.2)), some (.int (nI (j + 1)))], [.int (nI (500 * w) + nI (j + 1)), .ref (m + 5)])) rfl ?_
        rw [nI_add]
        refine aw_run 1 (F' := (117, [some (.ref m), some (.int (nI w)), some (.int (nI (500 * w))), some (.int (nI n)), some (.int (nI i)), some (.int (nI x.1.1.1)), some (.int (nI p)), some (.int (nI x.2)), some (.int (nI (j + 1)))], [.ref m, .int (nI ((500 * w) + (j + 1))), .ref (m + 5)])) rfl ?_
        refine aw_get rfl hM1.o rfl ?_
        refine aw_run 3 (F' := (124, [some (.ref m), some (.int (nI w)), some (.int (nI (500 * w))), some (.int (nI n)), some (.int (nI i)), some (.int (nI x.1.1.1)), some (.int (nI p)), some (.int (nI x.2)), some (.int (nI (j + 1)))], [.int (nI (500 * w) + nI (j + 1)), .ref (m + 5), .int (nI ((500 * w) + (j + 1))), .ref (m + 5)])) rfl ?_
        rw [nI_add]
        refine aw_run 2 (F' := (126, [some (.ref m), some (.int (nI w)), some (.int (nI (500 * w))), some (.int (nI n)), some (.int (nI i)), some (.int (nI x.1.1.1)), some (.int (nI p)), some (.int (nI x.2)), some (.int (nI (j + 1)))], [.int (nI ((500 * w) + (j + 1)) - nI 1), .ref (m + 5), .int (nI ((500 * w) + (j + 1))), .ref (m + 5)])) rfl ?_
        rw [nI_sub (by omega)]
        rw [show ((500 * w) + (j + 1)) - 1 = 500 * w + j from rfl]
        refine ms_ild hM1 rfl (k := 7) (n := 1000) (by decide) (by omega) ?_
        rw [show μ1 7 (500 * w + j) = y.1.1.1 from t1]
        refine ms_ist hM1 rfl (k := 7) (n := 1000) (by decide) (by omega) (fun s1 hM1 => ?_)
        refine aw_run 1 (F' := (129, [some (.ref m), some (.int (nI w)), some (.int (nI (500 * w))), some (.int (nI n)), some (.int (nI i)), some (.int (nI x.1.1.1)), some (.int (nI p)), some (.int (nI x.2)), some (.int (nI (j + 1)))], [.ref m])) rfl ?_
        refine aw_get rfl hM1.o rfl ?_
        refine aw_run 3 (F' := (136, [some (.ref m), some (.int (nI w)), some (.int (nI (500 * w))), some (.int (nI n)), some (.int (nI i)), some (.int (nI x.1.1.1)), some (.int (nI p)), some (.int (nI x.2)), some (.int (nI (j + 1)))], [.int (nI (500 * w) + nI (j + 1)), .ref (m + 6)])) rfl ?_
        rw [nI_add]
        refine aw_run 1 (F' := (137, [some (.ref m), some (.int (nI w)), some (.int (nI (500 * w))), some (.int (nI n)), some (.int (nI i)), some (.int (nI x.1.1.1)), some (.int (nI p)), some (.int (nI x.2)), some (.int (nI (j + 1)))], [.ref m, .int (nI ((500 * w) + (j + 1))), .ref (m + 6)])) rfl ?_
        refine aw_get rfl hM1.o rfl ?_
        refine aw_run 3 (F' := (144, [some (.ref m), some (.int (nI w)), some (.int (nI (500 * w))), some (.int (nI n)), some (.int (nI i)), some (.int (nI x.1.1.1)), some (.int (nI p)), some (.int (nI x.2)), some (.int (nI (j + 1)))], [.int (nI (500 * w) + nI (j + 1)), .ref (m + 6), .int (nI ((500 * w) + (j + 1))), .ref (m + 6)])) rfl ?_
        rw [nI_add]
        refine aw_run 2 (F' := (146, [some (.ref m), some (.int (nI w)), some (.int (nI (500 * w))), some (.int (nI n)), some (.int (nI i)), some (.int (nI x.1.1.1)), some (.int (nI p)), some (.int (nI x.2)), some (.int (nI (j + 1)))], [.int (nI ((500 * w) + (j + 1)) - nI 1), .ref (m + 6), .int (nI ((500 * w) + (j + 1))), .ref (m + 6)])) rfl ?_
        rw [nI_sub (by omega)]
        rw [show ((500 * w) + (j + 1)) - 1 = 500 * w + j from rfl]
        refine ms_ild hM1 rfl (k := 8) (n := 1000) (by decide) (by omega) ?_
        rw [show (mup μ1 7 ((500 * w) + (j + 1)) y.1.1.1) 8 (500 * w + j) = py from t2]
        refine ms_ist hM1 rfl (k := 8) (n := 1000) (by decide) (by omega) (fun s2 hM2 => ?_)
        refine aw_run 1 (F' := (149, [some (.ref m), some (.int (nI w)), some (.int (nI (500 * w))), some (.int (nI n)), some (.int (nI i)), some (.int (nI x.1.1.1)), some (.int (nI p)), some (.int (nI x.2)), some (.int (nI (j + 1)))], [.ref m])) rfl ?_
        refine aw_get rfl hM2.o rfl ?_
        refine aw_run 3 (F' := (156, [some (.ref m), some (.int (nI w)), some (.int (nI (500 * w))), some (.int (nI n)), some (.int (nI i)), some (.int (nI x.1.1.1)), some (.int (nI p)), some (.int (nI x.2)), some (.int (nI (j + 1)))], [.int (nI (500 * w) + nI (j + 1)), .ref (m + 7)])) rfl ?_
        rw [nI_add]
        refine aw_run 1 (F' := (157, [some (.ref m), some (.int (nI w)), some (.int (nI (500 * w))), some (.int (nI n)), some (.int (nI i)), some (.int (nI x.1.1.1)), some (.int (nI p)), some (.int (nI x.2)), some (.int (nI (j + 1)))], [.ref m, .int (nI ((500 * w) + (j + 1))), .ref (m + 7)])) rfl ?_
        refine aw_get rfl hM2.o rfl ?_
        refine aw_run 3 (F' := (164, [some (.ref m), some (.int (nI w)), some (.int (nI (500 * w))), some (.int (nI n)), some (.int (nI i)), some (.int (nI x.1.1.1)), some (.int (nI p)), some (.int (nI x.2)), some (.int (nI (j + 1)))], [.int (nI (500 * w) + nI (j + 1)), .ref (m + 7), .int (nI ((500 * w) + (j + 1))), .ref (m + 7)])) rfl ?_
        rw [nI_add]
        refine aw_run 2 (F' := (166, [some (.ref m), some (.int (nI w)), some (.int (nI (500 * w))), some (.int (nI n)), some (.int (nI i)), some (.int (nI x.1.1.1)), some (.int (nI p)), some (.int (nI x.2)), some (.int (nI (j + 1)))], [.int (nI ((500 * w) + (j + 1)) - nI 1), .ref (m + 7), .int (nI ((500 * w) + (j + 1))), .ref (m + 7)])) rfl ?_
        rw [nI_sub (by omega)]
        rw [show ((500 * w) + (j + 1)) - 1 = 500 * w + j from rfl]
        refine ms_ild hM2 rfl (k := 9) (n := 1000) (by decide) (by omega) ?_
        rw [show (mup (mup μ1 7 ((500 * w) + (j + 1)) y.1.1.1) 8 ((500 * w) + (j + 1)) py) 9 (500 * w + j) = y.2 from t3]
        refine ms_ist hM2 rfl (k := 9) (n := 1000) (by decide) (by omega) (fun s3 hM3 => ?_)
        refine aw_run 1 (F' := (171, [some (.ref m), some (.int (nI w)), some (.int (nI (500 * w))), some (.int (nI n)), some (.int (nI i)), some (.int (nI x.1.1.1)), some (.int (nI p)), some (.int (nI x.2)), some (.int (nI (j + 1) + (-1)))], [])) rfl ?_
        rw [show nI (j + 1) + (-1) = nI ((j + 1) - 1) from nI_dec (by omega) (by decide)]
        refine aw_run 1 (F' := (70, [some (.ref m), some (.int (nI w)), some (.int (nI (500 * w))), some (.int (nI n)), some (.int (nI i)), some (.int (nI x.1.1.1)), some (.int (nI p)), some (.int (nI x.2)), some (.int (nI ((j + 1) - 1)))], [])) rfl ?_
        have hgt : sp_vc y.1 x.1 = 1 := by
          rcases is3_vc y.1 x.1 with z | z | z
          · rw [z] at h2'; exact absurd (by decide) h2'
          · rw [z] at h2'; exact absurd (by decide) h2'
          · exact z
        have hR2 := RS.put (L := A0 ++ [y]) (T := A2 ++ R) (h := h) (x := y) (p := py) hR1 hw (by rw [hag 1 (by decide)]; exact v3)
        rw [show (A0 ++ [y]).length = j + 1 from hl] at hR2
        refine ih _ _ A0 (y :: A2) y hl0 hM3 ?_ ?_ (by rw [← hA, List.append_assoc]; rfl) (fun z hz => ?_)
        · rw [mup_k _ _ _ (by decide), mup_k _ _ _ (by decide), mup_k _ _ _ (by decide)]
          exact hβ1
        · rw [show A0 ++ y :: (y :: A2 ++ R) = (A0 ++ [y]) ++ y :: (A2 ++ R) by simp]
          exact hR2
        · rcases List.mem_cons.mp hz with z1 | z1
          · rw [z1]; exact hgt
          · exact hgA z z1
end P85
