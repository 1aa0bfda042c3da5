/-! sorting -/
def is3 (x : Int32) : Prop := x = -1 ∨ x = 0 ∨ x = 1
theorem is3_or {x y : Int32} (hx : is3 x) (hy : is3 y) : is3 (sp_or x y) := by
  unfold sp_or
  split
  · exact hy
  · exact hx
theorem is3_nc (a b : Nat) : is3 (sp_nc a b) := by
  unfold sp_nc is3
  split
  · exact Or.inl rfl
  · split
    · exact Or.inr (Or.inl rfl)
    · exact Or.inr (Or.inr rfl)
theorem is3_ic (a b : Int) : is3 (sp_ic a b) := by
  unfold sp_ic is3
  split
  · exact Or.inl rfl
  · split
    · exact Or.inr (Or.inl rfl)
    · exact Or.inr (Or.inr rfl)
theorem is3_bc : ∀ a b : List Nat, is3 (sp_bc a b)
  | [], [] => Or.inr (Or.inl rfl)
  | [], _ :: _ => Or.inl rfl
  | _ :: _, [] => Or.inr (Or.inr rfl)
  | _ :: x, _ :: y => is3_or (is3_nc _ _) (is3_bc x y)
theorem is3_fc : ∀ a b : sp_F, is3 (sp_fc a b)
  | .leaf, .leaf => Or.inr (Or.inl rfl)
  | .leaf, .inner _ _ _ _ _ => Or.inl rfl
  | .inner _ _ _ _ _, .leaf => Or.inr (Or.inr rfl)
  | .inner _ b _ c r, .inner _ b2 _ c2 r2 => by
    have h1 := is3_fc c c2
    have h2 := is3_fc r r2
    unfold sp_fc
    exact is3_or (is3_nc _ _) (is3_or (is3_bc _ _) (is3_or (is3_or (is3_ic _ _) (is3_or (is3_bc _ _) h1)) h2))
theorem is3_vc (v w : sp_V) : is3 (sp_vc v w) := is3_or (is3_nc _ _) (is3_or (is3_ic _ _) (is3_or (is3_bc _ _) (is3_fc _ _)))
abbrev sp_I := sp_V × Nat
/-- one before another, or the same -/
def sp_lq (a b : sp_I) : Prop := sp_vc a.1 b.1 ≤ 0
def sp_sm (a b : sp_I) : Bool := decide (sp_vc a.1 b.1 = 0)
theorem sp_lq_def {a b : sp_I} : sp_lq a b ↔ sp_vc a.1 b.1 = -1 ∨ sp_vc a.1 b.1 = 0 := by
  unfold sp_lq
  rcases is3_vc a.1 b.1 with h | h | h <;> rw [h] <;> decide
theorem sp_nlq {a b : sp_I} (h : ¬ sp_lq a b) : sp_vc a.1 b.1 = 1 := by
  rw [sp_lq_def] at h
  rcases is3_vc a.1 b.1 with z | z | z
  · exact absurd (Or.inl z) h
  · exact absurd (Or.inr z) h
  · exact z
theorem sp_lq_tr {a b c : sp_I} (h1 : sp_lq a b) (h2 : sp_lq b c) : sp_lq a c := by
  obtain ⟨t1, t2, t3⟩ := sp_vc_tr a.1 b.1 c.1
  rw [sp_lq_def] at h1 h2 ⊢
  rcases h1 with h1 | h1
  · rcases h2 with h2 | h2
    · exact Or.inl ((t3 (h1.trans h2.symm)).trans h1)
    · exact Or.inl ((t2 h2).trans h1)
  · rw [t1 h1]
    exact h2
theorem sp_lq_rf (a : sp_I) : sp_lq a a := by
  have h := sp_vc_neg a.1 a.1
  rw [sp_lq_def]
  rcases is3_vc a.1 a.1 with z | z | z
  · exact Or.inl z
  · exact Or.inr z
  · rw [z] at h
    exact absurd h (by decide)
theorem sp_sm_rf (a : sp_I) : sp_sm a a = true := by
  have h := sp_vc_neg a.1 a.1
  unfold sp_sm
  rcases is3_vc a.1 a.1 with z | z | z
  · rw [z] at h; exact absurd h (by decide)
  · exact decide_eq_true z
  · rw [z] at h; exact absurd h (by decide)
theorem sp_sm_of {a b : sp_I} (h1 : sp_lq a b) (h2 : sp_lq b a) : sp_sm a b = true := by
  have h := sp_vc_neg a.1 b.1
  rw [sp_lq_def] at h1 h2
  unfold sp_sm
  rcases h1 with z | z
  · rw [z] at h
    rcases h2 with y | y <;> rw [y] at h <;> exact absurd h (by decide)
  · exact decide_eq_true z
theorem sp_sm_lq {a b : sp_I} (h : sp_sm a b = true) : sp_lq a b := sp_lq_def.mpr (Or.inr (of_decide_eq_true h))
theorem sp_sm_sym {a b : sp_I} (h : sp_sm a b = true) : sp_sm b a = true := by
  have h' : sp_vc a.1 b.1 = 0 := of_decide_eq_true h
  have := sp_vc_neg a.1 b.1
  rw [h'] at this
  exact decide_eq_true (this.trans (by decide))
/-- a strictly greater one is not the same as what is before -/
theorem sp_gt_ns {a b c : sp_I} (h1 : sp_vc b.1 a.1 = -1) (h2 : sp_lq a c) : sp_vc b.1 c.1 = -1 := by
  obtain ⟨t1, t2, t3⟩ := sp_vc_tr b.1 a.1 c.1
  rw [sp_lq_def] at h2
  rcases h2 with h2 | h2
  · exact (t3 (h1.trans h2.symm)).trans h1
  · exact (t2 h2).trans h1
def sp_so : sp_X → Prop := List.Pairwise sp_lq
/-- the same ones, those that are the same in one order -/
def sp_eq (X Y : sp_X) : Prop := ∀ v : sp_I, Y.filter (sp_sm v) = X.filter (sp_sm v)
theorem sp_eq.app {X X' Y Y' : sp_X} (h : sp_eq X X') (h' : sp_eq Y Y') : sp_eq (X ++ Y) (X' ++ Y') := fun v => by rw [List.filter_append, List.filter_append, h v, h' v]
theorem sp_eq.rf (X : sp_X) : sp_eq X X := fun _ => rfl
theorem sp_eq.tr {X Y W : sp_X} (h : sp_eq X Y) (h' : sp_eq Y W) : sp_eq X W := fun v => (h' v).trans (h v)
theorem sp_eq.sy {X Y : sp_X} (h : sp_eq X Y) : sp_eq Y X := fun v => (h v).symm
theorem sp_eq.mem {X Y : sp_X} (h : sp_eq X Y) {a : sp_I} (ha : a ∈ Y) : a ∈ X := by
  have h1 : a ∈ Y.filter (sp_sm a) := List.mem_filter.mpr ⟨ha, sp_sm_rf a⟩
  rw [h a] at h1
  exact (List.mem_filter.mp h1).1
/-- sorted ones that are the same so are equal -/
theorem sp_so_eq : ∀ {X Y : sp_X}, sp_so X → sp_so Y → sp_eq X Y → X = Y
  | [], [], _, _, _ => rfl
  | [], y :: Y, _, _, h => by cases h.mem (List.mem_cons_self)
  | x :: X, [], _, _, h => by cases h.sy.mem (List.mem_cons_self)
  | x :: X, y :: Y, h1, h2, h => by
    have m1 : y ∈ x :: X := h.mem List.mem_cons_self
    have m2 : x ∈ y :: Y := h.sy.mem List.mem_cons_self
    have l1 : sp_lq x y := by
      rcases List.mem_cons.mp m1 with e | e
      · rw [e]; exact sp_lq_rf x
      · exact (List.pairwise_cons.mp h1).1 y e
    have l2 : sp_lq y x := by
      rcases List.mem_cons.mp m2 with e | e
      · rw [e]; exact sp_lq_rf y
      · exact (List.pairwise_cons.mp h2).1 x e
    have e1 := h x
    rw [List.filter_cons_of_pos (sp_sm_rf x), List.filter_cons_of_pos (sp_sm_of l1 l2)] at e1
    have exy : y = x := (List.cons.inj e1).1
    subst exy
    have ht : sp_eq X Y := by
      intro v
      have e2 := h v
      by_cases q : sp_sm v y = true
      · rw [List.filter_cons_of_pos q, List.filter_cons_of_pos q] at e2
        exact (List.cons.inj e2).2
      · rw [List.filter_cons_of_neg q, List.filter_cons_of_neg q] at e2
        exact e2
    rw [sp_so_eq (List.pairwise_cons.mp h1).2 (List.pairwise_cons.mp h2).2 ht]
/-- two runs into one: a right one only where it is less -/
def sp_mrg : Nat → sp_X → sp_X → sp_X
  | 0, A, B => A ++ B
  | _ + 1, [], B => B
  | _ + 1, A, [] => A
  | n + 1, a :: A, b :: B => if sp_vc b.1 a.1 < 0 then b :: sp_mrg n (a :: A) B else a :: sp_mrg n A (b :: B)
theorem sp_mrg_eq : ∀ (n : Nat) (A B : sp_X), sp_so A → sp_eq (A ++ B) (sp_mrg n A B)
  | 0, _, _, _ => sp_eq.rf _
  | _ + 1, [], _, _ => sp_eq.rf _
  | _ + 1, _ :: _, [], _ => by rw [List.append_nil]; exact sp_eq.rf _
  | n + 1, a :: A, b :: B, hA => by
    unfold sp_mrg
    by_cases q : sp_vc b.1 a.1 < 0
    · rw [if_pos q]
      have q1 : sp_vc b.1 a.1 = -1 := by
        rcases is3_vc b.1 a.1 with z | z | z <;> rw [z] at q ⊢ <;> exact absurd q (by decide)
      have ih := sp_mrg_eq n (a :: A) B hA
      intro v
      have e := ih v
      have lt : ∀ c ∈ a :: A, sp_vc b.1 c.1 = -1 := by
        intro c hc
        rcases List.mem_cons.mp hc with z | z
        · rw [z]; exact q1
        · exact sp_gt_ns q1 ((List.pairwise_cons.mp hA).1 c z)
      by_cases w : sp_sm v b = true
      · have hn : (a :: A).filter (sp_sm v) = [] := by
          rw [List.filter_eq_nil_iff]
          intro c hc z
          have h1 := sp_lq_tr (sp_sm_lq (sp_sm_sym z)) (sp_sm_lq w)
          have h2 := lt c hc
          have h3 := sp_vc_neg b.1 c.1
          rw [h2] at h3
          rw [sp_lq_def, h3] at h1
          rcases h1 with y | y <;> exact absurd y (by decide)
        rw [List.filter_cons_of_pos w, e, List.filter_append, List.filter_append, hn, List.filter_cons_of_pos w]
        rfl
      · rw [List.filter_cons_of_neg w, e, List.filter_append, List.filter_append, List.filter_cons_of_neg w]
    · rw [if_neg q]
      have ih := sp_mrg_eq n A (b :: B) (List.pairwise_cons.mp hA).2
      exact sp_eq.app (X := [a]) (X' := [a]) (sp_eq.rf _) ih
theorem sp_mrg_so : ∀ (n : Nat) (A B : sp_X), A.length + B.length ≤ n → sp_so A → sp_so B → sp_so (sp_mrg n A B)
  | 0, A, B, hl, hA, hB => by
    have : A = [] := List.eq_nil_of_length_eq_zero (by omega)
    subst this
    exact hB
  | _ + 1, [], _, _, _, hB => hB
  | _ + 1, _ :: _, [], _, hA, _ => hA
  | n + 1, a :: A, b :: B, hl, hA, hB => by
    simp only [List.length_cons] at hl
    unfold sp_mrg
    by_cases q : sp_vc b.1 a.1 < 0
    · rw [if_pos q]
      have ih := sp_mrg_so n (a :: A) B (by simp; omega) hA (List.pairwise_cons.mp hB).2
      refine List.pairwise_cons.mpr ⟨fun c hc => ?_, ih⟩
      have hc' := (sp_mrg_eq n (a :: A) B hA).mem hc
      have hba : sp_lq b a := by
        rw [sp_lq_def]
        rcases is3_vc b.1 a.1 with z | z | z
        · exact Or.inl z
        · exact Or.inr z
        · rw [z] at q; exact absurd q (by decide)
      rcases List.mem_append.mp hc' with z | z
      · rcases List.mem_cons.mp z with y | y
        · rw [y]; exact hba
        · exact sp_lq_tr hba ((List.pairwise_cons.mp hA).1 c y)
      · exact (List.pairwise_cons.mp hB).1 c z
    · rw [if_neg q]
      have ih := sp_mrg_so n A (b :: B) (by simp; omega) (List.pairwise_cons.mp hA).2 hB
      refine List.pairwise_cons.mpr ⟨fun c hc => ?_, ih⟩
      have hc' := (sp_mrg_eq n A (b :: B) (List.pairwise_cons.mp hA).2).mem hc
      have hab : sp_lq a b := by
        have h := sp_vc_neg b.1 a.1
        rw [sp_lq_def]
        rcases is3_vc b.1 a.1 with z | z | z <;> rw [z] at h
        · rw [z] at q; exact absurd (by decide) q
        · exact Or.inr (h.trans (by decide))
        · exact Or.inl (h.trans (by decide))
      rcases List.mem_append.mp hc' with z | z
      · exact (List.pairwise_cons.mp hA).1 c z
      · rcases List.mem_cons.mp z with y | y
        · rw [y]; exact hab
        · exact sp_lq_tr hab ((List.pairwise_cons.mp hB).1 c y)
theorem sp_mrg_len : ∀ (n : Nat) (A B : sp_X), (sp_mrg n A B).length = A.length + B.length
  | 0, _, _ => List.length_append
  | _ + 1, [], B => by simp [sp_mrg]
  | _ + 1, _ :: _, [] => by simp [sp_mrg]
  | n + 1, a :: A, b :: B => by
    unfold sp_mrg
    split
    · have := sp_mrg_len n (a :: A) B
      simp only [List.length_cons] at this ⊢
      omega
    · have := sp_mrg_len n A (b :: B)
      simp only [List.length_cons] at this ⊢
      omega
