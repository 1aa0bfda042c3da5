theorem am_cl (ci : Nat) (h : ci < am_nc) : am_vw[ci]? = some (am_cn ci, am_T ci, am_nf ci) := by
  have h7 : ci < 7 := h
  rcases (by omega : ci = 0 ∨ ci = 1 ∨ ci = 2 ∨ ci = 3 ∨ ci = 4 ∨ ci = 5 ∨ ci = 6) with rfl | rfl | rfl | rfl | rfl | rfl | rfl <;> rfl
theorem am_tyokB : ∀ ci ∈ List.range 7, ∀ k ∈ List.range (am_nf ci), parseFieldDescriptor (am_T ci k).2.2.1 = some (am_ty ci k) := by decide +kernel
theorem am_tyok (ci : Nat) (h : ci < am_nc) : ∀ k, k < am_nf ci → parseFieldDescriptor (am_T ci k).2.2.1 = some (am_ty ci k) := fun k hk => am_tyokB ci (List.mem_range.mpr h) k (List.mem_range.mpr hk)
theorem am_tynmB : ∀ ci ∈ List.range 7, ∀ a ∈ List.range (am_nf ci), ∀ b ∈ List.range (am_nf ci), a ≠ b → (am_T ci a).2.1 ≠ (am_T ci b).2.1 := by decide +kernel
theorem am_tynm (ci : Nat) (h : ci < am_nc) : ∀ a, a < am_nf ci → ∀ b, b < am_nf ci → a ≠ b → (am_T ci a).2.1 ≠ (am_T ci b).2.1 := fun a ha b hb => am_tynmB ci (List.mem_range.mpr h) a (List.mem_range.mpr ha) b (List.mem_range.mpr hb)
theorem am_dflB : ∀ ci ∈ List.range 7, ∀ k ∈ List.range (am_nf ci), defaultValue (am_ty ci k) = vp_V (am_def ci) k := by decide +kernel
theorem am_dfl (ci : Nat) (h : ci < am_nc) : ∀ k, k < am_nf ci → defaultValue (am_ty ci k) = vp_V (am_def ci) k := fun k hk => am_dflB ci (List.mem_range.mpr h) k (List.mem_range.mpr hk)
theorem am_layB : ∀ ci ∈ List.range 7, ∀ w ∈ u_ws (am_cn ci) (am_T ci) (am_nf ci), am_w w = true := by decide +kernel
theorem am_layW (ci : Nat) (h : ci < am_nc) : ∀ w ∈ u_ws (am_cn ci) (am_T ci) (am_nf ci), am_w w = true := am_layB ci (List.mem_range.mpr h)
theorem am_insB : ∀ ci ∈ List.range 7, am_w (.instantiable (am_cn ci) (am_nf ci)) = true ∧ am_w (.initialized (am_cn ci)) = true := by decide +kernel
theorem am_ins (ci : Nat) (h : ci < am_nc) : am_w (.instantiable (am_cn ci) (am_nf ci)) = true := (am_insB ci (List.mem_range.mpr h)).1
theorem am_ini (ci : Nat) (h : ci < am_nc) : am_w (.initialized (am_cn ci)) = true := (am_insB ci (List.mem_range.mpr h)).2
theorem am_oi1 : am_w (.instanceMethod objectInit) = true := by decide +kernel
theorem am_oi2 : am_w (.code objectInit ⟨#[0xb1]⟩ 1 none) = true := by decide +kernel
theorem am_cp1 : am_w (.native arraycopyName) = true ∧ am_w (.static arraycopyName) = true ∧ am_w (.initialized "java/lang/System") = true := by decide +kernel
theorem am_cn1 : am_w (.sameMethod "[B" "java/lang/Object" "clone" "()Ljava/lang/Object;") = true ∧ am_w (.native ⟨"java/lang/Object", "clone", "()Ljava/lang/Object;"⟩) = true ∧ am_w (.instanceMethod ⟨"java/lang/Object", "clone", "()Ljava/lang/Object;"⟩) = true ∧ am_w (.selects "[B" ⟨"[B", "clone", "()Ljava/lang/Object;"⟩ ⟨"java/lang/Object", "clone", "()Ljava/lang/Object;"⟩) = true := by decide +kernel
theorem am_el_of {t ci : Nat} (h : am_el t = some ci) : ci < am_nc ∧ am_tyl[t]? = some (.object (am_cn ci)) := by
  unfold am_el at h
  split at h
  · cases h
    exact ⟨by decide, rfl⟩
  · cases h
    exact ⟨by decide, rfl⟩
  · cases h
theorem am_mm1 : am_w (.static Lib.Math.min.name) = true ∧ am_w (.initialized "java/lang/Math") = true ∧ am_w (.code Lib.Math.min.name Lib.Math.min.code 2 (some .int)) = true := by decide +kernel
