/-! merging two runs of a list -/
abbrev cA3 (f : Nat → Option Nat) : am_C := .inl (3, 500, .inr (.inr (.inr (.inr f))))
abbrev cA0 (f : Nat → Int32) : am_C := .inl (0, 500, .inl f)
abbrev cLs (va oa sa pa n : Nat) (ov : Bool) : am_C := .inr (2, [.ref va, .ref oa, .ref sa, .ref pa, .int (nI n), .int (bI ov)])
def itm (Z : Nat → Prop) (h0 : Nat → Option am_C) (fv : Nat → Option Nat) (fo : Nat → Int32) (i : Nat) (x : sp_I) : Prop := ∃ a, fv i = some a ∧ vlz Z h0 a x.1 ∧ fo i = nI x.2
def fw5 (g : Nat × Nat) (Z : Nat → Prop) (w va oa sa pa : Nat) : Prop := fwk g Z w va oa ∧ g.1 ≤ sa ∧ g.1 ≤ pa ∧ sa ≠ w ∧ sa ≠ va ∧ sa ≠ oa ∧ pa ≠ w ∧ pa ≠ va ∧ pa ≠ oa ∧ pa ≠ sa ∧ ¬ Z sa ∧ ¬ Z pa
def mst (σ0 σ : am_H) (va oa sa pa : Nat) (fv : Nat → Option Nat) (fo : Nat → Int32) (fs : Nat → Option Nat) (fp : Nat → Int32) : Prop := (∀ a, a ≠ va → a ≠ oa → a ≠ sa → a ≠ pa → σ.1 a = σ0.1 a) ∧ σ.2 = σ0.2 ∧ σ.1 va = some (cA3 fv) ∧ σ.1 oa = some (cA0 fo) ∧ σ.1 sa = some (cA3 fs) ∧ σ.1 pa = some (cA0 fp)
section P44a
variable {g : Nat × Nat} {Z : Nat → Prop} {σ0 σ : am_H} {w va oa sa pa : Nat} {fv : Nat → Option Nat} {fo : Nat → Int32} {fs : Nat → Option Nat} {fp : Nat → Int32}
theorem mst.sz (h : mst σ0 σ va oa sa pa fv fo fs fp) (hf : fw5 g Z w va oa sa pa) : ∀ a, Z a → σ.1 a = σ0.1 a := by
  obtain ⟨⟨-, -, -, -, -, -, -, z1, z2⟩, -, -, -, -, -, -, -, -, -, z3, z4⟩ := hf
  exact fun a ha => h.1 a (fun q => z1 (q ▸ ha)) (fun q => z2 (q ▸ ha)) (fun q => z3 (q ▸ ha)) (fun q => z4 (q ▸ ha))
theorem mst.sw (h : mst σ0 σ va oa sa pa fv fo fs fp) (hf : fw5 g Z w va oa sa pa) : σ.1 w = σ0.1 w := by
  obtain ⟨⟨-, -, -, n1, n2, -, -⟩, -, -, n3, -, -, n4, -⟩ := hf
  exact h.1 w n1 n2 (Ne.symm n3) (Ne.symm n4)
theorem mst.sva (h : mst σ0 σ va oa sa pa fv fo fs fp) (hf : fw5 g Z w va oa sa pa) (f : Nat → Option Nat) : mst σ0 (am_set σ va (cA3 f)) va oa sa pa f fo fs fp := by
  obtain ⟨⟨-, -, -, -, -, n0, -⟩, -, -, -, n1, n2, -, n3, n4, n5, -⟩ := hf
  obtain ⟨a1, a2, a3, a4, a5, a6⟩ := h
  exact ⟨fun a h1 h2 h3 h4 => (am_set_ne _ _ h1).trans (a1 a h1 h2 h3 h4), a2, am_set_same _ _ _, (am_set_ne _ _ (Ne.symm n0)).trans a4, (am_set_ne _ _ n1).trans a5, (am_set_ne _ _ n3).trans a6⟩
theorem mst.soa (h : mst σ0 σ va oa sa pa fv fo fs fp) (hf : fw5 g Z w va oa sa pa) (f : Nat → Int32) : mst σ0 (am_set σ oa (cA0 f)) va oa sa pa fv f fs fp := by
  obtain ⟨⟨-, -, -, -, -, n0, -⟩, -, -, -, n1, n2, -, n3, n4, n5, -⟩ := hf
  obtain ⟨a1, a2, a3, a4, a5, a6⟩ := h
  exact ⟨fun a h1 h2 h3 h4 => (am_set_ne _ _ h2).trans (a1 a h1 h2 h3 h4), a2, (am_set_ne _ _ n0).trans a3, am_set_same _ _ _, (am_set_ne _ _ n2).trans a5, (am_set_ne _ _ n4).trans a6⟩
theorem mst.ssa (h : mst σ0 σ va oa sa pa fv fo fs fp) (hf : fw5 g Z w va oa sa pa) (f : Nat → Option Nat) : mst σ0 (am_set σ sa (cA3 f)) va oa sa pa fv fo f fp := by
  obtain ⟨⟨-, -, -, -, -, n0, -⟩, -, -, -, n1, n2, -, n3, n4, n5, -⟩ := hf
  obtain ⟨a1, a2, a3, a4, a5, a6⟩ := h
  exact ⟨fun a h1 h2 h3 h4 => (am_set_ne _ _ h3).trans (a1 a h1 h2 h3 h4), a2, (am_set_ne _ _ (Ne.symm n1)).trans a3, (am_set_ne _ _ (Ne.symm n2)).trans a4, am_set_same _ _ _, (am_set_ne _ _ n5).trans a6⟩
theorem mst.spa (h : mst σ0 σ va oa sa pa fv fo fs fp) (hf : fw5 g Z w va oa sa pa) (f : Nat → Int32) : mst σ0 (am_set σ pa (cA0 f)) va oa sa pa fv fo fs f := by
  obtain ⟨⟨-, -, -, -, -, n0, -⟩, -, -, -, n1, n2, -, n3, n4, n5, -⟩ := hf
  obtain ⟨a1, a2, a3, a4, a5, a6⟩ := h
  exact ⟨fun a h1 h2 h3 h4 => (am_set_ne _ _ h4).trans (a1 a h1 h2 h3 h4), a2, (am_set_ne _ _ (Ne.symm n3)).trans a3, (am_set_ne _ _ (Ne.symm n4)).trans a4, (am_set_ne _ _ (Ne.symm n5)).trans a5, am_set_same _ _ _⟩
end P44a
theorem sp_mrg_nil : ∀ (n : Nat) (A : sp_X), sp_mrg n A [] = A
  | 0, _ => List.append_nil _
  | _ + 1, [] => rfl
  | _ + 1, _ :: _ => rfl
theorem va_up_s {α : Type} {f : Nat → α} {k : Nat} {x : α} : va_up f k x k = x := if_pos rfl
theorem va_up_n {α : Type} {f : Nat → α} {k j : Nat} {x : α} (h : j ≠ k) : va_up f k x j = f j := if_neg h
theorem itm.up {Z : Nat → Prop} {h0 : Nat → Option am_C} {fv : Nat → Option Nat} {fo : Nat → Int32} {i k : Nat} {x : sp_I} {y : Option Nat} {z : Int32} (h : itm Z h0 fv fo i x) (hk : i ≠ k) : itm Z h0 (va_up fv k y) (upd fo k z) i x := by
  obtain ⟨a, h1, h2, h3⟩ := h
  exact ⟨a, (va_up_n hk).trans h1, h2, (pk_un hk).trans h3⟩
section P44
variable {g : Nat × Nat} {d : Nat} {σ : am_H} {Q : Option Value → am_H → Prop}
set_option maxHeartbeats 4000000 in
/-- mergeRuns: the merging -/
theorem c_mrgL {Z : Nat → Prop} {σ0 : am_H} {w va oa sa pa N low mid high lefts : Nat} {ov : Bool} (hd : 53 ≤ d) (hf : fw5 g Z w va oa sa pa) (hw : σ0.1 w = some (cLs va oa sa pa N ov)) (hN : high ≤ 500) (hlm : lefts ≤ 500) {fv0 : Nat → Option Nat} {fo0 : Nat → Int32} : ∀ (n : Nat) (A B D : sp_X) (σ : am_H) (fv : Nat → Option Nat) (fo : Nat → Int32) (fs : Nat → Option Nat) (fp : Nat → Int32) (le ri to : Nat), A.length + B.length ≤ n → le + A.length = lefts → ri + B.length = high → to + A.length = ri → low + D.length = to → mst σ0 σ va oa sa pa fv fo fs fp → (∀ x ∈ A, sp_hgt x.1.2 ≤ 16) → (∀ x ∈ B, sp_hgt x.1.2 ≤ 16) → (∀ i x, D[i]? = some x → itm Z σ0.1 fv fo (low + i) x) → (∀ i x, A[i]? = some x → itm Z σ0.1 fs fp (le + i) x) → (∀ i x, B[i]? = some x → itm Z σ0.1 fv fo (ri + i) x) → (∀ i, i < low ∨ high ≤ i → fv i = fv0 i ∧ fo i = fo0 i) →
    (∀ (σ' : am_H) (fv' : Nat → Option Nat) (fo' : Nat → Int32) (fs' : Nat → Option Nat) (fp' : Nat → Int32), mst σ0 σ' va oa sa pa fv' fo' fs' fp' → (∀ i x, (D ++ sp_mrg n A B)[i]? = some x → itm Z σ0.1 fv' fo' (low + i) x) → (∀ i, i < low ∨ high ≤ i → fv' i = fv0 i ∧ fo' i = fo0 i) → Q none σ') →
    AW g (d + 1) 52 (82, [some (.ref w), some (.int (nI low)), some (.int (nI mid)), some (.int (nI high)), some (.int (nI lefts)), some (.int (nI le)), some (.int (nI ri)), some (.int (nI to))], []) σ Q := by
  intro n
  induction n with
  | zero =>
    intro A B D σ fv fo fs fp le ri to hl e1 e2 e3 e4 hm hA hB iD iA iB io hQ
    have hA0 : A = [] := List.eq_nil_of_length_eq_zero (by omega)
    have hB0 : B = [] := List.eq_nil_of_length_eq_zero (by omega)
    subst hA0
    subst hB0
    simp only [List.length_nil] at e1 e2 e3
    refine aw_run 2 (F' := (85, [some (.ref w), some (.int (nI low)), some (.int (nI mid)), some (.int (nI high)), some (.int (nI lefts)), some (.int (nI le)), some (.int (nI ri)), some (.int (nI to))], [.int (nI high), .int (nI to)])) rfl ?_
    refine aw_cge rfl (fun _ => ?_) (fun z => absurd ((nI_leI (by omega) (by omega)).mpr (by omega)) z)
    refine aw_vret rfl rfl (hQ σ fv fo fs fp hm (fun i x hx => ?_) io)
    simp only [sp_mrg, List.append_nil] at hx
    exact iD i x hx
  | succ n ih =>
    intro A B D σ fv fo fs fp le ri to hl e1 e2 e3 e4 hm hA hB iD iA iB io hQ
    have hwc := (hm.sw hf).trans hw
    have hZ := hm.sz hf
    have hm' := hm
    obtain ⟨m1, m2, m3, m4, m5, m6⟩ := hm'
    have hf' := hf
    obtain ⟨⟨g1, g2, g3, n1, n2, n3, z1, z2, z3⟩, g4, g5, -⟩ := hf'
    refine aw_run 2 (F' := (85, [some (.ref w), some (.int (nI low)), some (.int (nI mid)), some (.int (nI high)), some (.int (nI lefts)), some (.int (nI le)), some (.int (nI ri)), some (.int (nI to))], [.int (nI high), .int (nI to)])) rfl ?_
    cases A with
    | nil =>
      simp only [List.length_nil] at e1 e3
      have fin : Q none σ := by
        refine hQ σ fv fo fs fp hm (fun i x hx => ?_) io
        have hx' : (D ++ B)[i]? = some x := by simpa only [sp_mrg] using hx
        rw [List.getElem?_append] at hx'
        split at hx'
        · exact iD i x hx'
        · have := iB _ x hx'
          rw [show ri + (i - D.length) = low + i by omega] at this
          exact this
      refine aw_cge rfl (fun _ => aw_vret rfl rfl fin) (fun _ => ?_)
      refine aw_run 2 (F' := (92, [some (.ref w), some (.int (nI low)), some (.int (nI mid)), some (.int (nI high)), some (.int (nI lefts)), some (.int (nI le)), some (.int (nI ri)), some (.int (nI to))], [.int (nI lefts), .int (nI le)])) rfl ?_
      refine aw_cge rfl (fun _ => aw_vret rfl rfl fin) (fun z => absurd ((nI_leI (by omega) (by omega)).mpr (by omega)) z)
    | cons a A =>
      simp only [List.length_cons] at e1 e3 hl
      obtain ⟨aa, ha1, ha2, ha3⟩ := iA 0 a rfl
      rw [Nat.add_zero] at ha1 ha3
      have ha2' := ha2.kept hZ (fun _ z => z)
      obtain ⟨a0, b1, b2, b3, b4, b5, b6, b7, hac⟩ := ha2'.cell
      refine aw_cge rfl (fun z => absurd ((nI_leI (by omega) (by omega)).mp z) (by omega)) (fun _ => ?_)
      refine aw_run 2 (F' := (92, [some (.ref w), some (.int (nI low)), some (.int (nI mid)), some (.int (nI high)), some (.int (nI lefts)), some (.int (nI le)), some (.int (nI ri)), some (.int (nI to))], [.int (nI lefts), .int (nI le)])) rfl ?_
      refine aw_cge rfl (fun z => absurd ((nI_leI (by omega) (by omega)).mp z) (by omega)) (fun _ => ?_)
      refine aw_run 2 (F' := (98, [some (.ref w), some (.int (nI low)), some (.int (nI mid)), some (.int (nI high)), some (.int (nI lefts)), some (.int (nI le)), some (.int (nI ri)), some (.int (nI to))], [.int (nI high), .int (nI ri)])) rfl ?_
      -- the left one is taken
      have left : sp_mrg (n + 1) (a :: A) B = a :: sp_mrg n A B → AW g (d + 1) 52 (156, [some (.ref w), some (.int (nI low)), some (.int (nI mid)), some (.int (nI high)), some (.int (nI lefts)), some (.int (nI le)), some (.int (nI ri)), some (.int (nI to))], []) σ Q := by
        intro hmg
        refine aw_run 1 (F' := (157, [some (.ref w), some (.int (nI low)), some (.int (nI mid)), some (.int (nI high)), some (.int (nI lefts)), some (.int (nI le)), some (.int (nI ri)), some (.int (nI to))], [.ref w])) rfl ?_
        refine aw_get rfl hwc rfl ?_
        refine aw_run 2 (F' := (163, [some (.ref w), some (.int (nI low)), some (.int (nI mid)), some (.int (nI high)), some (.int (nI lefts)), some (.int (nI le)), some (.int (nI ri)), some (.int (nI to))], [.ref w, .int (nI to), .ref va])) rfl ?_
        refine aw_get rfl hwc rfl ?_
        refine aw_run 1 (F' := (168, [some (.ref w), some (.int (nI low)), some (.int (nI mid)), some (.int (nI high)), some (.int (nI lefts)), some (.int (nI le)), some (.int (nI ri)), some (.int (nI to))], [.int (nI le), .ref sa, .int (nI to), .ref va])) rfl ?_
        refine aw_aald rfl (by decide) m5 (vp_in_nI (by omega) (by omega)) ?_
        rw [nI_clamp (by omega), ha1]
        refine aw_aast rfl g2 m3 rfl hac (vp_in_nI (by omega) (by omega)) ?_
        rw [nI_clamp (by omega)]
        have hm1 := hm.sva hf (va_up fv to (some aa))
        generalize am_set σ va (cA3 (va_up fv to (some aa))) = σ1 at hm1 ⊢
        have hwc1 := (hm1.sw hf).trans hw
        have hm1' := hm1
        obtain ⟨p1, p2, p3, p4, p5, p6⟩ := hm1'
        refine aw_run 1 (F' := (171, [some (.ref w), some (.int (nI low)), some (.int (nI mid)), some (.int (nI high)), some (.int (nI lefts)), some (.int (nI le)), some (.int (nI ri)), some (.int (nI to))], [.ref w])) rfl ?_
        refine aw_get rfl hwc1 rfl ?_
        refine aw_run 2 (F' := (177, [some (.ref w), some (.int (nI low)), some (.int (nI mid)), some (.int (nI high)), some (.int (nI lefts)), some (.int (nI le)), some (.int (nI ri)), some (.int (nI to))], [.ref w, .int (nI to), .ref oa])) rfl ?_
        refine aw_get rfl hwc1 rfl ?_
        refine aw_run 1 (F' := (182, [some (.ref w), some (.int (nI low)), some (.int (nI mid)), some (.int (nI high)), some (.int (nI lefts)), some (.int (nI le)), some (.int (nI ri)), some (.int (nI to))], [.int (nI le), .ref pa, .int (nI to), .ref oa])) rfl ?_
        refine aw_iald rfl p6 (vp_in_nI (by omega) (by omega)) ?_
        rw [nI_clamp (by omega), ha3]
        refine aw_iast rfl g3 p4 (vp_in_nI (by omega) (by omega)) ?_
        rw [nI_clamp (by omega)]
        have hm2 := hm1.soa hf (upd fo to (nI a.2))
        generalize am_set σ1 oa (cA0 (upd fo to (nI a.2))) = σ2 at hm2 ⊢
        refine aw_run 3 (F' := (82, [some (.ref w), some (.int (nI low)), some (.int (nI mid)), some (.int (nI high)), some (.int (nI lefts)), some (.int (nI le + 1)), some (.int (nI ri)), some (.int (nI to + 1))], [])) rfl ?_
        rw [nI_1, nI_1]
        refine ih A B (D ++ [a]) σ2 _ _ fs fp (le + 1) ri (to + 1) (by omega) (by omega) e2 (by omega) (by simp; omega) hm2 (fun x hx => hA x (List.mem_cons_of_mem _ hx)) hB (fun i x hx => ?_) (fun i x hx => ?_) (fun i x hx => ?_) (fun i hi => ?_) (fun σ' fv' fo' fs' fp' h1 h2 h3 => hQ σ' fv' fo' fs' fp' h1 (fun i x hx => h2 i x ?_) h3)
        · rw [List.getElem?_append] at hx
          split at hx
          · exact (iD i x hx).up (by omega)
          · have hi0 : i - D.length = 0 := by
              cases hk : i - D.length with
              | zero => rfl
              | succ k => rw [hk] at hx; simp at hx
            rw [hi0] at hx
            simp at hx
            subst hx
            have hie : low + i = to := by omega
            rw [hie]
            exact ⟨aa, va_up_s, ha2, pk_us⟩
        · have := iA (i + 1) x (by simpa using hx)
          rw [show le + (i + 1) = le + 1 + i by omega] at this
          exact this
        · exact (iB i x hx).up (by omega)
        · have := io i hi
          rw [va_up_n (by omega), pk_un (by omega)]
          exact this
        · rw [hmg] at hx
          rw [List.append_assoc]
          exact hx
      cases B with
      | nil =>
        simp only [List.length_nil] at e2
        refine aw_cge rfl (fun _ => ?_) (fun z => absurd ((nI_leI (by omega) (by omega)).mpr (by omega)) z)
        refine left ?_
        rw [sp_mrg_nil, sp_mrg_nil]
      | cons b B =>
        simp only [List.length_cons] at e2 hl
        obtain ⟨bb, hb1, hb2, hb3⟩ := iB 0 b rfl
        rw [Nat.add_zero] at hb1 hb3
        have hb2' := hb2.kept hZ (fun _ z => z)
        obtain ⟨a0, c1, c2, c3, c4, c5, c6, c7, hbc⟩ := hb2'.cell
        refine aw_cge rfl (fun z => absurd ((nI_leI (by omega) (by omega)).mp z) (by omega)) (fun _ => ?_)
        refine aw_run 1 (F' := (102, [some (.ref w), some (.int (nI low)), some (.int (nI mid)), some (.int (nI high)), some (.int (nI lefts)), some (.int (nI le)), some (.int (nI ri)), some (.int (nI to))], [.ref w])) rfl ?_
        refine aw_get rfl hwc rfl ?_
        refine aw_run 1 (F' := (107, [some (.ref w), some (.int (nI low)), some (.int (nI mid)), some (.int (nI high)), some (.int (nI lefts)), some (.int (nI le)), some (.int (nI ri)), some (.int (nI to))], [.int (nI ri), .ref va])) rfl ?_
        refine aw_aald rfl (by decide) m3 (vp_in_nI (by omega) (by omega)) ?_
        rw [nI_clamp (by omega), hb1]
        refine aw_run 1 (F' := (109, [some (.ref w), some (.int (nI low)), some (.int (nI mid)), some (.int (nI high)), some (.int (nI lefts)), some (.int (nI le)), some (.int (nI ri)), some (.int (nI to))], [.ref w, .ref bb])) rfl ?_
        refine aw_get rfl hwc rfl ?_
        refine aw_run 1 (F' := (114, [some (.ref w), some (.int (nI low)), some (.int (nI mid)), some (.int (nI high)), some (.int (nI lefts)), some (.int (nI le)), some (.int (nI ri)), some (.int (nI to))], [.int (nI le), .ref sa, .ref bb])) rfl ?_
        refine aw_aald rfl (by decide) m5 (vp_in_nI (by omega) (by omega)) ?_
        rw [nI_clamp (by omega), ha1]
        refine aw_run 1 (F' := (116, [some (.ref w), some (.int (nI low)), some (.int (nI mid)), some (.int (nI high)), some (.int (nI lefts)), some (.int (nI le)), some (.int (nI ri)), some (.int (nI to))], [.int (nI 1), .ref aa, .ref bb])) rfl ?_
        refine aw_s [.ref bb, .ref aa, .int (nI 1)] [] rfl ⟨by decide, by decide⟩ rfl rfl (Nat.le_of_ble_eq_true rfl) (Nat.le_of_ble_eq_true rfl) ?_
        have hhb := hB b List.mem_cons_self
        refine c_ofValues hb2'.vl ha2'.vl (by omega) (by omega) ?_
        refine aw_zge rfl (fun z => ?_) (fun z => ?_)
        · refine left ?_
          rw [sp_mrg, if_neg (fun y => Int32.lt_irrefl (Int32.lt_of_lt_of_le y z))]
        · have z' : sp_vc b.1 a.1 < 0 := Int32.not_le.mp z
          have hmg : sp_mrg (n + 1) (a :: A) (b :: B) = b :: sp_mrg n (a :: A) B := by rw [sp_mrg, if_pos z']
          refine aw_run 1 (F' := (123, [some (.ref w), some (.int (nI low)), some (.int (nI mid)), some (.int (nI high)), some (.int (nI lefts)), some (.int (nI le)), some (.int (nI ri)), some (.int (nI to))], [.ref w])) rfl ?_
          refine aw_get rfl hwc rfl ?_
          refine aw_run 2 (F' := (129, [some (.ref w), some (.int (nI low)), some (.int (nI mid)), some (.int (nI high)), some (.int (nI lefts)), some (.int (nI le)), some (.int (nI ri)), some (.int (nI to))], [.ref w, .int (nI to), .ref va])) rfl ?_
          refine aw_get rfl hwc rfl ?_
          refine aw_run 1 (F' := (134, [some (.ref w), some (.int (nI low)), some (.int (nI mid)), some (.int (nI high)), some (.int (nI lefts)), some (.int (nI le)), some (.int (nI ri)), some (.int (nI to))], [.int (nI ri), .ref va, .int (nI to), .ref va])) rfl ?_
          refine aw_aald rfl (by decide) m3 (vp_in_nI (by omega) (by omega)) ?_
          rw [nI_clamp (by omega), hb1]
          refine aw_aast rfl g2 m3 rfl hbc (vp_in_nI (by omega) (by omega)) ?_
          rw [nI_clamp (by omega)]
          have hm1 := hm.sva hf (va_up fv to (some bb))
          generalize am_set σ va (cA3 (va_up fv to (some bb))) = σ1 at hm1 ⊢
          have hwc1 := (hm1.sw hf).trans hw
          have hm1' := hm1
          obtain ⟨p1, p2, p3, p4, p5, p6⟩ := hm1'
          refine aw_run 1 (F' := (137, [some (.ref w), some (.int (nI low)), some (.int (nI mid)), some (.int (nI high)), some (.int (nI lefts)), some (.int (nI le)), some (.int (nI ri)), some (.int (nI to))], [.ref w])) rfl ?_
          refine aw_get rfl hwc1 rfl ?_
          refine aw_run 2 (F' := (143, [some (.ref w), some (.int (nI low)), some (.int (nI mid)), some (.int (nI high)), some (.int (nI lefts)), some (.int (nI le)), some (.int (nI ri)), some (.int (nI to))], [.ref w, .int (nI to), .ref oa])) rfl ?_
          refine aw_get rfl hwc1 rfl ?_
          refine aw_run 1 (F' := (148, [some (.ref w), some (.int (nI low)), some (.int (nI mid)), some (.int (nI high)), some (.int (nI lefts)), some (.int (nI le)), some (.int (nI ri)), some (.int (nI to))], [.int (nI ri), .ref oa, .int (nI to), .ref oa])) rfl ?_
          refine aw_iald rfl p4 (vp_in_nI (by omega) (by omega)) ?_
          rw [nI_clamp (by omega), hb3]
          refine aw_iast rfl g3 p4 (vp_in_nI (by omega) (by omega)) ?_
          rw [nI_clamp (by omega)]
          have hm2 := hm1.soa hf (upd fo to (nI b.2))
          generalize am_set σ1 oa (cA0 (upd fo to (nI b.2))) = σ2 at hm2 ⊢
          refine aw_run 4 (F' := (82, [some (.ref w), some (.int (nI low)), some (.int (nI mid)), some (.int (nI high)), some (.int (nI lefts)), some (.int (nI le)), some (.int (nI ri + 1)), some (.int (nI to + 1))], [])) rfl ?_
          rw [nI_1, nI_1]
          refine ih (a :: A) B (D ++ [b]) σ2 _ _ fs fp le (ri + 1) (to + 1) (by simp; omega) (by simp; omega) (by omega) (by simp; omega) (by simp; omega) hm2 hA (fun x hx => hB x (List.mem_cons_of_mem _ hx)) (fun i x hx => ?_) (fun i x hx => iA i x hx) (fun i x hx => ?_) (fun i hi => ?_) (fun σ' fv' fo' fs' fp' h1 h2 h3 => hQ σ' fv' fo' fs' fp' h1 (fun i x hx => h2 i x ?_) h3)
          · rw [List.getElem?_append] at hx
            split at hx
            · exact (iD i x hx).up (by omega)
            · have hi0 : i - D.length = 0 := by
                cases hk : i - D.length with
                | zero => rfl
                | succ k => rw [hk] at hx; simp at hx
              rw [hi0] at hx
              simp at hx
              subst hx
              have hie : low + i = to := by omega
              rw [hie]
              exact ⟨bb, va_up_s, hb2, pk_us⟩
          · have := iB (i + 1) x (by simpa using hx)
            rw [show ri + (i + 1) = ri + 1 + i by omega] at this
            exact this.up (by omega)
          · have := io i hi
            rw [va_up_n (by omega), pk_un (by omega)]
            exact this
          · rw [hmg] at hx
            rw [List.append_assoc]
            exact hx
end P44
