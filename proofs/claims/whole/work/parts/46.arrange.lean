/-! arrange -/
theorem srtI.ge {X : sp_X} {lo hi hi' : Nat} (h : srtI X lo hi) (hl : X.length ≤ hi) : srtI X lo hi' := fun i j a b h1 h2 _ h4 h5 => h i j a b h1 h2 (by have := (List.getElem?_eq_some_iff.mp h5).1; omega) h4 h5
theorem srtI.same {X X' : sp_X} {lo hi : Nat} (h : srtI X lo hi) (e : ∀ i, lo ≤ i → i < hi → X'[i]? = X[i]?) : srtI X' lo hi := fun i j a b h1 h2 h3 h4 h5 => h i j a b h1 h2 h3 ((e i h1 (by omega)).symm.trans h4) ((e j (by omega) h3).symm.trans h5)
theorem srtI.all {X : sp_X} (h : srtI X 0 X.length) : sp_so X := by
  have := h.so
  rw [List.drop_zero, Nat.sub_zero, List.take_length] at this
  exact this
theorem dvd_step {W q q0 : Nat} (h1 : W ∣ q) (h2 : W ∣ q0) (h : q < q0) : q + W ≤ q0 := by
  obtain ⟨a, rfl⟩ := h1
  obtain ⟨b, rfl⟩ := h2
  have hab : a < b := Nat.lt_of_mul_lt_mul_left h
  have := Nat.mul_le_mul_left W hab
  rw [Nat.mul_succ] at this
  exact this
section P46
variable {g : Nat × Nat} {d : Nat} {σ : am_H} {Q : Option Value → am_H → Prop}
/-- what is known of a list while it is arranged -/
def ast (g : Nat × Nat) (Z : Nat → Prop) (σ0 σ : am_H) (va oa sa pa : Nat) (X0 X : sp_X) : Prop := X.length = X0.length ∧ sp_eq X0 X ∧ ∃ fv fo fs fp, mst σ0 σ va oa sa pa fv fo fs fp ∧ ∀ i x, X[i]? = some x → itm Z σ0.1 fv fo i x
set_option maxHeartbeats 2000000 in
/-- arrange: a pass -/
theorem c_arr2 {Z : Nat → Prop} {σ0 : am_H} {w va oa sa pa W : Nat} {ov : Bool} {X0 : sp_X} (hd : 55 ≤ d) (hf : fw5 g Z w va oa sa pa) (hw : σ0.1 w = some (cLs va oa sa pa X0.length ov)) (hX0 : X0.length ≤ 500) (hh : ∀ x ∈ X0, sp_hgt x.1.2 ≤ 16) (hW : 1 ≤ W) (hWN : W < X0.length)
    (hQ : ∀ (σ' : am_H) (X' : sp_X) (q : Int32), ast g Z σ0 σ' va oa sa pa X0 X' → (∀ q, 2 * W ∣ q → srtI X' q (q + 2 * W)) → AW g d 51 (51, [some (.ref w), some (.int (nI W)), some (.int q)], []) σ' Q) : ∀ (n q0 : Nat) (σ : am_H) (X : sp_X), X0.length ≤ q0 + n → q0 ≤ 2000 → 2 * W ∣ q0 → ast g Z σ0 σ va oa sa pa X0 X → (∀ q, 2 * W ∣ q → q < q0 → srtI X q (q + 2 * W)) → (∀ q, W ∣ q → q0 ≤ q → srtI X q (q + W)) → AW g d 51 (12, [some (.ref w), some (.int (nI W)), some (.int (nI q0))], []) σ Q := by
  obtain ⟨d, rfl⟩ : ∃ d', d = d' + 1 := ⟨d - 1, by omega⟩
  have hexit : ∀ (q0 : Nat) (σ : am_H) (X : sp_X), X0.length ≤ q0 + W → 2 * W ∣ q0 → ast g Z σ0 σ va oa sa pa X0 X → (∀ q, 2 * W ∣ q → q < q0 → srtI X q (q + 2 * W)) → (∀ q, W ∣ q → q0 ≤ q → srtI X q (q + W)) → AW g (d + 1) 51 (51, [some (.ref w), some (.int (nI W)), some (.int (nI q0))], []) σ Q := by
    intro q0 σ X hl hq0 ha hb1 hb2
    refine hQ σ X _ ha (fun q hq => ?_)
    by_cases z : q < q0
    · exact hb1 q hq z
    · have hWq : W ∣ q := Nat.dvd_trans ⟨2, by omega⟩ hq
      exact (hb2 q hWq (by omega)).ge (by have := ha.1; omega)
  intro n
  induction n with
  | zero =>
    intro q0 σ X hl hq2 hq0 ha hb1 hb2
    have ha' := ha
    obtain ⟨e1, e2, fv, fo, fs, fp, hm, hit⟩ := ha'
    have hwc := (hm.sw hf).trans hw
    refine aw_run 4 (F' := (16, [some (.ref w), some (.int (nI W)), some (.int (nI q0))], [.ref w, .int (nI q0 + nI W)])) rfl ?_
    refine aw_get rfl hwc rfl ?_
    rw [nI_add]
    refine aw_cge rfl (fun _ => hexit q0 σ X (by omega) hq0 ha hb1 hb2) (fun z => absurd ((nI_leI (by omega) (by omega)).mpr (by omega)) z)
  | succ n ih =>
    intro q0 σ X hl hq2 hq0 ha hb1 hb2
    have ha' := ha
    obtain ⟨e1, e2, fv, fo, fs, fp, hm, hit⟩ := ha'
    have hwc := (hm.sw hf).trans hw
    refine aw_run 4 (F' := (16, [some (.ref w), some (.int (nI W)), some (.int (nI q0))], [.ref w, .int (nI q0 + nI W)])) rfl ?_
    refine aw_get rfl hwc rfl ?_
    rw [nI_add]
    refine aw_cge rfl (fun z => ?_) (fun z => ?_)
    · have z' := (nI_leI (by omega) (by omega)).mp z
      exact hexit q0 σ X (by omega) hq0 ha hb1 hb2
    · have z' : ¬ X0.length ≤ q0 + W := fun y => z ((nI_leI (by omega) (by omega)).mpr y)
      refine aw_run 11 (F' := (33, [some (.ref w), some (.int (nI W)), some (.int (nI q0))], [.ref w, .int (nI q0 + nI 2 * nI W), .int (nI q0 + nI W), .int (nI q0), .ref w])) rfl ?_
      refine aw_get rfl hwc rfl ?_
      rw [pk_mul, nI_add, nI_add]
      refine aw_min rfl (Nat.le_of_ble_eq_true rfl) (by omega) ?_
      have hmin : (if nI X0.length < nI (q0 + 2 * W) then nI X0.length else nI (q0 + 2 * W)) = nI (min (q0 + 2 * W) X0.length) := by
        by_cases y : X0.length < q0 + 2 * W
        · rw [if_pos ((nI_ltI (by omega) (by omega)).mpr y), Nat.min_eq_right (by omega)]
        · rw [if_neg (fun u => y ((nI_ltI (by omega) (by omega)).mp u)), Nat.min_eq_left (by omega)]
      rw [hmin]
      refine aw_v [.ref w, .int (nI q0), .int (nI (q0 + W)), .int (nI (min (q0 + 2 * W) X0.length))] [] rfl (by decide) rfl hwc rfl rfl (Nat.le_of_ble_eq_true rfl) (Nat.le_of_ble_eq_true rfl) ?_
      have hhi : min (q0 + 2 * W) X0.length ≤ q0 + 2 * W ∧ min (q0 + 2 * W) X0.length ≤ X0.length ∧ q0 + W < min (q0 + 2 * W) X0.length ∧ (min (q0 + 2 * W) X0.length = q0 + 2 * W ∨ min (q0 + 2 * W) X0.length = X0.length) := by omega
      generalize min (q0 + 2 * W) X0.length = hi at hhi ⊢
      obtain ⟨hi1, hi2, hi3, hi4⟩ := hhi
      have hWq0 : W ∣ q0 := Nat.dvd_trans ⟨2, by omega⟩ hq0
      have hWq1 : W ∣ q0 + W := Nat.dvd_add hWq0 (Nat.dvd_refl W)
      have s1 := hb2 q0 hWq0 (Nat.le_refl _)
      have s2 : srtI X (q0 + W) hi := fun i j a b h1 h2 h3 h4 h5 => hb2 (q0 + W) hWq1 (by omega) i j a b h1 h2 (by omega) h4 h5
      refine c_mrg (d := d) (by omega) hf (by rw [hw, e1]) (by omega) hm hit (fun x hx => hh x (e2.mem hx)) (by omega) (by omega) (by omega) s1 s2 (fun σ' fv' fo' fs' fp' X' hm' hit' hlen heq hout hsr => ?_)
      have hwc' := (hm'.sw hf).trans hw
      refine aw_run 7 (F' := (12, [some (.ref w), some (.int (nI W)), some (.int (nI q0 + nI 2 * nI W))], [])) rfl ?_
      rw [pk_mul, nI_add]
      refine ih (q0 + 2 * W) σ' X' (by omega) (by omega) (Nat.dvd_add hq0 (Nat.dvd_refl _)) ⟨hlen.trans e1, e2.tr heq, fv', fo', fs', fp', hm', hit'⟩ (fun q hq hlt => ?_) (fun q hq hge => ?_)
      · by_cases y : q < q0
        · have := dvd_step hq hq0 y
          exact (hb1 q hq y).same (fun i b1 b2 => hout i (Or.inl (by omega)))
        · have hqe : q = q0 := by
            rcases Nat.lt_or_ge q0 q with u | u
            · have := dvd_step hq0 hq u
              omega
            · omega
          subst hqe
          rcases hi4 with u | u
          · rw [← u]; exact hsr
          · exact hsr.ge (by omega)
      · exact (hb2 q hq (by omega)).same (fun i b1 b2 => hout i (Or.inr (by omega)))
/-- arrange: its passes -/
theorem c_arr1 {Z : Nat → Prop} {σ0 : am_H} {w va oa sa pa : Nat} {ov : Bool} {X0 : sp_X} (hd : 55 ≤ d) (hf : fw5 g Z w va oa sa pa) (hw : σ0.1 w = some (cLs va oa sa pa X0.length ov)) (hX0 : X0.length ≤ 500) (hh : ∀ x ∈ X0, sp_hgt x.1.2 ≤ 16) (hQ : ∀ (σ' : am_H) (X' : sp_X), ast g Z σ0 σ' va oa sa pa X0 X' → sp_so X' → Q none σ') : ∀ (n W : Nat) (σ : am_H) (X : sp_X) (q : Option Value), 1 ≤ W → W ≤ 2000 → X0.length ≤ W + n → ast g Z σ0 σ va oa sa pa X0 X → (∀ q, W ∣ q → srtI X q (q + W)) → AW g d 51 (2, [some (.ref w), some (.int (nI W)), q], []) σ Q := by
  intro n
  induction n with
  | zero =>
    intro W σ X q hW hW2 hl ha hb
    have ha' := ha
    obtain ⟨e1, e2, fv, fo, fs, fp, hm, hit⟩ := ha'
    have hwc := (hm.sw hf).trans hw
    refine aw_run 2 (F' := (4, [some (.ref w), some (.int (nI W)), q], [.ref w, .int (nI W)])) rfl ?_
    refine aw_get rfl hwc rfl ?_
    refine aw_cge rfl (fun _ => ?_) (fun z => absurd ((nI_leI (by omega) (by omega)).mpr (by omega)) z)
    have hs := hb 0 (Nat.dvd_zero W)
    exact aw_vret rfl rfl (hQ σ X ha (hs.ge (by omega)).all)
  | succ n ih =>
    intro W σ X q hW hW2 hl ha hb
    have ha' := ha
    obtain ⟨e1, e2, fv, fo, fs, fp, hm, hit⟩ := ha'
    have hwc := (hm.sw hf).trans hw
    refine aw_run 2 (F' := (4, [some (.ref w), some (.int (nI W)), q], [.ref w, .int (nI W)])) rfl ?_
    refine aw_get rfl hwc rfl ?_
    refine aw_cge rfl (fun z => ?_) (fun z => ?_)
    · have z' := (nI_leI (by omega) (by omega)).mp z
      have hs := hb 0 (Nat.dvd_zero W)
      exact aw_vret rfl rfl (hQ σ X ha (hs.ge (by omega)).all)
    · have z' : ¬ X0.length ≤ W := fun y => z ((nI_leI (by omega) (by omega)).mpr y)
      refine aw_run 2 (F' := (12, [some (.ref w), some (.int (nI W)), some (.int (nI 0))], [])) rfl ?_
      refine c_arr2 hd hf hw hX0 hh hW (by omega) (fun σ' X' q' ha2 hb2 => ?_) X0.length 0 σ X (by omega) (by omega) (Nat.dvd_zero _) ha (fun q hq hlt => by omega) (fun q hq _ => hb q hq)
      refine aw_run 5 (F' := (2, [some (.ref w), some (.int (nI W * nI 2)), some (.int q')], [])) rfl ?_
      rw [pk_mul, Nat.mul_comm]
      exact ih (2 * W) σ' X' _ (by omega) (by omega) (by omega) ha2 hb2
/-- ValueList.arrange -/
theorem c_arr {Z : Nat → Prop} {w va oa sa pa : Nat} {ov : Bool} {X : sp_X} {fv : Nat → Option Nat} {fo : Nat → Int32} {fs : Nat → Option Nat} {fp : Nat → Int32} (hd : 55 ≤ d) (hf : fw5 g Z w va oa sa pa) (hw : σ.1 w = some (cLs va oa sa pa X.length ov)) (hX : X.length ≤ 500) (hva : σ.1 va = some (cA3 fv)) (hoa : σ.1 oa = some (cA0 fo)) (hsa : σ.1 sa = some (cA3 fs)) (hpa : σ.1 pa = some (cA0 fp)) (hit : ∀ i x, X[i]? = some x → itm Z σ.1 fv fo i x) (hh : ∀ x ∈ X, sp_hgt x.1.2 ≤ 16) (hQ : ∀ (σ' : am_H) (X' : sp_X), ast g Z σ σ' va oa sa pa X X' → sp_so X' → Q none σ') : AW g d 51 (0, [some (.ref w), none, none], []) σ Q := by
  refine aw_run 2 (F' := (2, [some (.ref w), some (.int (nI 1)), none], [])) rfl ?_
  exact c_arr1 hd hf hw hX hh hQ X.length 1 σ X none (by omega) (by omega) (by omega) ⟨rfl, sp_eq.rf X, fv, fo, fs, fp, ⟨fun _ _ _ _ _ => rfl, rfl, hva, hoa, hsa, hpa⟩, hit⟩ (fun q _ i j a b h1 h2 h3 => by omega)
end P46
