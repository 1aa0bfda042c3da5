/-- sorted from lo to hi -/
def srtI (X : sp_X) (lo hi : Nat) : Prop := ∀ (i j : Nat) (a b : sp_I), lo ≤ i → i < j → j < hi → X[i]? = some a → X[j]? = some b → sp_lq a b
theorem srtI.so {X : sp_X} {lo hi : Nat} (h : srtI X lo hi) : sp_so ((X.drop lo).take (hi - lo)) := by
  refine List.pairwise_iff_getElem.mpr (fun i j hi' hj hij => ?_)
  have e1 := List.getElem?_eq_getElem hi'
  have e2 := List.getElem?_eq_getElem hj
  generalize ((X.drop lo).take (hi - lo))[i] = a at e1 ⊢
  generalize ((X.drop lo).take (hi - lo))[j] = b at e2 ⊢
  rw [List.getElem?_take] at e1 e2
  split at e1
  · split at e2
    · rw [List.getElem?_drop] at e1 e2
      exact h _ _ a b (by omega) (by omega) (by omega) e1 e2
    · cases e2
  · cases e1
theorem sp_cut {X M : sp_X} {low high : Nat} (h1 : low ≤ high) (h2 : high ≤ X.length) (hM : M.length = high - low) (i : Nat) : (X.take low ++ (M ++ X.drop high))[i]? = if i < low then X[i]? else if i < high then M[i - low]? else X[i]? := by
  have hT : (X.take low).length = low := by rw [List.length_take]; omega
  rw [List.getElem?_append, hT]
  by_cases q : i < low
  · rw [if_pos q, if_pos q, List.getElem?_take, if_pos q]
  · rw [if_neg q, if_neg q, List.getElem?_append, hM]
    by_cases z : i < high
    · rw [if_pos (by omega), if_pos z]
    · rw [if_neg (by omega), if_neg z, List.getElem?_drop]
      congr 1
      omega
theorem sp_cut_eq {X : sp_X} {low mid high : Nat} (h0 : low ≤ mid) (h1 : mid ≤ high) (h2 : high ≤ X.length) : X = X.take low ++ (((X.drop low).take (mid - low) ++ (X.drop mid).take (high - mid)) ++ X.drop high) := by
  have hA : ((X.drop low).take (mid - low)).length = mid - low := by rw [List.length_take, List.length_drop]; omega
  have hB : ((X.drop mid).take (high - mid)).length = high - mid := by rw [List.length_take, List.length_drop]; omega
  apply List.ext_getElem?
  intro i
  rw [sp_cut (by omega) h2 (by rw [List.length_append, hA, hB]; omega)]
  by_cases q : i < low
  · rw [if_pos q]
  · rw [if_neg q]
    by_cases z : i < high
    · rw [if_pos z, List.getElem?_append, hA]
      by_cases y : i - low < mid - low
      · rw [if_pos y, List.getElem?_take, if_pos y, List.getElem?_drop]
        congr 1
        omega
      · rw [if_neg y, List.getElem?_take, if_pos (by omega), List.getElem?_drop]
        congr 1
        omega
    · rw [if_neg z]
section P45
variable {g : Nat × Nat} {d : Nat} {σ : am_H} {Q : Option Value → am_H → Prop}
/-- ValueList.valueAt, where there is one -/
theorem c_vat {w va oa sa pa N k a : Nat} {ov : Bool} {fv : Nat → Option Nat} (hw : σ.1 w = some (cLs va oa sa pa N ov)) (hva : σ.1 va = some (cA3 fv)) (hk : k < N) (hN : N ≤ 500) (hfv : fv k = some a) (hQ : Q (some (.ref a)) σ) : AW g d 47 (0, [some (.ref w), some (.int (nI k))], []) σ Q := by
  refine aw_run 1 (F' := (1, [some (.ref w), some (.int (nI k))], [.int (nI k)])) rfl ?_
  refine aw_zlt rfl (fun z => absurd z (nI_pos (by omega))) (fun _ => ?_)
  refine aw_run 2 (F' := (6, [some (.ref w), some (.int (nI k))], [.ref w, .int (nI k)])) rfl ?_
  refine aw_get rfl hw rfl ?_
  refine aw_cge rfl (fun z => absurd ((nI_leI (by omega) (by omega)).mp z) (by omega)) (fun _ => ?_)
  refine aw_run 1 (F' := (13, [some (.ref w), some (.int (nI k))], [.ref w])) rfl ?_
  refine aw_get rfl hw rfl ?_
  refine aw_run 1 (F' := (17, [some (.ref w), some (.int (nI k))], [.int (nI k), .ref va])) rfl ?_
  refine aw_aald rfl (by decide) hva (vp_in_nI (by omega) (by omega)) ?_
  rw [nI_clamp (by omega), hfv]
  refine aw_run 1 (F' := (22, [some (.ref w), some (.int (nI k))], [.ref a])) rfl ?_
  exact aw_aret rfl ⟨_, rfl, Or.inl ⟨_, rfl⟩⟩ hQ
/-- mergeRuns: the left run is copied -/
theorem c_cpL {Z : Nat → Prop} {σ0 : am_H} {w va oa sa pa N low mid high lefts : Nat} {ov : Bool} {fv : Nat → Option Nat} {fo : Nat → Int32} (hf : fw5 g Z w va oa sa pa) (hw : σ0.1 w = some (cLs va oa sa pa N ov)) (hN : low + lefts ≤ 500) (hit : ∀ i, i < lefts → ∃ x, itm Z σ0.1 fv fo (low + i) x) (hQ : ∀ (σ' : am_H) (fs : Nat → Option Nat) (fp : Nat → Int32), mst σ0 σ' va oa sa pa fv fo fs fp → (∀ j, j < lefts → fs j = fv (low + j) ∧ fp j = fo (low + j)) → AW g d 52 (73, [some (.ref w), some (.int (nI low)), some (.int (nI mid)), some (.int (nI high)), some (.int (nI lefts)), some (.int (nI lefts)), none, none], []) σ' Q) : ∀ (n i : Nat) (σ : am_H) (fs : Nat → Option Nat) (fp : Nat → Int32), i + n = lefts → mst σ0 σ va oa sa pa fv fo fs fp → (∀ j, j < i → fs j = fv (low + j) ∧ fp j = fo (low + j)) → AW g d 52 (28, [some (.ref w), some (.int (nI low)), some (.int (nI mid)), some (.int (nI high)), some (.int (nI lefts)), some (.int (nI i)), none, none], []) σ Q := by
  intro n
  induction n with
  | zero =>
    intro i σ fs fp hi hm hc
    have : i = lefts := by omega
    subst this
    refine aw_run 2 (F' := (32, [some (.ref w), some (.int (nI low)), some (.int (nI mid)), some (.int (nI high)), some (.int (nI i)), some (.int (nI i)), none, none], [.int (nI i), .int (nI i)])) rfl ?_
    refine aw_cge rfl (fun _ => hQ σ fs fp hm hc) (fun z => absurd (Int32.le_refl _) z)
  | succ n ih =>
    intro i σ fs fp hi hm hc
    have hwc := (hm.sw hf).trans hw
    have hm' := hm
    obtain ⟨m1, m2, m3, m4, m5, m6⟩ := hm'
    have hf' := hf
    obtain ⟨-, g4, g5, -⟩ := hf'
    obtain ⟨x, aa, ha1, ha2, ha3⟩ := hit i (by omega)
    obtain ⟨a0, b1, b2, b3, b4, b5, b6, b7, hac⟩ := (ha2.kept (hm.sz hf) (fun _ z => z)).cell
    refine aw_run 2 (F' := (32, [some (.ref w), some (.int (nI low)), some (.int (nI mid)), some (.int (nI high)), some (.int (nI lefts)), some (.int (nI i)), none, none], [.int (nI lefts), .int (nI i)])) rfl ?_
    refine aw_cge rfl (fun z => absurd ((nI_leI (by omega) (by omega)).mp z) (by omega)) (fun _ => ?_)
    refine aw_run 1 (F' := (36, [some (.ref w), some (.int (nI low)), some (.int (nI mid)), some (.int (nI high)), some (.int (nI lefts)), some (.int (nI i)), none, none], [.ref w])) rfl ?_
    refine aw_get rfl hwc rfl ?_
    refine aw_run 2 (F' := (42, [some (.ref w), some (.int (nI low)), some (.int (nI mid)), some (.int (nI high)), some (.int (nI lefts)), some (.int (nI i)), none, none], [.ref w, .int (nI i), .ref sa])) rfl ?_
    refine aw_get rfl hwc rfl ?_
    refine aw_run 3 (F' := (49, [some (.ref w), some (.int (nI low)), some (.int (nI mid)), some (.int (nI high)), some (.int (nI lefts)), some (.int (nI i)), none, none], [.int (nI low + nI i), .ref va, .int (nI i), .ref sa])) rfl ?_
    rw [nI_add]
    refine aw_aald rfl (by decide) m3 (vp_in_nI (by omega) (by omega)) ?_
    rw [nI_clamp (by omega), ha1]
    refine aw_aast rfl g4 m5 rfl hac (vp_in_nI (by omega) (by omega)) ?_
    rw [nI_clamp (by omega)]
    have hm1 := hm.ssa hf (va_up fs i (some aa))
    generalize am_set σ sa (cA3 (va_up fs i (some aa))) = σ1 at hm1 ⊢
    have hwc1 := (hm1.sw hf).trans hw
    have hm1' := hm1
    obtain ⟨p1, p2, p3, p4, p5, p6⟩ := hm1'
    refine aw_run 1 (F' := (52, [some (.ref w), some (.int (nI low)), some (.int (nI mid)), some (.int (nI high)), some (.int (nI lefts)), some (.int (nI i)), none, none], [.ref w])) rfl ?_
    refine aw_get rfl hwc1 rfl ?_
    refine aw_run 2 (F' := (58, [some (.ref w), some (.int (nI low)), some (.int (nI mid)), some (.int (nI high)), some (.int (nI lefts)), some (.int (nI i)), none, none], [.ref w, .int (nI i), .ref pa])) rfl ?_
    refine aw_get rfl hwc1 rfl ?_
    refine aw_run 3 (F' := (65, [some (.ref w), some (.int (nI low)), some (.int (nI mid)), some (.int (nI high)), some (.int (nI lefts)), some (.int (nI i)), none, none], [.int (nI low + nI i), .ref oa, .int (nI i), .ref pa])) rfl ?_
    rw [nI_add]
    refine aw_iald rfl p4 (vp_in_nI (by omega) (by omega)) ?_
    rw [nI_clamp (by omega)]
    refine aw_iast rfl g5 p6 (vp_in_nI (by omega) (by omega)) ?_
    rw [nI_clamp (by omega)]
    have hm2 := hm1.spa hf (upd fp i (fo (low + i)))
    generalize am_set σ1 pa (cA0 (upd fp i (fo (low + i)))) = σ2 at hm2 ⊢
    refine aw_run 2 (F' := (28, [some (.ref w), some (.int (nI low)), some (.int (nI mid)), some (.int (nI high)), some (.int (nI lefts)), some (.int (nI i + 1)), none, none], [])) rfl ?_
    rw [nI_1]
    refine ih (i + 1) σ2 _ _ (by omega) hm2 (fun j hj => ?_)
    by_cases q : j = i
    · subst q
      exact ⟨va_up_s.trans ha1.symm, pk_us⟩
    · rw [va_up_n q, pk_un q]
      exact hc j (by omega)
/-- ValueList.mergeRuns -/
theorem c_mrg {Z : Nat → Prop} {σ0 : am_H} {w va oa sa pa low mid high : Nat} {ov : Bool} {X : sp_X} {fv : Nat → Option Nat} {fo : Nat → Int32} {fs : Nat → Option Nat} {fp : Nat → Int32} (hd : 54 ≤ d) (hf : fw5 g Z w va oa sa pa) (hw : σ0.1 w = some (cLs va oa sa pa X.length ov)) (hX : X.length ≤ 500) (hm : mst σ0 σ va oa sa pa fv fo fs fp) (hit : ∀ i x, X[i]? = some x → itm Z σ0.1 fv fo i x) (hh : ∀ x ∈ X, sp_hgt x.1.2 ≤ 16) (h1 : low < mid) (h2 : mid < high) (h3 : high ≤ X.length) (s1 : srtI X low mid) (s2 : srtI X mid high)
    (hQ : ∀ (σ' : am_H) (fv' : Nat → Option Nat) (fo' : Nat → Int32) (fs' : Nat → Option Nat) (fp' : Nat → Int32) (X' : sp_X), mst σ0 σ' va oa sa pa fv' fo' fs' fp' → (∀ i x, X'[i]? = some x → itm Z σ0.1 fv' fo' i x) → X'.length = X.length → sp_eq X X' → (∀ i, i < low ∨ high ≤ i → X'[i]? = X[i]?) → srtI X' low high → Q none σ') : AW g d 52 (0, [some (.ref w), some (.int (nI low)), some (.int (nI mid)), some (.int (nI high)), none, none, none, none], []) σ Q := by
  obtain ⟨d, rfl⟩ : ∃ d', d = d' + 1 := ⟨d - 1, by omega⟩
  have hwc := (hm.sw hf).trans hw
  have hZ := hm.sz hf
  have hm' := hm
  obtain ⟨m1, m2, m3, m4, m5, m6⟩ := hm'
  have get : ∀ i, i < X.length → ∃ x, X[i]? = some x := fun i hi => ⟨_, List.getElem?_eq_getElem hi⟩
  obtain ⟨xa, hxa⟩ := get (mid - 1) (by omega)
  obtain ⟨xb, hxb⟩ := get mid (by omega)
  obtain ⟨aa, ha1, ha2, ha3⟩ := hit _ _ hxa
  obtain ⟨bb, hb1, hb2, hb3⟩ := hit _ _ hxb
  refine aw_run 4 (F' := (4, [some (.ref w), some (.int (nI low)), some (.int (nI mid)), some (.int (nI high)), none, none, none, none], [.int (nI mid - nI 1), .ref w])) rfl ?_
  rw [pk_sub (by omega)]
  refine aw_v [.ref w, .int (nI (mid - 1))] [] rfl (by decide) rfl hwc rfl rfl (Nat.le_of_ble_eq_true rfl) (Nat.le_of_ble_eq_true rfl) ?_
  refine c_vat hwc m3 (by omega) hX ha1 ?_
  refine aw_run 2 (F' := (9, [some (.ref w), some (.int (nI low)), some (.int (nI mid)), some (.int (nI high)), none, none, none, none], [.int (nI mid), .ref w, .ref aa])) rfl ?_
  refine aw_v [.ref w, .int (nI mid)] [.ref aa] rfl (by decide) rfl hwc rfl rfl (Nat.le_of_ble_eq_true rfl) (Nat.le_of_ble_eq_true rfl) ?_
  refine c_vat hwc m3 (by omega) hX hb1 ?_
  refine aw_run 1 (F' := (13, [some (.ref w), some (.int (nI low)), some (.int (nI mid)), some (.int (nI high)), none, none, none, none], [.int (nI 1), .ref bb, .ref aa])) rfl ?_
  refine aw_s [.ref aa, .ref bb, .int (nI 1)] [] rfl ⟨by decide, by decide⟩ rfl rfl (Nat.le_of_ble_eq_true rfl) (Nat.le_of_ble_eq_true rfl) ?_
  have hha := hh xa (List.mem_of_getElem? hxa)
  refine c_ofValues (ha2.kept hZ (fun _ z => z)).vl (hb2.kept hZ (fun _ z => z)).vl (by omega) (by omega) ?_
  refine aw_zgt rfl (fun z => ?_) (fun z => ?_)
  · have hlA : ((X.drop low).take (mid - low)).length = mid - low := by rw [List.length_take, List.length_drop]; omega
    have hlB : ((X.drop mid).take (high - mid)).length = high - mid := by rw [List.length_take, List.length_drop]; omega
    have gA : ∀ i x, ((X.drop low).take (mid - low))[i]? = some x → X[low + i]? = some x := by
      intro i x hx
      rw [List.getElem?_take] at hx
      split at hx
      · rw [List.getElem?_drop] at hx; exact hx
      · cases hx
    have gB : ∀ i x, ((X.drop mid).take (high - mid))[i]? = some x → X[mid + i]? = some x := by
      intro i x hx
      rw [List.getElem?_take] at hx
      split at hx
      · rw [List.getElem?_drop] at hx; exact hx
      · cases hx
    have sA := s1.so
    have sB := s2.so
    have hcut := sp_cut_eq (X := X) (low := low) (mid := mid) (high := high) (by omega) (by omega) h3
    have mA : ∀ x ∈ (X.drop low).take (mid - low), sp_hgt x.1.2 ≤ 16 := fun x hx => hh x (List.mem_of_mem_drop (List.mem_of_mem_take hx))
    have mB : ∀ x ∈ (X.drop mid).take (high - mid), sp_hgt x.1.2 ≤ 16 := fun x hx => hh x (List.mem_of_mem_drop (List.mem_of_mem_take hx))
    generalize (X.drop low).take (mid - low) = A at hlA gA sA hcut mA
    generalize (X.drop mid).take (high - mid) = B at hlB gB sB hcut mB
    refine aw_run 6 (F' := (28, [some (.ref w), some (.int (nI low)), some (.int (nI mid)), some (.int (nI high)), some (.int (nI mid - nI low)), some (.int (nI 0)), none, none], [])) rfl ?_
    rw [pk_sub (by omega)]
    refine c_cpL hf hw (by omega) (fun i hi => ?_) (fun σ1 fs1 fp1 hm1 hc1 => ?_) (mid - low) 0 σ fs fp (by omega) hm (fun j hj => by omega)
    · obtain ⟨x, hx⟩ := get (low + i) (by omega)
      exact ⟨x, hit _ _ hx⟩
    refine aw_run 6 (F' := (82, [some (.ref w), some (.int (nI low)), some (.int (nI mid)), some (.int (nI high)), some (.int (nI (mid - low))), some (.int (nI 0)), some (.int (nI mid)), some (.int (nI low))], [])) rfl ?_
    refine c_mrgL (d := d) (by omega) hf hw (by omega) (by omega) (fv0 := fv) (fo0 := fo) (A.length + B.length) A B [] σ1 fv fo fs1 fp1 0 mid low (Nat.le_refl _) (by omega) (by omega) (by omega) rfl hm1 mA mB (fun i x hx => by simp at hx) (fun i x hx => ?_) (fun i x hx => hit _ _ (gB i x hx)) (fun i _ => ⟨rfl, rfl⟩) (fun σ' fv' fo' fs' fp' hm2 hi2 ho2 => ?_)
    · obtain ⟨a, q1, q2, q3⟩ := hit _ _ (gA i x hx)
      have hi : i < A.length := (List.getElem?_eq_some_iff.mp hx).1
      obtain ⟨r1, r2⟩ := hc1 i (by omega)
      rw [Nat.zero_add]
      exact ⟨a, r1.trans q1, q2, r2.trans q3⟩
    · rw [List.nil_append] at hi2
      have hlM := sp_mrg_len (A.length + B.length) A B
      have sM := sp_mrg_so (A.length + B.length) A B (Nat.le_refl _) sA sB
      have eM := sp_mrg_eq (A.length + B.length) A B sA
      generalize sp_mrg (A.length + B.length) A B = M at hi2 hlM sM eM
      have cut := sp_cut (X := X) (M := M) (low := low) (high := high) (by omega) h3 (by omega)
      refine hQ σ' fv' fo' fs' fp' (X.take low ++ (M ++ X.drop high)) hm2 (fun i x hx => ?_) ?_ ?_ (fun i hi => ?_) (fun i j a b b1 b2 b3 b4 b5 => ?_)
      · rw [cut] at hx
        by_cases q : i < low
        · rw [if_pos q] at hx
          obtain ⟨a, q1, q2, q3⟩ := hit _ _ hx
          obtain ⟨r1, r2⟩ := ho2 i (Or.inl q)
          exact ⟨a, r1.trans q1, q2, r2.trans q3⟩
        · rw [if_neg q] at hx
          by_cases y : i < high
          · rw [if_pos y] at hx
            have := hi2 _ _ hx
            rw [show low + (i - low) = i by omega] at this
            exact this
          · rw [if_neg y] at hx
            obtain ⟨a, q1, q2, q3⟩ := hit _ _ hx
            obtain ⟨r1, r2⟩ := ho2 i (Or.inr (by omega))
            exact ⟨a, r1.trans q1, q2, r2.trans q3⟩
      · rw [List.length_append, List.length_append, List.length_take, List.length_drop]
        omega
      · have : sp_eq (X.take low ++ ((A ++ B) ++ X.drop high)) (X.take low ++ (M ++ X.drop high)) := (sp_eq.rf _).app (eM.app (sp_eq.rf _))
        rw [← hcut] at this
        exact this
      · rw [cut]
        rcases hi with q | q
        · rw [if_pos q]
        · rw [if_neg (by omega), if_neg (by omega)]
      · rw [cut, if_neg (by omega), if_pos (by omega)] at b4 b5
        have hi := (List.getElem?_eq_some_iff.mp b4)
        have hj := (List.getElem?_eq_some_iff.mp b5)
        obtain ⟨hi, rfl⟩ := hi
        obtain ⟨hj, rfl⟩ := hj
        exact List.pairwise_iff_getElem.mp sM _ _ hi hj (by omega)
  · have hlq : sp_lq xa xb := Int32.not_lt.mp z
    refine aw_vret rfl rfl (hQ σ fv fo fs fp X hm hit rfl (sp_eq.rf X) (fun _ _ => rfl) (fun i j a b b1 b2 b3 b4 b5 => ?_))
    by_cases q1 : j < mid
    · exact s1 i j a b b1 b2 q1 b4 b5
    · by_cases q2 : mid ≤ i
      · exact s2 i j a b q2 b2 b3 b4 b5
      · have l1 : sp_lq a xa := by
          by_cases e : i = mid - 1
          · rw [e, hxa] at b4
            cases b4
            exact sp_lq_rf _
          · exact s1 i (mid - 1) a xa b1 (by omega) (by omega) b4 hxa
        have l2 : sp_lq xb b := by
          by_cases e : j = mid
          · rw [e, hxb] at b5
            cases b5
            exact sp_lq_rf _
          · exact s2 mid j xb b (Nat.le_refl _) (by omega) b3 hxb b5
        exact sp_lq_tr l1 (sp_lq_tr hlq l2)
end P45
