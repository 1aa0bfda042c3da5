/-! finding, whole -/
/-- what holds while finding goes on -/
def fnI (g : Nat × Nat) (m : Nat) (σ0 : am_H) (μ0 : sp_M) (β : Nat → Nat) (lo wd base : Nat) (σ : am_H) (μ : sp_M) (bs : List (sp_V × Nat)) (L : List sp_V) : Prop := MS g m σ0 σ μ ∧ ffr base μ0 μ ∧ plx μ β lo wd bs ∧ μ 13 0 = bs.length ∧ lfs μ β lo wd base L
/-- the steps' names -/
def fnP (μ0 : sp_M) (P : List (List Nat)) : Prop := P.length ≤ 8 ∧ μ0 3 0 = P.length ∧ ∀ s nm, P[s]? = some nm → ∃ t, nmd (μ0 5) (μ0 4 s) t ∧ t < 2010 ∧ sp_sub (μ0 5) (μ0 4 s) t = nm
def fnB (n B : Nat) (P : List (List Nat)) (x : sp_V × Nat) : Prop := x.2 ≤ P.length ∧ sp_hgt x.1.2 < n ∧ B + sp_all x.1.2 + sp_hgt x.1.2 + 1 ≤ 2999
def fnR (g : Nat × Nat) (d m : Nat) (σ0 : am_H) (Q : Option Value → am_H → Prop) (μ0 : sp_M) (β : Nat → Nat) (lo wd base sl iN : Nat) (bs : List (sp_V × Nat)) (L : List sp_V) : Prop := (500 < L.length → ∀ σ' μ', MS g m σ0 σ' μ' → ffr base μ0 μ' → Q (some (.int (nI 501))) σ') ∧ (L.length ≤ 500 → ∀ σ' μ' (x4 x5 x6 x7 : Option Value), fnI g m σ0 μ0 β lo wd base σ' μ' bs L → AW g (d + 4) 84 (21, [some (.ref m), some (.int (nI sl)), some (.int (nI iN)), some (.int (nI base)), x4, x5, x6, x7], []) σ' Q)
def fnG (g : Nat × Nat) (d m : Nat) (σ0 : am_H) (Q : Option Value → am_H → Prop) (μ0 : sp_M) (β : Nat → Nat) (lo wd base sl iN : Nat) (it : Bool) (P : List (List Nat)) (n : Nat) : Prop := ∀ (σ : am_H) (μ : sp_M) (bs : List (sp_V × Nat)) (x : sp_V × Nat) (L : List sp_V) (x4 x5 x6 x7 : Option Value), fnI g m σ0 μ0 β lo wd base σ μ (bs ++ [x]) L → L.length ≤ 500 → fnB n bs.length P x → fnR g d m σ0 Q μ0 β lo wd base sl iN bs (L ++ sp_lv it n x.1 (P.drop x.2)) → AW g (d + 4) 84 (21, [some (.ref m), some (.int (nI sl)), some (.int (nI iN)), some (.int (nI base)), x4, x5, x6, x7], []) σ Q
section P91
variable {g : Nat × Nat} {d : Nat} {σ0 σ : am_H} {Q : Option Value → am_H → Prop} {m : Nat} {μ : sp_M}
variable {sl iN base lo wd : Nat} {β : Nat → Nat} {μ0 : sp_M} {it : Bool} {P : List (List Nat)}
theorem fnI.ov {bs : List (sp_V × Nat)} {L : List sp_V} {x4 x5 x6 x7 : Option Value} (h : fnI g m σ0 μ0 β lo wd base σ μ bs L) (hb : bs.length ≤ 3000) (hl : L.length < 20000) (hR : fnR g d m σ0 Q μ0 β lo wd base sl iN bs L) : AW g (d + 4) 84 (21, [some (.ref m), some (.int (nI sl)), some (.int (nI iN)), some (.int (nI base)), x4, x5, x6, x7], []) σ Q := by
  obtain ⟨a1, a2, a3, a4, a5⟩ := h
  by_cases q : L.length ≤ 500
  · exact hR.2 q σ μ x4 x5 x6 x7 ⟨a1, a2, a3, a4, a5⟩
  · have hc := a5.1
    exact m_fOv a1 (by omega) (by omega) (by omega) (hR.1 (by omega) σ μ a1 a2)
theorem m_fnS {n : Nat} (ih : fnG g d m σ0 Q μ0 β lo wd base sl iN it P n) : ∀ (cs : List (sp_V × Nat)) (σ : am_H) (μ : sp_M) (bs : List (sp_V × Nat)) (L : List sp_V) (x4 x5 x6 x7 : Option Value), fnI g m σ0 μ0 β lo wd base σ μ (bs ++ cs.reverse) L → L.length ≤ 500 → (∀ c ∈ cs, fnB n (bs.length + cs.length - 1) P c) → fnR g d m σ0 Q μ0 β lo wd base sl iN bs (L ++ cs.flatMap (fun c => sp_lv it n c.1 (P.drop c.2))) → AW g (d + 4) 84 (21, [some (.ref m), some (.int (nI sl)), some (.int (nI iN)), some (.int (nI base)), x4, x5, x6, x7], []) σ Q := by
  intro cs
  induction cs with
  | nil =>
    intro σ μ bs L x4 x5 x6 x7 h hl _ hR
    simp only [List.reverse_nil, List.append_nil, List.flatMap_nil] at h hR
    exact hR.2 hl σ μ x4 x5 x6 x7 h
  | cons c cs ihc =>
    intro σ μ bs L x4 x5 x6 x7 h hl hB hR
    rw [List.reverse_cons, ← List.append_assoc] at h
    rw [List.flatMap_cons, ← List.append_assoc] at hR
    have hBc := hB c List.mem_cons_self
    obtain ⟨b1, b2, b3⟩ := hBc
    have hcl : (c :: cs).length = cs.length + 1 := rfl
    have hbl : (bs ++ cs.reverse).length = bs.length + cs.length := by simp
    refine ih σ μ (bs ++ cs.reverse) c L x4 x5 x6 x7 h hl ⟨b1, b2, by omega⟩ ⟨fun q => hR.1 (by simp only [List.length_append] at q ⊢; omega), fun q σ' μ' y4 y5 y6 y7 h' => ?_⟩
    exact ihc σ' μ' bs _ y4 y5 y6 y7 h' q (fun c' hc' => by
      obtain ⟨e1, e2, e3⟩ := hB c' (List.mem_cons_of_mem _ hc')
      exact ⟨e1, e2, by omega⟩) hR
theorem m_fn (hb : base ≤ 500) (hlo : lo + wd ≤ 14000) (hiN : iN = (if it = true then 1 else 0)) (hβ : μ0 1 = β) (hP : fnP μ0 P) : ∀ n, fnG g d m σ0 Q μ0 β lo wd base sl iN it P n := by
  obtain ⟨hP8, hP3, hPn⟩ := hP
  intro n
  induction n with
  | zero => intro σ μ bs x L x4 x5 x6 x7 h hl hB; exact absurd hB.2.1 (by omega)
  | succ n ih =>
    intro σ μ bs x L x4 x5 x6 x7 h hl hB hR
    obtain ⟨v, s⟩ := x
    obtain ⟨a1, a2, a3, a4, a5⟩ := h
    have hB' : s ≤ P.length ∧ sp_hgt v.2 < n + 1 ∧ bs.length + sp_all v.2 + sp_hgt v.2 + 1 ≤ 2999 := hB
    obtain ⟨b1, b2, b3⟩ := hB'
    have hR' : fnR g d m σ0 Q μ0 β lo wd base sl iN bs (L ++ sp_lv it (n + 1) v (P.drop s)) := hR
    clear hR
    obtain ⟨c1, c2, c3⟩ : μ 14 bs.length = v.1.1 ∧ μ 16 bs.length = s ∧ lvl β v lo wd (μ 15 bs.length) := a3 bs.length (v, s) app_eq
    have hpre := a3.pre
    have hm3 : μ 3 0 = P.length := by rw [a2.1 3 (by omega)]; exact hP3
    have hm1 : μ 1 = β := by rw [a2.1 1 (by omega)]; exact hβ
    have a4' : μ 13 0 = bs.length + 1 := by rw [a4]; simp
    have hc3 := c3
    obtain ⟨d1, d2, q, d3, d4⟩ := hc3
    have d5 := ly1.le d4
    have hkd := d4.kd
    generalize hp : μ 15 bs.length = p at c3 d2 d4 d5
    refine m_fPop a1 a5.1 hl a4' (by omega) c1 hp c2 (fun σ1 hM1 => ?_)
    have hf1 : ffr base μ0 (mup μ 13 0 bs.length) := ffr.up a2 (by decide)
    have hpl1 : plx (mup μ 13 0 bs.length) β lo wd bs := hpre.kept (fun t _ => ⟨by rw [mup_k _ _ _ (by decide)], by rw [mup_k _ _ _ (by decide)], by rw [mup_k _ _ _ (by decide)]⟩)
    have hlf1 : lfs (mup μ 13 0 bs.length) β lo wd base L := a5.kept (mup_k _ _ _ (by decide)) (mup_k _ _ _ (by decide)) (mup_k _ _ _ (by decide))
    have h13 : mup μ 13 0 bs.length 13 0 = bs.length := mup_s _ _ _ _
    have hm3' : mup μ 13 0 bs.length 3 0 = P.length := hm3
    have hm1' : mup μ 13 0 bs.length 1 = β := hm1
    generalize mup μ 13 0 bs.length = μ1 at hM1 hf1 hpl1 hlf1 h13 hm3' hm1'
    have hitl : (sp_its v it).length ≤ 7000 := by
      unfold sp_its
      split
      · rename_i hz
        have z1 := (ly_nst d4 (Or.inr hz.2)).2.2.2.2.all
        have z2 := sp_len_all v.2
        rw [toL_len]
        omega
      · simp
    by_cases hs : s = P.length
    · have hd : P.drop s = [] := List.drop_eq_nil_of_le (by omega)
      rw [hd] at hR'
      have hlv : sp_lv it (n + 1) v [] = v :: sp_its v it := rfl
      rw [hlv] at hR'
      have hgo := m_fA (g := g) (d := d) (σ0 := σ0) (m := m) (Q := Q) (sl := sl) (iN := iN) (x7 := x7) (it := it) (s := s) hM1 hm1' hb hlo c3 hlf1 hl (by omega) (by rw [hm3']; exact hs.symm) hiN
      refine hgo (fun σ2 μ2 y4 y5 y6 y7 hM2 hf2 hp2 hL2 => ?_)
      have hI : fnI g m σ0 μ0 β lo wd base σ2 μ2 bs (L ++ v :: sp_its v it) := ⟨hM2, hf1.tr hf2, hpl1.kept (fun t _ => ⟨by rw [hp2 14 (by omega)], by rw [hp2 15 (by omega)], by rw [hp2 16 (by omega)]⟩), by rw [hp2 13 (by omega)]; exact h13, hL2⟩
      have := hI.ov (x4 := y4) (x5 := y5) (x6 := y6) (x7 := y7) (by omega) (by simp; omega) hR'
      rw [← hiN]
      exact this
    · have hs' : s < P.length := by omega
      obtain ⟨nm, hnm⟩ : ∃ nm, P[s]? = some nm := ⟨_, List.getElem?_eq_getElem hs'⟩
      have hd : P.drop s = nm :: P.drop (s + 1) := by
        rw [drop_nm hs']
        congr 1
        exact Option.some.inj ((List.getElem?_eq_getElem hs').symm.trans hnm)
      obtain ⟨t, t1, t2, t3⟩ := hPn s nm hnm
      have t1' : nmd (μ1 5) (μ1 4 s) t := by rw [hf1.1 5 (by omega), hf1.1 4 (by omega)]; exact t1
      have t3' : sp_sub (μ1 5) (μ1 4 s) t = nm := by rw [hf1.1 5 (by omega), hf1.1 4 (by omega)]; exact t3
      rw [hd] at hR'
      by_cases hk3 : v.1.1 = 3
      · have hlv : sp_lv it (n + 1) v (nm :: P.drop (s + 1)) = (match sp_fnd nm v.2 with
            | none => [sp_miss]
            | some w => sp_lv it n w (P.drop (s + 1))) := by
          show (if v.1.1 = 4 then _ else _) = _
          rw [if_neg (by omega)]
          rfl
        rw [hlv] at hR'
        refine m_fD hM1 hm1' hb hlf1 hl hs' hP8 hm3' hk3 (by omega) (by rw [hm1']; exact d4) (by omega) t1' t2 t3' h13 (by omega) (fun hf σ2 μ2 y4 y5 y6 y7 hM2 hf2 hp2 hL2 => ?_) (fun w s' q' hf e1 e2 e3 σ2 y4 y5 y6 y7 hM2 => ?_)
        · rw [hf] at hR'
          have hI : fnI g m σ0 μ0 β lo wd base σ2 μ2 bs (L ++ [sp_miss]) := ⟨hM2, hf1.tr hf2, hpl1.kept (fun t _ => ⟨by rw [hp2 14 (by omega)], by rw [hp2 15 (by omega)], by rw [hp2 16 (by omega)]⟩), by rw [hp2 13 (by omega)]; exact h13, hL2⟩
          exact hI.ov (by omega) (by simp; omega) hR'
        · rw [hf] at hR'
          obtain ⟨w1, w2⟩ := toL_b (fnd_mem hf)
          have hwl : lvl β w lo wd (s' + 1) := ⟨by omega, by omega, q', by omega, by rw [hm1'] at e2; exact e2⟩
          have hpl2 := hpl1.push (s := s + 1) hwl
          refine ih σ2 _ bs (w, s + 1) L y4 y5 y6 y7 ⟨hM2, ffr.up (ffr.up (ffr.up (ffr.up hf1 (by decide)) (by decide)) (by decide)) (by decide), hpl2, by rw [mup_s]; simp, hlf1.kept ?_ ?_ ?_⟩ hl ⟨by show s + 1 ≤ P.length; omega, by show sp_hgt w.2 < n; omega, by show bs.length + sp_all w.2 + sp_hgt w.2 + 1 ≤ 2999; omega⟩ hR'
          · rw [mup_k _ _ _ (by decide), mup_k _ _ _ (by decide), mup_k _ _ _ (by decide), mup_k _ _ _ (by decide)]
          · rw [mup_k _ _ _ (by decide), mup_k _ _ _ (by decide), mup_k _ _ _ (by decide), mup_k _ _ _ (by decide)]
          · rw [mup_k _ _ _ (by decide), mup_k _ _ _ (by decide), mup_k _ _ _ (by decide), mup_k _ _ _ (by decide)]
      · by_cases hk4 : v.1.1 = 4
        · have hdoc : ∀ w ∈ sp_docs v.2, sp_hgt w.2 + 1 ≤ sp_hgt v.2 ∧ (sp_docs v.2).length + sp_all w.2 ≤ sp_all v.2 := by
            intro w hw
            obtain ⟨z1, z2⟩ := toL_b (docs_mem hw).1
            have z3 := List.length_filter_le (fun w : sp_V => decide (w.1.1 = 3)) (sp_toL v.2)
            have z4 : (sp_docs v.2).length ≤ (sp_toL v.2).length := z3
            exact ⟨z1, by omega⟩
          have hsl := sp_len_all v.2
          have hlv : sp_lv it (n + 1) v (nm :: P.drop (s + 1)) = (match sp_fnd nm v.2 with
              | none => []
              | some w => sp_lv it n w (P.drop (s + 1))) ++ (sp_docs v.2).flatMap (fun w => sp_lv it n w (P.drop s)) := by
            show (if v.1.1 = 4 then _ else _) = _
            rw [if_pos hk4, flat_docs, hd]
            rfl
          rw [hlv] at hR'
          have hmap : ((sp_docs v.2).map (fun w => (w, s))).flatMap (fun c => sp_lv it n c.1 (P.drop c.2)) = (sp_docs v.2).flatMap (fun w => sp_lv it n w (P.drop s)) := by
            rw [List.flatMap_map]
          have hrev : ((sp_docs v.2).map (fun w => (w, s))).reverse = (sp_docs v.2).reverse.map (fun w => (w, s)) := by rw [List.map_reverse]
          refine m_fR hM1 hlo hs' hP8 hm3' hk4 (by omega) (by rw [hm1']; exact c3) (by rw [hm1']; exact d4) (by omega) t1' t2 t3' h13 (by rw [hm1']; exact hpl1) (by omega) (fun hf σ2 μ2 y4 y5 y6 y7 hM2 hf2 h132 hpl2 => ?_) (fun w s' q' hf e1 e2 e3 σ2 μ2 y4 y5 y6 y7 hM2 hf2 hpl2 => ?_)
          · rw [hf, List.nil_append, ← hmap] at hR'
            rw [hm1', ← hrev] at hpl2
            rw [← hrev] at h132
            refine m_fnS ih ((sp_docs v.2).map (fun w => (w, s))) σ2 μ2 bs L y4 y5 y6 y7 ⟨hM2, hf1.tr ⟨fun f hf => hf2 f (by omega), fun i _ => ⟨by rw [hf2 11 (by omega)], by rw [hf2 12 (by omega)]⟩⟩, hpl2, h132, hlf1.kept (hf2 10 (by omega)) (hf2 11 (by omega)) (hf2 12 (by omega))⟩ hl (fun c hc => ?_) hR'
            obtain ⟨w, hw, rfl⟩ := List.mem_map.mp hc
            obtain ⟨z1, z2⟩ := hdoc w hw
            exact ⟨by show s ≤ P.length; omega, by show sp_hgt w.2 < n; omega, by show bs.length + _ - 1 + sp_all w.2 + sp_hgt w.2 + 1 ≤ 2999; rw [List.length_map]; omega⟩
          · rw [hf] at hR'
            obtain ⟨w1, w2⟩ := toL_b (fnd_mem hf)
            have z4 : (sp_docs v.2).length ≤ (sp_toL v.2).length := List.length_filter_le _ _
            have hwl : lvl β w lo wd (s' + 1) := ⟨by omega, by omega, q', by omega, by rw [hm1'] at e2; exact e2⟩
            rw [hm1'] at hpl2
            have hpl3 := hpl2.push (s := s + 1) hwl
            have hcs : bs ++ ((w, s + 1) :: (sp_docs v.2).map (fun w => (w, s))).reverse = (bs ++ (sp_docs v.2).reverse.map (fun w => (w, s))) ++ [(w, s + 1)] := by
              rw [List.reverse_cons, hrev, List.append_assoc]
            have hfl : ((w, s + 1) :: (sp_docs v.2).map (fun w => (w, s))).flatMap (fun c => sp_lv it n c.1 (P.drop c.2)) = sp_lv it n w (P.drop (s + 1)) ++ (sp_docs v.2).flatMap (fun w => sp_lv it n w (P.drop s)) := by
              rw [List.flatMap_cons, hmap]
            have hR2 : fnR g d m σ0 Q μ0 β lo wd base sl iN bs (L ++ ((w, s + 1) :: (sp_docs v.2).map (fun w => (w, s))).flatMap (fun c => sp_lv it n c.1 (P.drop c.2))) := by rw [hfl]; exact hR'
            have hm9 : ∀ f, f < 13 ∨ 17 ≤ f → mup (mup (mup (mup μ2 14 (bs ++ (sp_docs v.2).reverse.map (fun w => (w, s))).length w.1.1) 15 (bs ++ (sp_docs v.2).reverse.map (fun w => (w, s))).length (s' + 1)) 16 (bs ++ (sp_docs v.2).reverse.map (fun w => (w, s))).length (s + 1)) 13 0 ((bs ++ (sp_docs v.2).reverse.map (fun w => (w, s))).length + 1) f = μ1 f := by
              intro f hf
              rw [mup_k _ _ _ (by omega), mup_k _ _ _ (by omega), mup_k _ _ _ (by omega), mup_k _ _ _ (by omega)]
              exact hf2 f hf
            refine m_fnS ih ((w, s + 1) :: (sp_docs v.2).map (fun w => (w, s))) σ2 _ bs L y4 y5 y6 y7 ⟨hM2, hf1.tr ⟨fun f hf => hm9 f (by omega), fun i _ => ⟨by rw [hm9 11 (by omega)], by rw [hm9 12 (by omega)]⟩⟩, by rw [hcs]; exact hpl3, by rw [mup_s, hcs]; exact (List.length_append (as := bs ++ (sp_docs v.2).reverse.map (fun w => (w, s))) (bs := [(w, s + 1)])).symm, hlf1.kept (hm9 10 (by omega)) (hm9 11 (by omega)) (hm9 12 (by omega))⟩ hl (fun c hc => ?_) hR2
            rcases List.mem_cons.mp hc with hc | hc
            · subst hc
              exact ⟨by show s + 1 ≤ P.length; omega, by show sp_hgt w.2 < n; omega, by show bs.length + _ - 1 + sp_all w.2 + sp_hgt w.2 + 1 ≤ 2999; rw [List.length_cons, List.length_map]; omega⟩
            · obtain ⟨w', hw, rfl⟩ := List.mem_map.mp hc
              obtain ⟨z1, z2⟩ := hdoc w' hw
              exact ⟨by show s ≤ P.length; omega, by show sp_hgt w'.2 < n; omega, by show bs.length + _ - 1 + sp_all w'.2 + sp_hgt w'.2 + 1 ≤ 2999; rw [List.length_cons, List.length_map]; omega⟩
        · have hlf : v.2 = .leaf := (vat_no (Or.inr ⟨q, by omega, d4⟩)).2.2 hk3 hk4
          have hlv : sp_lv it (n + 1) v (nm :: P.drop (s + 1)) = [sp_miss] := by
            show (if v.1.1 = 4 then _ else _) = _
            rw [if_neg hk4, hlf]
            rfl
          rw [hlv] at hR'
          refine m_fM hM1 hb hlf1 hl hs' hP8 hm3' (by omega) hk3 hk4 (fun σ2 μ2 y4 y5 y6 y7 hM2 hf2 hp2 hL2 => ?_)
          have hI : fnI g m σ0 μ0 β lo wd base σ2 μ2 bs (L ++ [sp_miss]) := ⟨hM2, hf1.tr hf2, hpl1.kept (fun t _ => ⟨by rw [hp2 14 (by omega)], by rw [hp2 15 (by omega)], by rw [hp2 16 (by omega)]⟩), by rw [hp2 13 (by omega)]; exact h13, hL2⟩
          exact hI.ov (by omega) (by simp; omega) hR'
end P91
