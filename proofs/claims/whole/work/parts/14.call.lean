section AMC
variable {p : Program} {l : Launch} {e : Env} {R : Room} {s : State} {m : MethodId} {args : Array Value} {below : List Frame} {meth : Method} {c : Code} {H : Heap} {locs : List Loc} {cells slots : Nat} {Q : State → Prop}
theorem am_cont {g : Nat × Nat} {D : va_G} {tys : List (ClassId × FieldType)} {σf : am_H} {v : Option Value} {mc ms pc : Nat} {ls : Array Slot} {st0 rest : List Value} (hr : va_Run p l e R s m args below meth c H locs cells slots mc ms (F0 m pc ls st0) rest (fun st oc t => oc = .returned v ∧ am_rep g D tys t σf t.heap ∧ va_F (am_A g) st t) (am_A g)) (hS : va_S (am_A g) s.heap H locs)
    (kk : ∀ (H1 : Heap) (locs1 : List Loc), am_Dx g D tys s σf H1 locs1 → W p l e R s m args below meth c H1 locs1 (cells + mc) (slots + ms) Q (F0 m (pc + 3) ls (v.toList ++ rest))) : W p l e R s m args below meth c H locs cells slots Q (F0 m pc ls st0) := by
  intro T hT X
  obtain ⟨v', st₀, t, T', L, h0, X', hL, e1, e2, ⟨hv, hrep, hz, hk⟩, st⟩ := hr T hT X
  cases hv
  rw [h0] at hz hk
  have hal : s.vm.Alike t.vm := by rw [← e2]; exact X'.warmed.alike
  obtain ⟨t2, a1, b1⟩ := kk T'.heap (locs ++ L) ⟨by rw [e1]; exact hrep.moved hal.symm, Nat.le_trans hS.1 (by rw [e1]; exact hz), fun q h1 h2 => by rw [e1, hk q (Nat.lt_of_lt_of_le h1 hS.1) h2]; exact hS.2.1 q h1 h2, fun q hq => by
      rcases List.mem_append.mp hq with h | h
      · exact hS.2.2 q h
      · exact hL q h⟩ T' rfl X'
  exact ⟨t2, st t2 a1, b1⟩
theorem am_okc_of {y i k y' : Nat} (h : am_okc y i k y' = true) : am_w (.code (am_yn y') (am_by y') (am_ml y') (am_re y')) = true ∧ am_w (.initialized (am_yn y').cls) = true ∧ (am_w (.methodLink (am_ow y) i (am_yn y')) = true ∨ Jvm.Cond.methodLinkNest (am_ow y) i (am_yn y') am_host ∈ am_nst) ∧ ((am_yn y').cls ≠ "java/lang/invoke/MethodHandle" ∧ (am_yn y').cls ≠ "java/lang/invoke/VarHandle") ∧ (parseMethodDescriptor (am_yn y').desc).map (fun d => d.parameters.length) = some (if k = 0 then am_ar y' else am_ar y' - 1) ∧ plainName (am_yn y').cls = true ∧ (am_ml y' ≤ 41 ∧ (k = 0 ∨ 0 < am_ar y')) ∧
    (if k = 0 then am_w (.static (am_yn y')) else if k = 1 then decide ((am_yn y').name = "<init>" ∧ am_re y' = none) && am_w (.instanceMethod (am_yn y')) else decide (am_cn (am_ko y') = (am_yn y').cls ∧ am_ko y' < am_nc) && (am_w (.instanceMethod (am_yn y')) && am_w (.selects (am_yn y').cls (am_yn y') (am_yn y')))) = true := by
  unfold am_okc at h
  rw [Bool.and_eq_true, Bool.and_eq_true, Bool.and_eq_true, Bool.and_eq_true, Bool.and_eq_true, Bool.and_eq_true, Bool.and_eq_true, Bool.or_eq_true] at h
  obtain ⟨h1, h2, h3, h4, h5, h6, h7, h8⟩ := h
  exact ⟨h1, h2, h3.imp id of_decide_eq_true, of_decide_eq_true h4, of_decide_eq_true h5, h6, of_decide_eq_true h7, h8⟩
set_option maxHeartbeats 4000000 in
theorem am_caW {g : Nat × Nat} {D : va_G} {tys : List (ClassId × FieldType)} {d y y' pc i k : Nat} {ins : Instr} {vs rest : List Value} {σ σ1 : am_H} {v : Option Value} {ls : Array Slot}
    (hC : am_Cx g D tys y p s m args meth c) (hsz : ls.size = am_ml y) (hDx : am_Dx g D tys s σ H locs) (hok : am_okc y i k y' = true) (hins : (k = 0 ∧ ins = .invokestatic i) ∨ (k = 1 ∧ ins = .invokespecial i) ∨ (k = 2 ∧ ins = .invokevirtual i)) (hd : decode (am_by y) pc = .ok (ins, 3)) (hfr : d + 1 ≤ R.frames) (hlo : 60 * (d + 1) ≤ R.locals) (hlen : vs.length = am_ar y') (hsum : (rest.map fun v => v.category).sum ≤ 8) (hent : (am_ent vs).length ≤ am_ml y')
    (hk : k = 0 ∨ (k = 1 ∧ ∃ b As, vs = .ref b :: As) ∨ (k = 2 ∧ ∃ b As fs, vs = .ref b :: As ∧ σ.1 b = some (.inr (am_ko y', fs)))) (hV : am_V g D tys l d y' (0, am_pad (am_ent vs) (am_ml y'), []) σ v σ1) (hc : cells + (σ1.2.1 - σ.2.1) ≤ R.cells) (hs : slots + (σ1.2.2 - σ.2.2) ≤ R.slots)
    (kk : ∀ (H1 : Heap) (locs1 : List Loc), am_Dx g D tys s σ1 H1 locs1 → W p l e R s m args below meth c H1 locs1 (cells + (σ1.2.1 - σ.2.1)) (slots + (σ1.2.2 - σ.2.2)) Q (F0 m (pc + 3) ls (v.toList ++ rest))) : W p l e R s m args below meth c H locs cells slots Q (F0 m pc ls (vs.reverse ++ rest)) := by
  obtain ⟨w1, w2, w3, w4, w5, w6, ⟨w7, w9⟩, w8⟩ := am_okc_of hok
  obtain ⟨hx, hb, hml, hown, hts, hnm, hr, hlk, hG, hB⟩ := hC
  have hM := am_met hV hent w6
  have hT := am_ts hts
  have hgd := am_good w1
  have hR : d + 1 ≤ R.frames ∧ 8 + (am_ml y' + 11) + 60 * d ≤ R.locals := ⟨hfr, by omega⟩
  have hfix : CallFix p m c (am_by y) (am_ml y) s args am_Ts (am_ow y) := ⟨hx, hb, hml, hown, hT⟩
  have hpre : ∀ U : State, U.heap = H → s.WarmedH U.vm → va_Pc vs (fun U => am_G g D tys U U.heap ∧ g.1 ≤ U.heap.size ∧ am_rep g D tys U σ U.heap) vs.toArray U := fun U hU hW => ⟨rfl, hG.go hDx.2 hU hW, by rw [hU]; exact Nat.le_trans hB hDx.2.1, by rw [hU]; exact hDx.1.moved hW.alike⟩
  have hroom : 2 * (F0 m pc ls (vs.reverse ++ rest)).monitorRoom + (rest.map fun v => v.category).sum ≤ 8 := lv_room hsum
  refine am_cont (mc := σ1.2.1 - σ.2.1) (ms := σ1.2.2 - σ.2.2) ?_ hDx.2 kk
  rcases hins with ⟨rfl, rfl⟩ | ⟨rfl, rfl⟩ | ⟨rfl, rfl⟩
  · simp only [if_true] at w5 w8
    rcases w3 with w3 | w3
    · exact va_runS hfix hM ⟨callB_of (am_ar y') hT hgd rfl rfl rfl (hts _ w2) (hts _ w3) ⟨w4.1, w4.2, w5⟩ hR, hts _ w8⟩ ⟨am_blind, hpre⟩ rfl hlen hsz rfl hroom hd ⟨hc, hs⟩
    · exact va_runSN hfix hM ⟨va_cnB (am_ar y') hT hgd rfl rfl rfl (hG.2.2.1 _ w3) (hts _ w2) ⟨w4.1, w4.2, w5⟩ hR, hts _ w8, trivial⟩ ⟨am_blind, hpre⟩ rfl hlen hsz rfl hroom hd ⟨hc, hs⟩
  · rcases hk with hk | ⟨-, b, As, rfl⟩ | ⟨hk, -⟩
    · cases hk
    · simp only [if_true, if_false, Nat.one_ne_zero, Bool.and_eq_true, decide_eq_true_eq] at w5 w8
      obtain ⟨⟨w10, w11⟩, w12⟩ := w8
      have hn : As.length = am_ar y' - 1 := by rw [← hlen]; simp
      rcases w3 with w3 | w3
      · exact va_runI (b := b) (As := As) hfix hM ⟨callB_of (ret := none) (am_ar y' - 1) hT hgd (by unfold am_ws; rw [w11]) rfl rfl (hts _ w2) (hts _ w3) ⟨w4.1, w4.2, w5⟩ hR, w10, hts _ w12⟩ ⟨am_blind, hpre⟩ rfl hn hsz (by simp) hroom hd ⟨hc, hs⟩
      · exact va_runIN (b := b) (As := As) hfix hM ⟨va_cnB (ret := none) (am_ar y' - 1) hT hgd (by unfold am_ws; rw [w11]) rfl rfl (hG.2.2.1 _ w3) (hts _ w2) ⟨w4.1, w4.2, w5⟩ hR, w10, hts _ w12⟩ ⟨am_blind, hpre⟩ rfl hn hsz (by simp) hroom hd ⟨hc, hs⟩
    · cases hk
  · rcases hk with hk | ⟨hk, -⟩ | ⟨-, b, As, fs, rfl, hcell⟩
    · cases hk
    · cases hk
    · simp only [if_false, Nat.succ_ne_self, Bool.and_eq_true, decide_eq_true_eq, show ¬ (2 : Nat) = 0 by decide, show ¬ (2 : Nat) = 1 by decide] at w5 w8
      obtain ⟨⟨w10, w11⟩, w12, w13⟩ := w8
      have hn : As.length = am_ar y' - 1 := by rw [← hlen]; simp
      have hrecv : ∃ cellB : Cell, H[b]? = some cellB ∧ cellB.vm.isStatics = false ∧ s.vm.findClass (am_yn y').cls = some cellB.cls := by
        have := va_recv (q0 := 0) hG.1 (hDx.1.one hcell) (am_cl _ w11) rfl
        rw [← w10]
        exact this
      rcases w3 with w3 | w3
      · exact va_runV (b := b) (As := As) hfix hM ⟨callB_of (am_ar y' - 1) hT hgd rfl rfl rfl (hts _ w2) (hts _ w3) ⟨w4.1, w4.2, w5⟩ hR, hts _ w12, hts _ w13⟩ ⟨am_blind, hrecv, hpre⟩ rfl hn hsz (by simp) hroom hd ⟨hc, hs⟩
      · exact va_runVN (b := b) (As := As) hfix hM ⟨va_cnB (am_ar y' - 1) hT hgd rfl rfl rfl (hG.2.2.1 _ w3) (hts _ w2) ⟨w4.1, w4.2, w5⟩ hR, hts _ w12, hts _ w13⟩ ⟨am_blind, hrecv, hpre⟩ rfl hn hsz (by simp) hroom hd ⟨hc, hs⟩
end AMC
