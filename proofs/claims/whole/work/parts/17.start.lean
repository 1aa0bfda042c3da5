/-! THE CLAIM OUT OF ONE WALK OF THE LAW'S BODY. Your part is whole_start (and what it stands on); all else here is the same for every law, but numbers. -/
def R_law : String := "ValueOrderLaw"
def lw_P (b : Addr) (xs : List Int32) (args : Array Value) (s : State) : Prop := args = #[.ref b] ∧ s.IntsAt b xs ∧ xs.length ≤ 3072 ∧ (Jvm.Cond.and given_1 narrow_1).before args s = true
def lw_Q (_ : Array Value) (s : State) (o : Outcome) (t : State) : Prop := o = .returned (some (.int 1)) ∧ Framed s o t [] 600000 7302250
def lw_Z (below : List Frame) (a : Array Value) (s : State) : State → Prop := fun t => ∃ o, t.status = .running ∧ Ended t below o ∧ lw_Q a s o t
/-- the law's own end, with 1 on the stack, nothing written that was there before, its room as the claim has it -/
theorem lw_ret {p : Program} {l : Launch} {e : Env} {s : State} {m : MethodId} {below : List Frame} {meth : Method} {c : Code} {b : Nat} (hx : p.tables.exec = Jvm.exec) (hb : c.code = code) (hr : meth.sig.returnType = ret) (hlocks : meth.locks = false) {pc : Nat} {H : Heap} {ls : Array Slot} (hdg : decode code pc = .ok (.ireturn, 1)) : W p l e room_1 s m #[Value.ref b] below meth c H [] 600000 7302250 (lw_Z below #[Value.ref b] s) (F0 m pc ls [.int 1]) := by
  intro T hT X
  obtain ⟨fs, hret, hrun, hended, hW, hframe⟩ := X.leave (v := some (.int 1)) (hlocks := hlocks) (fun h => by rw [hr] at h; cases h)
  have hmeth' : T.vm.method? m = some meth := X.method'
  refine ⟨T.setFrames fs, ?_, .returned (some (.int 1)), hrun, hended, rfl, ⟨_, rfl⟩, hW, hframe⟩
  jvm_step X.here [X.here.top, hx, hb, hdg, hmeth', hr, ret, narrow_b1]
  (try refine ⟨rfl, ?_⟩); (try refine ⟨rfl, ?_⟩)
  first | (intro acts; rw [hret _ acts rfl rfl rfl]) | rw [hret _ _ rfl rfl rfl]
  exact Steps.refl _
/-- what holds at the law's entry: the machine, the code, the tables' words (any of lw_tbl by 'hts w (by decide +kernel)'), the script of L ints xs at the cell b, what the Statement gives of the start (any of its parts by flat_of_before) -/
def lw_At (p : Program) (s : State) (m : MethodId) (meth : Method) (c : Code) (b L : Nat) (xs : Nat → Int32) : Prop :=
  p.tables.exec = Jvm.exec ∧ c.code = code ∧ meth.sig.returnType = ret ∧ c.maxLocals = 4 ∧ s.vm.findClass R_law = some m.cls ∧ (∀ w ∈ lw_tbl, w.before #[Value.ref b] s = true) ∧ va_X b L xs s s.heap ∧ b < s.heap.size ∧ meth.locks = false ∧ (Jvm.Cond.and given_1 narrow_1).before #[Value.ref b] s = true ∧ meth.name = "law"
/-- the heap at the entry: the script, the static row -/
def am_h0 (b nb L : Nat) (xs : Nat → Int32) : Nat → Option am_C := fun a => if a = b then some (.inl (0, L, .inl xs)) else if a = nb then some (.inl (1, 0, .inl (fun _ => 0))) else none
/-- what is asked of the small machine -/
def am_goal (b L : Nat) (xs : Nat → Int32) : Prop := ∀ B nb : Nat, b < B → nb < B → b ≠ nb → AW (B, nb) 200 0 (0, [some (.ref b), none, none, none], []) (am_h0 b nb L xs, B, 0) (fun v σ' => v = some (.int 1) ∧ σ'.2.1 ≤ B + 600000 ∧ σ'.2.2 ≤ 7302250)
theorem am_nstW : ∀ w ∈ am_nst, w ∈ lw_tbl ∧ w.onTables = true := by decide +kernel
theorem am_aosW : ∀ C ∈ am_aos, Jvm.Cond.arrayOver (.object C) ∈ lw_tbl := by decide +kernel
set_option maxHeartbeats 4000000 in
theorem am_start {p : Program} {e : Env} {s : State} {m : MethodId} {below : List Frame} {meth : Method} {c : Code} (l : Launch) {b L : Nat} {xs : Nat → Int32} (hrun : am_goal b L xs) (C0 : lw_At p s m meth c b L xs) : W p l e room_1 s m #[Value.ref b] below meth c s.heap [] 0 0 (lw_Z below #[Value.ref b] s) (entryFrame m ([Value.ref b] : List Value).toArray 4) := by
  obtain ⟨hx, hb, hr, hml, hown, hts, hX, hbl, hlk, hgv, hnm⟩ := C0
  have hw : ∀ w, am_w w = true → w.before #[Value.ref b] s = true := fun w h => hts w (List.mem_filter.mp (am_w_of h).1).1
  have hD : ∀ ci : Nat, ∃ (cC : ClassId) (iS : Nat → Nat), ci < am_nc → u_Kn s (am_cn ci) (am_T ci) (am_nf ci) cC iS := by
    intro ci
    by_cases h : ci < am_nc
    · obtain ⟨cC, iS, hk⟩ := u_known (am_ts hw) (am_lay ci h) (hw _ (am_ins ci h))
      exact ⟨cC, iS, fun _ => hk⟩
    · exact ⟨0, fun _ => 0, fun q => absurd q h⟩
  obtain ⟨D, hDs⟩ : ∃ D : va_G, ∀ ci, ci < am_nc → u_Kn s (am_cn ci) (am_T ci) (am_nf ci) (D.1 ci) (D.2 ci) := ⟨(fun ci => Classical.choose (hD ci), fun ci => Classical.choose (Classical.choose_spec (hD ci))), fun ci => Classical.choose_spec (Classical.choose_spec (hD ci))⟩
  obtain ⟨cI, hI⟩ : ∃ cA, ArrOfT s cA .int ∧ va_RA s cA .int := by
    obtain ⟨cA, kA, comp, h1, h2, h3⟩ := Cond.arrayClass_spec (hw (.arrayClass .int) (by decide +kernel))
    exact ⟨cA, fun n z => ⟨(fun k h => by cases h), kA, h2, comp, h3⟩, h1⟩
  obtain ⟨cB, hBy⟩ : ∃ cA, ArrOfT s cA .byte ∧ va_RA s cA .byte := by
    obtain ⟨cA, kA, comp, h1, h2, h3⟩ := Cond.arrayClass_spec (hw (.arrayClass .byte) (by decide +kernel))
    exact ⟨cA, fun n z => ⟨(fun k h => by cases h), kA, h2, comp, h3⟩, h1⟩
  obtain ⟨cZ, hZo⟩ : ∃ cA, ArrOfT s cA .boolean ∧ va_RA s cA .boolean := by
    obtain ⟨cA, kA, comp, h1, h2, h3⟩ := Cond.arrayClass_spec (hw (.arrayClass .boolean) (by decide +kernel))
    exact ⟨cA, fun n z => ⟨(fun k h => by cases h), kA, h2, comp, h3⟩, h1⟩
  have hq : ∀ C, C ∈ am_aos → ∃ cA, ArrOfT s cA (.object C) ∧ va_RA s cA (.object C) := by
    intro C hC
    obtain ⟨comp, cA, kA, h1, h2, h3, h4, h5⟩ := Cond.arrayOver_spec (hts _ (am_aosW C hC))
    exact ⟨cA, fun n z => ⟨(fun k h => by cases h), kA, h3, comp, h4⟩, kA, comp, h3, h4, h1, h5⟩
  obtain ⟨cV, hV⟩ := hq "ValueOrder$Value" (by decide +kernel)
  obtain ⟨cL, hLi⟩ := hq "ValueOrder$ValueList" (by decide +kernel)
  have hs := flat_of_before _ hgv
  obtain ⟨nb, hnb, hT⟩ := va_Tof (tm := .static "ValueOrder" "NO_BYTES" "[B") (ty := .byte) (N := 0) (f := fun _ => .int 0) (A := am_A (s.heap.size, 0)) (by decide) (hs (.arrayOf (.static "ValueOrder" "NO_BYTES" "[B") .byte) (by decide +kernel)) (va_eqt (hs (.eq (.length (.static "ValueOrder" "NO_BYTES" "[B")) (.int 0)) (by decide +kernel))) (fun j hj => absurd hj (Nat.not_lt_zero _)) (fun a ha hA => absurd ha (Nat.not_lt.mpr hA))
  have hZ : va_Z "ValueOrder" "NO_BYTES" "[B" (.ref nb) (am_A (s.heap.size, nb)) s s.heap := va_Zref (hts (.laysStatic "ValueOrder" "NO_BYTES" "[B") (by decide +kernel)) (hts (.initialized "ValueOrder") (by decide +kernel)) hnb (fun a ha hA => absurd ha (Nat.not_lt.mpr hA))
  have hnl : nb < s.heap.size := by
    obtain ⟨cell, h1, -⟩ := hT
    exact (Array.getElem?_eq_some_iff.mp h1).1
  have hne : b ≠ nb := by
    intro q
    subst q
    obtain ⟨cell, h1, ⟨-, k1, hk1, comp1, hc1⟩, -⟩ := hT
    obtain ⟨scr, g1, ⟨-, k2, hk2, comp2, hc2⟩, -⟩ := hX
    cases h1.symm.trans g1
    cases hk1.symm.trans hk2
    rw [hc1] at hc2
    cases hc2
  have hK : va_K D am_vw [(cI, .int), (cB, .byte), (cZ, .boolean), (cV, .object "ValueOrder$Value"), (cL, .object "ValueOrder$ValueList")] s := by
    refine ⟨fun ci q hq => ?_, fun k q hk => ?_⟩
    · have hci : ci < am_nc := (List.getElem?_eq_some_iff.mp hq).1
      rw [am_cl ci hci] at hq
      cases hq
      exact hDs ci hci
    · have h5 : k < 5 := (List.getElem?_eq_some_iff.mp hk).1
      rcases (by omega : k = 0 ∨ k = 1 ∨ k = 2 ∨ k = 3 ∨ k = 4) with rfl | rfl | rfl | rfl | rfl
      · cases hk
        exact hI
      · cases hk
        exact hBy
      · cases hk
        exact hZo
      · cases hk
        exact hV
      · cases hk
        exact hLi
  have hG : am_G (s.heap.size, nb) D [(cI, .int), (cB, .byte), (cZ, .boolean), (cV, .object "ValueOrder$Value"), (cL, .object "ValueOrder$ValueList")] s s.heap :=
    ⟨hK, rfl, fun w hw' => va_Nw.of (am_nstW w hw').2 (hts w (am_nstW w hw').1), fun C hC => va_AO.of (hts _ (am_aosW C hC)), hZ, va_Nw.of rfl (hts (.castable "[B" "java/lang/Cloneable") (by decide +kernel))⟩
  have hrep : am_rep (s.heap.size, nb) D [(cI, .int), (cB, .byte), (cZ, .boolean), (cV, .object "ValueOrder$Value"), (cL, .object "ValueOrder$ValueList")] s (am_h0 b nb L xs, s.heap.size, 0) s.heap := by
    refine ⟨rfl, fun a q hq => ?_⟩
    simp only [am_h0] at hq
    by_cases e1 : a = b
    · subst e1
      rw [if_pos rfl] at hq
      cases hq
      obtain ⟨scr, g1, g2, g3, g4, g5⟩ := hX
      exact Or.inr ⟨0, L, xs, cI, .int, rfl, rfl, scr, g1, g2, g3, by rw [g4]; exact Nat.le_refl _, by rw [g4], g5, fun hA => absurd hbl (Nat.not_lt.mpr hA)⟩
    · rw [if_neg e1] at hq
      by_cases e2 : a = nb
      · subst e2
        rw [if_pos rfl] at hq
        cases hq
        exact Or.inr ⟨1, 0, fun _ => 0, cB, .byte, rfl, rfl, hT⟩
      · rw [if_neg e2] at hq
        cases hq
  obtain ⟨v, σf, ⟨rfl, hn1, hn2⟩, m1, m2, hV⟩ := AW.ind _ (am_main (s.heap.size, nb) D [(cI, .int), (cB, .byte), (cZ, .boolean), (cV, .object "ValueOrder$Value"), (cL, .object "ValueOrder$ValueList")] l) (hrun s.heap.size nb hbl hnl hne)
  rw [lg_entry_eq]
  have hc1 : 0 + (σf.2.1 - s.heap.size) ≤ room_1.cells := by
    show 0 + (σf.2.1 - s.heap.size) ≤ 600000
    omega
  have hs1 : 0 + (σf.2.2 - 0) ≤ room_1.slots := by
    show 0 + (σf.2.2 - 0) ≤ 7302250
    omega
  refine hV p e room_1 s m #[Value.ref b] below meth c s.heap [] 0 0 _ _ ⟨hx, hb, hml, hown, hw, hnm, hr, hlk, hG, Nat.le_refl _⟩ (am_entry [.ref b] (Nat.le_of_ble_eq_true rfl)) ⟨hrep, va_S.rf⟩ (by decide +kernel) (by decide +kernel) hc1 hs1 ?_
  intro pc' ls' H' locs' hdc hrt hDx
  refine va_forget (fun q hq => hDx.2.2.2 q hq) ?_
  refine W.widen (k := 600000) (n := 7302250) hc1 hs1 ?_
  exact lw_ret hx hb hr hlk hdc
