theorem rdx.setx {g : Nat × Nat} {r t : Nat} {σ σ2 : am_H} {p k m x : Nat} {c0 c : am_C} (h : rdx g r t σ σ2 p k m) (hx : σ.2.1 ≤ x) (hr : r ≠ x) (hc : σ2.1 x = some c0) : rdx g r t σ (am_set σ2 x c) p k m := by
  obtain ⟨a1, a2, a3, a4, a5, a6, a7⟩ := h
  exact ⟨(am_set_ne _ _ hr).trans a1, fun a h1 h2 => (am_set_ne _ _ (by omega)).trans (a2 a h1 h2), a3, a4, a5, a6, a7.set hc⟩
theorem rdx.new {g : Nat × Nat} {r t : Nat} {σ σ1 : am_H} {p k m n : Nat} {c : am_C} (h : rdx g r t σ σ1 p k m) : rdx g r t σ (am_psh σ1 c n) p (k + 1) (m + n) := by
  obtain ⟨a1, a2, a3, a4, a5, a6, a7⟩ := h
  have hr := a7 _ _ a1
  refine ⟨(am_psh_ne _ _ _ (by omega)).trans a1, fun a h1 h2 => (am_psh_ne _ _ _ (by omega)).trans (a2 a h1 h2), ?_, ?_, ?_, ?_, a7.psh⟩
  · show σ.2.1 ≤ σ1.2.1 + 1
    omega
  · show σ1.2.1 + 1 ≤ σ.2.1 + (k + 1)
    omega
  · show σ.2.2 ≤ σ1.2.2 + n
    omega
  · show σ1.2.2 + n ≤ σ.2.2 + (m + n)
    omega
theorem s32_of {u : Nat} (h : u < 2 ^ 32) : ((lN u).toInt32).toInt64.toInt = sp_s32 u := by
  rw [lN_i, Int32.toInt_toInt64]
  show (Int32.ofNat u).toInt = _
  rw [Int32.toInt_ofNat']
  show Int.bmod (u : Int) 4294967296 = _
  unfold Int.bmod sp_s32
  have e : (u : Int) % (4294967296 : Nat) = u := Int.emod_eq_of_lt (by omega) (by omega)
  rw [e]
  by_cases q : u < 2 ^ 31
  · rw [if_pos q, if_pos (by omega)]
  · rw [if_neg q, if_neg (by omega)]
    rfl
theorem s64_of {u : Nat} (h : u < 2 ^ 64) : (lN u).toInt = sp_s64 u := by
  show (Int64.ofNat u).toInt = _
  rw [Int64.toInt_ofNat']
  show Int.bmod (u : Int) 18446744073709551616 = _
  unfold Int.bmod sp_s64
  have e : (u : Int) % (18446744073709551616 : Nat) = u := Int.emod_eq_of_lt (by omega) (by omega)
  rw [e]
  by_cases q : u < 2 ^ 63
  · rw [if_pos q, if_pos (by omega)]
  · rw [if_neg q, if_neg (by omega)]
    rfl
/-- what readNest does, the elements being read with n in hand -/
def RN (β : Nat → Nat) (N t n : Nat) : Prop := ∀ (g : Nat × Nat) (d : Nat) (σ : am_H) (Q : Option Value → am_H → Prop) (r na p e dep lo k : Nat) (row : Bool) (nm : List Nat), rok g σ r t N p β → p ≤ e → e ≤ N → e < p + n + 5 → bya σ.1 na nm → ((lo ≤ na ∧ na < σ.2.1) ∨ na = g.2) → lo ≤ σ.2.1 → r < lo → g.2 < lo → 1 ≤ dep → dep ≤ 17 → 2 * (17 - dep) + 6 ≤ d → k = (if row = true then 4 else 3) →
  (sp_nst (sp_es β n) β dep row p e = none → ∀ (σ' : am_H) (p' : Nat), rdx g r t σ σ' p' (2 * (e - p)) (10 * (e - p)) → Q (some .null) σ') →
  (∀ (c : sp_F) (q : Nat) (σ' : am_H) (x : Nat), sp_nst (sp_es β n) β dep row p e = some (c, q) → rdx g r t σ σ' q (2 * (q - p)) (10 * (q - p)) → elz g σ'.1 lo σ'.2.1 x ((k, nm, 0, []), c) none → Q (some (.ref x)) σ') →
  AW g d 11 (0, [some (.ref r), some (.int (nI k)), some (.ref na), some (.int (nI e)), some (.int (nI dep)), none, none, none, none, none, none], []) σ Q
section P35
variable {g : Nat × Nat} {d : Nat} {σ : am_H} {Q : Option Value → am_H → Prop}
theorem c_mk1 {x na : Nat} {k : Int32} {num : Int64} (hgx : g.1 ≤ x) (hg2 : g.2 < g.1) (hx : σ.1 x = some (.inr (1, am_def 1))) (hnb : bya σ.1 g.2 []) (hQ : Q none (am_set σ x (.inr (1, [.int k, .ref na, .long num, .ref g.2, .int (nI 0), .null, .null, .null])))) : AW g (d + 1) 2 (0, [some (.ref x), some (.int k), some (.ref na), some (.long num), none, some (.ref g.2)], []) σ Q := by
  obtain ⟨-, -, f0, hf0, -⟩ := hnb
  exact c_vnew (d := d + 1) (w0 := .int 0) (w1 := .null) (w2 := .long 0) (w3 := .null) (w4 := .int 0) (w5 := .null) (w6 := .null) (w7 := .null) (n := 0) (fb := f0) (by omega) hgx hx (by omega) hf0 hQ
theorem lfx_mk {σ' : am_H} {lo x k na : Nat} {num : Int64} (h1 : lo ≤ x) (h2 : x < σ'.2.1) (hne : g.2 ≠ x) (hnb : bya σ'.1 g.2 []) : lfx g (am_set σ' x (.inr (1, [.int (nI k), .ref na, .long num, .ref g.2, .int (nI 0), .null, .null, .null]))) lo x k na num [] :=
  ⟨h1, h2, g.2, Or.inr rfl, hnb.kept (am_set_ne _ _ hne), am_set_same _ _ _⟩
set_option maxHeartbeats 8000000 in
/-- Reader.readElement -/
theorem c_rel {β : Nat → Nat} {N t n : Nat} (hRN : RN β N t n) {r p e dep : Nat} (ho : rok g σ r t N p β) (hp : p ≤ e) (he : e ≤ N) (hen : e < p + n + 6) (hd1 : 1 ≤ dep) (hd2 : dep ≤ 16) (hd : 2 * (17 - dep) + 5 ≤ d) (hN : sp_el (sp_nst (sp_es β n) β) β dep p e = none → ∀ (σ' : am_H) (p' : Nat), rdx g r t σ σ' p' (2 * (e - p)) (10 * (e - p)) → Q (some .null) σ')
    (hS : ∀ (v : sp_V) (q : Nat) (σ' : am_H) (x : Nat), sp_el (sp_nst (sp_es β n) β) β dep p e = some (v, q) → p + 2 ≤ q → q ≤ e → rdx g r t σ σ' q (2 * (q - p)) (10 * (q - p)) → elz g σ'.1 σ.2.1 σ'.2.1 x v none → Q (some (.ref x)) σ') : AW g d 14 (0, [some (.ref r), some (.int (nI e)), some (.int (nI dep)), none, none], []) σ Q := by
  obtain ⟨d, rfl⟩ : ∃ d', d = d' + 5 := ⟨d - 5, by omega⟩
  have ho' := ho
  obtain ⟨a1, a2, a3, a4, a5, a6, a7, a8⟩ := ho'
  have hrl := a5 _ _ a6
  have hgl : g.2 < σ.2.1 := by omega
  have hbN : N < 65536 := a7.1
  refine aw_run 3 (F' := (3, [some (.ref r), some (.int (nI e)), some (.int (nI dep)), none, none], [.int (nI e), .int (nI 1), .ref r])) rfl ?_
  refine aw_v [.ref r, .int (nI 1), .int (nI e)] [] rfl (by decide) rfl a6 rfl rfl (Nat.le_of_ble_eq_true rfl) (Nat.le_of_ble_eq_true rfl) ?_
  refine c_has a6 a7 (by omega) hp (by omega) ?_
  by_cases h1' : e ≤ p
  · rw [if_neg (fun q => by omega)]
    refine aw_zne rfl (fun z => absurd rfl z) (fun _ => ?_)
    refine aw_run 1 (F' := (10, [some (.ref r), some (.int (nI e)), some (.int (nI dep)), none, none], [.null])) rfl ?_
    exact aw_nret rfl ⟨_, rfl, Or.inl ⟨_, rfl⟩⟩ (hN (by unfold sp_el; rw [if_pos (by omega)]) σ p (ho.self.mono (Nat.zero_le _) (Nat.zero_le _)))
  have h1 : p + 1 ≤ e := by omega
  rw [if_pos ⟨h1, he⟩]
  refine aw_zne rfl (fun _ => ?_) (fun z => absurd (by decide) z)
  refine aw_run 2 (F' := (13, [some (.ref r), some (.int (nI e)), some (.int (nI dep)), none, none], [.int (nI 1), .ref r])) rfl ?_
  refine aw_v [.ref r, .int (nI 1)] [] rfl (by decide) rfl a6 rfl rfl (Nat.le_of_ble_eq_true rfl) (Nat.le_of_ble_eq_true rfl) ?_
  refine c_num a1 a6 a7 (by omega) (by omega) ?_
  have hle : sp_le β p 1 = β p := by simp [sp_le]
  rw [hle]
  have hat1 := rdx.at (g := g) (p' := p + 1) a5 a6
  generalize am_set σ r (.inr (3, [.ref t, .int (nI (p + 1))])) = σ1 at hat1 ⊢
  have ho1 := ho.go hat1
  have ho1' := ho1
  obtain ⟨b1, b2, b3, b4, b5, b6, b7, b8⟩ := ho1'
  have hbp : β p < 256 := by
    obtain ⟨-, f, -, hf⟩ := a7
    exact (hf p (by omega)).1
  have hn1 : σ1.2.1 = σ.2.1 := by
    have := hat1.2.2.1
    have := hat1.2.2.2.1
    omega
  refine aw_run 4 (F' := (20, [some (.ref r), some (.int (nI e)), some (.int (nI dep)), some (.int ((lN (β p)).toInt32)), none], [.int (nI e), .ref r])) rfl ?_
  rw [lN_i]
  refine aw_v [.ref r, .int (nI e)] [] rfl (by decide) rfl b6 rfl rfl (Nat.le_of_ble_eq_true rfl) (Nat.le_of_ble_eq_true rfl) ?_
  unfold sp_el at hN hS
  rw [if_neg (by omega)] at hN hS
  refine c_rnm b1 b2 b3 b4 b5 b6 b7 b8 h1 he (fun q => ?_) (fun s na σ2 q hat2 hna hz => ?_)
  · rw [q] at hN
    refine aw_run 2 (F' := (27, [some (.ref r), some (.int (nI e)), some (.int (nI dep)), some (.int (nI (β p))), some .null], [.null])) rfl ?_
    refine aw_ifnon_n rfl ?_
    refine aw_run 1 (F' := (31, [some (.ref r), some (.int (nI e)), some (.int (nI dep)), some (.int (nI (β p))), some .null], [.null])) rfl ?_
    exact aw_nret rfl ⟨_, rfl, Or.inl ⟨_, rfl⟩⟩ (hN rfl σ1 (p + 1) (hat1.mono (Nat.zero_le _) (Nat.zero_le _)))
  · obtain ⟨s1, s2, s3, s4, s5⟩ := sp_nm_of q
    rw [q] at hN hS
    dsimp only at hN hS
    have hat2' := hat1.trans hat2
    have ho2 := ho1.go hat2
    have ho2' := ho2
    obtain ⟨c1, c2, c3, c4, c5, c6, c7, c8⟩ := ho2'
    rw [hn1] at hz
    have hx2 : σ.2.1 ≤ σ2.2.1 := hat2'.2.2.1
    have hx2b : σ2.2.1 ≤ σ.2.1 + 1 := by
      have := hat2'.2.2.2.1
      omega
    have hrl2 := c5 _ _ c6
    refine aw_run 2 (F' := (27, [some (.ref r), some (.int (nI e)), some (.int (nI dep)), some (.int (nI (β p))), some (.ref na)], [.ref na])) rfl ?_
    refine aw_ifnon_r rfl ?_
    refine aw_run 1 (F' := (33, [some (.ref r), some (.int (nI e)), some (.int (nI dep)), some (.int (nI (β p))), some (.ref na)], [.int (nI (β p))])) rfl ?_
    have gofail : ∀ (σ' : am_H) (p' : Nat), rdx g r t σ2 σ' p' 1 8 → rdx g r t σ σ' p' (2 * (e - p)) (10 * (e - p)) := fun σ' p' h => (hat2'.trans h).mono (by omega) (by omega)
    by_cases k16 : β p = 16
    · rw [k16] at hN hS ⊢
      rw [if_pos rfl] at hN hS
      refine aw_tsw 116 rfl (Or.inr ⟨by decide, by decide, _, rfl, by decide⟩) ?_
      refine aw_run 3 (F' := (119, [some (.ref r), some (.int (nI e)), some (.int (nI dep)), some (.int (nI 16)), some (.ref na)], [.int (nI e), .int (nI 4), .ref r])) rfl ?_
      refine aw_v [.ref r, .int (nI 4), .int (nI e)] [] rfl (by decide) rfl c6 rfl rfl (Nat.le_of_ble_eq_true rfl) (Nat.le_of_ble_eq_true rfl) ?_
      refine c_has c6 c7 (by omega) (by omega) (by omega) ?_
      by_cases h2 : s + 5 ≤ e
      · rw [if_pos ⟨by omega, he⟩]
        rw [if_pos h2] at hS
        refine aw_zeq rfl (fun z => absurd z (by decide)) (fun _ => ?_)
        refine aw_new rfl ?_
        have hat3 := (rok.self ho2).new (c := .inr (1, am_def 1)) (n := am_nf 1)
        have hc3 := am_psh_same σ2 (.inr (1, am_def 1)) (am_nf 1)
        generalize am_psh σ2 (.inr (1, am_def 1)) (am_nf 1) = σ3 at hat3 hc3 ⊢
        have ho3 := ho2.go hat3
        have ho3' := ho3
        obtain ⟨e1, e2, e3, e4, e5, e6, e7, e8⟩ := ho3'
        refine aw_run 5 (F' := (134, [some (.ref r), some (.int (nI e)), some (.int (nI dep)), some (.int (nI 16)), some (.ref na)], [.int (nI 4), .ref r, .ref na, .int (nI 16), .ref σ2.2.1, .ref σ2.2.1])) rfl ?_
        refine aw_v [.ref r, .int (nI 4)] [.ref na, .int (nI 16), .ref σ2.2.1, .ref σ2.2.1] rfl (by decide) rfl e6 rfl rfl (Nat.le_of_ble_eq_true rfl) (Nat.le_of_ble_eq_true rfl) ?_
        refine c_num e1 e6 e7 (by omega) (by omega) ?_
        have hu := sp_le_lt (β := β) (p := s + 1) (w := 4) (fun i hi => by obtain ⟨-, f, -, hf⟩ := a7; exact (hf (s + 1 + i) (by omega)).1)
        have hat4 := rdx.at (g := g) (p' := s + 1 + 4) e5 e6
        have hc4 : (am_set σ3 r (.inr (3, [.ref t, .int (nI (s + 1 + 4))]))).1 σ2.2.1 = some (.inr (1, am_def 1)) := by rw [am_set_ne _ _ (by omega)]; exact hc3
        generalize am_set σ3 r (.inr (3, [.ref t, .int (nI (s + 1 + 4))])) = σ4 at hat4 hc4 ⊢
        have ho4 := ho3.go hat4
        obtain ⟨f1, f2, f3, f4, f5, f6, f7, f8⟩ := id ho4
        refine aw_run 2 (F' := (139, [some (.ref r), some (.int (nI e)), some (.int (nI dep)), some (.int (nI 16)), some (.ref na)], [.long ((lN (sp_le β (s + 1) 4)).toInt32.toInt64), .ref na, .int (nI 16), .ref σ2.2.1, .ref σ2.2.1])) rfl ?_
        refine aw_sta rfl ?_
        refine aw_i [.ref σ2.2.1, .int (nI 16), .ref na, .long ((lN (sp_le β (s + 1) 4)).toInt32.toInt64), .ref g.2] [.ref σ2.2.1] rfl (by decide) rfl rfl rfl (Nat.le_of_ble_eq_true rfl) (Nat.le_of_ble_eq_true rfl) ?_
        refine c_mk1 (by omega) c4 hc4 f8 ?_
        refine aw_run 1 (F' := (149, [some (.ref r), some (.int (nI e)), some (.int (nI dep)), some (.int (nI 16)), some (.ref na)], [.ref σ2.2.1])) rfl ?_
        have htot := ((hat2'.trans (hat3.trans hat4)).setx (c := .inr (1, [.int (nI 16), .ref na, .long ((lN (sp_le β (s + 1) 4)).toInt32.toInt64), .ref g.2, .int (nI 0), .null, .null, .null])) hx2 (by omega) hc4).mono (k' := 2 * (s + 5 - p)) (m' := 10 * (s + 5 - p)) (by omega) (by show 0 + (s - (p + 1)) + (0 + 8 + 0) ≤ _; omega)
        have hl := lfx_mk (g := g) (σ' := σ4) (lo := σ2.2.1) (x := σ2.2.1) (k := 16) (na := na) (num := (lN (sp_le β (s + 1) 4)).toInt32.toInt64) (Nat.le_refl _) (f5 _ _ hc4) (by omega) f8
        have hna4 : bya (am_set σ4 σ2.2.1 (.inr (1, [.int (nI 16), .ref na, .long ((lN (sp_le β (s + 1) 4)).toInt32.toInt64), .ref g.2, .int (nI 0), .null, .null, .null]))).1 na (sp_sub β (p + 1) s) := by
          have hnl : na < σ2.2.1 := by
            rcases hz with z | z <;> omega
          have hnr : na ≠ r := by
            rcases hz with z | z <;> omega
          refine hna.kept ?_
          rw [am_set_ne _ _ (by omega), hat4.2.1 na (by have := hat3.2.2.1; omega) hnr, hat3.2.1 na hnl hnr]
        have hel := elz_lf (σ := σ2) (lo := σ.2.1) (by unfold kd; omega) hx2 hna4 hz (by omega) hl
        rw [s32_of hu] at hel
        exact aw_aret rfl ⟨_, rfl, Or.inl ⟨_, rfl⟩⟩ (hS _ _ _ σ2.2.1 rfl (by omega) h2 htot hel)
      · rw [if_neg (fun q => h2 (by omega))]
        rw [if_neg h2] at hN
        refine aw_zeq rfl (fun _ => ?_) (fun z => absurd rfl z)
        refine aw_run 1 (F' := (149, [some (.ref r), some (.int (nI e)), some (.int (nI dep)), some (.int (nI 16)), some (.ref na)], [.null])) rfl ?_
        exact aw_nret rfl ⟨_, rfl, Or.inl ⟨_, rfl⟩⟩ (hN rfl σ2 (s + 1) (gofail σ2 _ ((rok.self ho2).mono (by omega) (by omega))))
    · rw [if_neg k16] at hN hS
      by_cases k18 : β p = 18
      · rw [k18] at hN hS ⊢
        rw [if_pos rfl] at hN hS
        refine aw_tsw 150 rfl (Or.inr ⟨by decide, by decide, _, rfl, by decide⟩) ?_
        refine aw_run 3 (F' := (154, [some (.ref r), some (.int (nI e)), some (.int (nI dep)), some (.int (nI 18)), some (.ref na)], [.int (nI e), .int (nI 8), .ref r])) rfl ?_
        refine aw_v [.ref r, .int (nI 8), .int (nI e)] [] rfl (by decide) rfl c6 rfl rfl (Nat.le_of_ble_eq_true rfl) (Nat.le_of_ble_eq_true rfl) ?_
        refine c_has c6 c7 (by omega) (by omega) (by omega) ?_
        by_cases h2 : s + 9 ≤ e
        · rw [if_pos ⟨by omega, he⟩]
          rw [if_pos h2] at hS
          refine aw_zeq rfl (fun z => absurd z (by decide)) (fun _ => ?_)
          refine aw_new rfl ?_
          have hat3 := (rok.self ho2).new (c := .inr (1, am_def 1)) (n := am_nf 1)
          have hc3 := am_psh_same σ2 (.inr (1, am_def 1)) (am_nf 1)
          generalize am_psh σ2 (.inr (1, am_def 1)) (am_nf 1) = σ3 at hat3 hc3 ⊢
          have ho3 := ho2.go hat3
          have ho3' := ho3
          obtain ⟨e1, e2, e3, e4, e5, e6, e7, e8⟩ := ho3'
          refine aw_run 5 (F' := (170, [some (.ref r), some (.int (nI e)), some (.int (nI dep)), some (.int (nI 18)), some (.ref na)], [.int (nI 8), .ref r, .ref na, .int (nI 18), .ref σ2.2.1, .ref σ2.2.1])) rfl ?_
          refine aw_v [.ref r, .int (nI 8)] [.ref na, .int (nI 18), .ref σ2.2.1, .ref σ2.2.1] rfl (by decide) rfl e6 rfl rfl (Nat.le_of_ble_eq_true rfl) (Nat.le_of_ble_eq_true rfl) ?_
          refine c_num e1 e6 e7 (by omega) (by omega) ?_
          have hu := sp_le_lt (β := β) (p := s + 1) (w := 8) (fun i hi => by obtain ⟨-, f, -, hf⟩ := a7; exact (hf (s + 1 + i) (by omega)).1)
          have hat4 := rdx.at (g := g) (p' := s + 1 + 8) e5 e6
          have hc4 : (am_set σ3 r (.inr (3, [.ref t, .int (nI (s + 1 + 8))]))).1 σ2.2.1 = some (.inr (1, am_def 1)) := by rw [am_set_ne _ _ (by omega)]; exact hc3
          generalize am_set σ3 r (.inr (3, [.ref t, .int (nI (s + 1 + 8))])) = σ4 at hat4 hc4 ⊢
          have ho4 := ho3.go hat4
          obtain ⟨f1, f2, f3, f4, f5, f6, f7, f8⟩ := id ho4
          refine aw_sta rfl ?_
          refine aw_i [.ref σ2.2.1, .int (nI 18), .ref na, .long (lN (sp_le β (s + 1) 8)), .ref g.2] [.ref σ2.2.1] rfl (by decide) rfl rfl rfl (Nat.le_of_ble_eq_true rfl) (Nat.le_of_ble_eq_true rfl) ?_
          refine c_mk1 (by omega) c4 hc4 f8 ?_
          refine aw_run 1 (F' := (183, [some (.ref r), some (.int (nI e)), some (.int (nI dep)), some (.int (nI 18)), some (.ref na)], [.ref σ2.2.1])) rfl ?_
          have htot := ((hat2'.trans (hat3.trans hat4)).setx (c := .inr (1, [.int (nI 18), .ref na, .long (lN (sp_le β (s + 1) 8)), .ref g.2, .int (nI 0), .null, .null, .null])) hx2 (by omega) hc4).mono (k' := 2 * (s + 9 - p)) (m' := 10 * (s + 9 - p)) (by omega) (by show 0 + (s - (p + 1)) + (0 + 8 + 0) ≤ _; omega)
          have hl := lfx_mk (g := g) (σ' := σ4) (lo := σ2.2.1) (x := σ2.2.1) (k := 18) (na := na) (num := lN (sp_le β (s + 1) 8)) (Nat.le_refl _) (f5 _ _ hc4) (by omega) f8
          have hna4 : bya (am_set σ4 σ2.2.1 (.inr (1, [.int (nI 18), .ref na, .long (lN (sp_le β (s + 1) 8)), .ref g.2, .int (nI 0), .null, .null, .null]))).1 na (sp_sub β (p + 1) s) := by
            have hnl : na < σ2.2.1 := by
              rcases hz with z | z <;> omega
            have hnr : na ≠ r := by
              rcases hz with z | z <;> omega
            refine hna.kept ?_
            rw [am_set_ne _ _ (by omega), hat4.2.1 na (by have := hat3.2.2.1; omega) hnr, hat3.2.1 na hnl hnr]
          have hel := elz_lf (σ := σ2) (lo := σ.2.1) (by unfold kd; omega) hx2 hna4 hz (by omega) hl
          rw [s64_of hu] at hel
          exact aw_aret rfl ⟨_, rfl, Or.inl ⟨_, rfl⟩⟩ (hS _ _ _ σ2.2.1 rfl (by omega) h2 htot hel)
        · rw [if_neg (fun q => h2 (by omega))]
          rw [if_neg h2] at hN
          refine aw_zeq rfl (fun _ => ?_) (fun z => absurd rfl z)
          refine aw_run 1 (F' := (183, [some (.ref r), some (.int (nI e)), some (.int (nI dep)), some (.int (nI 18)), some (.ref na)], [.null])) rfl ?_
          exact aw_nret rfl ⟨_, rfl, Or.inl ⟨_, rfl⟩⟩ (hN rfl σ2 (s + 1) (gofail σ2 _ ((rok.self ho2).mono (by omega) (by omega))))
      · rw [if_neg k18] at hN hS
        by_cases k8 : β p = 8
        · rw [k8] at hN hS ⊢
          rw [if_pos rfl] at hN hS
          refine aw_tsw 184 rfl (Or.inr ⟨by decide, by decide, _, rfl, by decide⟩) ?_
          refine aw_run 3 (F' := (188, [some (.ref r), some (.int (nI e)), some (.int (nI dep)), some (.int (nI 8)), some (.ref na)], [.int (nI e), .ref na, .ref r])) rfl ?_
          refine aw_v [.ref r, .ref na, .int (nI e)] [] rfl (by decide) rfl c6 rfl rfl (Nat.le_of_ble_eq_true rfl) (Nat.le_of_ble_eq_true rfl) ?_
          refine c_rtr c1 c3 c4 c5 c6 c7 c8 (by omega) he (fun z σ' p' h => ?_) (fun z σ' x h hl => ?_)
          · rw [if_neg (fun y => z ⟨by omega, y.2⟩)] at hN
            exact aw_nret rfl ⟨_, rfl, Or.inl ⟨_, rfl⟩⟩ (hN rfl σ' p' (gofail σ' p' (h.mono (by omega) (by omega))))
          · rw [if_pos ⟨by omega, z.2⟩] at hS
            have hna4 : bya σ'.1 na (sp_sub β (p + 1) s) := hna.kept (h.2.1 na (by rcases hz with y | y <;> omega) (by rcases hz with y | y <;> omega))
            have hel := elz_lf (σ := σ2) (lo := σ.2.1) (by unfold kd; omega) hx2 hna4 hz (by omega) hl
            have hb1 : β (s + 1) < 256 := by obtain ⟨-, f, -, hf⟩ := a7; exact (hf (s + 1) (by omega)).1
            rw [lN_toInt64 (by omega)] at hel
            exact aw_aret rfl ⟨_, rfl, Or.inl ⟨_, rfl⟩⟩ (hS _ _ σ' x rfl (by omega) (by omega) ((hat2'.trans h).mono (by omega) (by omega)) hel)
        · rw [if_neg k8] at hN hS
          by_cases k10 : β p = 10
          · rw [k10] at hN hS ⊢
            rw [if_pos rfl] at hN hS
            refine aw_tsw 192 rfl (Or.inr ⟨by decide, by decide, _, rfl, by decide⟩) ?_
            refine aw_new rfl ?_
            have hat3 := (rok.self ho2).new (c := .inr (1, am_def 1)) (n := am_nf 1)
            have hc3 := am_psh_same σ2 (.inr (1, am_def 1)) (am_nf 1)
            generalize am_psh σ2 (.inr (1, am_def 1)) (am_nf 1) = σ3 at hat3 hc3 ⊢
            have ho3 := ho2.go hat3
            have ho3' := ho3
            obtain ⟨e1, e2, e3, e4, e5, e6, e7, e8⟩ := ho3'
            refine aw_run 4 (F' := (200, [some (.ref r), some (.int (nI e)), some (.int (nI dep)), some (.int (nI 10)), some (.ref na)], [.long 0, .ref na, .int (nI 10), .ref σ2.2.1, .ref σ2.2.1])) rfl ?_
            refine aw_sta rfl ?_
            refine aw_i [.ref σ2.2.1, .int (nI 10), .ref na, .long 0, .ref g.2] [.ref σ2.2.1] rfl (by decide) rfl rfl rfl (Nat.le_of_ble_eq_true rfl) (Nat.le_of_ble_eq_true rfl) ?_
            refine c_mk1 (by omega) c4 hc3 e8 ?_
            have htot := ((hat2'.trans hat3).setx (c := .inr (1, [.int (nI 10), .ref na, .long 0, .ref g.2, .int (nI 0), .null, .null, .null])) hx2 (by omega) hc3).mono (k' := 2 * (s + 1 - p)) (m' := 10 * (s + 1 - p)) (by omega) (by show 0 + (s - (p + 1)) + (0 + 8) ≤ _; omega)
            have hl := lfx_mk (g := g) (σ' := σ3) (lo := σ2.2.1) (x := σ2.2.1) (k := 10) (na := na) (num := 0) (Nat.le_refl _) (e5 _ _ hc3) (by omega) e8
            have hna4 : bya (am_set σ3 σ2.2.1 (.inr (1, [.int (nI 10), .ref na, .long 0, .ref g.2, .int (nI 0), .null, .null, .null]))).1 na (sp_sub β (p + 1) s) := by
              have hnl : na < σ2.2.1 := by
                rcases hz with z | z <;> omega
              have hnr : na ≠ r := by
                rcases hz with z | z <;> omega
              refine hna.kept ?_
              rw [am_set_ne _ _ (by omega), hat3.2.1 na hnl hnr]
            have hel := elz_lf (σ := σ2) (lo := σ.2.1) (by unfold kd; omega) hx2 hna4 hz (by omega) hl
            exact aw_aret rfl ⟨_, rfl, Or.inl ⟨_, rfl⟩⟩ (hS _ _ _ σ2.2.1 rfl (by omega) (by omega) htot hel)
          · rw [if_neg k10] at hN hS
            by_cases k2 : β p = 2
            · rw [k2] at hN hS ⊢
              rw [if_pos rfl] at hN hS
              refine aw_tsw 207 rfl (Or.inr ⟨by decide, by decide, _, rfl, by decide⟩) ?_
              refine aw_run 3 (F' := (211, [some (.ref r), some (.int (nI e)), some (.int (nI dep)), some (.int (nI 2)), some (.ref na)], [.int (nI e), .ref na, .ref r])) rfl ?_
              refine aw_v [.ref r, .ref na, .int (nI e)] [] rfl (by decide) rfl c6 rfl rfl (Nat.le_of_ble_eq_true rfl) (Nat.le_of_ble_eq_true rfl) ?_
              refine c_rtx c1 c2 c3 c4 c5 c6 c7 c8 (by omega) he (fun z σ' p' h => ?_) (fun z σ' x h hl => ?_)
              · rw [if_neg z] at hN
                exact aw_nret rfl ⟨_, rfl, Or.inl ⟨_, rfl⟩⟩ (hN rfl σ' p' (gofail σ' p' (h.mono (by omega) (by omega))))
              · rw [if_pos z] at hS
                have hna4 : bya σ'.1 na (sp_sub β (p + 1) s) := hna.kept (h.2.1 na (by rcases hz with y | y <;> omega) (by rcases hz with y | y <;> omega))
                have hel := elz_lf (σ := σ2) (lo := σ.2.1) (by unfold kd; omega) hx2 hna4 hz (by omega) hl
                have z3 := z.2.2.1
                exact aw_aret rfl ⟨_, rfl, Or.inl ⟨_, rfl⟩⟩ (hS _ _ σ' x rfl (by omega) z3 ((hat2'.trans h).mono (by omega) (by omega)) hel)
            · rw [if_neg k2] at hN hS
              have nest : ∀ (kk : Nat) (row : Bool), kk = (if row = true then 4 else 3) → (∀ (hN' : sp_nst (sp_es β n) β (dep + 1) row (s + 1) e = none → ∀ (σ' : am_H) (p' : Nat), rdx g r t σ σ' p' (2 * (e - p)) (10 * (e - p)) → Q (some .null) σ') (hS' : ∀ (c : sp_F) (q : Nat) (σ' : am_H) (x : Nat), sp_nst (sp_es β n) β (dep + 1) row (s + 1) e = some (c, q) → rdx g r t σ σ' q (2 * (q - p)) (10 * (q - p)) → elz g σ'.1 σ.2.1 σ'.2.1 x ((kk, sp_sub β (p + 1) s, 0, []), c) none → Q (some (.ref x)) σ'), AW g (d + 5) 14 (215, [some (.ref r), some (.int (nI e)), some (.int (nI dep)), some (.int (nI kk)), some (.ref na)], []) σ2 Q) := by
                intro kk row hkk hN' hS'
                refine aw_run 7 (F' := (223, [some (.ref r), some (.int (nI e)), some (.int (nI dep)), some (.int (nI kk)), some (.ref na)], [.int (nI dep + 1), .int (nI e), .ref na, .int (nI kk), .ref r])) rfl ?_
                rw [nI_1]
                refine aw_v [.ref r, .int (nI kk), .ref na, .int (nI e), .int (nI (dep + 1))] [] rfl (by decide) rfl c6 rfl rfl (Nat.le_of_ble_eq_true rfl) (Nat.le_of_ble_eq_true rfl) ?_
                refine hRN g (d + 4) σ2 _ r na (s + 1) e (dep + 1) σ.2.1 kk row (sp_sub β (p + 1) s) ho2 (by omega) he (by omega) hna hz hx2 hrl (by omega) (by omega) (by omega) (by omega) hkk (fun z σ' p' h => ?_) (fun c q σ' x z h hel => ?_)
                · exact aw_nret rfl ⟨_, rfl, Or.inl ⟨_, rfl⟩⟩ (hN' z σ' p' ((hat2'.trans h).mono (by omega) (by omega)))
                · have := sp_nst_le z
                  exact aw_aret rfl ⟨_, rfl, Or.inl ⟨_, rfl⟩⟩ (hS' c q σ' x z ((hat2'.trans h).mono (by omega) (by omega)) hel)
              by_cases k3 : β p = 3
              · rw [k3] at hN hS ⊢
                rw [if_pos rfl] at hN hS
                refine aw_tsw 215 rfl (Or.inr ⟨by decide, by decide, _, rfl, by decide⟩) ?_
                refine nest 3 false rfl (fun z => ?_) (fun c q σ' x z h hel => ?_)
                · rw [z] at hN
                  exact hN rfl
                · rw [z] at hS
                  have := sp_nst_le z
                  exact hS _ _ σ' x rfl (by omega) (by omega) h hel
              · rw [if_neg k3] at hN hS
                by_cases k4 : β p = 4
                · rw [k4] at hN hS ⊢
                  rw [if_pos rfl] at hN hS
                  refine aw_tsw 215 rfl (Or.inr ⟨by decide, by decide, _, rfl, by decide⟩) ?_
                  refine nest 4 true rfl (fun z => ?_) (fun c q σ' x z h hel => ?_)
                  · rw [z] at hN
                    exact hN rfl
                  · rw [z] at hS
                    have := sp_nst_le z
                    exact hS _ _ σ' x rfl (by omega) (by omega) h hel
                · rw [if_neg k4] at hN
                  have hsw : am_tsw 33 194 2 18 #[174, 182, 182, 194, 194, 194, 151, 194, 159, 194, 194, 194, 194, 194, 83, 194, 117] (nI (β p)) 227 := by
                    by_cases hbig : 18 < β p
                    · exact Or.inl ⟨Or.inr (by rw [nI_toInt (by omega)]; omega), by decide⟩
                    · rcases (by omega : β p = 0 ∨ β p = 1 ∨ β p = 5 ∨ β p = 6 ∨ β p = 7 ∨ β p = 9 ∨ β p = 11 ∨ β p = 12 ∨ β p = 13 ∨ β p = 14 ∨ β p = 15 ∨ β p = 17) with y | y | y | y | y | y | y | y | y | y | y | y <;> rw [y]
                      · exact Or.inl ⟨by decide, by decide⟩
                      · exact Or.inl ⟨by decide, by decide⟩
                      all_goals exact Or.inr ⟨by decide, by decide, 194, rfl, by decide⟩
                  refine aw_tsw 227 rfl hsw ?_
                  refine aw_run 1 (F' := (228, [some (.ref r), some (.int (nI e)), some (.int (nI dep)), some (.int (nI (β p))), some (.ref na)], [.null])) rfl ?_
                  exact aw_nret rfl ⟨_, rfl, Or.inl ⟨_, rfl⟩⟩ (hN rfl σ2 (s + 1) (gofail σ2 _ ((rok.self ho2).mono (by omega) (by omega))))
end P35
