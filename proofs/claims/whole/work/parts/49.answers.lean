theorem sb_255 : ∀ x, x < 256 → sb_b x &&& 255 = nI x := by decide +kernel
section P49
variable {g : Nat × Nat} {d b R : Nat} {σ : am_H} {S : sp_S} {Q : Option Value → am_H → Prop}
/-- value -/
theorem c_value (hC : CS g b R σ S) (which k what : Int32) (hQ : Q (some (.long (sp_value S which k what))) σ) : AW g (d + 2) 45 (0, [some (.ref b), some (.int which), some (.int k), some (.int what), none], []) σ Q := by
  have hC' := hC
  obtain ⟨-, -, -, -, -, -, -, -, ⟨st, ho, -⟩, -⟩ := hC'
  refine aw_run 3 (F' := (3, [some (.ref b), some (.int which), some (.int k), some (.int what), none], [.int k, .int which, .ref b])) rfl ?_
  refine aw_v [.ref b, .int which, .int k] [] rfl (by decide) rfl ho rfl rfl (Nat.le_of_ble_eq_true rfl) (Nat.le_of_ble_eq_true rfl) ?_
  refine c_vil hC which k (fun e => ?_) (fun x a e hv hh => ?_)
  · have hr : sp_value S which k what = -1 := by unfold sp_value; rw [e]
    rw [hr] at hQ
    refine aw_run 2 (F' := (10, [some (.ref b), some (.int which), some (.int k), some (.int what), some .null], [.null])) rfl ?_
    refine aw_ifnon_n rfl ?_
    refine aw_run 1 (F' := (16, [some (.ref b), some (.int which), some (.int k), some (.int what), some .null], [.long (-1)])) rfl ?_
    exact aw_lret rfl rfl hQ
  · have hr : sp_value S which k what = (if what = 0 then lN x.1.1.1 else if what = 1 then lN (sp_cls x.1.1.1) else if what = 2 then Int64.ofInt x.1.1.2.2.1 else if what = 3 then lN (x.1.1.2.2.2.length + sp_len x.1.2) else -1) := by unfold sp_value; rw [e]
    rw [hr] at hQ
    obtain ⟨-, fi, la, nx, hn, -⟩ := hv
    have hn' := hn
    obtain ⟨hk, hcnt, na, ba, num, -, -, hc, hnum, -, -⟩ := hn'
    have hk18 : x.1.1.1 < 19 := by unfold kd at hk; omega
    have hcl : sp_cls x.1.1.1 < 7 := by
      unfold sp_cls
      repeat' split
      all_goals omega
    refine aw_run 2 (F' := (10, [some (.ref b), some (.int which), some (.int k), some (.int what), some (.ref a)], [.ref a])) rfl ?_
    refine aw_ifnon_r rfl ?_
    refine aw_run 1 (F' := (18, [some (.ref b), some (.int which), some (.int k), some (.int what), some (.ref a)], [.int what])) rfl ?_
    by_cases w0 : what = 0
    · rw [if_pos w0] at hQ
      subst w0
      refine aw_tsw 48 rfl (Or.inr ⟨by decide, by decide, _, rfl, by decide⟩) ?_
      refine aw_run 1 (F' := (50, [some (.ref b), some (.int which), some (.int k), some (.int 0), some (.ref a)], [.ref a])) rfl ?_
      refine aw_get rfl hc rfl ?_
      refine aw_run 1 (F' := (54, [some (.ref b), some (.int which), some (.int k), some (.int 0), some (.ref a)], [.long (Int32.toInt64 (nI x.1.1.1))])) rfl ?_
      rw [nI_l (by omega)]
      exact aw_lret rfl rfl hQ
    rw [if_neg w0] at hQ
    by_cases w1 : what = 1
    · rw [if_pos w1] at hQ
      subst w1
      refine aw_tsw 55 rfl (Or.inr ⟨by decide, by decide, _, rfl, by decide⟩) ?_
      refine aw_run 1 (F' := (57, [some (.ref b), some (.int which), some (.int k), some (.int 1), some (.ref a)], [.ref a])) rfl ?_
      refine aw_v [.ref a] [] rfl (by decide) rfl hc rfl rfl (Nat.le_of_ble_eq_true rfl) (Nat.le_of_ble_eq_true rfl) ?_
      refine c_rank hn.nd ?_
      refine aw_run 1 (F' := (61, [some (.ref b), some (.int which), some (.int k), some (.int 1), some (.ref a)], [.long (Int32.toInt64 (nI (sp_cls x.1.1.1)))])) rfl ?_
      rw [nI_l (by omega)]
      exact aw_lret rfl rfl hQ
    rw [if_neg w1] at hQ
    by_cases w2 : what = 2
    · rw [if_pos w2] at hQ
      subst w2
      refine aw_tsw 62 rfl (Or.inr ⟨by decide, by decide, _, rfl, by decide⟩) ?_
      refine aw_run 1 (F' := (64, [some (.ref b), some (.int which), some (.int k), some (.int 2), some (.ref a)], [.ref a])) rfl ?_
      refine aw_get rfl hc rfl ?_
      rw [← hnum, Int64.ofInt_toInt] at hQ
      exact aw_lret rfl rfl hQ
    rw [if_neg w2] at hQ
    by_cases w3 : what = 3
    · rw [if_pos w3] at hQ
      subst w3
      refine aw_tsw 68 rfl (Or.inr ⟨by decide, by decide, _, rfl, by decide⟩) ?_
      refine aw_run 1 (F' := (70, [some (.ref b), some (.int which), some (.int k), some (.int 3), some (.ref a)], [.ref a])) rfl ?_
      refine aw_get rfl hc rfl ?_
      refine aw_run 1 (F' := (74, [some (.ref b), some (.int which), some (.int k), some (.int 3), some (.ref a)], [.long (Int32.toInt64 (nI (x.1.1.2.2.2.length + sp_len x.1.2)))])) rfl ?_
      rw [nI_l (by omega)]
      exact aw_lret rfl rfl hQ
    rw [if_neg w3] at hQ
    have hsw : am_tsw 18 57 0 3 #[30, 37, 44, 50] what 75 := by
      refine Or.inl ⟨?_, by decide⟩
      by_cases h : what.toInt < 0
      · exact Or.inl h
      · refine Or.inr ?_
        by_cases h2 : 3 < what.toInt
        · exact h2
        · rcases (by omega : what.toInt = 0 ∨ what.toInt = 1 ∨ what.toInt = 2 ∨ what.toInt = 3) with e | e | e | e
          · exact absurd (Int32.toInt_inj.mp (e.trans (by decide : (0 : Int) = (0 : Int32).toInt))) w0
          · exact absurd (Int32.toInt_inj.mp (e.trans (by decide : (1 : Int) = (1 : Int32).toInt))) w1
          · exact absurd (Int32.toInt_inj.mp (e.trans (by decide : (2 : Int) = (2 : Int32).toInt))) w2
          · exact absurd (Int32.toInt_inj.mp (e.trans (by decide : (3 : Int) = (3 : Int32).toInt))) w3
    refine aw_tsw 75 rfl hsw ?_
    refine aw_run 1 (F' := (78, [some (.ref b), some (.int which), some (.int k), some (.int what), some (.ref a)], [.long (-1)])) rfl ?_
    exact aw_lret rfl rfl hQ
/-- text -/
theorem c_text (hC : CS g b R σ S) (which k i : Int32) (hQ : Q (some (.int (sp_text S which k i))) σ) : AW g (d + 2) 48 (0, [some (.ref b), some (.int which), some (.int k), some (.int i), none], []) σ Q := by
  have hC' := hC
  obtain ⟨-, -, -, -, -, -, -, -, ⟨st, ho, -⟩, -⟩ := hC'
  refine aw_run 3 (F' := (3, [some (.ref b), some (.int which), some (.int k), some (.int i), none], [.int k, .int which, .ref b])) rfl ?_
  refine aw_v [.ref b, .int which, .int k] [] rfl (by decide) rfl ho rfl rfl (Nat.le_of_ble_eq_true rfl) (Nat.le_of_ble_eq_true rfl) ?_
  refine c_vil hC which k (fun e => ?_) (fun x a e hv hh => ?_)
  · have hr : sp_text S which k i = -1 := by unfold sp_text; rw [e]
    rw [hr] at hQ
    refine aw_run 2 (F' := (10, [some (.ref b), some (.int which), some (.int k), some (.int i), some .null], [.null])) rfl ?_
    refine aw_ifnull_n rfl ?_
    refine aw_run 1 (F' := (28, [some (.ref b), some (.int which), some (.int k), some (.int i), some .null], [.int (-1)])) rfl ?_
    exact aw_iret rfl ⟨_, rfl, rfl⟩ hQ
  · have hr : sp_text S which k i = (match sp_ix i x.1.1.2.2.2.length with
      | none => -1
      | some j => nI (x.1.1.2.2.2.getD j 0)) := by unfold sp_text; rw [e]; rfl
    rw [hr] at hQ
    obtain ⟨-, fi, la, nx, ⟨hk, hcnt, na, ba, num, -, -, hc, hnum, -, hba⟩, -⟩ := hv
    obtain ⟨hl1, hl2, f, hbc, hbf⟩ := hba
    refine aw_run 2 (F' := (10, [some (.ref b), some (.int which), some (.int k), some (.int i), some (.ref a)], [.ref a])) rfl ?_
    refine aw_ifnull_r rfl ?_
    refine aw_run 1 (F' := (14, [some (.ref b), some (.int which), some (.int k), some (.int i), some (.ref a)], [.int i])) rfl ?_
    have nul : sp_ix i x.1.1.2.2.2.length = none → AW g (d + 2) 48 (27, [some (.ref b), some (.int which), some (.int k), some (.int i), some (.ref a)], []) σ Q := by
      intro q
      rw [q] at hQ
      refine aw_run 1 (F' := (28, [some (.ref b), some (.int which), some (.int k), some (.int i), some (.ref a)], [.int (-1)])) rfl ?_
      exact aw_iret rfl ⟨_, rfl, rfl⟩ hQ
    rcases sp_ix_c i (n := x.1.1.2.2.2.length) (by omega) with ⟨q | ⟨q, q2⟩, e⟩ | ⟨j, hj, rfl, e⟩
    · exact aw_zlt rfl (fun _ => nul e) (fun z => absurd q z)
    · refine aw_zlt rfl (fun z => absurd z q) (fun _ => ?_)
      refine aw_run 2 (F' := (20, [some (.ref b), some (.int which), some (.int k), some (.int i), some (.ref a)], [.ref a, .int i])) rfl ?_
      refine aw_get rfl hc rfl ?_
      refine aw_len rfl hbc (by decide) ?_
      exact aw_clt rfl (fun z => absurd (Int32.lt_of_lt_of_le z q2) (fun y => Int32.lt_irrefl y)) (fun _ => nul e)
    · rw [e] at hQ
      refine aw_zlt rfl (fun z => absurd z (nI_pos (by omega))) (fun _ => ?_)
      refine aw_run 2 (F' := (20, [some (.ref b), some (.int which), some (.int k), some (.int (nI j)), some (.ref a)], [.ref a, .int (nI j)])) rfl ?_
      refine aw_get rfl hc rfl ?_
      refine aw_len rfl hbc (by decide) ?_
      refine aw_clt rfl (fun _ => ?_) (fun z => absurd (nI_lt hj (by omega)) z)
      refine aw_run 1 (F' := (31, [some (.ref b), some (.int which), some (.int k), some (.int (nI j)), some (.ref a)], [.ref a])) rfl ?_
      refine aw_get rfl hc rfl ?_
      refine aw_run 1 (F' := (35, [some (.ref b), some (.int which), some (.int k), some (.int (nI j)), some (.ref a)], [.int (nI j), .ref ba])) rfl ?_
      refine aw_bald rfl hbc (vp_in_nI hj (by omega)) ?_
      rw [nI_clamp (by omega), hbf j hj]
      refine aw_run 2 (F' := (40, [some (.ref b), some (.int which), some (.int k), some (.int (nI j)), some (.ref a)], [.int (sb_b (x.1.1.2.2.2.getD j 0) &&& 255)])) rfl ?_
      have hlt : x.1.1.2.2.2.getD j 0 < 256 := by
        rw [List.getD_eq_getElem?_getD, List.getElem?_eq_getElem hj]
        exact hl2 _ (List.getElem_mem hj)
      rw [sb_255 _ hlt]
      exact aw_iret rfl ⟨_, rfl, rfl⟩ hQ
/-- between -/
theorem c_between (hC : CS g b R σ S) (k j : Int32) (hd : 54 ≤ d) (hQ : Q (some (.int (sp_between S k j))) σ) : AW g d 49 (0, [some (.ref b), some (.int k), some (.int j), none, none], []) σ Q := by
  obtain ⟨d, rfl⟩ : ∃ d', d = d' + 2 := ⟨d - 2, by omega⟩
  have hC' := hC
  obtain ⟨-, -, -, -, -, -, -, -, ⟨st, ho, -⟩, -⟩ := hC'
  refine aw_run 3 (F' := (3, [some (.ref b), some (.int k), some (.int j), none, none], [.int k, .int 0, .ref b])) rfl ?_
  refine aw_v [.ref b, .int 0, .int k] [] rfl (by decide) rfl ho rfl rfl (Nat.le_of_ble_eq_true rfl) (Nat.le_of_ble_eq_true rfl) ?_
  refine c_vil hC 0 k (fun e => ?_) (fun x a e hv hh => ?_)
  · have hr : sp_between S k j = -2 := by unfold sp_between; rw [e]
    rw [hr] at hQ
    refine aw_run 4 (F' := (10, [some (.ref b), some (.int k), some (.int j), some .null, none], [.int j, .int 1, .ref b])) rfl ?_
    refine aw_v [.ref b, .int 1, .int j] [] rfl (by decide) rfl ho rfl rfl (Nat.le_of_ble_eq_true rfl) (Nat.le_of_ble_eq_true rfl) ?_
    refine c_vil hC 1 j (fun e2 => ?_) (fun y a2 e2 hv2 hh2 => ?_)
    · refine aw_run 2 (F' := (16, [some (.ref b), some (.int k), some (.int j), some .null, some .null], [.null])) rfl ?_
      refine aw_ifnull_n rfl ?_
      refine aw_run 1 (F' := (26, [some (.ref b), some (.int k), some (.int j), some .null, some .null], [.int (-2)])) rfl ?_
      exact aw_iret rfl ⟨_, rfl, rfl⟩ hQ
    · refine aw_run 2 (F' := (16, [some (.ref b), some (.int k), some (.int j), some .null, some (.ref a2)], [.null])) rfl ?_
      refine aw_ifnull_n rfl ?_
      refine aw_run 1 (F' := (26, [some (.ref b), some (.int k), some (.int j), some .null, some (.ref a2)], [.int (-2)])) rfl ?_
      exact aw_iret rfl ⟨_, rfl, rfl⟩ hQ
  · refine aw_run 4 (F' := (10, [some (.ref b), some (.int k), some (.int j), some (.ref a), none], [.int j, .int 1, .ref b])) rfl ?_
    refine aw_v [.ref b, .int 1, .int j] [] rfl (by decide) rfl ho rfl rfl (Nat.le_of_ble_eq_true rfl) (Nat.le_of_ble_eq_true rfl) ?_
    refine c_vil hC 1 j (fun e2 => ?_) (fun y a2 e2 hv2 hh2 => ?_)
    · have hr : sp_between S k j = -2 := by unfold sp_between; rw [e, e2]
      rw [hr] at hQ
      refine aw_run 2 (F' := (16, [some (.ref b), some (.int k), some (.int j), some (.ref a), some .null], [.ref a])) rfl ?_
      refine aw_ifnull_r rfl ?_
      refine aw_run 1 (F' := (21, [some (.ref b), some (.int k), some (.int j), some (.ref a), some .null], [.null])) rfl ?_
      refine aw_ifnon_n rfl ?_
      refine aw_run 1 (F' := (26, [some (.ref b), some (.int k), some (.int j), some (.ref a), some .null], [.int (-2)])) rfl ?_
      exact aw_iret rfl ⟨_, rfl, rfl⟩ hQ
    · have hr : sp_between S k j = sp_vc x.1 y.1 := by unfold sp_between; rw [e, e2]
      rw [hr] at hQ
      refine aw_run 2 (F' := (16, [some (.ref b), some (.int k), some (.int j), some (.ref a), some (.ref a2)], [.ref a])) rfl ?_
      refine aw_ifnull_r rfl ?_
      refine aw_run 1 (F' := (21, [some (.ref b), some (.int k), some (.int j), some (.ref a), some (.ref a2)], [.ref a2])) rfl ?_
      refine aw_ifnon_r rfl ?_
      refine aw_run 3 (F' := (31, [some (.ref b), some (.int k), some (.int j), some (.ref a), some (.ref a2)], [.int (nI 1), .ref a2, .ref a])) rfl ?_
      refine aw_s [.ref a, .ref a2, .int (nI 1)] [] rfl ⟨by decide, by decide⟩ rfl rfl (Nat.le_of_ble_eq_true rfl) (Nat.le_of_ble_eq_true rfl) ?_
      refine c_ofValues hv.vl hv2.vl (by omega) (by omega) ?_
      exact aw_iret rfl ⟨_, rfl, rfl⟩ hQ
/-- from -/
theorem c_from (hC : CS g b R σ S) (which k : Int32) (hQ : Q (some (.int (sp_from S which k))) σ) : AW g (d + 1) 54 (0, [some (.ref b), some (.int which), some (.int k)], []) σ Q := by
  have hC' := hC
  obtain ⟨-, -, -, -, -, -, -, -, ⟨st, ho, -⟩, -, ⟨fl, hl, hfl⟩, hls, -⟩ := hC'
  refine aw_run 2 (F' := (2, [some (.ref b), some (.int which), some (.int k)], [.int which, .ref b])) rfl ?_
  refine aw_v [.ref b, .int which] [] rfl (by decide) rfl ho rfl rfl (Nat.le_of_ble_eq_true rfl) (Nat.le_of_ble_eq_true rfl) ?_
  refine c_isl hC which (fun i hi er ei => ?_) (fun e => ?_)
  rotate_left
  · have hr : sp_from S which k = -1 := by unfold sp_from sp_at; rw [e]
    rw [hr] at hQ
    refine aw_zeq rfl (fun _ => ?_) (fun z => absurd rfl z)
    refine aw_run 1 (F' := (22, [some (.ref b), some (.int which), some (.int k)], [.int (-1)])) rfl ?_
    exact aw_iret rfl ⟨_, rfl, rfl⟩ hQ
  refine aw_zeq rfl (fun z => absurd z (by decide)) (fun _ => ?_)
  subst er
  obtain ⟨⟨hlen, fv, fo, hw, hva, hoa, hit⟩, hh, -, -⟩ := hls i hi
  dsimp only at hlen hw
  refine aw_run 1 (F' := (9, [some (.ref b), some (.int (nI i)), some (.int k)], [.ref b])) rfl ?_
  refine aw_get rfl ho rfl ?_
  refine aw_run 1 (F' := (13, [some (.ref b), some (.int (nI i)), some (.int k)], [.int (nI i), .ref (b + 7)])) rfl ?_
  refine aw_aald rfl (by decide) hl (vp_in_nI hi (by omega)) ?_
  rw [nI_clamp (by omega), hfl i hi]
  refine aw_run 1 (F' := (15, [some (.ref b), some (.int (nI i)), some (.int k)], [.int k, .ref (b + 8 + 5 * i)])) rfl ?_
  refine aw_v [.ref (b + 8 + 5 * i), .int k] [] rfl (by decide) rfl hw rfl rfl (Nat.le_of_ble_eq_true rfl) (Nat.le_of_ble_eq_true rfl) ?_
  refine aw_run 1 (F' := (1, [some (.ref (b + 8 + 5 * i)), some (.int k)], [.int k])) rfl ?_
  have nul : sp_ix k (S.2.2.2.1 i).length = none → AW g d 55 (21, [some (.ref (b + 8 + 5 * i)), some (.int k)], []) σ (fun (v : Option Value) (σ' : am_H) => AW g (d + 1) 54 (15 + 3, [some (.ref b), some (.int (nI i)), some (.int k)], v.toList ++ []) σ' Q) := by
    intro e
    have hr : sp_from S (nI i) k = -1 := by unfold sp_from sp_at; rw [ei]; dsimp only; rw [e]
    rw [hr] at hQ
    refine aw_run 1 (F' := (22, [some (.ref (b + 8 + 5 * i)), some (.int k)], [.int (-1)])) rfl ?_
    refine aw_iret rfl ⟨_, rfl, rfl⟩ ?_
    refine aw_run 1 (F' := (22, [some (.ref b), some (.int (nI i)), some (.int k)], [.int (-1)])) rfl ?_
    exact aw_iret rfl ⟨_, rfl, rfl⟩ hQ
  rcases sp_ix_c k (n := (S.2.2.2.1 i).length) (by omega) with ⟨q | ⟨q, q2⟩, e⟩ | ⟨j, hj, rfl, e⟩
  · exact aw_zlt rfl (fun _ => nul e) (fun z => absurd q z)
  · refine aw_zlt rfl (fun z => absurd z q) (fun _ => ?_)
    refine aw_run 2 (F' := (6, [some (.ref (b + 8 + 5 * i)), some (.int k)], [.ref (b + 8 + 5 * i), .int k])) rfl ?_
    refine aw_get rfl hw rfl ?_
    exact aw_cge rfl (fun _ => nul e) (fun z => absurd q2 z)
  · have hx := List.getElem?_eq_getElem hj
    generalize (S.2.2.2.1 i)[j] = x at hx
    obtain ⟨a, ha1, ha2, ha3⟩ := hit j x.1 x.2 hx
    have hr : sp_from S (nI i) (nI j) = nI x.2 := by unfold sp_from sp_at; rw [ei]; dsimp only; rw [e]; dsimp only; rw [hx]
    rw [hr] at hQ
    refine aw_zlt rfl (fun z => absurd z (nI_pos (by omega))) (fun _ => ?_)
    refine aw_run 2 (F' := (6, [some (.ref (b + 8 + 5 * i)), some (.int (nI j))], [.ref (b + 8 + 5 * i), .int (nI j)])) rfl ?_
    refine aw_get rfl hw rfl ?_
    refine aw_cge rfl (fun z => absurd ((nI_leI (by omega) (by omega)).mp z) (by omega)) (fun _ => ?_)
    refine aw_run 1 (F' := (13, [some (.ref (b + 8 + 5 * i)), some (.int (nI j))], [.ref (b + 8 + 5 * i)])) rfl ?_
    refine aw_get rfl hw rfl ?_
    refine aw_run 1 (F' := (17, [some (.ref (b + 8 + 5 * i)), some (.int (nI j))], [.int (nI j), .ref (b + 8 + 5 * i + 2)])) rfl ?_
    refine aw_iald rfl hoa (vp_in_nI (by omega) (by omega)) ?_
    rw [nI_clamp (by omega), ha3]
    refine aw_run 1 (F' := (22, [some (.ref (b + 8 + 5 * i)), some (.int (nI j))], [.int (nI x.2)])) rfl ?_
    refine aw_iret rfl ⟨_, rfl, rfl⟩ ?_
    refine aw_run 1 (F' := (22, [some (.ref b), some (.int (nI i)), some (.int (nI j))], [.int (nI x.2)])) rfl ?_
    exact aw_iret rfl ⟨_, rfl, rfl⟩ hQ
end P49
