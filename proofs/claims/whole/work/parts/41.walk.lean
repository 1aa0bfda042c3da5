/-- what follow does, n levels being left -/
def FW (n : Nat) : Prop := ∀ (g : Nat × Nat) (d : Nat) (Z : Nat → Prop) (σ0 σ : am_H) (Q : Option Value → am_H → Prop) (k w va oa sa pa m x dep : Nat) (it : Bool) (v : sp_V) (P : List (List Nat)) (o : Option Nat) (S : sp_X × Bool), wlk g Z σ0 k w va oa m it → vlz Z σ0.1 x v → stc Z σ0.1 P o → fil σ0 σ w va oa → ls Z σ0.1 σ.1 w va oa sa pa S → dep + n = 18 → 2 * n + 3 ≤ d → (∀ σ' : am_H, fil σ0 σ' w va oa → ls Z σ0.1 σ'.1 w va oa sa pa (sp_adds S (sp_lv it n v P)) → Q none σ') → AW g d 40 (0, [some (.ref k), some (.ref x), some (va_rf o), some (.int (nI dep))], []) σ Q
section P41
variable {g : Nat × Nat} {d : Nat} {σ : am_H} {Q : Option Value → am_H → Prop}
/-- followInRow's loop -/
theorem c_rowL {n : Nat} (hF : FW n) {Z : Nat → Prop} {σ0 : am_H} {k w va oa sa pa m x a dep : Nat} {it : Bool} {s : List Nat} {ss : List (List Nat)} {e0 : Option Nat} (hw : wlk g Z σ0 k w va oa m it) (hst : stc Z σ0.1 (s :: ss) (some a)) (hdep : dep + (n + 1) = 18) (hd : 2 * n + 3 ≤ d) : ∀ (c : sp_F) (o : Option Nat) (σ : am_H) (S : sp_X × Bool), frz Z σ0.1 c o → fil σ0 σ w va oa → ls Z σ0.1 σ.1 w va oa sa pa S → (∀ σ' : am_H, fil σ0 σ' w va oa → ls Z σ0.1 σ'.1 w va oa sa pa (sp_adds S ((sp_toL c).flatMap (fun w => if w.1.1 = 3 then sp_lv it n w (s :: ss) else []))) → Q none σ') → AW g (d + 1) 43 (34, [some (.ref k), some (.ref x), some (.ref a), some (.int (nI dep)), some (va_rf e0), some (va_rf o)], []) σ Q := by
  intro c
  induction c with
  | leaf =>
    intro o σ S hc hfil hls hQ
    have ho : o = none := hc
    subst ho
    refine aw_run 1 (F' := (36, [some (.ref k), some (.ref x), some (.ref a), some (.int (nI dep)), some (va_rf e0), some .null], [.null])) rfl ?_
    refine aw_ifnull_n rfl ?_
    exact aw_vret rfl rfl (hQ σ hfil hls)
  | inner s1 b u c r ihc ihr =>
    intro o σ S hc hfil hls hQ
    have hw' := hw
    obtain ⟨hf, k1, k2, k3, hk, hm⟩ := hw'
    have hkc := (hfil.1 k k1 k2 k3).trans hk
    obtain ⟨y, rfl, hy, w0, w1, w2, w3, w4, w5, w6, nx, hyc, hw0, hr⟩ := hc.one
    have hkd : b.1 < 19 := by
      obtain ⟨-, fi, la, nx', ⟨kk, -⟩, -⟩ := hy
      unfold kd at kk
      dsimp only at kk
      omega
    subst hw0
    have hyc1 := (hfil.z hf y hy.1).trans hyc
    refine aw_run 1 (F' := (36, [some (.ref k), some (.ref x), some (.ref a), some (.int (nI dep)), some (va_rf e0), some (.ref y)], [.ref y])) rfl ?_
    refine aw_ifnull_r rfl ?_
    refine aw_run 1 (F' := (40, [some (.ref k), some (.ref x), some (.ref a), some (.int (nI dep)), some (va_rf e0), some (.ref y)], [.ref k])) rfl ?_
    refine aw_get rfl hkc rfl ?_
    have hls' := hls
    obtain ⟨hl, fv, fo, hwc, hva, hoa, hv⟩ := hls'
    refine aw_get rfl hwc rfl ?_
    have hflat : (sp_toL (.inner s1 b u c r)).flatMap (fun w => if w.1.1 = 3 then sp_lv it n w (s :: ss) else []) = (if b.1 = 3 then sp_lv it n (b, c) (s :: ss) else []) ++ (sp_toL r).flatMap (fun w => if w.1.1 = 3 then sp_lv it n w (s :: ss) else []) := rfl
    rw [hflat] at hQ
    by_cases hov : S.2 = true
    · rw [hov]
      refine aw_zne rfl (fun _ => ?_) (fun z => absurd (by decide) z)
      rw [sp_adds_ov hov] at hQ
      exact aw_vret rfl rfl (hQ σ hfil hls)
    · have hof : S.2 = false := by simpa using hov
      rw [hof]
      refine aw_zne rfl (fun z => absurd rfl z) (fun _ => ?_)
      refine aw_run 1 (F' := (51, [some (.ref k), some (.ref x), some (.ref a), some (.int (nI dep)), some (va_rf e0), some (.ref y)], [.ref y])) rfl ?_
      refine aw_get rfl hyc1 rfl ?_
      refine aw_run 1 (F' := (55, [some (.ref k), some (.ref x), some (.ref a), some (.int (nI dep)), some (va_rf e0), some (.ref y)], [.int (nI 3), .int (nI b.1)])) rfl ?_
      have rest : ∀ (σ' : am_H) (S' : sp_X × Bool), fil σ0 σ' w va oa → ls Z σ0.1 σ'.1 w va oa sa pa S' → sp_adds S ((if b.1 = 3 then sp_lv it n (b, c) (s :: ss) else []) ++ (sp_toL r).flatMap (fun w => if w.1.1 = 3 then sp_lv it n w (s :: ss) else [])) = sp_adds S' ((sp_toL r).flatMap (fun w => if w.1.1 = 3 then sp_lv it n w (s :: ss) else [])) → AW g (d + 1) 43 (68, [some (.ref k), some (.ref x), some (.ref a), some (.int (nI dep)), some (va_rf e0), some (.ref y)], []) σ' Q := by
        intro σ' S' hfil' hls' he
        have hyc' := (hfil'.z hf y hy.1).trans hyc
        refine aw_run 1 (F' := (70, [some (.ref k), some (.ref x), some (.ref a), some (.int (nI dep)), some (va_rf e0), some (.ref y)], [.ref y])) rfl ?_
        refine aw_get rfl hyc' rfl ?_
        rw [he] at hQ
        have key := ihr nx σ' S' hr hfil' hls' hQ
        rcases nx with _ | z <;> rcases e0 with _ | e0
        · refine aw_run 2 (F' := (34, [some (.ref k), some (.ref x), some (.ref a), some (.int (nI dep)), some .null, some .null], [])) rfl ?_
          exact key
        · refine aw_run 2 (F' := (34, [some (.ref k), some (.ref x), some (.ref a), some (.int (nI dep)), some (.ref e0), some .null], [])) rfl ?_
          exact key
        · refine aw_run 2 (F' := (34, [some (.ref k), some (.ref x), some (.ref a), some (.int (nI dep)), some .null, some (.ref z)], [])) rfl ?_
          exact key
        · refine aw_run 2 (F' := (34, [some (.ref k), some (.ref x), some (.ref a), some (.int (nI dep)), some (.ref e0), some (.ref z)], [])) rfl ?_
          exact key
      refine aw_cne rfl (fun z => ?_) (fun z => ?_)
      · have z' : ¬ b.1 = 3 := fun y => z (by rw [y])
        refine rest σ S hfil hls ?_
        rw [if_neg z', List.nil_append]
      · have z' : b.1 = 3 := (nI_eq (by omega) (by omega)).mp (Decidable.of_not_not z)
        refine aw_run 6 (F' := (65, [some (.ref k), some (.ref x), some (.ref a), some (.int (nI dep)), some (va_rf e0), some (.ref y)], [.int (nI dep + 1), .ref a, .ref y, .ref k])) rfl ?_
        rw [nI_1]
        refine aw_v [.ref k, .ref y, .ref a, .int (nI (dep + 1))] [] rfl (by decide) rfl hkc rfl rfl (Nat.le_of_ble_eq_true rfl) (Nat.le_of_ble_eq_true rfl) ?_
        refine hF g d Z σ0 σ _ k w va oa sa pa m y (dep + 1) it (b, c) (s :: ss) (some a) S hw hy hst hfil hls (by omega) hd (fun σ' hfil' hls' => ?_)
        refine rest σ' _ hfil' hls' ?_
        rw [if_pos z', sp_adds_app]
/-- Walk.follow -/
theorem FW_all : ∀ n, FW n := by
  intro n
  induction n with
  | zero =>
    intro g d Z σ0 σ Q k w va oa sa pa m x dep it v P o S hw hx hst hfil hls hdep hd hQ
    have hw' := hw
    obtain ⟨hf, k1, k2, k3, hk, hm⟩ := hw'
    have hkc := (hfil.1 k k1 k2 k3).trans hk
    have hls' := hls
    obtain ⟨hl, fv, fo, hwc, hva, hoa, hv⟩ := hls'
    refine aw_run 1 (F' := (1, [some (.ref k), some (.ref x), some (va_rf o), some (.int (nI dep))], [.ref k])) rfl ?_
    refine aw_get rfl hkc rfl ?_
    refine aw_get rfl hwc rfl ?_
    refine aw_zne rfl (fun _ => aw_vret rfl rfl (hQ σ hfil hls)) (fun _ => ?_)
    refine aw_run 2 (F' := (13, [some (.ref k), some (.ref x), some (va_rf o), some (.int (nI dep))], [.int (nI 17), .int (nI dep)])) rfl ?_
    refine aw_cle rfl (fun z => absurd ((nI_leI (by omega) (by omega)).mp z) (by omega)) (fun _ => ?_)
    exact aw_vret rfl rfl (hQ σ hfil hls)
  | succ n ih =>
    intro g d Z σ0 σ Q k w va oa sa pa m x dep it v P o S hw hx hst hfil hls hdep hd hQ
    obtain ⟨d, rfl⟩ : ∃ d', d = d' + 4 := ⟨d - 4, by omega⟩
    have hw' := hw
    obtain ⟨hf, k1, k2, k3, hk, hm⟩ := hw'
    have hkc := (hfil.1 k k1 k2 k3).trans hk
    have hZ := hfil.z hf
    have hls' := hls
    obtain ⟨hl, fv, fo, hwc, hva, hoa, hv⟩ := hls'
    refine aw_run 1 (F' := (1, [some (.ref k), some (.ref x), some (va_rf o), some (.int (nI dep))], [.ref k])) rfl ?_
    refine aw_get rfl hkc rfl ?_
    refine aw_get rfl hwc rfl ?_
    by_cases hov : S.2 = true
    · rw [hov]
      refine aw_zne rfl (fun _ => ?_) (fun z => absurd (by decide) z)
      rw [sp_adds_ov hov] at hQ
      exact aw_vret rfl rfl (hQ σ hfil hls)
    have hof : S.2 = false := by simpa using hov
    rw [hof]
    refine aw_zne rfl (fun z => absurd rfl z) (fun _ => ?_)
    refine aw_run 2 (F' := (13, [some (.ref k), some (.ref x), some (va_rf o), some (.int (nI dep))], [.int (nI 17), .int (nI dep)])) rfl ?_
    refine aw_cle rfl (fun _ => ?_) (fun z => absurd ((nI_leI (by omega) (by omega)).mpr (by omega)) z)
    cases P with
    | nil =>
      have ho : o = none := hst
      subst ho
      refine aw_run 1 (F' := (18, [some (.ref k), some (.ref x), some .null, some (.int (nI dep))], [.null])) rfl ?_
      refine aw_ifnon_n rfl ?_
      refine aw_run 2 (F' := (23, [some (.ref k), some (.ref x), some .null, some (.int (nI dep))], [.ref x, .ref k])) rfl ?_
      refine aw_v [.ref k, .ref x] [] rfl (by decide) rfl hkc rfl rfl (Nat.le_of_ble_eq_true rfl) (Nat.le_of_ble_eq_true rfl) ?_
      refine c_leaf (d := d + 2) hw hx hfil hls hov (fun σ' hfil' hls' => ?_)
      refine aw_run 1 (F' := (54, [some (.ref k), some (.ref x), some .null, some (.int (nI dep))], [])) rfl ?_
      exact aw_vret rfl rfl (hQ σ' hfil' hls')
    | cons s ss =>
      have hst' := hst
      obtain ⟨a, na, nx, rfl, za, zna, hac, hna, hnx⟩ := hst'
      have hac1 := (hZ a za).trans hac
      have hna1 := hna.kept (hZ na zna)
      have hx1 := hx.kept hZ (fun _ z => z)
      obtain ⟨zx0, fi, la, nx', ⟨kk, -, nax, bax, num, -, -, hxc, -⟩, hfr⟩ := hx
      have hfr1 := hfr.kept (h' := σ.1) hZ (fun _ z => z)
      have hxc1 := (hZ x zx0).trans hxc
      have hk18 : v.1.1 < 19 := by unfold kd at kk; omega
      refine aw_run 1 (F' := (18, [some (.ref k), some (.ref x), some (.ref a), some (.int (nI dep))], [.ref a])) rfl ?_
      refine aw_ifnon_r rfl ?_
      refine aw_run 1 (F' := (30, [some (.ref k), some (.ref x), some (.ref a), some (.int (nI dep))], [.ref x])) rfl ?_
      refine aw_get rfl hxc1 rfl ?_
      refine aw_run 1 (F' := (34, [some (.ref k), some (.ref x), some (.ref a), some (.int (nI dep))], [.int (nI 4), .int (nI v.1.1)])) rfl ?_
      unfold sp_lv at hQ
      refine aw_cne rfl (fun z => ?_) (fun z => ?_)
      · have z' : ¬ v.1.1 = 4 := fun y => z (by rw [y])
        rw [if_neg z'] at hQ
        refine aw_run 4 (F' := (51, [some (.ref k), some (.ref x), some (.ref a), some (.int (nI dep))], [.int (nI dep), .ref a, .ref x, .ref k])) rfl ?_
        refine aw_v [.ref k, .ref x, .ref a, .int (nI dep)] [] rfl (by decide) rfl hkc rfl rfl (Nat.le_of_ble_eq_true rfl) (Nat.le_of_ble_eq_true rfl) ?_
        have done : ∀ σ' : am_H, Q none σ' → AW g (d + 4) 40 (51 + 3, [some (.ref k), some (.ref x), some (.ref a), some (.int (nI dep))], []) σ' Q := fun σ' h => aw_vret rfl rfl h
        refine aw_run 2 (F' := (2, [some (.ref k), some (.ref x), some (.ref a), some (.int (nI dep)), none], [.ref a, .ref x])) rfl ?_
        refine aw_get rfl hac1 rfl ?_
        refine aw_v [.ref x, .ref na] [] rfl (by decide) rfl hxc1 rfl rfl (Nat.le_of_ble_eq_true rfl) (Nat.le_of_ble_eq_true rfl) ?_
        refine c_elem (d := d) hxc1 hna1 hfr1 (fun q => ?_) (fun y v' q hy => ?_)
        · rw [q] at hQ
          refine aw_run 2 (F' := (12, [some (.ref k), some (.ref x), some (.ref a), some (.int (nI dep)), some .null], [.null])) rfl ?_
          refine aw_ifnon_n rfl ?_
          refine aw_run 1 (F' := (16, [some (.ref k), some (.ref x), some (.ref a), some (.int (nI dep)), some .null], [.ref k])) rfl ?_
          refine aw_get rfl hkc rfl ?_
          refine aw_run 1 (F' := (20, [some (.ref k), some (.ref x), some (.ref a), some (.int (nI dep)), some .null], [.ref k, .ref w])) rfl ?_
          refine aw_get rfl hkc rfl ?_
          refine aw_v [.ref w, .ref m] [] rfl (by decide) rfl hwc rfl rfl (Nat.le_of_ble_eq_true rfl) (Nat.le_of_ble_eq_true rfl) ?_
          refine c_add hf hfil hls hm (fun σ' hfil' hls' => ?_)
          refine aw_run 1 (F' := (42, [some (.ref k), some (.ref x), some (.ref a), some (.int (nI dep)), some .null], [])) rfl ?_
          refine aw_vret rfl rfl (done σ' (hQ σ' hfil' ?_))
          show ls Z σ0.1 σ'.1 w va oa sa pa (sp_adds S [sp_miss])
          rw [sp_adds_one hov]
          exact hls'
        · rw [q] at hQ
          have hy0 := hy.kept (h' := σ0.1) (fun b zb => (hZ b zb).symm) (fun _ z => z)
          refine aw_run 2 (F' := (12, [some (.ref k), some (.ref x), some (.ref a), some (.int (nI dep)), some (.ref y)], [.ref y])) rfl ?_
          refine aw_ifnon_r rfl ?_
          refine aw_run 3 (F' := (33, [some (.ref k), some (.ref x), some (.ref a), some (.int (nI dep)), some (.ref y)], [.ref a, .ref y, .ref k])) rfl ?_
          refine aw_get rfl hac1 rfl ?_
          refine aw_run 3 (F' := (39, [some (.ref k), some (.ref x), some (.ref a), some (.int (nI dep)), some (.ref y)], [.int (nI dep + 1), va_rf nx, .ref y, .ref k])) rfl ?_
          rw [nI_1]
          have key := ih g (d + 2) Z σ0 σ (fun (v : Option Value) (σ' : am_H) => AW g (d + 3) 44 (39 + 3, [some (.ref k), some (.ref x), some (.ref a), some (.int (nI dep)), some (.ref y)], v.toList ++ []) σ' (fun (v : Option Value) (σ' : am_H) => AW g (d + 4) 40 (51 + 3, [some (.ref k), some (.ref x), some (.ref a), some (.int (nI dep))], v.toList ++ []) σ' Q)) k w va oa sa pa m y (dep + 1) it v' ss nx S hw hy0 hnx hfil hls (by omega) (by omega) (fun σ' hfil' hls' => by
            show AW g (d + 3) 44 (42, [some (.ref k), some (.ref x), some (.ref a), some (.int (nI dep)), some (.ref y)], []) σ' _
            exact aw_vret rfl rfl (done σ' (hQ σ' hfil' hls')))
          rcases nx with _ | z
          · refine aw_v [.ref k, .ref y, .null, .int (nI (dep + 1))] [] rfl (by decide) rfl hkc rfl rfl (Nat.le_of_ble_eq_true rfl) (Nat.le_of_ble_eq_true rfl) ?_
            exact key
          · refine aw_v [.ref k, .ref y, .ref z, .int (nI (dep + 1))] [] rfl (by decide) rfl hkc rfl rfl (Nat.le_of_ble_eq_true rfl) (Nat.le_of_ble_eq_true rfl) ?_
            exact key
      · have z' : v.1.1 = 4 := (nI_eq (by omega) (by omega)).mp (Decidable.of_not_not z)
        rw [if_pos z'] at hQ
        refine aw_run 4 (F' := (41, [some (.ref k), some (.ref x), some (.ref a), some (.int (nI dep))], [.int (nI dep), .ref a, .ref x, .ref k])) rfl ?_
        refine aw_v [.ref k, .ref x, .ref a, .int (nI dep)] [] rfl (by decide) rfl hkc rfl rfl (Nat.le_of_ble_eq_true rfl) (Nat.le_of_ble_eq_true rfl) ?_
        have done : ∀ σ' : am_H, Q none σ' → AW g (d + 4) 40 (41 + 3, [some (.ref k), some (.ref x), some (.ref a), some (.int (nI dep))], []) σ' Q := fun σ' h => by
          refine aw_run 1 (F' := (54, [some (.ref k), some (.ref x), some (.ref a), some (.int (nI dep))], [])) rfl ?_
          exact aw_vret rfl rfl h
        refine aw_run 2 (F' := (2, [some (.ref k), some (.ref x), some (.ref a), some (.int (nI dep)), none, none], [.ref a, .ref x])) rfl ?_
        refine aw_get rfl hac1 rfl ?_
        refine aw_v [.ref x, .ref na] [] rfl (by decide) rfl hxc1 rfl rfl (Nat.le_of_ble_eq_true rfl) (Nat.le_of_ble_eq_true rfl) ?_
        have loop : ∀ (e0 : Option Nat) (σ' : am_H) (S' : sp_X × Bool), fil σ0 σ' w va oa → ls Z σ0.1 σ'.1 w va oa sa pa S' → (∀ σ'' : am_H, fil σ0 σ'' w va oa → ls Z σ0.1 σ''.1 w va oa sa pa (sp_adds S' ((sp_toL v.2).flatMap (fun w => if w.1.1 = 3 then sp_lv it n w (s :: ss) else []))) → Q none σ'') → AW g (d + 3) 43 (28, [some (.ref k), some (.ref x), some (.ref a), some (.int (nI dep)), some (va_rf e0), none], []) σ' (fun (v : Option Value) (σ' : am_H) => AW g (d + 4) 40 (41 + 3, [some (.ref k), some (.ref x), some (.ref a), some (.int (nI dep))], v.toList ++ []) σ' Q) := by
          intro e0 σ' S' hfil' hls' hQ'
          have hxc2 := (hfil'.z hf x zx0).trans hxc
          refine aw_run 1 (F' := (29, [some (.ref k), some (.ref x), some (.ref a), some (.int (nI dep)), some (va_rf e0), none], [.ref x])) rfl ?_
          refine aw_get rfl hxc2 rfl ?_
          have key := c_rowL (d := d + 2) (x := x) (e0 := e0) (Q := fun (v : Option Value) (σ' : am_H) => AW g (d + 4) 40 (41 + 3, [some (.ref k), some (.ref x), some (.ref a), some (.int (nI dep))], v.toList ++ []) σ' Q) ih hw hst hdep (by omega) v.2 fi σ' S' hfr hfil' hls' (fun σ'' h1 h2 => done σ'' (hQ' σ'' h1 h2))
          rcases fi with _ | z <;> rcases e0 with _ | e0
          · refine aw_run 1 (F' := (34, [some (.ref k), some (.ref x), some (.ref a), some (.int (nI dep)), some .null, some .null], [])) rfl ?_
            exact key
          · refine aw_run 1 (F' := (34, [some (.ref k), some (.ref x), some (.ref a), some (.int (nI dep)), some (.ref e0), some .null], [])) rfl ?_
            exact key
          · refine aw_run 1 (F' := (34, [some (.ref k), some (.ref x), some (.ref a), some (.int (nI dep)), some .null, some (.ref z)], [])) rfl ?_
            exact key
          · refine aw_run 1 (F' := (34, [some (.ref k), some (.ref x), some (.ref a), some (.int (nI dep)), some (.ref e0), some (.ref z)], [])) rfl ?_
            exact key
        refine c_elem (d := d) hxc1 hna1 hfr1 (fun q => ?_) (fun y v' q hy => ?_)
        · rw [q] at hQ
          refine aw_run 2 (F' := (12, [some (.ref k), some (.ref x), some (.ref a), some (.int (nI dep)), some .null, none], [.null])) rfl ?_
          refine aw_ifnull_n rfl ?_
          exact loop none σ S hfil hls hQ
        · rw [q] at hQ
          have hy0 := hy.kept (h' := σ0.1) (fun b zb => (hZ b zb).symm) (fun _ z => z)
          refine aw_run 2 (F' := (12, [some (.ref k), some (.ref x), some (.ref a), some (.int (nI dep)), some (.ref y), none], [.ref y])) rfl ?_
          refine aw_ifnull_r rfl ?_
          refine aw_run 3 (F' := (19, [some (.ref k), some (.ref x), some (.ref a), some (.int (nI dep)), some (.ref y), none], [.ref a, .ref y, .ref k])) rfl ?_
          refine aw_get rfl hac1 rfl ?_
          refine aw_run 3 (F' := (25, [some (.ref k), some (.ref x), some (.ref a), some (.int (nI dep)), some (.ref y), none], [.int (nI dep + 1), va_rf nx, .ref y, .ref k])) rfl ?_
          rw [nI_1]
          have key := ih g (d + 2) Z σ0 σ (fun (v : Option Value) (σ' : am_H) => AW g (d + 3) 43 (25 + 3, [some (.ref k), some (.ref x), some (.ref a), some (.int (nI dep)), some (.ref y), none], v.toList ++ []) σ' (fun (v : Option Value) (σ' : am_H) => AW g (d + 4) 40 (41 + 3, [some (.ref k), some (.ref x), some (.ref a), some (.int (nI dep))], v.toList ++ []) σ' Q)) k w va oa sa pa m y (dep + 1) it v' ss nx S hw hy0 hnx hfil hls (by omega) (by omega) (fun σ' hfil' hls' => by
            show AW g (d + 3) 43 (28, [some (.ref k), some (.ref x), some (.ref a), some (.int (nI dep)), some (.ref y), none], []) σ' _
            exact loop (some y) σ' _ hfil' hls' (fun σ'' h1 h2 => hQ σ'' h1 (by rw [sp_adds_app]; exact h2)))
          rcases nx with _ | z
          · refine aw_v [.ref k, .ref y, .null, .int (nI (dep + 1))] [] rfl (by decide) rfl hkc rfl rfl (Nat.le_of_ble_eq_true rfl) (Nat.le_of_ble_eq_true rfl) ?_
            exact key
          · refine aw_v [.ref k, .ref y, .ref z, .int (nI (dep + 1))] [] rfl (by decide) rfl hkc rfl rfl (Nat.le_of_ble_eq_true rfl) (Nat.le_of_ble_eq_true rfl) ?_
            exact key
end P41
