/-! the reader's small steps -/
def wf (σ : am_H) : Prop := ∀ (a : Nat) (c : am_C), σ.1 a = some c → a < σ.2.1
theorem am_set_same (σ : am_H) (a : Nat) (c : am_C) : (am_set σ a c).1 a = some c := by simp [am_set, am_upd]
theorem am_set_ne (σ : am_H) {a b : Nat} (c : am_C) (h : b ≠ a) : (am_set σ a c).1 b = σ.1 b := by simp [am_set, am_upd, h]
theorem am_psh_same (σ : am_H) (c : am_C) (n : Nat) : (am_psh σ c n).1 σ.2.1 = some c := by simp [am_psh, am_upd]
theorem am_psh_ne (σ : am_H) {b : Nat} (c : am_C) (n : Nat) (h : b ≠ σ.2.1) : (am_psh σ c n).1 b = σ.1 b := by simp [am_psh, am_upd, h]
theorem am_set_set (σ : am_H) (a : Nat) (c c' : am_C) : am_set (am_set σ a c) a c' = am_set σ a c' := by
  unfold am_set
  congr 1
  funext q
  simp only [am_upd]
  by_cases h : q = a <;> simp [h]
theorem am_set_psh (σ : am_H) (c c' : am_C) (n : Nat) : am_set (am_psh σ c n) σ.2.1 c' = am_psh σ c' n := by
  unfold am_set am_psh
  congr 1
  funext q
  simp only [am_upd]
  by_cases h : q = σ.2.1 <;> simp [h]
theorem wf.set {σ : am_H} (h : wf σ) {a : Nat} {c0 c : am_C} (ha : σ.1 a = some c0) : wf (am_set σ a c) := by
  intro b c' hb
  by_cases e : b = a
  · subst e
    exact h _ _ ha
  · rw [am_set_ne σ c e] at hb
    exact h _ _ hb
theorem wf.psh {σ : am_H} (h : wf σ) {c : am_C} {n : Nat} : wf (am_psh σ c n) := by
  intro b c' hb
  show b < σ.2.1 + 1
  by_cases e : b = σ.2.1
  · omega
  · rw [am_psh_ne σ c n e] at hb
    have := h _ _ hb
    omega
theorem sb_i2l : ∀ b, b < 256 → (sb_b b).toInt64 &&& 255 = lN b := by decide +kernel
/-- bytes as a number, the lowest first -/
def sp_le (β : Nat → Nat) (p : Nat) : Nat → Nat
  | 0 => 0
  | w + 1 => sp_le β p w + β (p + w) * 2 ^ (8 * w)
theorem sp_le_lt {β : Nat → Nat} {p : Nat} : ∀ {w : Nat}, (∀ i, i < w → β (p + i) < 256) → sp_le β p w < 2 ^ (8 * w)
  | 0, _ => by simp [sp_le]
  | w + 1, h => by
    have h1 := sp_le_lt (w := w) (fun i hi => h i (by omega))
    have h2 := h w (by omega)
    have e : 2 ^ (8 * (w + 1)) = 256 * 2 ^ (8 * w) := by
      rw [show 8 * (w + 1) = 8 + 8 * w by omega, Nat.pow_add]
    simp only [sp_le]
    rw [e]
    have h3 : β (p + w) * 2 ^ (8 * w) ≤ 255 * 2 ^ (8 * w) := Nat.mul_le_mul_right _ (by omega)
    omega
theorem lN_or_add {a b k : Nat} (ha : a < 2 ^ k) (h : a + b * 2 ^ k < 2 ^ 64) : lN a ||| lN (b * 2 ^ k) = lN (a + b * 2 ^ k) := by
  rw [wb_or (by omega) (by omega)]
  have h1 := Nat.two_pow_add_eq_or_of_lt ha b
  rw [Nat.or_comm, Nat.mul_comm b, ← h1, Nat.add_comm]
section P27
variable {g : Nat × Nat} {d : Nat} {σ : am_H} {Q : Option Value → am_H → Prop}
/-- Reader.has -/
theorem c_has {r t N p w e : Nat} {β : Nat → Nat} (hr : σ.1 r = some (.inr (3, [.ref t, .int (nI p)]))) (hb : byf σ.1 t N β) (hw : w < 2 ^ 31) (hp : p ≤ e) (he : e < 2 ^ 30) (hQ : Q (some (.int (if p + w ≤ e ∧ e ≤ N then 1 else 0))) σ) : AW g d 12 (0, [some (.ref r), some (.int (nI w)), some (.int (nI e))], []) σ Q := by
  obtain ⟨n1, f, ha, hf⟩ := hb
  refine aw_run 3 (F' := (3, [some (.ref r), some (.int (nI w)), some (.int (nI e))], [.ref r, .int (nI e), .int (nI w)])) rfl ?_
  refine aw_get rfl hr rfl ?_
  refine aw_run 1 (F' := (7, [some (.ref r), some (.int (nI w)), some (.int (nI e))], [.int (nI e - nI p), .int (nI w)])) rfl ?_
  rw [pk_sub hp]
  refine aw_cgt rfl (fun q => ?_) (fun q => ?_)
  · have q' := (nI_ltI (by omega) (by omega)).mp q
    refine aw_run 1 (F' := (24, [some (.ref r), some (.int (nI w)), some (.int (nI e))], [.int 0])) rfl ?_
    rw [if_neg (fun z => by omega)] at hQ
    exact aw_iret rfl ⟨_, rfl, rfl⟩ hQ
  · have q' : ¬ e - p < w := fun z => q ((nI_ltI (by omega) (by omega)).mpr z)
    refine aw_run 2 (F' := (12, [some (.ref r), some (.int (nI w)), some (.int (nI e))], [.ref r, .int (nI e)])) rfl ?_
    refine aw_get rfl hr rfl ?_
    refine aw_len rfl ha (by decide) ?_
    refine aw_cgt rfl (fun z => ?_) (fun z => ?_)
    · have z' := (nI_ltI (by omega) (by omega)).mp z
      refine aw_run 1 (F' := (24, [some (.ref r), some (.int (nI w)), some (.int (nI e))], [.int 0])) rfl ?_
      rw [if_neg (fun y => by omega)] at hQ
      exact aw_iret rfl ⟨_, rfl, rfl⟩ hQ
    · have z' : ¬ N < e := fun y => z ((nI_ltI (by omega) (by omega)).mpr y)
      refine aw_run 2 (F' := (24, [some (.ref r), some (.int (nI w)), some (.int (nI e))], [.int 1])) rfl ?_
      rw [if_pos ⟨by omega, by omega⟩] at hQ
      exact aw_iret rfl ⟨_, rfl, rfl⟩ hQ
/-- Reader.skipsZero -/
theorem c_skip {r t N p : Nat} {β : Nat → Nat} (hg : g.1 ≤ r) (hr : σ.1 r = some (.inr (3, [.ref t, .int (nI p)]))) (hb : byf σ.1 t N β) (hp : p < N) (h1 : β p = 0 → Q (some (.int 1)) (am_set σ r (.inr (3, [.ref t, .int (nI (p + 1))])))) (h2 : β p ≠ 0 → Q (some (.int 0)) σ) : AW g d 22 (0, [some (.ref r)], []) σ Q := by
  obtain ⟨n1, f, ha, hf⟩ := hb
  obtain ⟨hbp, hfp⟩ := hf p hp
  have e1 : f (nI p).toNatClampNeg = sb_b (β p) := by rw [nI_clamp (by omega), hfp]
  refine aw_run 1 (F' := (1, [some (.ref r)], [.ref r])) rfl ?_
  refine aw_get rfl hr rfl ?_
  refine aw_run 1 (F' := (5, [some (.ref r)], [.ref r, .int (nI p)])) rfl ?_
  refine aw_get rfl hr rfl ?_
  refine aw_len rfl ha (by decide) ?_
  refine aw_cge rfl (fun q => absurd ((nI_leI (by omega) (by omega)).mp q) (by omega)) (fun _ => ?_)
  refine aw_run 1 (F' := (13, [some (.ref r)], [.ref r])) rfl ?_
  refine aw_get rfl hr rfl ?_
  refine aw_run 1 (F' := (17, [some (.ref r)], [.ref r, .ref t])) rfl ?_
  refine aw_get rfl hr rfl ?_
  refine aw_bald rfl ha (vp_in_nI hp (by omega)) ?_
  rw [e1]
  refine aw_zeq rfl (fun q => ?_) (fun q => ?_)
  · have q' : β p = 0 := sb_inj _ hbp 0 (by omega) q
    refine aw_run 2 (F' := (28, [some (.ref r)], [.ref r, .ref r])) rfl ?_
    refine aw_get rfl hr rfl ?_
    refine aw_run 2 (F' := (33, [some (.ref r)], [.int (nI p + 1), .ref r])) rfl ?_
    rw [nI_1]
    refine aw_put rfl hg hr (Nat.le_of_ble_eq_true rfl) rfl rfl ?_
    refine aw_run 1 (F' := (37, [some (.ref r)], [.int 1])) rfl ?_
    exact aw_iret rfl ⟨_, rfl, rfl⟩ (h1 q')
  · refine aw_run 1 (F' := (25, [some (.ref r)], [.int 0])) rfl ?_
    exact aw_iret rfl ⟨_, rfl, rfl⟩ (h2 (fun z => q (by rw [z]; rfl)))
/-- Reader.readNumber: its loop -/
theorem c_numL {r t N p w : Nat} {β : Nat → Nat} (hg : g.1 ≤ r) (hrt : r ≠ t) (hb : byf σ.1 t N β) (hw : w ≤ 8) (hp : p + w ≤ N) (hQ : Q (some (.long (lN (sp_le β p w)))) (am_set σ r (.inr (3, [.ref t, .int (nI (p + w))])))) : ∀ (n i : Nat), i + n = w → AW g d 13 (5, [some (.ref r), some (.int (nI w)), some (.long (lN (sp_le β p i))), none, some (.int (nI i))], []) (am_set σ r (.inr (3, [.ref t, .int (nI (p + i))]))) Q := by
  obtain ⟨n1, f, ha, hf⟩ := hb
  intro n
  induction n with
  | zero =>
    intro i hi
    have e : i = w := by omega
    subst e
    refine aw_run 2 (F' := (8, [some (.ref r), some (.int (nI i)), some (.long (lN (sp_le β p i))), none, some (.int (nI i))], [.int (nI i), .int (nI i)])) rfl ?_
    refine aw_cge rfl (fun _ => ?_) (fun q => absurd (Int32.le_refl _) q)
    refine aw_run 1 (F' := (63, [some (.ref r), some (.int (nI i)), some (.long (lN (sp_le β p i))), none, some (.int (nI i))], [.long (lN (sp_le β p i))])) rfl ?_
    exact aw_lret rfl rfl hQ
  | succ n ih =>
    intro i hi
    have hr := am_set_same σ r (.inr (3, [.ref t, .int (nI (p + i))]))
    have ha' : (am_set σ r (.inr (3, [.ref t, .int (nI (p + i))]))).1 t = some (.inl (1, N, .inl f)) := by rw [am_set_ne _ _ (Ne.symm hrt)]; exact ha
    obtain ⟨hbp, hfp⟩ := hf (p + i) (by omega)
    have e1 : f (nI (p + i)).toNatClampNeg = sb_b (β (p + i)) := by rw [nI_clamp (by omega), hfp]
    refine aw_run 2 (F' := (8, [some (.ref r), some (.int (nI w)), some (.long (lN (sp_le β p i))), none, some (.int (nI i))], [.int (nI w), .int (nI i)])) rfl ?_
    refine aw_cge rfl (fun q => absurd ((nI_leI (by omega) (by omega)).mp q) (by omega)) (fun _ => ?_)
    refine aw_run 1 (F' := (12, [some (.ref r), some (.int (nI w)), some (.long (lN (sp_le β p i))), none, some (.int (nI i))], [.ref r])) rfl ?_
    refine aw_get rfl hr rfl ?_
    refine aw_run 1 (F' := (16, [some (.ref r), some (.int (nI w)), some (.long (lN (sp_le β p i))), none, some (.int (nI i))], [.ref r, .int (nI (p + i))])) rfl ?_
    refine aw_get rfl hr rfl ?_
    refine aw_len rfl ha' (by decide) ?_
    refine aw_cge rfl (fun q => absurd ((nI_leI (by omega) (by omega)).mp q) (by omega)) (fun _ => ?_)
    refine aw_run 2 (F' := (25, [some (.ref r), some (.int (nI w)), some (.long (lN (sp_le β p i))), none, some (.int (nI i))], [.ref r, .long (lN (sp_le β p i))])) rfl ?_
    refine aw_get rfl hr rfl ?_
    refine aw_run 1 (F' := (29, [some (.ref r), some (.int (nI w)), some (.long (lN (sp_le β p i))), none, some (.int (nI i))], [.ref r, .ref t, .long (lN (sp_le β p i))])) rfl ?_
    refine aw_get rfl hr rfl ?_
    refine aw_bald rfl ha' (vp_in_nI (by omega) (by omega)) ?_
    refine aw_run 10 (F' := (47, [some (.ref r), some (.int (nI w)), some (.long (lN (sp_le β p i) ||| (((f (nI (p + i)).toNatClampNeg).toInt64 &&& 255) <<< (((8 : Int32) * nI i).toInt64 &&& 63)))), none, some (.int (nI i))], [.ref r])) rfl ?_
    have hlt := sp_le_lt (β := β) (p := p) (w := i) (fun j hj => (hf (p + j) (by omega)).1)
    have hlt2 := sp_le_lt (β := β) (p := p) (w := i + 1) (fun j hj => (hf (p + j) (by omega)).1)
    have hpw : 2 ^ (8 * (i + 1)) ≤ 2 ^ 64 := Nat.pow_le_pow_right (by decide) (by omega)
    have e2 : lN (sp_le β p i) ||| (((f (nI (p + i)).toNatClampNeg).toInt64 &&& 255) <<< (((8 : Int32) * nI i).toInt64 &&& 63)) = lN (sp_le β p (i + 1)) := by
      rw [e1, sb_i2l _ hbp, show (8 : Int32) * nI i = nI (8 * i) from pk_mul 8 i, wb_shl _ (show 8 * i < 64 by omega)]
      simp only [sp_le] at hlt2 ⊢
      exact lN_or_add hlt (by omega)
    rw [e2]
    refine aw_run 1 (F' := (48, [some (.ref r), some (.int (nI w)), some (.long (lN (sp_le β p (i + 1)))), none, some (.int (nI i))], [.ref r, .ref r])) rfl ?_
    refine aw_get rfl hr rfl ?_
    refine aw_run 2 (F' := (53, [some (.ref r), some (.int (nI w)), some (.long (lN (sp_le β p (i + 1)))), none, some (.int (nI i))], [.int (nI (p + i) + 1), .ref r])) rfl ?_
    rw [nI_1]
    refine aw_put rfl hg hr (Nat.le_of_ble_eq_true rfl) rfl rfl ?_
    rw [am_set_set]
    refine aw_run 2 (F' := (5, [some (.ref r), some (.int (nI w)), some (.long (lN (sp_le β p (i + 1)))), none, some (.int (nI i + 1))], [])) rfl ?_
    rw [nI_1]
    exact ih (i + 1) (by omega)
/-- Reader.readNumber -/
theorem c_num {r t N p w : Nat} {β : Nat → Nat} (hg : g.1 ≤ r) (hr : σ.1 r = some (.inr (3, [.ref t, .int (nI p)]))) (hb : byf σ.1 t N β) (hw : w ≤ 8) (hp : p + w ≤ N) (hQ : Q (some (.long (lN (sp_le β p w)))) (am_set σ r (.inr (3, [.ref t, .int (nI (p + w))])))) : AW g d 13 (0, [some (.ref r), some (.int (nI w)), none, none, none], []) σ Q := by
  have hrt : r ≠ t := by
    intro q
    subst q
    obtain ⟨n1, f, ha, hf⟩ := hb
    rw [hr] at ha
    cases ha
  have hsame : am_set σ r (.inr (3, [.ref t, .int (nI (p + 0))])) = σ := by
    unfold am_set
    have : am_upd σ.1 r (.inr (3, [.ref t, .int (nI (p + 0))])) = σ.1 := by
      funext q
      simp only [am_upd]
      by_cases h : q = r
      · rw [if_pos h, h, hr]
        rfl
      · rw [if_neg h]
    rw [this]
  refine aw_run 4 (F' := (5, [some (.ref r), some (.int (nI w)), some (.long (lN (sp_le β p 0))), none, some (.int (nI 0))], [])) rfl ?_
  have key := c_numL (d := d) hg hrt hb hw hp hQ w 0 (by omega)
  rw [hsame] at key
  exact key
end P27
