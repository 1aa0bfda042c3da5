/-! the small machine: a run of a method over a heap of plain cells -/
abbrev am_C : Type := (Nat × vp_A) ⊕ (Nat × List Value)
abbrev am_H : Type := (Nat → Option am_C) × Nat × Nat
abbrev am_L : Type := List (Option Value)
abbrev am_F : Type := Nat × am_L × List Value
def am_ld (L : am_L) (i : Nat) : Option Value := match L[i]? with
  | some (some v) => some v
  | _ => none
def am_clr (L : am_L) (i : Nat) : am_L := match i with
  | 0 => L
  | j + 1 => match am_ld L j with
    | some w => if w.category = 2 then L.set j none else L
    | none => L
def am_s1 (L : am_L) (i : Nat) (v : Value) : am_L := (am_clr L i).set i (some v)
def am_s2 (L : am_L) (i : Nat) (v : Value) : am_L := ((am_clr L i).set i (some v)).set (i + 1) none
def am_i1 (F : am_F) (f : Int32 → Value) : Option am_F := match F.2.2 with
  | .int x :: st => some (F.1 + 1, F.2.1, f x :: st)
  | _ => none
def am_i2 (F : am_F) (f : Int32 → Int32 → Value) : Option am_F := match F.2.2 with
  | .int y :: .int x :: st => some (F.1 + 1, F.2.1, f x y :: st)
  | _ => none
def am_l1 (F : am_F) (f : Int64 → Value) : Option am_F := match F.2.2 with
  | .long x :: st => some (F.1 + 1, F.2.1, f x :: st)
  | _ => none
def am_l2 (F : am_F) (f : Int64 → Int64 → Value) : Option am_F := match F.2.2 with
  | .long y :: .long x :: st => some (F.1 + 1, F.2.1, f x y :: st)
  | _ => none
def am_li (F : am_F) (f : Int64 → Int32 → Value) : Option am_F := match F.2.2 with
  | .int y :: .long x :: st => some (F.1 + 1, F.2.1, f x y :: st)
  | _ => none
def am_ldi (F : am_F) (i n : Nat) : Option am_F := match am_ld F.2.1 i with
  | some (.int x) => some (F.1 + n, F.2.1, .int x :: F.2.2)
  | _ => none
def am_ldl (F : am_F) (i n : Nat) : Option am_F := match am_ld F.2.1 i with
  | some (.long x) => some (F.1 + n, F.2.1, .long x :: F.2.2)
  | _ => none
def am_lda (F : am_F) (i n : Nat) : Option am_F := match am_ld F.2.1 i with
  | some (.ref x) => some (F.1 + n, F.2.1, .ref x :: F.2.2)
  | some .null => some (F.1 + n, F.2.1, .null :: F.2.2)
  | _ => none
def am_sti (F : am_F) (i n : Nat) : Option am_F := match F.2.2 with
  | .int x :: st => if i < F.2.1.length then some (F.1 + n, am_s1 F.2.1 i (.int x), st) else none
  | _ => none
def am_stl (F : am_F) (i n : Nat) : Option am_F := match F.2.2 with
  | .long x :: st => if i + 1 < F.2.1.length then some (F.1 + n, am_s2 F.2.1 i (.long x), st) else none
  | _ => none
def am_sta (F : am_F) (i n : Nat) : Option am_F := match F.2.2 with
  | .ref x :: st => if i < F.2.1.length then some (F.1 + n, am_s1 F.2.1 i (.ref x), st) else none
  | .null :: st => if i < F.2.1.length then some (F.1 + n, am_s1 F.2.1 i .null, st) else none
  | _ => none
/-- a step that touches no cell and takes no branch -/
def am_pl (r : am_R) (F : am_F) : Option am_F := match r.1 with
  | .iconst _ => some (F.1 + 1, F.2.1, r.2.2.1 :: F.2.2)
  | .bipush _ => some (F.1 + 2, F.2.1, r.2.2.1 :: F.2.2)
  | .sipush _ => some (F.1 + 3, F.2.1, r.2.2.1 :: F.2.2)
  | .lconst _ => some (F.1 + 1, F.2.1, r.2.2.1 :: F.2.2)
  | .ldc _ => some (F.1 + 2, F.2.1, r.2.2.1 :: F.2.2)
  | .ldc2_w _ => some (F.1 + 3, F.2.1, r.2.2.1 :: F.2.2)
  | .aconst_null => some (F.1 + 1, F.2.1, .null :: F.2.2)
  | .iload i => am_ldi F i 2
  | .iload_n k => am_ldi F k.val 1
  | .lload i => am_ldl F i 2
  | .lload_n k => am_ldl F k.val 1
  | .aload i => am_lda F i 2
  | .aload_n k => am_lda F k.val 1
  | .istore i => am_sti F i 2
  | .istore_n k => am_sti F k.val 1
  | .lstore i => am_stl F i 2
  | .lstore_n k => am_stl F k.val 1
  | .astore i => am_sta F i 2
  | .astore_n k => am_sta F k.val 1
  | .iinc i _ => match am_ld F.2.1 i, r.2.2.1 with
    | some (.int x), .int c => if i < F.2.1.length then some (F.1 + 3, am_s1 F.2.1 i (.int (x + c)), F.2.2) else none
    | _, _ => none
  | .iadd => am_i2 F (fun x y => .int (x + y))
  | .isub => am_i2 F (fun x y => .int (x - y))
  | .imul => am_i2 F (fun x y => .int (x * y))
  | .iand => am_i2 F (fun x y => .int (x &&& y))
  | .ior => am_i2 F (fun x y => .int (x ||| y))
  | .ishl => am_i2 F (fun x y => .int (x <<< (y &&& 31)))
  | .ishr => am_i2 F (fun x y => .int (x >>> (y &&& 31)))
  | .ladd => am_l2 F (fun x y => .long (x + y))
  | .lmul => am_l2 F (fun x y => .long (x * y))
  | .land => am_l2 F (fun x y => .long (x &&& y))
  | .lor => am_l2 F (fun x y => .long (x ||| y))
  | .lcmp => am_l2 F (fun x y => .int (lg_cmp x y))
  | .lshl => am_li F (fun x y => .long (x <<< (y.toInt64 &&& 63)))
  | .i2l => am_i1 F (fun x => .long x.toInt64)
  | .l2i => am_l1 F (fun x => .int x.toInt32)
  | .i2b => am_i1 F (fun x => .int x.toInt8.toInt32)
  | .dup => match F.2.2 with
    | v :: st => if v.category = 1 then some (F.1 + 1, F.2.1, v :: v :: st) else none
    | _ => none
  | .dup_x1 => match F.2.2 with
    | v :: w :: st => if v.category = 1 ∧ w.category = 1 then some (F.1 + 1, F.2.1, v :: w :: v :: st) else none
    | _ => none
  | .dup2 => match F.2.2 with
    | v :: w :: st => if v.category = 1 ∧ w.category = 1 then some (F.1 + 1, F.2.1, v :: w :: v :: w :: st) else none
    | _ => none
  | .pop => match F.2.2 with
    | v :: st => if v.category = 1 then some (F.1 + 1, F.2.1, st) else none
    | _ => none
  | .goto _ => some (r.2.2.2.1, F.2.1, F.2.2)
  | _ => none
def am_upd (h : Nat → Option am_C) (a : Nat) (c : am_C) : Nat → Option am_C := fun q => if q = a then some c else h q
def am_set (σ : am_H) (a : Nat) (c : am_C) : am_H := (am_upd σ.1 a c, σ.2.1, σ.2.2)
def am_psh (σ : am_H) (c : am_C) (n : Nat) : am_H := (am_upd σ.1 σ.2.1 c, σ.2.1 + 1, σ.2.2 + n)
def am_cmp (c : Jvm.ClassFile.Cond) (x y : Int32) : Prop := match c with
  | .eq => x = y
  | .ne => ¬ x = y
  | .lt => x < y
  | .ge => y ≤ x
  | .gt => y < x
  | .le => x ≤ y
/-- where a table of offsets leads -/
def am_tsw (pc : Nat) (d lo hi : Int) (offs : Array Int) (x : Int32) (t : Nat) : Prop :=
  ((x.toInt < lo ∨ hi < x.toInt) ∧ (pc : Int) + d = (t : Int)) ∨ (¬ x.toInt < lo ∧ ¬ hi < x.toInt ∧ ∃ o, offs[(x.toInt - lo).toNat]? = some o ∧ (pc : Int) + o = (t : Int))
def am_lsw (pc : Nat) (d : Int) (ps : Array (Int × Int)) (x : Int32) (t : Nat) : Prop :=
  (ps.toList.zip (ps.toList.drop 1)).all (fun (a, next) => a.1 < next.1) = true ∧ (pc : Int) + Op.lookupswitch.offset ps.toList d x.toInt = (t : Int)
/-- branches -/
def am_br (r : am_R) (F : am_F) (K : am_F → Prop) : Prop := match r.1 with
  | .ifCond c _ => ∃ x st, F.2.2 = .int x :: st ∧ (am_cmp c x 0 → K (r.2.2.2.1, F.2.1, st)) ∧ (¬ am_cmp c x 0 → K (F.1 + 3, F.2.1, st))
  | .if_icmp c _ => ∃ x y st, F.2.2 = .int y :: .int x :: st ∧ (am_cmp c x y → K (r.2.2.2.1, F.2.1, st)) ∧ (¬ am_cmp c x y → K (F.1 + 3, F.2.1, st))
  | .ifnull _ => ∃ v st, F.2.2 = v :: st ∧ ((v = .null ∧ K (r.2.2.2.1, F.2.1, st)) ∨ ((∃ a, v = .ref a) ∧ K (F.1 + 3, F.2.1, st)))
  | .ifnonnull _ => ∃ v st, F.2.2 = v :: st ∧ ((v = .null ∧ K (F.1 + 3, F.2.1, st)) ∨ ((∃ a, v = .ref a) ∧ K (r.2.2.2.1, F.2.1, st)))
  | .tableswitch d lo hi offs => ∃ x st t, F.2.2 = .int x :: st ∧ am_tsw F.1 d lo hi offs x t ∧ K (t, F.2.1, st)
  | .lookupswitch d ps => ∃ x st t, F.2.2 = .int x :: st ∧ am_lsw F.1 d ps x t ∧ K (t, F.2.1, st)
  | _ => False
/-- steps that read or write cells; g.1: the first address that may be written, g.2: the cell of the static row -/
def am_hp (g : Nat × Nat) (r : am_R) (F : am_F) (σ : am_H) (K : am_F → am_H → Prop) : Prop := match r.1 with
  | .getfield _ => ∃ a st fs v, F.2.2 = .ref a :: st ∧ σ.1 a = some (.inr (r.2.2.2.1, fs)) ∧ fs[r.2.2.2.2]? = some v ∧ K (F.1 + 3, F.2.1, v :: st) σ
  | .putfield _ => ∃ a st fs v, F.2.2 = v :: .ref a :: st ∧ g.1 ≤ a ∧ σ.1 a = some (.inr (r.2.2.2.1, fs)) ∧ r.2.2.2.2 < fs.length ∧ narrow (am_ty r.2.2.2.1 r.2.2.2.2) v = v ∧ fits (am_ty r.2.2.2.1 r.2.2.2.2) v = true ∧ K (F.1 + 3, F.2.1, st) (am_set σ a (.inr (r.2.2.2.1, fs.set r.2.2.2.2 v)))
  | .getstatic _ => K (F.1 + 3, F.2.1, .ref g.2 :: F.2.2) σ
  | .new _ => K (F.1 + 3, F.2.1, .ref σ.2.1 :: F.2.2) (am_psh σ (.inr (r.2.2.2.1, am_def r.2.2.2.1)) (am_nf r.2.2.2.1))
  | .newarray _ => ∃ n st, F.2.2 = .int n :: st ∧ ¬ n < 0 ∧ n.toNatClampNeg ≤ 65536 ∧ K (F.1 + 2, F.2.1, .ref σ.2.1 :: st) (am_psh σ (.inl (r.2.2.2.1, n.toNatClampNeg, .inl (fun _ => 0))) n.toNatClampNeg)
  | .anewarray _ => ∃ n st, F.2.2 = .int n :: st ∧ ¬ n < 0 ∧ n.toNatClampNeg ≤ 65536 ∧ K (F.1 + 3, F.2.1, .ref σ.2.1 :: st) (am_psh σ (.inl (r.2.2.2.1, n.toNatClampNeg, .inr (.inr (.inr (.inr (fun _ => none)))))) n.toNatClampNeg)
  | .arraylength => ∃ a st t n x, F.2.2 = .ref a :: st ∧ t < 5 ∧ ((∃ f, x = .inl f) ∨ (∃ f, x = .inr (.inr (.inr (.inr f))))) ∧ σ.1 a = some (.inl (t, n, x)) ∧ K (F.1 + 1, F.2.1, .int (Int32.ofNat n) :: st) σ
  | .iaload => ∃ a i st n f, F.2.2 = .int i :: .ref a :: st ∧ σ.1 a = some (.inl (0, n, .inl f)) ∧ vp_in i n ∧ K (F.1 + 1, F.2.1, .int (f i.toNatClampNeg) :: st) σ
  | .baload => ∃ a i st t n f, F.2.2 = .int i :: .ref a :: st ∧ (t = 1 ∨ t = 2) ∧ σ.1 a = some (.inl (t, n, .inl f)) ∧ vp_in i n ∧ K (F.1 + 1, F.2.1, .int (f i.toNatClampNeg) :: st) σ
  | .aaload => ∃ a i st t n f, F.2.2 = .int i :: .ref a :: st ∧ (t = 3 ∨ t = 4) ∧ σ.1 a = some (.inl (t, n, .inr (.inr (.inr (.inr f))))) ∧ vp_in i n ∧ K (F.1 + 1, F.2.1, va_rf (f i.toNatClampNeg) :: st) σ
  | .iastore => ∃ a i x st n f, F.2.2 = .int x :: .int i :: .ref a :: st ∧ g.1 ≤ a ∧ σ.1 a = some (.inl (0, n, .inl f)) ∧ vp_in i n ∧ K (F.1 + 1, F.2.1, st) (am_set σ a (.inl (0, n, .inl (upd f i.toNatClampNeg x))))
  | .bastore => ∃ a i x st n f, F.2.2 = .int x :: .int i :: .ref a :: st ∧ g.1 ≤ a ∧ vp_in i n ∧
      ((σ.1 a = some (.inl (1, n, .inl f)) ∧ K (F.1 + 1, F.2.1, st) (am_set σ a (.inl (1, n, .inl (upd f i.toNatClampNeg (vp_nar .byte x)))))) ∨
       (σ.1 a = some (.inl (2, n, .inl f)) ∧ K (F.1 + 1, F.2.1, st) (am_set σ a (.inl (2, n, .inl (upd f i.toNatClampNeg (vp_nar .boolean x)))))))
  | .aastore => ∃ a i v st t n f ci fs, F.2.2 = .ref v :: .int i :: .ref a :: st ∧ g.1 ≤ a ∧ σ.1 a = some (.inl (t, n, .inr (.inr (.inr (.inr f))))) ∧ am_el t = some ci ∧ σ.1 v = some (.inr (ci, fs)) ∧ vp_in i n ∧ K (F.1 + 1, F.2.1, st) (am_set σ a (.inl (t, n, .inr (.inr (.inr (.inr (va_up f i.toNatClampNeg (some v))))))))
  | .checkcast _ => ∃ a st n f, F.2.2 = .ref a :: st ∧ g.1 ≤ a ∧ σ.1 a = some (.inl (1, n, .inl f)) ∧ K (F.1 + 3, F.2.1, .ref a :: st) σ
  | .idiv => ∃ x y st, F.2.2 = .int y :: .int x :: st ∧ ¬ y = 0 ∧ K (F.1 + 1, F.2.1, .int (x / y) :: st) σ
  | .irem => ∃ x y st, F.2.2 = .int y :: .int x :: st ∧ ¬ y = 0 ∧ K (F.1 + 1, F.2.1, .int (x - x / y * y) :: st) σ
  | _ => False
/-- how a method's end fits its type -/
def am_rtok (y : Nat) (v : Option Value) : Prop := match v with
  | some (.int x) => ∃ ty, am_re y = some ty ∧ narrow ty (.int x) = .int x
  | some (.long _) => am_re y = some .long
  | some .null => ∃ ty, am_re y = some ty ∧ ((∃ n, ty = .object n) ∨ ∃ t, ty = .array t)
  | some (.ref _) => ∃ ty, am_re y = some ty ∧ ((∃ n, ty = .object n) ∨ ∃ t, ty = .array t)
  | none => am_re y = none
  | _ => False
def am_en (y : Nat) (r : am_R) (F : am_F) (σ : am_H) (Q : Option Value → am_H → Prop) : Prop := match r.1 with
  | .ireturn => ∃ x, F.2.2 = [.int x] ∧ am_rtok y (some (.int x)) ∧ Q (some (.int x)) σ
  | .lreturn => ∃ x, F.2.2 = [.long x] ∧ am_rtok y (some (.long x)) ∧ Q (some (.long x)) σ
  | .areturn => ∃ v, F.2.2 = [v] ∧ (v = .null ∨ ∃ a, v = .ref a) ∧ am_rtok y (some v) ∧ Q (some v) σ
  | .return_ => F.2.2 = [] ∧ am_rtok y none ∧ Q none σ
  | _ => False
def am_ent : List Value → am_L
  | [] => []
  | v :: r => if v.category = 2 then some v :: none :: am_ent r else some v :: am_ent r
def am_pad (L : am_L) (n : Nat) : am_L := L ++ List.replicate (n - L.length) none
abbrev am_T0 : Type := Nat → Nat → am_F → am_H → (Option Value → am_H → Prop) → Prop
def am_cg (P : am_T0) (k d y y' : Nat) (F : am_F) (σ : am_H) (Q : Option Value → am_H → Prop) : Prop :=
  ∃ (d' : Nat) (vs rest : List Value) (Q' : Option Value → am_H → Prop), d = d' + 1 ∧ F.2.2 = vs.reverse ++ rest ∧ vs.length = am_ar y' ∧ (rest.map fun v => v.category).sum ≤ 8 ∧ (am_ent vs).length ≤ am_ml y' ∧ (k = 0 ∨ (k = 1 ∧ ∃ b As, vs = .ref b :: As) ∨ (k = 2 ∧ ∃ b As fs, vs = .ref b :: As ∧ σ.1 b = some (.inr (am_ko y', fs)))) ∧
    P d' y' (0, am_pad (am_ent vs) (am_ml y'), []) σ Q' ∧ ∀ v σ', Q' v σ' → P d y (F.1 + 3, F.2.1, v.toList ++ rest) σ' Q
/-- calls -/
def am_ca (g : Nat × Nat) (P : am_T0) (d y : Nat) (r : am_R) (F : am_F) (σ : am_H) (Q : Option Value → am_H → Prop) : Prop := match r.1 with
  | .invokespecial _ => (r.2.2.2.2 = 9 ∧ ∃ a rest, F.2.2 = .ref a :: rest ∧ (rest.map fun v => v.category).sum ≤ 8 ∧ 1 ≤ d ∧ P d y (F.1 + 3, F.2.1, rest) σ Q) ∨ (¬ r.2.2.2.2 = 9 ∧ am_cg P 1 d y r.2.2.2.1 F σ Q)
  | .invokevirtual _ => (r.2.2.2.2 = 6 ∧ ∃ (a n : Nat) (f : Nat → Int32) (rest : List Value), F.2.2 = .ref a :: rest ∧ (rest.map fun v => v.category).sum ≤ 8 ∧ 1 ≤ d ∧ g.1 ≤ a ∧ σ.1 a = some (.inl (1, n, .inl f)) ∧ (∀ i, i < n → fits .byte (.int (f i)) = true) ∧ P d y (F.1 + 3, F.2.1, .ref σ.2.1 :: rest) (am_psh σ (.inl (1, n, .inl f)) n) Q) ∨ (¬ r.2.2.2.2 = 6 ∧ am_cg P 2 d y r.2.2.2.1 F σ Q)
  | .invokestatic _ => (r.2.2.2.2 = 7 ∧ ∃ (n dp sp : Int32) (a a0 n0 n1 : Nat) (f f1 : Nat → Int32) (rest : List Value), F.2.2 = .int n :: .int dp :: .ref a :: .int sp :: .ref a0 :: rest ∧ (rest.map fun v => v.category).sum ≤ 8 ∧ 1 ≤ d ∧ g.1 ≤ a ∧ g.1 ≤ a0 ∧ σ.1 a0 = some (.inl (1, n0, .inl f)) ∧ σ.1 a = some (.inl (1, n1, .inl f1)) ∧ ¬ sp < 0 ∧ ¬ dp < 0 ∧ ¬ n < 0 ∧ sp.toNatClampNeg + n.toNatClampNeg ≤ n0 ∧ dp.toNatClampNeg + n.toNatClampNeg ≤ n1 ∧ (∀ i, i < n.toNatClampNeg → fits .byte (.int (f (sp.toNatClampNeg + i))) = true) ∧
        P d y (F.1 + 3, F.2.1, rest) (am_set σ a (.inl (1, n1, .inl (va_cpy f f1 sp.toNatClampNeg dp.toNatClampNeg n.toNatClampNeg)))) Q) ∨
      (r.2.2.2.2 = 8 ∧ ∃ x z rest, F.2.2 = .int z :: .int x :: rest ∧ (rest.map fun v => v.category).sum ≤ 8 ∧ 1 ≤ d ∧ P d y (F.1 + 3, F.2.1, .int (if z < x then z else x) :: rest) σ Q) ∨
      (¬ r.2.2.2.2 = 7 ∧ ¬ r.2.2.2.2 = 8 ∧ am_cg P 0 d y r.2.2.2.1 F σ Q)
  | _ => False
/-- one step -/
def am_Ph (g : Nat × Nat) (P : am_T0) (d y : Nat) (F : am_F) (σ : am_H) (Q : Option Value → am_H → Prop) : Prop :=
  ∃ r, am_find (am_code y) F.1 = some r ∧ ((∃ F', am_pl r F = some F' ∧ P d y F' σ Q) ∨ am_br r F (fun F' => P d y F' σ Q) ∨ am_hp g r F σ (fun F' σ' => P d y F' σ' Q) ∨ am_en y r F σ Q ∨ am_ca g P d y r F σ Q)
/-- a run that ends well -/
def AW (g : Nat × Nat) (d y : Nat) (F : am_F) (σ : am_H) (Q : Option Value → am_H → Prop) : Prop :=
  ∀ P : am_T0, (∀ d y F σ Q, am_Ph g P d y F σ Q → P d y F σ Q) → P d y F σ Q
theorem am_br_mono {r : am_R} {F : am_F} {K K' : am_F → Prop} (h : ∀ F, K F → K' F) (hb : am_br r F K) : am_br r F K' := by
  unfold am_br at hb ⊢
  split at hb
  · obtain ⟨x, st, h1, h2, h3⟩ := hb
    exact ⟨x, st, h1, fun q => h _ (h2 q), fun q => h _ (h3 q)⟩
  · obtain ⟨x, z, st, h1, h2, h3⟩ := hb
    exact ⟨x, z, st, h1, fun q => h _ (h2 q), fun q => h _ (h3 q)⟩
  · obtain ⟨v, st, h1, h2⟩ := hb
    exact ⟨v, st, h1, h2.imp (fun q => ⟨q.1, h _ q.2⟩) (fun q => ⟨q.1, h _ q.2⟩)⟩
  · obtain ⟨v, st, h1, h2⟩ := hb
    exact ⟨v, st, h1, h2.imp (fun q => ⟨q.1, h _ q.2⟩) (fun q => ⟨q.1, h _ q.2⟩)⟩
  · obtain ⟨x, st, t, h1, h2, h3⟩ := hb
    exact ⟨x, st, t, h1, h2, h _ h3⟩
  · obtain ⟨x, st, t, h1, h2, h3⟩ := hb
    exact ⟨x, st, t, h1, h2, h _ h3⟩
  · exact hb.elim
theorem am_hp_mono {g : Nat × Nat} {r : am_R} {F : am_F} {σ : am_H} {K K' : am_F → am_H → Prop} (h : ∀ F σ, K F σ → K' F σ) (hb : am_hp g r F σ K) : am_hp g r F σ K' := by
  unfold am_hp at hb ⊢
  split at hb
  · obtain ⟨a, st, fs, v, h1, h2, h3, h4⟩ := hb
    exact ⟨a, st, fs, v, h1, h2, h3, h _ _ h4⟩
  · obtain ⟨a, st, fs, v, h1, h2, h3, h4, h5, h6, h7⟩ := hb
    exact ⟨a, st, fs, v, h1, h2, h3, h4, h5, h6, h _ _ h7⟩
  · exact h _ _ hb
  · exact h _ _ hb
  · obtain ⟨n, st, h1, h2, h3, h4⟩ := hb
    exact ⟨n, st, h1, h2, h3, h _ _ h4⟩
  · obtain ⟨n, st, h1, h2, h3, h4⟩ := hb
    exact ⟨n, st, h1, h2, h3, h _ _ h4⟩
  · obtain ⟨a, st, t, n, x, h0, h1, h2, h3, h4⟩ := hb
    exact ⟨a, st, t, n, x, h0, h1, h2, h3, h _ _ h4⟩
  · obtain ⟨a, i, st, n, f, h1, h2, h3, h4⟩ := hb
    exact ⟨a, i, st, n, f, h1, h2, h3, h _ _ h4⟩
  · obtain ⟨a, i, st, t, n, f, h1, h2, h3, h4, h5⟩ := hb
    exact ⟨a, i, st, t, n, f, h1, h2, h3, h4, h _ _ h5⟩
  · obtain ⟨a, i, st, t, n, f, h1, h2, h3, h4, h5⟩ := hb
    exact ⟨a, i, st, t, n, f, h1, h2, h3, h4, h _ _ h5⟩
  · obtain ⟨a, i, x, st, n, f, h1, h2, h3, h4, h5⟩ := hb
    exact ⟨a, i, x, st, n, f, h1, h2, h3, h4, h _ _ h5⟩
  · obtain ⟨a, i, x, st, n, f, h1, h2, h3, h4⟩ := hb
    exact ⟨a, i, x, st, n, f, h1, h2, h3, h4.imp (fun q => ⟨q.1, h _ _ q.2⟩) (fun q => ⟨q.1, h _ _ q.2⟩)⟩
  · obtain ⟨a, i, v, st, t, n, f, ci, fs, h1, h2, h3, h4, h5, h6, h7⟩ := hb
    exact ⟨a, i, v, st, t, n, f, ci, fs, h1, h2, h3, h4, h5, h6, h _ _ h7⟩
  · obtain ⟨a, st, n, f, h1, h2, h3, h4⟩ := hb
    exact ⟨a, st, n, f, h1, h2, h3, h _ _ h4⟩
  · obtain ⟨x, z, st, h1, h2, h3⟩ := hb
    exact ⟨x, z, st, h1, h2, h _ _ h3⟩
  · obtain ⟨x, z, st, h1, h2, h3⟩ := hb
    exact ⟨x, z, st, h1, h2, h _ _ h3⟩
  · exact hb.elim
theorem am_cg_mono {P P' : am_T0} (h : ∀ d y F σ Q, P d y F σ Q → P' d y F σ Q) {k d y y' : Nat} {F : am_F} {σ : am_H} {Q : Option Value → am_H → Prop} (hb : am_cg P k d y y' F σ Q) : am_cg P' k d y y' F σ Q := by
  obtain ⟨d', vs, rest, Q', h1, h2, h3, h4, h5, h6, h7, h8⟩ := hb
  exact ⟨d', vs, rest, Q', h1, h2, h3, h4, h5, h6, h _ _ _ _ _ h7, fun v σ' q => h _ _ _ _ _ (h8 v σ' q)⟩
theorem am_ca_mono {g : Nat × Nat} {P P' : am_T0} (h : ∀ d y F σ Q, P d y F σ Q → P' d y F σ Q) {d y : Nat} {r : am_R} {F : am_F} {σ : am_H} {Q : Option Value → am_H → Prop} (hb : am_ca g P d y r F σ Q) : am_ca g P' d y r F σ Q := by
  unfold am_ca at hb ⊢
  split at hb
  · rcases hb with ⟨h0, a, rest, h1, h2, h3, h4⟩ | ⟨h0, h1⟩
    · exact Or.inl ⟨h0, a, rest, h1, h2, h3, h _ _ _ _ _ h4⟩
    · exact Or.inr ⟨h0, am_cg_mono h h1⟩
  · rcases hb with ⟨h0, a, n, f, rest, h1, h2, h3, h4, h5, h6, h7⟩ | ⟨h0, h1⟩
    · exact Or.inl ⟨h0, a, n, f, rest, h1, h2, h3, h4, h5, h6, h _ _ _ _ _ h7⟩
    · exact Or.inr ⟨h0, am_cg_mono h h1⟩
  · rcases hb with ⟨h0, n, dp, sp, a, a0, n0, n1, f, f1, rest, h1, h2, h3, h4, h5, h6, h7, h8, h9, ha, hb, hc, hd, he⟩ | ⟨h0, x, z, rest, h1, h2, h3, h4⟩ | ⟨h0, h1, h2⟩
    · exact Or.inl ⟨h0, n, dp, sp, a, a0, n0, n1, f, f1, rest, h1, h2, h3, h4, h5, h6, h7, h8, h9, ha, hb, hc, hd, h _ _ _ _ _ he⟩
    · exact Or.inr (Or.inl ⟨h0, x, z, rest, h1, h2, h3, h _ _ _ _ _ h4⟩)
    · exact Or.inr (Or.inr ⟨h0, h1, am_cg_mono h h2⟩)
  · exact hb.elim
theorem am_Ph_mono {g : Nat × Nat} {P P' : am_T0} (h : ∀ d y F σ Q, P d y F σ Q → P' d y F σ Q) {d y : Nat} {F : am_F} {σ : am_H} {Q : Option Value → am_H → Prop} (hb : am_Ph g P d y F σ Q) : am_Ph g P' d y F σ Q := by
  obtain ⟨r, hr, h1⟩ := hb
  refine ⟨r, hr, ?_⟩
  rcases h1 with ⟨F', h1, h2⟩ | h1 | h1 | h1 | h1
  · exact Or.inl ⟨F', h1, h _ _ _ _ _ h2⟩
  · exact Or.inr (Or.inl (am_br_mono (fun F' q => h _ _ _ _ _ q) h1))
  · exact Or.inr (Or.inr (Or.inl (am_hp_mono (fun F' σ' q => h _ _ _ _ _ q) h1)))
  · exact Or.inr (Or.inr (Or.inr (Or.inl h1)))
  · exact Or.inr (Or.inr (Or.inr (Or.inr (am_ca_mono h h1))))
theorem AW.mk {g : Nat × Nat} {d y : Nat} {F : am_F} {σ : am_H} {Q : Option Value → am_H → Prop} (h : am_Ph g (AW g) d y F σ Q) : AW g d y F σ Q := fun P hP => hP _ _ _ _ _ (am_Ph_mono (fun _ _ _ _ _ q => q P hP) h)
theorem AW.ind {g : Nat × Nat} (P : am_T0) (hP : ∀ d y F σ Q, am_Ph g P d y F σ Q → P d y F σ Q) {d y : Nat} {F : am_F} {σ : am_H} {Q : Option Value → am_H → Prop} (h : AW g d y F σ Q) : P d y F σ Q := h P hP
