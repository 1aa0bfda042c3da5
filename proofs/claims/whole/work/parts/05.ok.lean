def am_isA (w : Jvm.Cond) : Bool := match w with
  | .arrayClass _ => true
  | _ => false
/-- a word that holds at every state of the run -/
def am_w (w : Jvm.Cond) : Bool := decide (w ∈ lw_tbl) && ((w.onTables && w.keeps) || am_isA w)
def am_okf (y i ci k : Nat) : Bool := decide (k < am_nf ci) && (am_w (.fieldLink (am_ow y) i (am_T ci k).1 (am_T ci k).2.1 (am_T ci k).2.2.1) || decide (Jvm.Cond.fieldLinkNest (am_ow y) i (am_T ci k).1 (am_T ci k).2.1 (am_T ci k).2.2.1 am_host ∈ am_nst))
/-- a call: of which kind, of which method -/
def am_okc (y i k y' : Nat) : Bool := am_w (.code (am_yn y') (am_by y') (am_ml y') (am_re y')) && (am_w (.initialized (am_yn y').cls) && ((am_w (.methodLink (am_ow y) i (am_yn y')) || decide (Jvm.Cond.methodLinkNest (am_ow y) i (am_yn y') am_host ∈ am_nst)) && (decide ((am_yn y').cls ≠ "java/lang/invoke/MethodHandle" ∧ (am_yn y').cls ≠ "java/lang/invoke/VarHandle") && (decide ((parseMethodDescriptor (am_yn y').desc).map (fun d => d.parameters.length) = some (if k = 0 then am_ar y' else am_ar y' - 1)) && (plainName (am_yn y').cls && (decide (am_ml y' ≤ 41 ∧ (k = 0 ∨ 0 < am_ar y')) &&
  (if k = 0 then am_w (.static (am_yn y')) else if k = 1 then decide ((am_yn y').name = "<init>" ∧ am_re y' = none) && am_w (.instanceMethod (am_yn y')) else decide (am_cn (am_ko y') = (am_yn y').cls ∧ am_ko y' < am_nc) && (am_w (.instanceMethod (am_yn y')) && am_w (.selects (am_yn y').cls (am_yn y') (am_yn y'))))))))))
/-- what a row of the code must be -/
def am_ok (y pc : Nat) (r : am_R) : Bool := match r.1 with
  | .iconst k => r.2.1 == 1 && decide (r.2.2.1 = .int (Int32.ofInt k))
  | .bipush k => r.2.1 == 2 && decide (r.2.2.1 = .int (Int8.ofInt k).toInt32)
  | .sipush k => r.2.1 == 3 && decide (r.2.2.1 = .int (Int16.ofInt k).toInt32)
  | .lconst k => r.2.1 == 1 && decide (r.2.2.1 = .long (Int64.ofNat (k : Nat)))
  | .ldc i => r.2.1 == 2 && (match r.2.2.1 with
    | .int v => am_w (.constant (am_ow y) i v)
    | _ => false)
  | .ldc2_w i => r.2.1 == 3 && (match r.2.2.1 with
    | .long v => am_w (.constantLong (am_ow y) i v)
    | _ => false)
  | .iload _ => r.2.1 == 2
  | .lload _ => r.2.1 == 2
  | .aload _ => r.2.1 == 2
  | .istore _ => r.2.1 == 2
  | .lstore _ => r.2.1 == 2
  | .astore _ => r.2.1 == 2
  | .iinc _ k => r.2.1 == 3 && decide (r.2.2.1 = .int (Int32.ofInt k))
  | .goto o => r.2.1 == 3 && decide ((pc : Int) + o = (r.2.2.2.1 : Int))
  | .ifCond _ o => r.2.1 == 3 && decide ((pc : Int) + o = (r.2.2.2.1 : Int))
  | .if_icmp _ o => r.2.1 == 3 && decide ((pc : Int) + o = (r.2.2.2.1 : Int))
  | .ifnull o => r.2.1 == 3 && decide ((pc : Int) + o = (r.2.2.2.1 : Int))
  | .ifnonnull o => r.2.1 == 3 && decide ((pc : Int) + o = (r.2.2.2.1 : Int))
  | .tableswitch _ _ _ _ => true
  | .lookupswitch _ _ => true
  | .getfield i => r.2.1 == 3 && (am_okf y i r.2.2.2.1 r.2.2.2.2 && decide (r.2.2.2.1 < am_nc))
  | .putfield i => r.2.1 == 3 && ((am_okf y i r.2.2.2.1 r.2.2.2.2 && decide (r.2.2.2.1 < am_nc)) && (!(am_T r.2.2.2.1 r.2.2.2.2).2.2.2 || (am_w (.fieldLink (am_ow y) i (am_T r.2.2.2.1 r.2.2.2.2).1 (am_T r.2.2.2.1 r.2.2.2.2).2.1 (am_T r.2.2.2.1 r.2.2.2.2).2.2.1) && decide ((am_yn y).name = "<init>") && decide ((am_T r.2.2.2.1 r.2.2.2.2).1 = am_ow y))))
  | .getstatic i => r.2.1 == 3 && (am_w (.fieldLink (am_ow y) i am_stC am_stN am_stD) || decide (Jvm.Cond.fieldLinkNest (am_ow y) i am_stC am_stN am_stD am_host ∈ am_nst))
  | .new i => r.2.1 == 3 && (am_w (.classLink (am_ow y) i (am_cn r.2.2.2.1)) && decide (r.2.2.2.1 < am_nc))
  | .newarray t => r.2.1 == 2 && (((decide (am_tyl[r.2.2.2.1]? = some (newarray.typeOf t)) && am_w (.arrayClass (newarray.typeOf t))) && decide (defaultValue (newarray.typeOf t) = .int 0)) && decide (componentBytes (newarray.typeOf t) ≤ 8))
  | .anewarray i => r.2.1 == 3 && (match am_tyl[r.2.2.2.1]? with
    | some (.object C) => am_w (.classLink (am_ow y) i C) && decide (C ∈ am_aos)
    | _ => false)
  | .invokestatic i => r.2.1 == 3 && (if r.2.2.2.2 = 7 then am_w (.methodLink (am_ow y) i arraycopyName) else if r.2.2.2.2 = 8 then am_w (.methodLink (am_ow y) i Lib.Math.min.name) else am_okc y i 0 r.2.2.2.1)
  | .invokespecial i => r.2.1 == 3 && (if r.2.2.2.2 = 9 then am_w (.methodLink (am_ow y) i objectInit) else am_okc y i 1 r.2.2.2.1)
  | .invokevirtual i => r.2.1 == 3 && (if r.2.2.2.2 = 6 then am_w (.methodLink (am_ow y) i ⟨"[B", "clone", "()Ljava/lang/Object;"⟩) else am_okc y i 2 r.2.2.2.1)
  | .checkcast i => r.2.1 == 3 && am_w (.classLink (am_ow y) i "[B")
  | _ => r.2.1 == 1
