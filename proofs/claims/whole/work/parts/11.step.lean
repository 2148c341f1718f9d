/-! the steps that a function takes -/
def am_len : Instr → Nat
  | .aload _ | .astore _ | .iload _ | .istore _ | .lload _ | .lstore _ | .bipush _ | .ldc _ | .newarray _ => 2
  | .getfield _ | .putfield _ | .getstatic _ | .sipush _ | .iinc _ _ | .goto _ | .ifCond _ _ | .if_icmp _ _ | .if_acmp _ _ | .ifnull _ | .ifnonnull _ | .invokevirtual _ | .invokestatic _ | .invokespecial _ | .new _ | .ldc2_w _ | .checkcast _ | .instanceof _ | .anewarray _ | .ldc_w _ => 3
  | _ => 1
def am_c1 {α : Type} (a : Value) (x : α) : Option α := cond (Nat.beq a.category 1) (some x) none
def am_c2 {α : Type} (a : Value) (x : α) : Option α := cond (Nat.beq a.category 2) (some x) none
theorem am_c1_some {α : Type} {a : Value} {x y : α} (h : am_c1 a x = some y) : a.category = 1 ∧ x = y := by
  unfold am_c1 at h
  cases hb : Nat.beq a.category 1 with
  | false => rw [hb] at h; cases h
  | true => rw [hb] at h; exact ⟨Nat.eq_of_beq_eq_true hb, Option.some.inj h⟩
theorem am_c2_some {α : Type} {a : Value} {x y : α} (h : am_c2 a x = some y) : a.category = 2 ∧ x = y := by
  unfold am_c2 at h
  cases hb : Nat.beq a.category 2 with
  | false => rw [hb] at h; cases h
  | true => rw [hb] at h; exact ⟨Nat.eq_of_beq_eq_true hb, Option.some.inj h⟩
/-- arithmetic on the stack -/
def am_stk : Instr → List Value → Option (List Value)
  | .iadd, .int y :: .int x :: t => some (.int (x + y) :: t)
  | .isub, .int y :: .int x :: t => some (.int (x - y) :: t)
  | .imul, .int y :: .int x :: t => some (.int (x * y) :: t)
  | .iand, .int y :: .int x :: t => some (.int (x &&& y) :: t)
  | .ior, .int y :: .int x :: t => some (.int (x ||| y) :: t)
  | .ixor, .int y :: .int x :: t => some (.int (x ^^^ y) :: t)
  | .ineg, .int x :: t => some (.int (-x) :: t)
  | .ladd, .long y :: .long x :: t => some (.long (x + y) :: t)
  | .lsub, .long y :: .long x :: t => some (.long (x - y) :: t)
  | .lmul, .long y :: .long x :: t => some (.long (x * y) :: t)
  | .land, .long y :: .long x :: t => some (.long (x &&& y) :: t)
  | .lor, .long y :: .long x :: t => some (.long (x ||| y) :: t)
  | .lxor, .long y :: .long x :: t => some (.long (x ^^^ y) :: t)
  | .lneg, .long x :: t => some (.long (-x) :: t)
  | .ishl, .int y :: .int x :: t => some (.int (x <<< (y &&& 31)) :: t)
  | .ishr, .int y :: .int x :: t => some (.int (x >>> (y &&& 31)) :: t)
  | .iushr, .int y :: .int x :: t => some (.int (x.toUInt32 >>> (y.toUInt32 &&& Int32.toUInt32 31)).toInt32 :: t)
  | .lshl, .int y :: .long x :: t => some (.long (x <<< (y.toInt64 &&& 63)) :: t)
  | .lshr, .int y :: .long x :: t => some (.long (x >>> (y.toInt64 &&& 63)) :: t)
  | .lushr, .int y :: .long x :: t => some (.long (x.toUInt64 >>> (y.toInt64.toUInt64 &&& Int64.toUInt64 63)).toInt64 :: t)
  | .i2l, .int x :: t => some (.long x.toInt64 :: t)
  | .l2i, .long x :: t => some (.int x.toInt32 :: t)
  | .i2b, .int x :: t => some (.int x.toInt8.toInt32 :: t)
  | .i2s, .int x :: t => some (.int x.toInt16.toInt32 :: t)
  | .i2c, .int x :: t => some (.int (x.toUInt32 % 65536).toInt32 :: t)
  | .lcmp, .long y :: .long x :: t => some (.int (lg_cmp x y) :: t)
  | _, _ => none
/-- copies on the stack -/
def am_dup : Instr → List Value → Option (List Value)
  | .dup, a :: t => am_c1 a (a :: a :: t)
  | .pop, a :: t => am_c1 a t
  | .dup_x1, a :: b :: t => (am_c1 a ()).bind fun _ => am_c1 b (a :: b :: a :: t)
  | .dup_x2, a :: b :: d :: t => (am_c1 a ()).bind fun _ => (am_c1 b ()).bind fun _ => am_c1 d (a :: b :: d :: a :: t)
  | .dup2, a :: b :: t => cond (Nat.beq a.category 2) (some (a :: a :: b :: t)) ((am_c1 a ()).bind fun _ => am_c1 b (a :: b :: a :: b :: t))
  | _, _ => none
def am_con : Instr → Bool
  | .iconst _ | .bipush _ | .sipush _ | .lconst _ | .ldc _ | .ldc2_w _ => true
  | _ => false
def am_isI : Option (Option Value) → Option Value
  | some (some (.int x)) => some (.int x)
  | _ => none
def am_isL : Option (Option Value) → Option Value
  | some (some (.long x)) => some (.long x)
  | _ => none
def am_isR : Option (Option Value) → Option Value
  | some (some (.ref x)) => some (.ref x)
  | _ => none
def am_lod : Instr → am_L → Option Value
  | .iload_n k, ls => am_isI ls[k.val]?
  | .iload k, ls => am_isI ls[k]?
  | .lload_n k, ls => am_isL ls[k.val]?
  | .lload k, ls => am_isL ls[k]?
  | .aload_n k, ls => am_isR ls[k.val]?
  | .aload k, ls => am_isR ls[k]?
  | _, _ => none
def am_s1 (ls : am_L) (i : Nat) (v : Value) (t : List Value) : Option (am_L × List Value) := cond (Nat.blt i ls.length && am_low ls i) (some (ls.set i (some v), t)) none
def am_s2 (ls : am_L) (i : Nat) (v : Value) (t : List Value) : Option (am_L × List Value) := cond (Nat.blt (i + 1) ls.length && am_low ls i) (some ((ls.set i (some v)).set (i + 1) none, t)) none
def am_sto : Instr → Value → am_L → List Value → Option (am_L × List Value)
  | .istore_n k, _, ls, .int x :: t => am_s1 ls k.val (.int x) t
  | .istore k, _, ls, .int x :: t => am_s1 ls k (.int x) t
  | .astore_n k, _, ls, .ref x :: t => am_s1 ls k.val (.ref x) t
  | .astore k, _, ls, .ref x :: t => am_s1 ls k (.ref x) t
  | .lstore_n k, _, ls, .long x :: t => am_s2 ls k.val (.long x) t
  | .lstore k, _, ls, .long x :: t => am_s2 ls k (.long x) t
  | .iinc k _, .int c, ls, t => match ls[k]? with
    | some (some (.int x)) => am_s1 ls k (.int (x + c)) t
    | _ => none
  | _, _, _, _ => none
/-- does a value fit a field, which the constant tells -/
def am_fit : Value → Value → Bool
  | .int _, .int _ => true
  | .long _, .long _ => true
  | .null, .ref _ => true
  | .float _, .int x => Nat.ble x.toBitVec.toNat 1
  | _, _ => false
def am_fld : am_row → List Value → am_H → Option (List Value × am_H)
  | (_, .getfield _, _, ci, k, _), .ref q :: t, h => match h[q]? with
    | some (.inr (cj, fs)) => cond (Nat.beq ci cj) (match fs[k]? with
      | some v => some (v :: t, h)
      | none => none) none
    | _ => none
  | (_, .putfield _, _, ci, k, kv), v :: .ref q :: t, h => match h[q]? with
    | some (.inr (cj, fs)) => cond (Nat.beq ci cj && am_fit kv v && Nat.blt k fs.length) (some (t, h.set q (.inr (cj, fs.set k v)))) none
    | _ => none
  | (_, .arraylength, _, _, _, _), .ref q :: t, h => match h[q]? with
    | some (.inl (ty, n, _)) => cond (Nat.blt ty 4) (some (.int (nI n) :: t, h)) none
    | _ => none
  | _, _, _ => none
def am_sw : Instr → Bool
  | .tableswitch _ _ _ _ | .lookupswitch _ _ => true
  | _ => false
def am_step (r : am_row) (ls : am_L) (st : List Value) (h : am_H) : Option (Nat × am_L × List Value × am_H) :=
  match am_sw r.2.1 with
  | true => none
  | false => match am_stk r.2.1 st with
  | some st' => some (r.2.2.1, ls, st', h)
  | none => match am_dup r.2.1 st with
    | some st' => some (r.2.2.1, ls, st', h)
    | none => match am_con r.2.1 with
      | true => some (r.2.2.1, ls, r.2.2.2.2.2 :: st, h)
      | false => match am_lod r.2.1 ls with
        | some v => some (r.2.2.1, ls, v :: st, h)
        | none => match am_sto r.2.1 r.2.2.2.2.2 ls st with
          | some q => some (r.2.2.1, q.1, q.2, h)
          | none => match am_fld r st h with
            | some q => some (r.2.2.1, ls, q.1, q.2)
            | none => match r.2.1 with
              | .goto _ => some (r.2.2.2.1, ls, st, h)
              | _ => none
def am_row? (rows : List am_row) (pc : Nat) : Option am_row := rows.find? (fun r => Nat.beq r.1 pc)
def am_run (rows : List am_row) : Nat → Nat × am_L × List Value × am_H → Option (Nat × am_L × List Value × am_H)
  | 0, z => some z
  | f + 1, z => match am_row? rows z.1 with
    | none => none
    | some r => match am_step r z.2.1 z.2.2.1 z.2.2.2 with
      | none => none
      | some w => am_run rows f w
