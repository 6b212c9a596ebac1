def xstep (tb : xTb) (A : xA4) (R : Room) (ini : Bool) (rt : Option FieldType) (P : Option Value → xH → Nat → Nat → Prop) (k : xJ) (pc : Nat) (i : Instr) (len : Nat) (lv : xL) (st : List Value) (G : xH) (ce sl : Nat) : Prop := match i with
  | .aconst_null => len = 1 ∧ k (pc + 1) lv (.null :: st) G ce sl
  | .iconst n => len = 1 ∧ k (pc + 1) lv (.int (Int32.ofInt n) :: st) G ce sl
  | .bipush n => len = 2 ∧ k (pc + 2) lv (.int (Int8.ofInt n).toInt32 :: st) G ce sl
  | .sipush n => len = 3 ∧ k (pc + 3) lv (.int (Int16.ofInt n).toInt32 :: st) G ce sl
  | .lconst n => len = 1 ∧ k (pc + 1) lv (.long (Int64.ofNat n.val) :: st) G ce sl
  | .ldc x => len = 2 ∧ (match tb.2.2.1 x with
    | some v => k (pc + 2) lv (.int v :: st) G ce sl
    | none => False)
  | .ldc2_w x => len = 3 ∧ (match tb.2.2.2.1 x with
    | some v => k (pc + 3) lv (.long v :: st) G ce sl
    | none => False)
  | .iload_n n => len = 1 ∧ (match lv[n.val]? with
    | some (some (.int x)) => k (pc + 1) lv (.int x :: st) G ce sl
    | _ => False)
  | .iload n => len = 2 ∧ (match lv[n]? with
    | some (some (.int x)) => k (pc + 2) lv (.int x :: st) G ce sl
    | _ => False)
  | .lload_n n => len = 1 ∧ (match lv[n.val]? with
    | some (some (.long x)) => k (pc + 1) lv (.long x :: st) G ce sl
    | _ => False)
  | .lload n => len = 2 ∧ (match lv[n]? with
    | some (some (.long x)) => k (pc + 2) lv (.long x :: st) G ce sl
    | _ => False)
  | .aload_n n => len = 1 ∧ (match lv[n.val]? with
    | some (some (.ref x)) => k (pc + 1) lv (.ref x :: st) G ce sl
    | some (some .null) => k (pc + 1) lv (.null :: st) G ce sl
    | _ => False)
  | .aload n => len = 2 ∧ (match lv[n]? with
    | some (some (.ref x)) => k (pc + 2) lv (.ref x :: st) G ce sl
    | some (some .null) => k (pc + 2) lv (.null :: st) G ce sl
    | _ => False)
  | .istore_n n => len = 1 ∧ n.val < lv.length ∧ (match st with
    | .int x :: r => k (pc + 1) (xs1 lv n.val (.int x)) r G ce sl
    | _ => False)
  | .istore n => len = 2 ∧ n < lv.length ∧ (match st with
    | .int x :: r => k (pc + 2) (xs1 lv n (.int x)) r G ce sl
    | _ => False)
  | .lstore_n n => len = 1 ∧ n.val + 1 < lv.length ∧ (match st with
    | .long x :: r => k (pc + 1) (xs2 lv n.val (.long x)) r G ce sl
    | _ => False)
  | .lstore n => len = 2 ∧ n + 1 < lv.length ∧ (match st with
    | .long x :: r => k (pc + 2) (xs2 lv n (.long x)) r G ce sl
    | _ => False)
  | .astore_n n => len = 1 ∧ n.val < lv.length ∧ (match st with
    | .ref x :: r => k (pc + 1) (xs1 lv n.val (.ref x)) r G ce sl
    | .null :: r => k (pc + 1) (xs1 lv n.val .null) r G ce sl
    | _ => False)
  | .astore n => len = 2 ∧ n < lv.length ∧ (match st with
    | .ref x :: r => k (pc + 2) (xs1 lv n (.ref x)) r G ce sl
    | .null :: r => k (pc + 2) (xs1 lv n .null) r G ce sl
    | _ => False)
  | .iinc n d => len = 3 ∧ n < lv.length ∧ (match lv[n]? with
    | some (some (.int x)) => k (pc + 3) (xs1 lv n (.int (x + Int32.ofInt d))) st G ce sl
    | _ => False)
  | .iadd => len = 1 ∧ (match st with
    | .int y :: .int x :: r => k (pc + 1) lv (.int (x + y) :: r) G ce sl
    | _ => False)
  | .isub => len = 1 ∧ (match st with
    | .int y :: .int x :: r => k (pc + 1) lv (.int (x - y) :: r) G ce sl
    | _ => False)
  | .imul => len = 1 ∧ (match st with
    | .int y :: .int x :: r => k (pc + 1) lv (.int (x * y) :: r) G ce sl
    | _ => False)
  | .iand => len = 1 ∧ (match st with
    | .int y :: .int x :: r => k (pc + 1) lv (.int (x &&& y) :: r) G ce sl
    | _ => False)
  | .ixor => len = 1 ∧ (match st with
    | .int y :: .int x :: r => k (pc + 1) lv (.int (x ^^^ y) :: r) G ce sl
    | _ => False)
  | .idiv => len = 1 ∧ (match st with
    | .int y :: .int x :: r => ¬ y = 0 ∧ k (pc + 1) lv (.int (x / y) :: r) G ce sl
    | _ => False)
  | .irem => len = 1 ∧ (match st with
    | .int y :: .int x :: r => ¬ y = 0 ∧ k (pc + 1) lv (.int (x - x / y * y) :: r) G ce sl
    | _ => False)
  | .ishr => len = 1 ∧ (match st with
    | .int y :: .int x :: r => k (pc + 1) lv (.int (x >>> (y &&& 31)) :: r) G ce sl
    | _ => False)
  | .ladd => len = 1 ∧ (match st with
    | .long y :: .long x :: r => k (pc + 1) lv (.long (x + y) :: r) G ce sl
    | _ => False)
  | .lsub => len = 1 ∧ (match st with
    | .long y :: .long x :: r => k (pc + 1) lv (.long (x - y) :: r) G ce sl
    | _ => False)
  | .lmul => len = 1 ∧ (match st with
    | .long y :: .long x :: r => k (pc + 1) lv (.long (x * y) :: r) G ce sl
    | _ => False)
  | .land => len = 1 ∧ (match st with
    | .long y :: .long x :: r => k (pc + 1) lv (.long (x &&& y) :: r) G ce sl
    | _ => False)
  | .lor => len = 1 ∧ (match st with
    | .long y :: .long x :: r => k (pc + 1) lv (.long (x ||| y) :: r) G ce sl
    | _ => False)
  | .lxor => len = 1 ∧ (match st with
    | .long y :: .long x :: r => k (pc + 1) lv (.long (x ^^^ y) :: r) G ce sl
    | _ => False)
  | .lrem => len = 1 ∧ (match st with
    | .long y :: .long x :: r => ¬ y = 0 ∧ k (pc + 1) lv (.long (x - x / y * y) :: r) G ce sl
    | _ => False)
  | .lshl => len = 1 ∧ (match st with
    | .int y :: .long x :: r => k (pc + 1) lv (.long (x <<< (y.toInt64 &&& 63)) :: r) G ce sl
    | _ => False)
  | .lshr => len = 1 ∧ (match st with
    | .int y :: .long x :: r => k (pc + 1) lv (.long (x >>> (y.toInt64 &&& 63)) :: r) G ce sl
    | _ => False)
  | .lushr => len = 1 ∧ (match st with
    | .int y :: .long x :: r => k (pc + 1) lv (.long (x.toUInt64 >>> (y.toInt64.toUInt64 &&& Int64.toUInt64 63)).toInt64 :: r) G ce sl
    | _ => False)
  | .i2l => len = 1 ∧ (match st with
    | .int x :: r => k (pc + 1) lv (.long x.toInt64 :: r) G ce sl
    | _ => False)
  | .l2i => len = 1 ∧ (match st with
    | .long x :: r => k (pc + 1) lv (.int x.toInt32 :: r) G ce sl
    | _ => False)
  | .lcmp => len = 1 ∧ (match st with
    | .long y :: .long x :: r => k (pc + 1) lv (.int (lg_cmp x y) :: r) G ce sl
    | _ => False)
  | .dup => len = 1 ∧ (match st with
    | v :: r => v.category = 1 ∧ k (pc + 1) lv (v :: v :: r) G ce sl
    | _ => False)
  | .dup_x1 => len = 1 ∧ (match st with
    | v :: w :: r => v.category = 1 ∧ w.category = 1 ∧ k (pc + 1) lv (v :: w :: v :: r) G ce sl
    | _ => False)
  | .dup2 => len = 1 ∧ (match st with
    | v :: w :: r => v.category = 1 ∧ w.category = 1 ∧ k (pc + 1) lv (v :: w :: v :: w :: r) G ce sl
    | _ => False)
  | .pop => len = 1 ∧ (match st with
    | v :: r => v.category = 1 ∧ k (pc + 1) lv r G ce sl
    | _ => False)
  | .goto off => len = 3 ∧ xokj pc off ∧ k (xtgt pc off) lv st G ce sl
  | .ifCond cd off => len = 3 ∧ xokj pc off ∧ (match st with
    | .int x :: r => xIf k (xicmp cd x 0) (xtgt pc off) (pc + 3) lv r G ce sl
    | _ => False)
  | .if_icmp cd off => len = 3 ∧ xokj pc off ∧ (match st with
    | .int y :: .int x :: r => xIf k (xicmp cd x y) (xtgt pc off) (pc + 3) lv r G ce sl
    | _ => False)
  | .ifnull off => len = 3 ∧ xokj pc off ∧ (match st with
    | .null :: r => k (xtgt pc off) lv r G ce sl
    | .ref _ :: r => k (pc + 3) lv r G ce sl
    | _ => False)
  | .ifnonnull off => len = 3 ∧ xokj pc off ∧ (match st with
    | .null :: r => k (pc + 3) lv r G ce sl
    | .ref _ :: r => k (xtgt pc off) lv r G ce sl
    | _ => False)
  | .if_acmp cd off => len = 3 ∧ xokj pc off ∧ (match cd, st with
    | .eq, .ref y :: .ref x :: r => xIf k (x = y) (xtgt pc off) (pc + 3) lv r G ce sl
    | .ne, .ref y :: .ref x :: r => xIf k (¬ x = y) (xtgt pc off) (pc + 3) lv r G ce sl
    | _, _ => False)
  | .tableswitch d lo hi offs => (match st with
    | .int x :: r => (x.toInt < lo ∨ hi < x.toInt → xokj pc d ∧ k (xtgt pc d) lv r G ce sl) ∧ (¬ x.toInt < lo → ¬ hi < x.toInt → ∃ off, offs[(x.toInt - lo).toNat]? = some off ∧ xokj pc off ∧ k (xtgt pc off) lv r G ce sl)
    | _ => False)
  | .getfield x => len = 3 ∧ (match st with
    | .ref a :: r => xGet k (tb.1 x) a pc lv r G ce sl
    | _ => False)
  | .putfield x => len = 3 ∧ (match st with
    | v :: .ref a :: r => xPut ini k (tb.1 x) a v pc lv r G ce sl
    | _ => False)
  | .new x => len = 3 ∧ xNew R k (tb.2.1 x) pc lv st G ce sl
  | .newarray t => len = 2 ∧ (match st with
    | .int n :: r => xNwa R A k t n pc lv r G ce sl
    | _ => False)
  | .iaload => len = 1 ∧ (match st with
    | .int i :: .ref a :: r => xIal k A.1 a i pc lv r G ce sl
    | _ => False)
  | .baload => len = 1 ∧ (match st with
    | .int i :: .ref a :: r => xIal k A.2.2.1 a i pc lv r G ce sl
    | _ => False)
  | .laload => len = 1 ∧ (match st with
    | .int i :: .ref a :: r => xLal k A.2.1 a i pc lv r G ce sl
    | _ => False)
  | .aaload => len = 1 ∧ (match st with
    | .int i :: .ref a :: r => xAal k A.2.2.2 a i pc lv r G ce sl
    | _ => False)
  | .iastore => len = 1 ∧ (match st with
    | .int x :: .int i :: .ref a :: r => xIas k A.1 (fun z => z) a i x pc lv r G ce sl
    | _ => False)
  | .bastore => len = 1 ∧ (match st with
    | .int x :: .int i :: .ref a :: r => xIas k A.2.2.1 (vp_nar .boolean) a i x pc lv r G ce sl
    | _ => False)
  | .lastore => len = 1 ∧ (match st with
    | .long x :: .int i :: .ref a :: r => xLas k A.2.1 a i x pc lv r G ce sl
    | _ => False)
  | .aastore => len = 1 ∧ (match st with
    | .ref v :: .int i :: .ref a :: r => xAas k A.2.2.2 a i v pc lv r G ce sl
    | _ => False)
  | .arraylength => len = 1 ∧ (match st with
    | .ref a :: r => xLen A k a pc lv r G ce sl
    | _ => False)
  | .checkcast x => len = 3 ∧ (match st with
    | .null :: r => k (pc + 3) lv (.null :: r) G ce sl
    | .ref a :: r => xCst k (tb.2.2.2.2.2 x) a pc lv r G ce sl
    | _ => False)
  | .invokevirtual x => len = 3 ∧ xCal 0 R k (tb.2.2.2.2.1 x) pc lv st G ce sl
  | .invokespecial x => len = 3 ∧ xCal 1 R k (tb.2.2.2.2.1 x) pc lv st G ce sl
  | .invokestatic x => len = 3 ∧ xCal 2 R k (tb.2.2.2.2.1 x) pc lv st G ce sl
  | .ireturn => len = 1 ∧ (match st with
    | [.int v] => xRet P rt (some (.int v)) G ce sl
    | _ => False)
  | .lreturn => len = 1 ∧ (match st with
    | [.long v] => xRet P rt (some (.long v)) G ce sl
    | _ => False)
  | .areturn => len = 1 ∧ (match st with
    | [.ref v] => xRet P rt (some (.ref v)) G ce sl
    | [.null] => xRet P rt (some .null) G ce sl
    | _ => False)
  | .return_ => len = 1 ∧ (match st with
    | [] => xRet P rt none G ce sl
    | _ => False)
  | _ => False
/-- many steps: until a cut (hd), or the fuel is spent -/
def xwp (cc : ByteArray) (tb : xTb) (A : xA4) (R : Room) (ini : Bool) (rt : Option FieldType) (P : Option Value → xH → Nat → Nat → Prop) (hd : Nat → Bool) (I : xJ) : Nat → xJ
  | 0 => I
  | f + 1 => fun pc lv st G ce sl => if hd pc = true then I pc lv st G ce sl else match decode cc pc with
    | .ok (i, len) => xstep tb A R ini rt P (xwp cc tb A R ini rt P hd I f) pc i len lv st G ce sl
    | .error _ => False
