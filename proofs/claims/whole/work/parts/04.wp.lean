/-! WHAT A STRETCH OF CODE ASKS: instructions are resolved (see okI), their meaning is a predicate over locals, stack and memory -/
/-- a written number: the kernel doesn't look into it -/
theorem cI_x (v : Int) : ∃ x : Int32, x = Int32.ofInt v := ⟨_, rfl⟩
noncomputable def cI (v : Int) : Int32 := Classical.choose (cI_x v)
theorem cI_e (v : Int) : cI v = Int32.ofInt v := Classical.choose_spec (cI_x v)
theorem lI_x (v : Int) : ∃ x : Int64, x = Int64.ofInt v := ⟨_, rfl⟩
noncomputable def lI (v : Int) : Int64 := Classical.choose (lI_x v)
theorem lI_e (v : Int) : lI v = Int64.ofInt v := Classical.choose_spec (lI_x v)
def lg : Lc → Nat → Option Value
  | [], _ => none
  | a :: _, 0 => a
  | _ :: t, i + 1 => lg t i
def lk1 : Option Value → Option Value
  | some (.long _) => none
  | some (.double _) => none
  | x => x
def hd0 : Lc → Lc
  | [] => []
  | _ :: t => none :: t
def ls1 : Lc → Nat → Value → Lc
  | [], _, _ => []
  | _ :: t, 0, v => some v :: t
  | a :: t, 1, v => lk1 a :: ls1 t 0 v
  | a :: t, i + 2, v => a :: ls1 t (i + 1) v
def ls2 : Lc → Nat → Value → Lc
  | [], _, _ => []
  | _ :: t, 0, v => some v :: hd0 t
  | a :: t, 1, v => lk1 a :: ls2 t 0 v
  | a :: t, i + 2, v => a :: ls2 t (i + 1) v
def lsA (w : Wc) : Nat → Lc → List (Nat × Value)
  | _, [] => []
  | i, none :: t => lsA w (i + 1) t
  | i, some v :: t => (i, up w v) :: lsA w (i + 1) t
def cT (c : ClassFile.Cond) (x y : Int32) : Prop := match c with
  | .eq => x = y
  | .ne => ¬ x = y
  | .lt => x < y
  | .ge => y ≤ x
  | .gt => y < x
  | .le => x ≤ y
def cF (c : ClassFile.Cond) (x y : Int32) : Prop := match c with
  | .eq => ¬ x = y
  | .ne => x = y
  | .lt => ¬ x < y
  | .ge => ¬ y ≤ x
  | .gt => ¬ y < x
  | .le => ¬ x ≤ y
def sw (J : Nat → Prop) (x : Int32) (d : Int) : List (Int × Int) → Prop
  | [] => J d.toNat
  | (v, t) :: ps => (x = cI v → J t.toNat) ∧ (¬ x = cI v → sw J x d ps)
def rt : Nat → List Value → List Value → List Value
  | 0, acc, _ => acc
  | _ + 1, acc, [] => acc
  | n + 1, acc, v :: st => rt n (v :: acc) st
def dr : Nat → List Value → List Value
  | 0, st => st
  | _ + 1, [] => []
  | n + 1, _ :: st => dr n st
def sc : List Value → Nat
  | [] => 0
  | v :: st => v.category + sc st
def rcv (k : Nat) : List Value → Prop
  | .ref a :: _ => kd a = k
  | _ => False
abbrev Jt : Type := Nat → Lc → List Value → Mm → Ml → Prop
abbrev Qt : Type := Option Value → Mm → Ml → Prop
abbrev Ct : Type := Nat → List Value → Mm → Ml → Qt → Prop
/-- the meaning of one resolved instruction, k: what comes behind it, J: jumps, K: cut points, C: calls, Q: the end -/
def sx (J K : Jt) (C : Ct) (Q : Qt) (o : Instr) (k : Lc → List Value → Mm → Ml → Prop) (ls : Lc) (st : List Value) (M : Mm) (L : Ml) : Prop :=
  match o with
  | .iconst v => k ls (.int (cI v) :: st) M L
  | .jsr v => k ls (.long (lI v) :: st) M L
  | .iload i => (match lg ls i with | some (.int x) => k ls (.int x :: st) M L | _ => False)
  | .lload i => (match lg ls i with | some (.long x) => k ls (.long x :: st) M L | _ => False)
  | .aload i => (match lg ls i with | some (.ref x) => k ls (.ref x :: st) M L | _ => False)
  | .istore i => (match st with | .int x :: r => k (ls1 ls i (.int x)) r M L | _ => False)
  | .lstore i => (match st with | .long x :: r => k (ls2 ls i (.long x)) r M L | _ => False)
  | .astore i => (match st with | .ref x :: r => k (ls1 ls i (.ref x)) r M L | _ => False)
  | .iinc i c => (match lg ls i with | some (.int x) => k (ls1 ls i (.int (x + cI c))) st M L | _ => False)
  | .iadd => (match st with | .int y :: .int x :: r => k ls (.int (x + y) :: r) M L | _ => False)
  | .isub => (match st with | .int y :: .int x :: r => k ls (.int (x - y) :: r) M L | _ => False)
  | .imul => (match st with | .int y :: .int x :: r => k ls (.int (x * y) :: r) M L | _ => False)
  | .iand => (match st with | .int y :: .int x :: r => k ls (.int (x &&& y) :: r) M L | _ => False)
  | .ior => (match st with | .int y :: .int x :: r => k ls (.int (x ||| y) :: r) M L | _ => False)
  | .ixor => (match st with | .int y :: .int x :: r => k ls (.int (x ^^^ y) :: r) M L | _ => False)
  | .idiv => (match st with | .int y :: .int x :: r => ¬ y = 0 ∧ k ls (.int (x / y) :: r) M L | _ => False)
  | .irem => (match st with | .int y :: .int x :: r => ¬ y = 0 ∧ k ls (.int (x - x / y * y) :: r) M L | _ => False)
  | .ineg => (match st with | .int x :: r => k ls (.int (-x) :: r) M L | _ => False)
  | .ishl => (match st with | .int y :: .int x :: r => k ls (.int (x <<< (y &&& 31)) :: r) M L | _ => False)
  | .ishr => (match st with | .int y :: .int x :: r => k ls (.int (x >>> (y &&& 31)) :: r) M L | _ => False)
  | .iushr => (match st with | .int y :: .int x :: r => k ls (.int (x.toUInt32 >>> (y.toUInt32 &&& Int32.toUInt32 31)).toInt32 :: r) M L | _ => False)
  | .ladd => (match st with | .long y :: .long x :: r => k ls (.long (x + y) :: r) M L | _ => False)
  | .lsub => (match st with | .long y :: .long x :: r => k ls (.long (x - y) :: r) M L | _ => False)
  | .lmul => (match st with | .long y :: .long x :: r => k ls (.long (x * y) :: r) M L | _ => False)
  | .ldiv => (match st with | .long y :: .long x :: r => ¬ y = 0 ∧ k ls (.long (x / y) :: r) M L | _ => False)
  | .lrem => (match st with | .long y :: .long x :: r => ¬ y = 0 ∧ k ls (.long (x - x / y * y) :: r) M L | _ => False)
  | .lcmp => (match st with | .long y :: .long x :: r => k ls (.int (lg_cmp x y) :: r) M L | _ => False)
  | .i2l => (match st with | .int x :: r => k ls (.long x.toInt64 :: r) M L | _ => False)
  | .l2i => (match st with | .long x :: r => k ls (.int x.toInt32 :: r) M L | _ => False)
  | .i2b => (match st with | .int x :: r => k ls (.int x.toInt8.toInt32 :: r) M L | _ => False)
  | .i2s => (match st with | .int x :: r => k ls (.int x.toInt16.toInt32 :: r) M L | _ => False)
  | .dup => (match st with | .int x :: r => k ls (.int x :: .int x :: r) M L | .ref x :: r => k ls (.ref x :: .ref x :: r) M L | _ => False)
  | .pop => (match st with | .int _ :: r => k ls r M L | .ref _ :: r => k ls r M L | _ => False)
  | .dup2 => (match st with | .int x :: .ref a :: r => k ls (.int x :: .ref a :: .int x :: .ref a :: r) M L | _ => False)
  | .if_icmp c t => (match st with | .int y :: .int x :: r => (cT c x y → J t.toNat ls r M L) ∧ (cF c x y → k ls r M L) | _ => False)
  | .ifCond c t => (match st with | .int x :: r => (cT c x 0 → J t.toNat ls r M L) ∧ (cF c x 0 → k ls r M L) | _ => False)
  | .goto t => J t.toNat ls st M L
  | .ret t => K t ls st M L
  | .lookupswitch d ps => (match st with | .int x :: r => sw (fun t => J t ls r M L) x d ps.toList | _ => False)
  | .getfield n => (match st with | .ref a :: r => kd a = n / 32 ∧ k ls (.int (M a (n % 32)) :: r) M L | _ => False)
  | .getstatic n => (match st with | .ref a :: r => kd a = n / 32 ∧ k ls (.ref (rfc (n / 32) a (n % 32)) :: r) M L | _ => False)
  | .instanceof f => (match st with | .ref a :: r => kd a = 4 ∧ k ls (.long (L f) :: r) M L | _ => False)
  | .putfield n => (match st with | .int v :: .ref a :: r => kd a = n / 32 ∧ k ls r (um M a (n % 32) v) L | _ => False)
  | .new n => (match st with | .int v :: .ref a :: r => kd a = n / 32 ∧ (v = 0 ∨ v = 1) ∧ k ls r (um M a (n % 32) v) L | _ => False)
  | .putstatic f => (match st with | .long v :: .ref a :: r => kd a = 4 ∧ k ls r M (ul L f v) | _ => False)
  | .iaload => (match st with | .int i :: .ref a :: r => kd a = 9 ∧ ∃ j, i = nI j ∧ j < ln a ∧ k ls (.int (M a j) :: r) M L | _ => False)
  | .baload => (match st with | .int i :: .ref a :: r => kd a = 8 ∧ ∃ j, i = nI j ∧ j < ln a ∧ k ls (.int (M a j) :: r) M L | _ => False)
  | .caload => (match st with | .int i :: .ref a :: r => kd a = 10 ∧ ∃ j, i = nI j ∧ j < ln a ∧ k ls (.int (M a j) :: r) M L | _ => False)
  | .iastore => (match st with | .int v :: .int i :: .ref a :: r => kd a = 9 ∧ ∃ j, i = nI j ∧ j < ln a ∧ k ls r (um M a j v) L | _ => False)
  | .bastore => (match st with | .int v :: .int i :: .ref a :: r => kd a = 8 ∧ ∃ j, i = nI j ∧ j < ln a ∧ k ls r (um M a j v.toInt8.toInt32) L | _ => False)
  | .castore => (match st with | .int v :: .int i :: .ref a :: r => kd a = 10 ∧ (v = 0 ∨ v = 1) ∧ ∃ j, i = nI j ∧ j < ln a ∧ k ls r (um M a j v) L | _ => False)
  | .aaload => (match st with | .int i :: .ref a :: r => (kd a = 11 ∨ kd a = 12) ∧ ∃ j, i = nI j ∧ j < ln a ∧ k ls (.ref (rfa a j) :: r) M L | _ => False)
  | .saload => (match st with | .int i :: .ref a :: r => a = 1000 ∧ ∃ j, i = nI j ∧ (j : Int) < (M 1000 0).toInt ∧ k ls (.int (M 1000 (j + 1)) :: r) M L | _ => False)
  | .arraylength => (match st with | .ref a :: r => a = 1000 ∧ k ls (.int (M 1000 0) :: r) M L | _ => False)
  | .invokeinterface n y => (rt (y % 16) [] st).length = y % 16 ∧ rcv (y / 16) (rt (y % 16) [] st) ∧ sc (dr (y % 16) st) ≤ 8 ∧ C n (rt (y % 16) [] st) M L (fun r M' L' => k ls (r.toList ++ dr (y % 16) st) M' L')
  | .multianewarray n y => (rt y [] st).length = y ∧ sc (dr y st) ≤ 8 ∧ C n (rt y [] st) M L (fun r M' L' => k ls (r.toList ++ dr y st) M' L')
  | .checkcast _ => (match st with | [.int n, .int dp, .ref b, .int sp, .ref a] => kd a = 9 ∧ kd b = 9 ∧ ∃ i j m, sp = nI i ∧ dp = nI j ∧ n = nI m ∧ i + m ≤ ln a ∧ j + m ≤ ln b ∧ k ls [] (uc M a i b j m) L | _ => False)
  | .dmul => (match st with | [.int y, .int x] => k ls [.int (if x < y then y else x)] M L | _ => False)
  | .ddiv => (match st with | [.int y, .int x] => k ls [.int (if y < x then y else x)] M L | _ => False)
  | .ireturn => (match st with | [.int v] => Q (some (.int v)) M L | _ => False)
  | .freturn => (match st with | [.int v] => (v = 0 ∨ v = 1) ∧ Q (some (.int v)) M L | _ => False)
  | .lreturn => (match st with | [.long v] => Q (some (.long v)) M L | _ => False)
  | .areturn => (match st with | [.ref a] => Q (some (.ref a)) M L | _ => False)
  | .return_ => (match st with | [] => Q none M L | _ => False)
  | _ => False
def wp (J K : Jt) (C : Ct) (Q : Qt) : List Instr → Lc → List Value → Mm → Ml → Prop
  | [], _, _, _, _ => False
  | o :: os, ls, st, M, L => sx J K C Q o (wp J K C Q os) ls st M L
/-! which instruction of the class file a resolved one is -/
def n4 (i : Instr) (z k : Nat) (f : Nat → Instr) (g : Fin 4 → Instr) : Bool := decide ((i = f k ∧ z = 2) ∨ (k < 4 ∧ i = g (Fin.ofNat 4 k) ∧ z = 1))
def fIs (n x c k : Nat) : Bool := fRows.any (fun r => r.1 == mO n && r.2.1 == x && r.2.2.1 == c && r.2.2.2.1 == k)
def tsw (pc : Nat) (lo : Int) : List Int → List (Int × Int) → Bool
  | [], [] => true
  | o :: os, (v, t) :: ps => decide (v = lo ∧ (pc : Int) + o = t ∧ 0 ≤ t ∧ -1000 ≤ v ∧ v ≤ 1000) && tsw pc (lo + 1) os ps
  | _, _ => false
def lsw (pc : Nat) : List (Int × Int) → List (Int × Int) → Bool
  | [], [] => true
  | (u, o) :: os, (v, t) :: ps => decide (u = v ∧ (pc : Int) + o = t ∧ 0 ≤ t ∧ -1000 ≤ v ∧ v ≤ 1000) && lsw pc os ps
  | _, _ => false
def okI (n pc : Nat) (i : Instr) (z : Nat) (o : Instr) : Bool := match o with
  | .iconst v => (match i with
    | .iconst u => decide (z = 1 ∧ Int32.ofInt u = Int32.ofInt v)
    | .bipush u => decide (z = 2 ∧ (Int8.ofInt u).toInt32 = Int32.ofInt v)
    | .sipush u => decide (z = 3 ∧ (Int16.ofInt u).toInt32 = Int32.ofInt v)
    | .ldc x => z == 2 && cRows.any (fun r => r.1 == mO n && r.2.1 == x && r.2.2.1 == Int32.ofInt v)
    | .ldc_w x => z == 3 && cRows.any (fun r => r.1 == mO n && r.2.1 == x && r.2.2.1 == Int32.ofInt v)
    | _ => false)
  | .jsr v => (match i with
    | .lconst u => decide (z = 1 ∧ Int64.ofNat (u : Nat) = Int64.ofInt v)
    | .ldc2_w x => z == 3 && lRows.any (fun r => r.1 == mO n && r.2.1 == x && r.2.2.1 == Int64.ofInt v)
    | _ => false)
  | .iload k => n4 i z k .iload .iload_n
  | .lload k => n4 i z k .lload .lload_n
  | .aload k => n4 i z k .aload .aload_n
  | .istore k => n4 i z k .istore .istore_n && decide (k < mL n)
  | .lstore k => n4 i z k .lstore .lstore_n && decide (k + 1 < mL n)
  | .astore k => n4 i z k .astore .astore_n && decide (k < mL n)
  | .iinc k c => decide (i = .iinc k c ∧ z = 3 ∧ k < mL n)
  | .if_icmp c t => (match i with | .if_icmp c' f => decide (c' = c ∧ (pc : Int) + f = t ∧ 0 ≤ t ∧ z = 3) | _ => false)
  | .ifCond c t => (match i with | .ifCond c' f => decide (c' = c ∧ (pc : Int) + f = t ∧ 0 ≤ t ∧ z = 3) | _ => false)
  | .goto t => (match i with | .goto f => decide ((pc : Int) + f = t ∧ 0 ≤ t ∧ z = 3) | _ => false)
  | .lookupswitch d ps => (match i with
    | .tableswitch d' lo hi os => decide ((pc : Int) + d' = d ∧ 0 ≤ d ∧ hi = lo + os.toList.length - 1) && tsw pc lo os.toList ps.toList
    | .lookupswitch d' os => decide ((pc : Int) + d' = d ∧ 0 ≤ d) && (os.toList.zip (os.toList.drop 1)).all (fun (a, next) => a.1 < next.1) && lsw pc os.toList ps.toList
    | _ => false)
  | .getfield m => (match i with | .getfield x => decide (z = 3 ∧ (ft (m / 32) (m % 32) = 0 ∨ ft (m / 32) (m % 32) = 3)) && fIs n x (m / 32) (m % 32) | _ => false)
  | .getstatic m => (match i with | .getfield x => decide (z = 3 ∧ ft (m / 32) (m % 32) = 1) && fIs n x (m / 32) (m % 32) | _ => false)
  | .instanceof f => (match i with | .getfield x => decide (z = 3 ∧ ft 4 f = 2) && fIs n x 4 f | _ => false)
  | .putfield m => (match i with | .putfield x => decide (z = 3 ∧ ft (m / 32) (m % 32) = 0) && fIs n x (m / 32) (m % 32) | _ => false)
  | .new m => (match i with | .putfield x => decide (z = 3 ∧ ft (m / 32) (m % 32) = 3) && fIs n x (m / 32) (m % 32) | _ => false)
  | .putstatic f => (match i with | .putfield x => decide (z = 3 ∧ ft 4 f = 2) && fIs n x 4 f | _ => false)
  | .caload => decide (i = .baload ∧ z = 1)
  | .castore => decide (i = .bastore ∧ z = 1)
  | .saload => decide (i = .iaload ∧ z = 1)
  | .invokeinterface m y => (match i with | .invokevirtual x => decide (z = 3 ∧ mS m = 0 ∧ y % 16 = mP m + 1 ∧ y / 16 = mO m) && (mRows.any (fun r => r.1 == mO n && r.2.1 == x && r.2.2.1 == m) || nRows.any (fun r => r.1 == mO n && r.2.1 == x && r.2.2.1 == m)) && eRows.any (fun r => r.1 == m) | _ => false)
  | .multianewarray m y => (match i with | .invokestatic x => decide (z = 3 ∧ mS m = 1 ∧ y = mP m) && (mRows.any (fun r => r.1 == mO n && r.2.1 == x && r.2.2.1 == m) || nRows.any (fun r => r.1 == mO n && r.2.1 == x && r.2.2.1 == m)) && eRows.any (fun r => r.1 == m) | _ => false)
  | .checkcast _ => (match i with | .invokestatic x => decide (z = 3 ∧ cpyI.1 = mO n ∧ cpyI.2.1 = x) | _ => false)
  | .dmul => (match i with | .invokestatic x => decide (z = 3 ∧ mmaxI.1 = mO n ∧ mmaxI.2 = x) | _ => false)
  | .ddiv => (match i with | .invokestatic x => decide (z = 3 ∧ mminI.1 = mO n ∧ mminI.2 = x) | _ => false)
  | .ireturn => decide (i = .ireturn ∧ z = 1 ∧ mR n = some .int)
  | .freturn => decide (i = .ireturn ∧ z = 1 ∧ mR n = some .boolean)
  | .lreturn => decide (i = .lreturn ∧ z = 1 ∧ mR n = some .long)
  | .areturn => decide (i = .areturn ∧ z = 1 ∧ mR n = some (.object "WinkCircle$Circle"))
  | .return_ => decide (i = .return_ ∧ z = 1 ∧ mR n = none)
  | o => decide (i = o ∧ z = 1)
def okB (n : Nat) : Nat → List Instr → Bool
  | _, [] => true
  | pc, o :: os => match o with
    | .ret t => decide (t = pc)
    | _ => match decode (mC n) pc with
      | .ok (i, z) => okI n pc i z o && okB n (pc + z) os
      | _ => false
