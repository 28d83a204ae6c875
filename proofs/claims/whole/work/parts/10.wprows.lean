theorem mF_cn : ∀ n, n < 209 → cn (mO n) = (mN n).cls := by decide +kernel
theorem mF_o : ∀ n, n < 209 → mO n < 10 := by decide +kernel
theorem mF_pn (n : Nat) (h : n < 209) : plainName (mN n).cls = true := by rw [← mF_cn n h]; exact pn _ (mF_o n h)
section
variable {J K : Jt} {C : Ct} {Q : Qt} {os : List Instr} {ls : Lc} {st : List Value} {M : Mm} {L : Ml}
theorem w_iconst {v : Int} : wp J K C Q (.iconst v :: os) ls (st) M L = wp J K C Q os ls (.int (cI v) :: st) M L := rfl
theorem w_lcst {v : Int} : wp J K C Q (.jsr v :: os) ls (st) M L = wp J K C Q os ls (.long (lI v) :: st) M L := rfl
def m_i (o : Option Value) (f : Int32 → Prop) : Prop := match o with | some (.int x) => f x | _ => False
theorem m_i_s {x : Int32} {f : Int32 → Prop} : m_i (some (.int x)) f = f x := rfl
theorem w_iload {q : Nat} : wp J K C Q (.iload q :: os) ls st M L = m_i (lg ls q) (fun x => wp J K C Q os ls (.int x :: st) M L) := by
  show sx J K C Q (.iload q) (wp J K C Q os) ls st M L = _
  simp only [sx, m_i]
  generalize lg ls q = o
  cases o with
  | none => rfl
  | some v => cases v <;> rfl
theorem w_istore {q : Nat} {x : Int32} : wp J K C Q (.istore q :: os) ls (.int x :: st) M L = wp J K C Q os (ls1 ls q (.int x)) (st) M L := rfl
def m_l (o : Option Value) (f : Int64 → Prop) : Prop := match o with | some (.long x) => f x | _ => False
theorem m_l_s {x : Int64} {f : Int64 → Prop} : m_l (some (.long x)) f = f x := rfl
theorem w_lload {q : Nat} : wp J K C Q (.lload q :: os) ls st M L = m_l (lg ls q) (fun x => wp J K C Q os ls (.long x :: st) M L) := by
  show sx J K C Q (.lload q) (wp J K C Q os) ls st M L = _
  simp only [sx, m_l]
  generalize lg ls q = o
  cases o with
  | none => rfl
  | some v => cases v <;> rfl
theorem w_lstore {q : Nat} {x : Int64} : wp J K C Q (.lstore q :: os) ls (.long x :: st) M L = wp J K C Q os (ls2 ls q (.long x)) (st) M L := rfl
def m_a (o : Option Value) (f : Nat → Prop) : Prop := match o with | some (.ref x) => f x | _ => False
theorem m_a_s {x : Nat} {f : Nat → Prop} : m_a (some (.ref x)) f = f x := rfl
theorem w_aload {q : Nat} : wp J K C Q (.aload q :: os) ls st M L = m_a (lg ls q) (fun x => wp J K C Q os ls (.ref x :: st) M L) := by
  show sx J K C Q (.aload q) (wp J K C Q os) ls st M L = _
  simp only [sx, m_a]
  generalize lg ls q = o
  cases o with
  | none => rfl
  | some v => cases v <;> rfl
theorem w_astore {q : Nat} {x : Nat} : wp J K C Q (.astore q :: os) ls (.ref x :: st) M L = wp J K C Q os (ls1 ls q (.ref x)) (st) M L := rfl
theorem w_iinc {q : Nat} {v : Int} : wp J K C Q (.iinc q v :: os) ls st M L = m_i (lg ls q) (fun x => wp J K C Q os (ls1 ls q (.int (x + cI v))) (st) M L) := by
  show sx J K C Q (.iinc q v) (wp J K C Q os) ls st M L = _
  simp only [sx, m_i]
  generalize lg ls q = o
  cases o with
  | none => rfl
  | some v => cases v <;> rfl
theorem w_iadd {x y : Int32} : wp J K C Q (.iadd :: os) ls (.int y :: .int x :: st) M L = wp J K C Q os ls (.int (x + y) :: st) M L := rfl
theorem w_isub {x y : Int32} : wp J K C Q (.isub :: os) ls (.int y :: .int x :: st) M L = wp J K C Q os ls (.int (x - y) :: st) M L := rfl
theorem w_imul {x y : Int32} : wp J K C Q (.imul :: os) ls (.int y :: .int x :: st) M L = wp J K C Q os ls (.int (x * y) :: st) M L := rfl
theorem w_iand {x y : Int32} : wp J K C Q (.iand :: os) ls (.int y :: .int x :: st) M L = wp J K C Q os ls (.int (x &&& y) :: st) M L := rfl
theorem w_ior {x y : Int32} : wp J K C Q (.ior :: os) ls (.int y :: .int x :: st) M L = wp J K C Q os ls (.int (x ||| y) :: st) M L := rfl
theorem w_ixor {x y : Int32} : wp J K C Q (.ixor :: os) ls (.int y :: .int x :: st) M L = wp J K C Q os ls (.int (x ^^^ y) :: st) M L := rfl
theorem w_ishl {x y : Int32} : wp J K C Q (.ishl :: os) ls (.int y :: .int x :: st) M L = wp J K C Q os ls (.int (x <<< (y &&& 31)) :: st) M L := rfl
theorem w_ishr {x y : Int32} : wp J K C Q (.ishr :: os) ls (.int y :: .int x :: st) M L = wp J K C Q os ls (.int (x >>> (y &&& 31)) :: st) M L := rfl
theorem w_iushr {x y : Int32} : wp J K C Q (.iushr :: os) ls (.int y :: .int x :: st) M L = wp J K C Q os ls (.int ((x.toUInt32 >>> (y.toUInt32 &&& Int32.toUInt32 31)).toInt32) :: st) M L := rfl
theorem w_idiv {x y : Int32} : wp J K C Q (.idiv :: os) ls (.int y :: .int x :: st) M L = (¬ y = 0 ∧ wp J K C Q os ls (.int (x / y) :: st) M L) := rfl
theorem w_irem {x y : Int32} : wp J K C Q (.irem :: os) ls (.int y :: .int x :: st) M L = (¬ y = 0 ∧ wp J K C Q os ls (.int (x - x / y * y) :: st) M L) := rfl
theorem w_ineg {x : Int32} : wp J K C Q (.ineg :: os) ls (.int x :: st) M L = wp J K C Q os ls (.int (-x) :: st) M L := rfl
theorem w_ladd {x y : Int64} : wp J K C Q (.ladd :: os) ls (.long y :: .long x :: st) M L = wp J K C Q os ls (.long (x + y) :: st) M L := rfl
theorem w_lsub {x y : Int64} : wp J K C Q (.lsub :: os) ls (.long y :: .long x :: st) M L = wp J K C Q os ls (.long (x - y) :: st) M L := rfl
theorem w_lmul {x y : Int64} : wp J K C Q (.lmul :: os) ls (.long y :: .long x :: st) M L = wp J K C Q os ls (.long (x * y) :: st) M L := rfl
theorem w_ldiv {x y : Int64} : wp J K C Q (.ldiv :: os) ls (.long y :: .long x :: st) M L = (¬ y = 0 ∧ wp J K C Q os ls (.long (x / y) :: st) M L) := rfl
theorem w_lrem {x y : Int64} : wp J K C Q (.lrem :: os) ls (.long y :: .long x :: st) M L = (¬ y = 0 ∧ wp J K C Q os ls (.long (x - x / y * y) :: st) M L) := rfl
theorem w_lcmp {x y : Int64} : wp J K C Q (.lcmp :: os) ls (.long y :: .long x :: st) M L = wp J K C Q os ls (.int (lg_cmp x y) :: st) M L := rfl
theorem w_i2l {x : Int32} : wp J K C Q (.i2l :: os) ls (.int x :: st) M L = wp J K C Q os ls (.long x.toInt64 :: st) M L := rfl
theorem w_l2i {x : Int64} : wp J K C Q (.l2i :: os) ls (.long x :: st) M L = wp J K C Q os ls (.int x.toInt32 :: st) M L := rfl
theorem w_i2b {x : Int32} : wp J K C Q (.i2b :: os) ls (.int x :: st) M L = wp J K C Q os ls (.int x.toInt8.toInt32 :: st) M L := rfl
theorem w_i2s {x : Int32} : wp J K C Q (.i2s :: os) ls (.int x :: st) M L = wp J K C Q os ls (.int x.toInt16.toInt32 :: st) M L := rfl
theorem w_dupi {x : Int32} : wp J K C Q (.dup :: os) ls (.int x :: st) M L = wp J K C Q os ls (.int x :: .int x :: st) M L := rfl
theorem w_dupr {x : Nat} : wp J K C Q (.dup :: os) ls (.ref x :: st) M L = wp J K C Q os ls (.ref x :: .ref x :: st) M L := rfl
theorem w_popi {x : Int32} : wp J K C Q (.pop :: os) ls (.int x :: st) M L = wp J K C Q os ls (st) M L := rfl
theorem w_popr {x : Nat} : wp J K C Q (.pop :: os) ls (.ref x :: st) M L = wp J K C Q os ls (st) M L := rfl
theorem w_dup2 {x : Int32} {b : Nat} : wp J K C Q (.dup2 :: os) ls (.int x :: .ref b :: st) M L = wp J K C Q os ls (.int x :: .ref b :: .int x :: .ref b :: st) M L := rfl
theorem w_icmp_eq {t : Int} {x y : Int32} : wp J K C Q (.if_icmp .eq t :: os) ls (.int y :: .int x :: st) M L = ((x = y → J t.toNat ls st M L) ∧ (¬ x = y → wp J K C Q os ls (st) M L)) := rfl
theorem w_if_eq {t : Int} {x : Int32} : wp J K C Q (.ifCond .eq t :: os) ls (.int x :: st) M L = ((x = 0 → J t.toNat ls st M L) ∧ (¬ x = 0 → wp J K C Q os ls (st) M L)) := rfl
theorem w_icmp_ne {t : Int} {x y : Int32} : wp J K C Q (.if_icmp .ne t :: os) ls (.int y :: .int x :: st) M L = ((¬ x = y → J t.toNat ls st M L) ∧ (x = y → wp J K C Q os ls (st) M L)) := rfl
theorem w_if_ne {t : Int} {x : Int32} : wp J K C Q (.ifCond .ne t :: os) ls (.int x :: st) M L = ((¬ x = 0 → J t.toNat ls st M L) ∧ (x = 0 → wp J K C Q os ls (st) M L)) := rfl
theorem w_icmp_lt {t : Int} {x y : Int32} : wp J K C Q (.if_icmp .lt t :: os) ls (.int y :: .int x :: st) M L = ((x < y → J t.toNat ls st M L) ∧ (¬ x < y → wp J K C Q os ls (st) M L)) := rfl
theorem w_if_lt {t : Int} {x : Int32} : wp J K C Q (.ifCond .lt t :: os) ls (.int x :: st) M L = ((x < 0 → J t.toNat ls st M L) ∧ (¬ x < 0 → wp J K C Q os ls (st) M L)) := rfl
theorem w_icmp_ge {t : Int} {x y : Int32} : wp J K C Q (.if_icmp .ge t :: os) ls (.int y :: .int x :: st) M L = ((y ≤ x → J t.toNat ls st M L) ∧ (¬ y ≤ x → wp J K C Q os ls (st) M L)) := rfl
theorem w_if_ge {t : Int} {x : Int32} : wp J K C Q (.ifCond .ge t :: os) ls (.int x :: st) M L = ((0 ≤ x → J t.toNat ls st M L) ∧ (¬ 0 ≤ x → wp J K C Q os ls (st) M L)) := rfl
theorem w_icmp_gt {t : Int} {x y : Int32} : wp J K C Q (.if_icmp .gt t :: os) ls (.int y :: .int x :: st) M L = ((y < x → J t.toNat ls st M L) ∧ (¬ y < x → wp J K C Q os ls (st) M L)) := rfl
theorem w_if_gt {t : Int} {x : Int32} : wp J K C Q (.ifCond .gt t :: os) ls (.int x :: st) M L = ((0 < x → J t.toNat ls st M L) ∧ (¬ 0 < x → wp J K C Q os ls (st) M L)) := rfl
theorem w_icmp_le {t : Int} {x y : Int32} : wp J K C Q (.if_icmp .le t :: os) ls (.int y :: .int x :: st) M L = ((x ≤ y → J t.toNat ls st M L) ∧ (¬ x ≤ y → wp J K C Q os ls (st) M L)) := rfl
theorem w_if_le {t : Int} {x : Int32} : wp J K C Q (.ifCond .le t :: os) ls (.int x :: st) M L = ((x ≤ 0 → J t.toNat ls st M L) ∧ (¬ x ≤ 0 → wp J K C Q os ls (st) M L)) := rfl
theorem w_goto {t : Int} : wp J K C Q (.goto t :: os) ls (st) M L = J t.toNat ls st M L := rfl
theorem w_cut {t : Nat} : wp J K C Q (.ret t :: os) ls (st) M L = K t ls st M L := rfl
theorem w_switch {d : Int} {ps : Array (Int × Int)} {x : Int32} : wp J K C Q (.lookupswitch d ps :: os) ls (.int x :: st) M L = sw (fun t => J t ls st M L) x d ps.toList := rfl
theorem sw_nil {J : Nat → Prop} {x : Int32} {d : Int} : sw J x d [] = J d.toNat := rfl
theorem sw_cons {J : Nat → Prop} {x : Int32} {d v t : Int} {ps : List (Int × Int)} : sw J x d ((v, t) :: ps) = ((x = cI v → J t.toNat) ∧ (¬ x = cI v → sw J x d ps)) := rfl
theorem w_g0 {b : Nat} : wp J K C Q (.getstatic 0 :: os) ls (.ref b :: st) M L = (kd b = 0 ∧ wp J K C Q os ls (.ref 30 :: st) M L) := rfl
theorem w_g1 {b : Nat} : wp J K C Q (.getfield 1 :: os) ls (.ref b :: st) M L = (kd b = 0 ∧ wp J K C Q os ls (.int (M b 1) :: st) M L) := rfl
theorem w_p1 {b : Nat} {v : Int32} : wp J K C Q (.putfield 1 :: os) ls (.int v :: .ref b :: st) M L = (kd b = 0 ∧ wp J K C Q os ls (st) (um M b 1 v) L) := rfl
theorem w_g2 {b : Nat} : wp J K C Q (.getfield 2 :: os) ls (.ref b :: st) M L = (kd b = 0 ∧ wp J K C Q os ls (.int (M b 2) :: st) M L) := rfl
theorem w_p2 {b : Nat} {v : Int32} : wp J K C Q (.putfield 2 :: os) ls (.int v :: .ref b :: st) M L = (kd b = 0 ∧ wp J K C Q os ls (st) (um M b 2 v) L) := rfl
theorem w_g32 {b : Nat} : wp J K C Q (.getstatic 32 :: os) ls (.ref b :: st) M L = (kd b = 1 ∧ wp J K C Q os ls (.ref 231 :: st) M L) := rfl
theorem w_g33 {b : Nat} : wp J K C Q (.getfield 33 :: os) ls (.ref b :: st) M L = (kd b = 1 ∧ wp J K C Q os ls (.int (M b 1) :: st) M L) := rfl
theorem w_p33 {b : Nat} {v : Int32} : wp J K C Q (.putfield 33 :: os) ls (.int v :: .ref b :: st) M L = (kd b = 1 ∧ wp J K C Q os ls (st) (um M b 1 v) L) := rfl
theorem w_g34 {b : Nat} : wp J K C Q (.getfield 34 :: os) ls (.ref b :: st) M L = (kd b = 1 ∧ wp J K C Q os ls (.int (M b 2) :: st) M L) := rfl
theorem w_p34 {b : Nat} {v : Int32} : wp J K C Q (.putfield 34 :: os) ls (.int v :: .ref b :: st) M L = (kd b = 1 ∧ wp J K C Q os ls (st) (um M b 2 v) L) := rfl
theorem w_g35 {b : Nat} : wp J K C Q (.getfield 35 :: os) ls (.ref b :: st) M L = (kd b = 1 ∧ wp J K C Q os ls (.int (M b 3) :: st) M L) := rfl
theorem w_p35 {b : Nat} {v : Int32} : wp J K C Q (.putfield 35 :: os) ls (.int v :: .ref b :: st) M L = (kd b = 1 ∧ wp J K C Q os ls (st) (um M b 3 v) L) := rfl
theorem w_g36 {b : Nat} : wp J K C Q (.getfield 36 :: os) ls (.ref b :: st) M L = (kd b = 1 ∧ wp J K C Q os ls (.int (M b 4) :: st) M L) := rfl
theorem w_p36 {b : Nat} {v : Int32} : wp J K C Q (.putfield 36 :: os) ls (.int v :: .ref b :: st) M L = (kd b = 1 ∧ wp J K C Q os ls (st) (um M b 4 v) L) := rfl
theorem w_g37 {b : Nat} : wp J K C Q (.getfield 37 :: os) ls (.ref b :: st) M L = (kd b = 1 ∧ wp J K C Q os ls (.int (M b 5) :: st) M L) := rfl
theorem w_p37 {b : Nat} {v : Int32} : wp J K C Q (.putfield 37 :: os) ls (.int v :: .ref b :: st) M L = (kd b = 1 ∧ wp J K C Q os ls (st) (um M b 5 v) L) := rfl
theorem w_g64 {b : Nat} : wp J K C Q (.getfield 64 :: os) ls (.ref b :: st) M L = (kd b = 2 ∧ wp J K C Q os ls (.int (M b 0) :: st) M L) := rfl
theorem w_p64 {b : Nat} {v : Int32} : wp J K C Q (.putfield 64 :: os) ls (.int v :: .ref b :: st) M L = (kd b = 2 ∧ wp J K C Q os ls (st) (um M b 0 v) L) := rfl
theorem w_g65 {b : Nat} : wp J K C Q (.getfield 65 :: os) ls (.ref b :: st) M L = (kd b = 2 ∧ wp J K C Q os ls (.int (M b 1) :: st) M L) := rfl
theorem w_p65 {b : Nat} {v : Int32} : wp J K C Q (.putfield 65 :: os) ls (.int v :: .ref b :: st) M L = (kd b = 2 ∧ wp J K C Q os ls (st) (um M b 1 v) L) := rfl
theorem w_g66 {b : Nat} : wp J K C Q (.getfield 66 :: os) ls (.ref b :: st) M L = (kd b = 2 ∧ wp J K C Q os ls (.int (M b 2) :: st) M L) := rfl
theorem w_p66 {b : Nat} {v : Int32} : wp J K C Q (.putfield 66 :: os) ls (.int v :: .ref b :: st) M L = (kd b = 2 ∧ wp J K C Q os ls (st) (um M b 2 v) L) := rfl
theorem w_g67 {b : Nat} : wp J K C Q (.getfield 67 :: os) ls (.ref b :: st) M L = (kd b = 2 ∧ wp J K C Q os ls (.int (M b 3) :: st) M L) := rfl
theorem w_p67 {b : Nat} {v : Int32} : wp J K C Q (.putfield 67 :: os) ls (.int v :: .ref b :: st) M L = (kd b = 2 ∧ wp J K C Q os ls (st) (um M b 3 v) L) := rfl
theorem w_g68 {b : Nat} : wp J K C Q (.getfield 68 :: os) ls (.ref b :: st) M L = (kd b = 2 ∧ wp J K C Q os ls (.int (M b 4) :: st) M L) := rfl
theorem w_p68 {b : Nat} {v : Int32} : wp J K C Q (.new 68 :: os) ls (.int v :: .ref b :: st) M L = (kd b = 2 ∧ (v = 0 ∨ v = 1) ∧ wp J K C Q os ls (st) (um M b 4 v) L) := rfl
theorem w_g69 {b : Nat} : wp J K C Q (.getfield 69 :: os) ls (.ref b :: st) M L = (kd b = 2 ∧ wp J K C Q os ls (.int (M b 5) :: st) M L) := rfl
theorem w_p69 {b : Nat} {v : Int32} : wp J K C Q (.putfield 69 :: os) ls (.int v :: .ref b :: st) M L = (kd b = 2 ∧ wp J K C Q os ls (st) (um M b 5 v) L) := rfl
theorem w_g70 {b : Nat} : wp J K C Q (.getstatic 70 :: os) ls (.ref b :: st) M L = (kd b = 2 ∧ wp J K C Q os ls (.ref (b + 1) :: st) M L) := rfl
theorem w_g71 {b : Nat} : wp J K C Q (.getstatic 71 :: os) ls (.ref b :: st) M L = (kd b = 2 ∧ wp J K C Q os ls (.ref (b + 2) :: st) M L) := rfl
theorem w_g72 {b : Nat} : wp J K C Q (.getstatic 72 :: os) ls (.ref b :: st) M L = (kd b = 2 ∧ wp J K C Q os ls (.ref (b + 3) :: st) M L) := rfl
theorem w_g73 {b : Nat} : wp J K C Q (.getstatic 73 :: os) ls (.ref b :: st) M L = (kd b = 2 ∧ wp J K C Q os ls (.ref (b + 4) :: st) M L) := rfl
theorem w_g74 {b : Nat} : wp J K C Q (.getstatic 74 :: os) ls (.ref b :: st) M L = (kd b = 2 ∧ wp J K C Q os ls (.ref (b + 5) :: st) M L) := rfl
theorem w_g75 {b : Nat} : wp J K C Q (.getstatic 75 :: os) ls (.ref b :: st) M L = (kd b = 2 ∧ wp J K C Q os ls (.ref (b + 6) :: st) M L) := rfl
theorem w_g96 {b : Nat} : wp J K C Q (.getstatic 96 :: os) ls (.ref b :: st) M L = (kd b = 3 ∧ wp J K C Q os ls (.ref 2 :: st) M L) := rfl
theorem w_g97 {b : Nat} : wp J K C Q (.getstatic 97 :: os) ls (.ref b :: st) M L = (kd b = 3 ∧ wp J K C Q os ls (.ref 11 :: st) M L) := rfl
theorem w_g98 {b : Nat} : wp J K C Q (.getstatic 98 :: os) ls (.ref b :: st) M L = (kd b = 3 ∧ wp J K C Q os ls (.ref 12 :: st) M L) := rfl
theorem w_g128 {b : Nat} : wp J K C Q (.getstatic 128 :: os) ls (.ref b :: st) M L = (kd b = 4 ∧ wp J K C Q os ls (.ref 215 :: st) M L) := rfl
theorem w_g129 {b : Nat} : wp J K C Q (.getstatic 129 :: os) ls (.ref b :: st) M L = (kd b = 4 ∧ wp J K C Q os ls (.ref 222 :: st) M L) := rfl
theorem w_g130 {b : Nat} : wp J K C Q (.getstatic 130 :: os) ls (.ref b :: st) M L = (kd b = 4 ∧ wp J K C Q os ls (.ref 229 :: st) M L) := rfl
theorem w_g131 {b : Nat} : wp J K C Q (.getfield 131 :: os) ls (.ref b :: st) M L = (kd b = 4 ∧ wp J K C Q os ls (.int (M b 3) :: st) M L) := rfl
theorem w_p131 {b : Nat} {v : Int32} : wp J K C Q (.putfield 131 :: os) ls (.int v :: .ref b :: st) M L = (kd b = 4 ∧ wp J K C Q os ls (st) (um M b 3 v) L) := rfl
theorem w_g132 {b : Nat} : wp J K C Q (.getfield 132 :: os) ls (.ref b :: st) M L = (kd b = 4 ∧ wp J K C Q os ls (.int (M b 4) :: st) M L) := rfl
theorem w_p132 {b : Nat} {v : Int32} : wp J K C Q (.putfield 132 :: os) ls (.int v :: .ref b :: st) M L = (kd b = 4 ∧ wp J K C Q os ls (st) (um M b 4 v) L) := rfl
theorem w_g133 {b : Nat} : wp J K C Q (.getfield 133 :: os) ls (.ref b :: st) M L = (kd b = 4 ∧ wp J K C Q os ls (.int (M b 5) :: st) M L) := rfl
theorem w_p133 {b : Nat} {v : Int32} : wp J K C Q (.putfield 133 :: os) ls (.int v :: .ref b :: st) M L = (kd b = 4 ∧ wp J K C Q os ls (st) (um M b 5 v) L) := rfl
theorem w_g134 {b : Nat} : wp J K C Q (.getfield 134 :: os) ls (.ref b :: st) M L = (kd b = 4 ∧ wp J K C Q os ls (.int (M b 6) :: st) M L) := rfl
theorem w_p134 {b : Nat} {v : Int32} : wp J K C Q (.putfield 134 :: os) ls (.int v :: .ref b :: st) M L = (kd b = 4 ∧ wp J K C Q os ls (st) (um M b 6 v) L) := rfl
theorem w_g135 {b : Nat} : wp J K C Q (.getfield 135 :: os) ls (.ref b :: st) M L = (kd b = 4 ∧ wp J K C Q os ls (.int (M b 7) :: st) M L) := rfl
theorem w_p135 {b : Nat} {v : Int32} : wp J K C Q (.putfield 135 :: os) ls (.int v :: .ref b :: st) M L = (kd b = 4 ∧ wp J K C Q os ls (st) (um M b 7 v) L) := rfl
theorem w_g136 {b : Nat} : wp J K C Q (.instanceof 8 :: os) ls (.ref b :: st) M L = (kd b = 4 ∧ wp J K C Q os ls (.long (L 8) :: st) M L) := rfl
theorem w_p136 {b : Nat} {v : Int64} : wp J K C Q (.putstatic 8 :: os) ls (.long v :: .ref b :: st) M L = (kd b = 4 ∧ wp J K C Q os ls (st) M (ul L 8 v)) := rfl
theorem w_g137 {b : Nat} : wp J K C Q (.instanceof 9 :: os) ls (.ref b :: st) M L = (kd b = 4 ∧ wp J K C Q os ls (.long (L 9) :: st) M L) := rfl
theorem w_p137 {b : Nat} {v : Int64} : wp J K C Q (.putstatic 9 :: os) ls (.long v :: .ref b :: st) M L = (kd b = 4 ∧ wp J K C Q os ls (st) M (ul L 9 v)) := rfl
theorem w_g160 {b : Nat} : wp J K C Q (.getstatic 160 :: os) ls (.ref b :: st) M L = (kd b = 5 ∧ wp J K C Q os ls (.ref 14 :: st) M L) := rfl
theorem w_g161 {b : Nat} : wp J K C Q (.getfield 161 :: os) ls (.ref b :: st) M L = (kd b = 5 ∧ wp J K C Q os ls (.int (M b 1) :: st) M L) := rfl
theorem w_p161 {b : Nat} {v : Int32} : wp J K C Q (.putfield 161 :: os) ls (.int v :: .ref b :: st) M L = (kd b = 5 ∧ wp J K C Q os ls (st) (um M b 1 v) L) := rfl
theorem w_g162 {b : Nat} : wp J K C Q (.getfield 162 :: os) ls (.ref b :: st) M L = (kd b = 5 ∧ wp J K C Q os ls (.int (M b 2) :: st) M L) := rfl
theorem w_p162 {b : Nat} {v : Int32} : wp J K C Q (.putfield 162 :: os) ls (.int v :: .ref b :: st) M L = (kd b = 5 ∧ wp J K C Q os ls (st) (um M b 2 v) L) := rfl
theorem w_g163 {b : Nat} : wp J K C Q (.getfield 163 :: os) ls (.ref b :: st) M L = (kd b = 5 ∧ wp J K C Q os ls (.int (M b 3) :: st) M L) := rfl
theorem w_p163 {b : Nat} {v : Int32} : wp J K C Q (.putfield 163 :: os) ls (.int v :: .ref b :: st) M L = (kd b = 5 ∧ wp J K C Q os ls (st) (um M b 3 v) L) := rfl
theorem w_g192 {b : Nat} : wp J K C Q (.getstatic 192 :: os) ls (.ref b :: st) M L = (kd b = 6 ∧ wp J K C Q os ls (.ref 1 :: st) M L) := rfl
theorem w_g193 {b : Nat} : wp J K C Q (.getstatic 193 :: os) ls (.ref b :: st) M L = (kd b = 6 ∧ wp J K C Q os ls (.ref 13 :: st) M L) := rfl
theorem w_g194 {b : Nat} : wp J K C Q (.getstatic 194 :: os) ls (.ref b :: st) M L = (kd b = 6 ∧ wp J K C Q os ls (.ref 15 :: st) M L) := rfl
theorem w_g195 {b : Nat} : wp J K C Q (.getstatic 195 :: os) ls (.ref b :: st) M L = (kd b = 6 ∧ wp J K C Q os ls (.ref 22 :: st) M L) := rfl
theorem w_g196 {b : Nat} : wp J K C Q (.getstatic 196 :: os) ls (.ref b :: st) M L = (kd b = 6 ∧ wp J K C Q os ls (.ref 29 :: st) M L) := rfl
theorem w_g197 {b : Nat} : wp J K C Q (.getstatic 197 :: os) ls (.ref b :: st) M L = (kd b = 6 ∧ wp J K C Q os ls (.ref 199 :: st) M L) := rfl
theorem w_g198 {b : Nat} : wp J K C Q (.getstatic 198 :: os) ls (.ref b :: st) M L = (kd b = 6 ∧ wp J K C Q os ls (.ref 214 :: st) M L) := rfl
theorem w_g199 {b : Nat} : wp J K C Q (.getstatic 199 :: os) ls (.ref b :: st) M L = (kd b = 6 ∧ wp J K C Q os ls (.ref 230 :: st) M L) := rfl
theorem w_g200 {b : Nat} : wp J K C Q (.getfield 200 :: os) ls (.ref b :: st) M L = (kd b = 6 ∧ wp J K C Q os ls (.int (M b 8) :: st) M L) := rfl
theorem w_p200 {b : Nat} {v : Int32} : wp J K C Q (.putfield 200 :: os) ls (.int v :: .ref b :: st) M L = (kd b = 6 ∧ wp J K C Q os ls (st) (um M b 8 v) L) := rfl
theorem w_g201 {b : Nat} : wp J K C Q (.getfield 201 :: os) ls (.ref b :: st) M L = (kd b = 6 ∧ wp J K C Q os ls (.int (M b 9) :: st) M L) := rfl
theorem w_p201 {b : Nat} {v : Int32} : wp J K C Q (.putfield 201 :: os) ls (.int v :: .ref b :: st) M L = (kd b = 6 ∧ wp J K C Q os ls (st) (um M b 9 v) L) := rfl
theorem w_g224 {b : Nat} : wp J K C Q (.getstatic 224 :: os) ls (.ref b :: st) M L = (kd b = 7 ∧ wp J K C Q os ls (.ref 233 :: st) M L) := rfl
theorem w_g225 {b : Nat} : wp J K C Q (.getstatic 225 :: os) ls (.ref b :: st) M L = (kd b = 7 ∧ wp J K C Q os ls (.ref 234 :: st) M L) := rfl
theorem w_g226 {b : Nat} : wp J K C Q (.getstatic 226 :: os) ls (.ref b :: st) M L = (kd b = 7 ∧ wp J K C Q os ls (.ref 235 :: st) M L) := rfl
theorem w_g227 {b : Nat} : wp J K C Q (.getfield 227 :: os) ls (.ref b :: st) M L = (kd b = 7 ∧ wp J K C Q os ls (.int (M b 3) :: st) M L) := rfl
theorem w_p227 {b : Nat} {v : Int32} : wp J K C Q (.putfield 227 :: os) ls (.int v :: .ref b :: st) M L = (kd b = 7 ∧ wp J K C Q os ls (st) (um M b 3 v) L) := rfl
theorem w_g228 {b : Nat} : wp J K C Q (.getstatic 228 :: os) ls (.ref b :: st) M L = (kd b = 7 ∧ wp J K C Q os ls (.ref 236 :: st) M L) := rfl
theorem w_g229 {b : Nat} : wp J K C Q (.getfield 229 :: os) ls (.ref b :: st) M L = (kd b = 7 ∧ wp J K C Q os ls (.int (M b 5) :: st) M L) := rfl
theorem w_p229 {b : Nat} {v : Int32} : wp J K C Q (.new 229 :: os) ls (.int v :: .ref b :: st) M L = (kd b = 7 ∧ (v = 0 ∨ v = 1) ∧ wp J K C Q os ls (st) (um M b 5 v) L) := rfl
theorem w_g230 {b : Nat} : wp J K C Q (.getstatic 230 :: os) ls (.ref b :: st) M L = (kd b = 7 ∧ wp J K C Q os ls (.ref 237 :: st) M L) := rfl
theorem w_g231 {b : Nat} : wp J K C Q (.getstatic 231 :: os) ls (.ref b :: st) M L = (kd b = 7 ∧ wp J K C Q os ls (.ref 238 :: st) M L) := rfl
theorem w_g232 {b : Nat} : wp J K C Q (.getstatic 232 :: os) ls (.ref b :: st) M L = (kd b = 7 ∧ wp J K C Q os ls (.ref 239 :: st) M L) := rfl
theorem w_g233 {b : Nat} : wp J K C Q (.getfield 233 :: os) ls (.ref b :: st) M L = (kd b = 7 ∧ wp J K C Q os ls (.int (M b 9) :: st) M L) := rfl
theorem w_p233 {b : Nat} {v : Int32} : wp J K C Q (.putfield 233 :: os) ls (.int v :: .ref b :: st) M L = (kd b = 7 ∧ wp J K C Q os ls (st) (um M b 9 v) L) := rfl
theorem w_g234 {b : Nat} : wp J K C Q (.getstatic 234 :: os) ls (.ref b :: st) M L = (kd b = 7 ∧ wp J K C Q os ls (.ref 240 :: st) M L) := rfl
theorem w_g235 {b : Nat} : wp J K C Q (.getstatic 235 :: os) ls (.ref b :: st) M L = (kd b = 7 ∧ wp J K C Q os ls (.ref 241 :: st) M L) := rfl
theorem w_g236 {b : Nat} : wp J K C Q (.getstatic 236 :: os) ls (.ref b :: st) M L = (kd b = 7 ∧ wp J K C Q os ls (.ref 242 :: st) M L) := rfl
theorem w_g237 {b : Nat} : wp J K C Q (.getstatic 237 :: os) ls (.ref b :: st) M L = (kd b = 7 ∧ wp J K C Q os ls (.ref 243 :: st) M L) := rfl
theorem w_g238 {b : Nat} : wp J K C Q (.getfield 238 :: os) ls (.ref b :: st) M L = (kd b = 7 ∧ wp J K C Q os ls (.int (M b 14) :: st) M L) := rfl
theorem w_p238 {b : Nat} {v : Int32} : wp J K C Q (.putfield 238 :: os) ls (.int v :: .ref b :: st) M L = (kd b = 7 ∧ wp J K C Q os ls (st) (um M b 14 v) L) := rfl
theorem w_g239 {b : Nat} : wp J K C Q (.getfield 239 :: os) ls (.ref b :: st) M L = (kd b = 7 ∧ wp J K C Q os ls (.int (M b 15) :: st) M L) := rfl
theorem w_p239 {b : Nat} {v : Int32} : wp J K C Q (.putfield 239 :: os) ls (.int v :: .ref b :: st) M L = (kd b = 7 ∧ wp J K C Q os ls (st) (um M b 15 v) L) := rfl
theorem w_g240 {b : Nat} : wp J K C Q (.getfield 240 :: os) ls (.ref b :: st) M L = (kd b = 7 ∧ wp J K C Q os ls (.int (M b 16) :: st) M L) := rfl
theorem w_p240 {b : Nat} {v : Int32} : wp J K C Q (.putfield 240 :: os) ls (.int v :: .ref b :: st) M L = (kd b = 7 ∧ wp J K C Q os ls (st) (um M b 16 v) L) := rfl
theorem w_g241 {b : Nat} : wp J K C Q (.getfield 241 :: os) ls (.ref b :: st) M L = (kd b = 7 ∧ wp J K C Q os ls (.int (M b 17) :: st) M L) := rfl
theorem w_p241 {b : Nat} {v : Int32} : wp J K C Q (.putfield 241 :: os) ls (.int v :: .ref b :: st) M L = (kd b = 7 ∧ wp J K C Q os ls (st) (um M b 17 v) L) := rfl
theorem w_g242 {b : Nat} : wp J K C Q (.getfield 242 :: os) ls (.ref b :: st) M L = (kd b = 7 ∧ wp J K C Q os ls (.int (M b 18) :: st) M L) := rfl
theorem w_p242 {b : Nat} {v : Int32} : wp J K C Q (.putfield 242 :: os) ls (.int v :: .ref b :: st) M L = (kd b = 7 ∧ wp J K C Q os ls (st) (um M b 18 v) L) := rfl
theorem w_g243 {b : Nat} : wp J K C Q (.getfield 243 :: os) ls (.ref b :: st) M L = (kd b = 7 ∧ wp J K C Q os ls (.int (M b 19) :: st) M L) := rfl
theorem w_p243 {b : Nat} {v : Int32} : wp J K C Q (.putfield 243 :: os) ls (.int v :: .ref b :: st) M L = (kd b = 7 ∧ wp J K C Q os ls (st) (um M b 19 v) L) := rfl
theorem w_g244 {b : Nat} : wp J K C Q (.getfield 244 :: os) ls (.ref b :: st) M L = (kd b = 7 ∧ wp J K C Q os ls (.int (M b 20) :: st) M L) := rfl
theorem w_p244 {b : Nat} {v : Int32} : wp J K C Q (.putfield 244 :: os) ls (.int v :: .ref b :: st) M L = (kd b = 7 ∧ wp J K C Q os ls (st) (um M b 20 v) L) := rfl
theorem w_g245 {b : Nat} : wp J K C Q (.getstatic 245 :: os) ls (.ref b :: st) M L = (kd b = 7 ∧ wp J K C Q os ls (.ref 244 :: st) M L) := rfl
theorem w_g246 {b : Nat} : wp J K C Q (.getstatic 246 :: os) ls (.ref b :: st) M L = (kd b = 7 ∧ wp J K C Q os ls (.ref 245 :: st) M L) := rfl
theorem w_g247 {b : Nat} : wp J K C Q (.getfield 247 :: os) ls (.ref b :: st) M L = (kd b = 7 ∧ wp J K C Q os ls (.int (M b 23) :: st) M L) := rfl
theorem w_p247 {b : Nat} {v : Int32} : wp J K C Q (.putfield 247 :: os) ls (.int v :: .ref b :: st) M L = (kd b = 7 ∧ wp J K C Q os ls (st) (um M b 23 v) L) := rfl
theorem w_iald {i : Int32} {b : Nat} : wp J K C Q (.iaload :: os) ls (.int i :: .ref b :: st) M L = (kd b = 9 ∧ ∃ j, i = nI j ∧ j < ln b ∧ wp J K C Q os ls (.int (M b j) :: st) M L) := rfl
theorem w_bald {i : Int32} {b : Nat} : wp J K C Q (.baload :: os) ls (.int i :: .ref b :: st) M L = (kd b = 8 ∧ ∃ j, i = nI j ∧ j < ln b ∧ wp J K C Q os ls (.int (M b j) :: st) M L) := rfl
theorem w_zald {i : Int32} {b : Nat} : wp J K C Q (.caload :: os) ls (.int i :: .ref b :: st) M L = (kd b = 10 ∧ ∃ j, i = nI j ∧ j < ln b ∧ wp J K C Q os ls (.int (M b j) :: st) M L) := rfl
theorem w_aald {i : Int32} {b : Nat} : wp J K C Q (.aaload :: os) ls (.int i :: .ref b :: st) M L = ((kd b = 11 ∨ kd b = 12) ∧ ∃ j, i = nI j ∧ j < ln b ∧ wp J K C Q os ls (.ref (rfa b j) :: st) M L) := rfl
theorem w_iast {v i : Int32} {b : Nat} : wp J K C Q (.iastore :: os) ls (.int v :: .int i :: .ref b :: st) M L = (kd b = 9 ∧ ∃ j, i = nI j ∧ j < ln b ∧ wp J K C Q os ls (st) (um M b j v) L) := rfl
theorem w_bast {v i : Int32} {b : Nat} : wp J K C Q (.bastore :: os) ls (.int v :: .int i :: .ref b :: st) M L = (kd b = 8 ∧ ∃ j, i = nI j ∧ j < ln b ∧ wp J K C Q os ls (st) (um M b j v.toInt8.toInt32) L) := rfl
theorem w_zast {v i : Int32} {b : Nat} : wp J K C Q (.castore :: os) ls (.int v :: .int i :: .ref b :: st) M L = (kd b = 10 ∧ (v = 0 ∨ v = 1) ∧ ∃ j, i = nI j ∧ j < ln b ∧ wp J K C Q os ls (st) (um M b j v) L) := rfl
theorem w_sald {i : Int32} {b : Nat} : wp J K C Q (.saload :: os) ls (.int i :: .ref b :: st) M L = (b = 1000 ∧ ∃ j, i = nI j ∧ (j : Int) < (M 1000 0).toInt ∧ wp J K C Q os ls (.int (M 1000 (j + 1)) :: st) M L) := rfl
theorem w_slen {b : Nat} : wp J K C Q (.arraylength :: os) ls (.ref b :: st) M L = (b = 1000 ∧ wp J K C Q os ls (.int (M 1000 0) :: st) M L) := rfl
theorem w_cpy {z a b : Nat} {n dp sp : Int32} : wp J K C Q (.checkcast z :: os) ls ([.int n, .int dp, .ref b, .int sp, .ref a]) M L = (kd a = 9 ∧ kd b = 9 ∧ ∃ i j m, sp = nI i ∧ dp = nI j ∧ n = nI m ∧ i + m ≤ ln a ∧ j + m ≤ ln b ∧ wp J K C Q os ls ([]) (uc M a i b j m) L) := rfl
theorem w_mmax {x y : Int32} : wp J K C Q (.dmul :: os) ls ([.int y, .int x]) M L = wp J K C Q os ls ([.int (if x < y then y else x)]) M L := rfl
theorem w_mmin {x y : Int32} : wp J K C Q (.ddiv :: os) ls ([.int y, .int x]) M L = wp J K C Q os ls ([.int (if y < x then y else x)]) M L := rfl
theorem w_ireturn {v : Int32} : wp J K C Q (.ireturn :: os) ls ([.int v]) M L = Q (some (.int v)) M L := rfl
theorem w_zreturn {v : Int32} : wp J K C Q (.freturn :: os) ls ([.int v]) M L = ((v = 0 ∨ v = 1) ∧ Q (some (.int v)) M L) := rfl
theorem w_lreturn {v : Int64} : wp J K C Q (.lreturn :: os) ls ([.long v]) M L = Q (some (.long v)) M L := rfl
theorem w_areturn {v : Nat} : wp J K C Q (.areturn :: os) ls ([.ref v]) M L = Q (some (.ref v)) M L := rfl
theorem w_vreturn : wp J K C Q (.return_ :: os) ls ([]) M L = Q none M L := rfl
theorem wc_X0_size {b0 : Nat} : wp J K C Q (.invokeinterface 0 1 :: os) ls (.ref b0 :: st) M L = (kd b0 = 0 ∧ sc st ≤ 8 ∧ C 0 [.ref b0] M L (fun r M' L' => wp J K C Q os ls (r.toList ++ st) M' L')) :=
  propext ⟨fun h => ⟨h.2.1, h.2.2.1, h.2.2.2⟩, fun h => ⟨rfl, h.1, h.2.1, h.2.2⟩⟩
theorem wc_X0_forget {b0 : Nat} : wp J K C Q (.invokeinterface 1 1 :: os) ls (.ref b0 :: st) M L = (kd b0 = 0 ∧ sc st ≤ 8 ∧ C 1 [.ref b0] M L (fun r M' L' => wp J K C Q os ls (r.toList ++ st) M' L')) :=
  propext ⟨fun h => ⟨h.2.1, h.2.2.1, h.2.2.2⟩, fun h => ⟨rfl, h.1, h.2.1, h.2.2⟩⟩
theorem wc_X0_keep {b0 : Nat} {b1 : Nat} : wp J K C Q (.invokeinterface 2 2 :: os) ls (.ref b1 :: .ref b0 :: st) M L = (kd b0 = 0 ∧ sc st ≤ 8 ∧ C 2 [.ref b0, .ref b1] M L (fun r M' L' => wp J K C Q os ls (r.toList ++ st) M' L')) :=
  propext ⟨fun h => ⟨h.2.1, h.2.2.1, h.2.2.2⟩, fun h => ⟨rfl, h.1, h.2.1, h.2.2⟩⟩
theorem wc_X0_takeBack {b0 : Nat} {b1 : Nat} : wp J K C Q (.invokeinterface 3 2 :: os) ls (.ref b1 :: .ref b0 :: st) M L = (kd b0 = 0 ∧ sc st ≤ 8 ∧ C 3 [.ref b0, .ref b1] M L (fun r M' L' => wp J K C Q os ls (r.toList ++ st) M' L')) :=
  propext ⟨fun h => ⟨h.2.1, h.2.2.1, h.2.2.2⟩, fun h => ⟨rfl, h.1, h.2.1, h.2.2⟩⟩
theorem wc_X1_begin {b0 : Nat} {b1 : Int32} {b2 : Int32} {b3 : Int32} {b4 : Int32} : wp J K C Q (.invokeinterface 4 21 :: os) ls (.int b4 :: .int b3 :: .int b2 :: .int b1 :: .ref b0 :: st) M L = (kd b0 = 1 ∧ sc st ≤ 8 ∧ C 4 [.ref b0, .int b1, .int b2, .int b3, .int b4] M L (fun r M' L' => wp J K C Q os ls (r.toList ++ st) M' L')) :=
  propext ⟨fun h => ⟨h.2.1, h.2.2.1, h.2.2.2⟩, fun h => ⟨rfl, h.1, h.2.1, h.2.2⟩⟩
theorem wc_X1_left {b0 : Nat} {b1 : Int32} : wp J K C Q (.invokeinterface 5 18 :: os) ls (.int b1 :: .ref b0 :: st) M L = (kd b0 = 1 ∧ sc st ≤ 8 ∧ C 5 [.ref b0, .int b1] M L (fun r M' L' => wp J K C Q os ls (r.toList ++ st) M' L')) :=
  propext ⟨fun h => ⟨h.2.1, h.2.2.1, h.2.2.2⟩, fun h => ⟨rfl, h.1, h.2.1, h.2.2⟩⟩
theorem wc_X1_leave {b0 : Nat} {b1 : Int32} : wp J K C Q (.invokeinterface 6 18 :: os) ls (.int b1 :: .ref b0 :: st) M L = (kd b0 = 1 ∧ sc st ≤ 8 ∧ C 6 [.ref b0, .int b1] M L (fun r M' L' => wp J K C Q os ls (r.toList ++ st) M' L')) :=
  propext ⟨fun h => ⟨h.2.1, h.2.2.1, h.2.2.2⟩, fun h => ⟨rfl, h.1, h.2.1, h.2.2⟩⟩
theorem wc_X1_sizeGiven {b0 : Nat} : wp J K C Q (.invokeinterface 7 17 :: os) ls (.ref b0 :: st) M L = (kd b0 = 1 ∧ sc st ≤ 8 ∧ C 7 [.ref b0] M L (fun r M' L' => wp J K C Q os ls (r.toList ++ st) M' L')) :=
  propext ⟨fun h => ⟨h.2.1, h.2.2.1, h.2.2.2⟩, fun h => ⟨rfl, h.1, h.2.1, h.2.2⟩⟩
theorem wc_X1_markGiven {b0 : Nat} : wp J K C Q (.invokeinterface 8 17 :: os) ls (.ref b0 :: st) M L = (kd b0 = 1 ∧ sc st ≤ 8 ∧ C 8 [.ref b0] M L (fun r M' L' => wp J K C Q os ls (r.toList ++ st) M' L')) :=
  propext ⟨fun h => ⟨h.2.1, h.2.2.1, h.2.2.2⟩, fun h => ⟨rfl, h.1, h.2.1, h.2.2⟩⟩
theorem wc_X1_sizeOfRover {b0 : Nat} : wp J K C Q (.invokeinterface 9 17 :: os) ls (.ref b0 :: st) M L = (kd b0 = 1 ∧ sc st ≤ 8 ∧ C 9 [.ref b0] M L (fun r M' L' => wp J K C Q os ls (r.toList ++ st) M' L')) :=
  propext ⟨fun h => ⟨h.2.1, h.2.2.1, h.2.2.2⟩, fun h => ⟨rfl, h.1, h.2.1, h.2.2⟩⟩
theorem wc_X1_sizeOfShy {b0 : Nat} : wp J K C Q (.invokeinterface 10 17 :: os) ls (.ref b0 :: st) M L = (kd b0 = 1 ∧ sc st ≤ 8 ∧ C 10 [.ref b0] M L (fun r M' L' => wp J K C Q os ls (r.toList ++ st) M' L')) :=
  propext ⟨fun h => ⟨h.2.1, h.2.2.1, h.2.2.2⟩, fun h => ⟨rfl, h.1, h.2.1, h.2.2⟩⟩
theorem wc_X1_markOfRover {b0 : Nat} : wp J K C Q (.invokeinterface 11 17 :: os) ls (.ref b0 :: st) M L = (kd b0 = 1 ∧ sc st ≤ 8 ∧ C 11 [.ref b0] M L (fun r M' L' => wp J K C Q os ls (r.toList ++ st) M' L')) :=
  propext ⟨fun h => ⟨h.2.1, h.2.2.1, h.2.2.2⟩, fun h => ⟨rfl, h.1, h.2.1, h.2.2⟩⟩
theorem wc_X1_markOfShy {b0 : Nat} : wp J K C Q (.invokeinterface 12 17 :: os) ls (.ref b0 :: st) M L = (kd b0 = 1 ∧ sc st ≤ 8 ∧ C 12 [.ref b0] M L (fun r M' L' => wp J K C Q os ls (r.toList ++ st) M' L')) :=
  propext ⟨fun h => ⟨h.2.1, h.2.2.1, h.2.2.2⟩, fun h => ⟨rfl, h.1, h.2.1, h.2.2⟩⟩
theorem wc_X2_clear {b0 : Nat} : wp J K C Q (.invokeinterface 13 33 :: os) ls (.ref b0 :: st) M L = (kd b0 = 2 ∧ sc st ≤ 8 ∧ C 13 [.ref b0] M L (fun r M' L' => wp J K C Q os ls (r.toList ++ st) M' L')) :=
  propext ⟨fun h => ⟨h.2.1, h.2.2.1, h.2.2.2⟩, fun h => ⟨rfl, h.1, h.2.1, h.2.2⟩⟩
theorem wc_X2_takeFrom {b0 : Nat} {b1 : Nat} : wp J K C Q (.invokeinterface 14 34 :: os) ls (.ref b1 :: .ref b0 :: st) M L = (kd b0 = 2 ∧ sc st ≤ 8 ∧ C 14 [.ref b0, .ref b1] M L (fun r M' L' => wp J K C Q os ls (r.toList ++ st) M' L')) :=
  propext ⟨fun h => ⟨h.2.1, h.2.2.1, h.2.2.2⟩, fun h => ⟨rfl, h.1, h.2.1, h.2.2⟩⟩
theorem wc_X2_settle {b0 : Nat} : wp J K C Q (.invokeinterface 15 33 :: os) ls (.ref b0 :: st) M L = (kd b0 = 2 ∧ sc st ≤ 8 ∧ C 15 [.ref b0] M L (fun r M' L' => wp J K C Q os ls (r.toList ++ st) M' L')) :=
  propext ⟨fun h => ⟨h.2.1, h.2.2.1, h.2.2.2⟩, fun h => ⟨rfl, h.1, h.2.1, h.2.2⟩⟩
theorem wc_X2_isNone {b0 : Nat} : wp J K C Q (.invokeinterface 16 33 :: os) ls (.ref b0 :: st) M L = (kd b0 = 2 ∧ sc st ≤ 8 ∧ C 16 [.ref b0] M L (fun r M' L' => wp J K C Q os ls (r.toList ++ st) M' L')) :=
  propext ⟨fun h => ⟨h.2.1, h.2.2.1, h.2.2.2⟩, fun h => ⟨rfl, h.1, h.2.1, h.2.2⟩⟩
theorem wc_X2_has {b0 : Nat} {b1 : Int32} : wp J K C Q (.invokeinterface 17 34 :: os) ls (.int b1 :: .ref b0 :: st) M L = (kd b0 = 2 ∧ sc st ≤ 8 ∧ C 17 [.ref b0, .int b1] M L (fun r M' L' => wp J K C Q os ls (r.toList ++ st) M' L')) :=
  propext ⟨fun h => ⟨h.2.1, h.2.2.1, h.2.2.2⟩, fun h => ⟨rfl, h.1, h.2.1, h.2.2⟩⟩
theorem wc_X2_isDead {b0 : Nat} {b1 : Int32} : wp J K C Q (.invokeinterface 18 34 :: os) ls (.int b1 :: .ref b0 :: st) M L = (kd b0 = 2 ∧ sc st ≤ 8 ∧ C 18 [.ref b0, .int b1] M L (fun r M' L' => wp J K C Q os ls (r.toList ++ st) M' L')) :=
  propext ⟨fun h => ⟨h.2.1, h.2.2.1, h.2.2.2⟩, fun h => ⟨rfl, h.1, h.2.1, h.2.2⟩⟩
theorem wc_X2_above {b0 : Nat} {b1 : Int32} : wp J K C Q (.invokeinterface 19 34 :: os) ls (.int b1 :: .ref b0 :: st) M L = (kd b0 = 2 ∧ sc st ≤ 8 ∧ C 19 [.ref b0, .int b1] M L (fun r M' L' => wp J K C Q os ls (r.toList ++ st) M' L')) :=
  propext ⟨fun h => ⟨h.2.1, h.2.2.1, h.2.2.2⟩, fun h => ⟨rfl, h.1, h.2.1, h.2.2⟩⟩
theorem wc_X2_below {b0 : Nat} {b1 : Int32} : wp J K C Q (.invokeinterface 20 34 :: os) ls (.int b1 :: .ref b0 :: st) M L = (kd b0 = 2 ∧ sc st ≤ 8 ∧ C 20 [.ref b0, .int b1] M L (fun r M' L' => wp J K C Q os ls (r.toList ++ st) M' L')) :=
  propext ⟨fun h => ⟨h.2.1, h.2.2.1, h.2.2.2⟩, fun h => ⟨rfl, h.1, h.2.1, h.2.2⟩⟩
theorem wc_X2_bitsOf {b0 : Nat} {b1 : Int32} : wp J K C Q (.invokeinterface 21 34 :: os) ls (.int b1 :: .ref b0 :: st) M L = (kd b0 = 2 ∧ sc st ≤ 8 ∧ C 21 [.ref b0, .int b1] M L (fun r M' L' => wp J K C Q os ls (r.toList ++ st) M' L')) :=
  propext ⟨fun h => ⟨h.2.1, h.2.2.1, h.2.2.2⟩, fun h => ⟨rfl, h.1, h.2.1, h.2.2⟩⟩
theorem wc_X2_howManyDead {b0 : Nat} : wp J K C Q (.invokeinterface 22 33 :: os) ls (.ref b0 :: st) M L = (kd b0 = 2 ∧ sc st ≤ 8 ∧ C 22 [.ref b0] M L (fun r M' L' => wp J K C Q os ls (r.toList ++ st) M' L')) :=
  propext ⟨fun h => ⟨h.2.1, h.2.2.1, h.2.2.2⟩, fun h => ⟨rfl, h.1, h.2.1, h.2.2⟩⟩
theorem wc_X2_lookersAt {b0 : Nat} {b1 : Int32} : wp J K C Q (.invokeinterface 23 34 :: os) ls (.int b1 :: .ref b0 :: st) M L = (kd b0 = 2 ∧ sc st ≤ 8 ∧ C 23 [.ref b0, .int b1] M L (fun r M' L' => wp J K C Q os ls (r.toList ++ st) M' L')) :=
  propext ⟨fun h => ⟨h.2.1, h.2.2.1, h.2.2.2⟩, fun h => ⟨rfl, h.1, h.2.1, h.2.2⟩⟩
theorem wc_X2_allSaw {b0 : Nat} : wp J K C Q (.invokeinterface 24 33 :: os) ls (.ref b0 :: st) M L = (kd b0 = 2 ∧ sc st ≤ 8 ∧ C 24 [.ref b0] M L (fun r M' L' => wp J K C Q os ls (r.toList ++ st) M' L')) :=
  propext ⟨fun h => ⟨h.2.1, h.2.2.1, h.2.2.2⟩, fun h => ⟨rfl, h.1, h.2.1, h.2.2⟩⟩
theorem wc_X2_giveRole {b0 : Nat} {b1 : Int32} : wp J K C Q (.invokeinterface 25 34 :: os) ls (.int b1 :: .ref b0 :: st) M L = (kd b0 = 2 ∧ sc st ≤ 8 ∧ C 25 [.ref b0, .int b1] M L (fun r M' L' => wp J K C Q os ls (r.toList ++ st) M' L')) :=
  propext ⟨fun h => ⟨h.2.1, h.2.2.1, h.2.2.2⟩, fun h => ⟨rfl, h.1, h.2.1, h.2.2⟩⟩
theorem wc_X2_sitUp {b0 : Nat} {b1 : Int32} : wp J K C Q (.invokeinterface 26 34 :: os) ls (.int b1 :: .ref b0 :: st) M L = (kd b0 = 2 ∧ sc st ≤ 8 ∧ C 26 [.ref b0, .int b1] M L (fun r M' L' => wp J K C Q os ls (r.toList ++ st) M' L')) :=
  propext ⟨fun h => ⟨h.2.1, h.2.2.1, h.2.2.2⟩, fun h => ⟨rfl, h.1, h.2.1, h.2.2⟩⟩
theorem wc_X2_isAsleep {b0 : Nat} {b1 : Int32} : wp J K C Q (.invokeinterface 27 34 :: os) ls (.int b1 :: .ref b0 :: st) M L = (kd b0 = 2 ∧ sc st ≤ 8 ∧ C 27 [.ref b0, .int b1] M L (fun r M' L' => wp J K C Q os ls (r.toList ++ st) M' L')) :=
  propext ⟨fun h => ⟨h.2.1, h.2.2.1, h.2.2.2⟩, fun h => ⟨rfl, h.1, h.2.1, h.2.2⟩⟩
theorem wc_X2_passTicks {b0 : Nat} {b1 : Int32} : wp J K C Q (.invokeinterface 28 34 :: os) ls (.int b1 :: .ref b0 :: st) M L = (kd b0 = 2 ∧ sc st ≤ 8 ∧ C 28 [.ref b0, .int b1] M L (fun r M' L' => wp J K C Q os ls (r.toList ++ st) M' L')) :=
  propext ⟨fun h => ⟨h.2.1, h.2.2.1, h.2.2.2⟩, fun h => ⟨rfl, h.1, h.2.1, h.2.2⟩⟩
theorem wc_X2_passTick {b0 : Nat} : wp J K C Q (.invokeinterface 29 33 :: os) ls (.ref b0 :: st) M L = (kd b0 = 2 ∧ sc st ≤ 8 ∧ C 29 [.ref b0] M L (fun r M' L' => wp J K C Q os ls (r.toList ++ st) M' L')) :=
  propext ⟨fun h => ⟨h.2.1, h.2.2.1, h.2.2.2⟩, fun h => ⟨rfl, h.1, h.2.1, h.2.2⟩⟩
theorem wc_X2_nextLook {b0 : Nat} {b1 : Int32} : wp J K C Q (.invokeinterface 30 34 :: os) ls (.int b1 :: .ref b0 :: st) M L = (kd b0 = 2 ∧ sc st ≤ 8 ∧ C 30 [.ref b0, .int b1] M L (fun r M' L' => wp J K C Q os ls (r.toList ++ st) M' L')) :=
  propext ⟨fun h => ⟨h.2.1, h.2.2.1, h.2.2.2⟩, fun h => ⟨rfl, h.1, h.2.1, h.2.2⟩⟩
theorem wc_X2_roveUp {b0 : Nat} {b1 : Int32} : wp J K C Q (.invokeinterface 31 34 :: os) ls (.int b1 :: .ref b0 :: st) M L = (kd b0 = 2 ∧ sc st ≤ 8 ∧ C 31 [.ref b0, .int b1] M L (fun r M' L' => wp J K C Q os ls (r.toList ++ st) M' L')) :=
  propext ⟨fun h => ⟨h.2.1, h.2.2.1, h.2.2.2⟩, fun h => ⟨rfl, h.1, h.2.1, h.2.2⟩⟩
theorem wc_X2_roveDown {b0 : Nat} {b1 : Int32} : wp J K C Q (.invokeinterface 32 34 :: os) ls (.int b1 :: .ref b0 :: st) M L = (kd b0 = 2 ∧ sc st ≤ 8 ∧ C 32 [.ref b0, .int b1] M L (fun r M' L' => wp J K C Q os ls (r.toList ++ st) M' L')) :=
  propext ⟨fun h => ⟨h.2.1, h.2.2.1, h.2.2.2⟩, fun h => ⟨rfl, h.1, h.2.1, h.2.2⟩⟩
theorem wc_X2_nextNotDead {b0 : Nat} {b1 : Int32} : wp J K C Q (.invokeinterface 33 34 :: os) ls (.int b1 :: .ref b0 :: st) M L = (kd b0 = 2 ∧ sc st ≤ 8 ∧ C 33 [.ref b0, .int b1] M L (fun r M' L' => wp J K C Q os ls (r.toList ++ st) M' L')) :=
  propext ⟨fun h => ⟨h.2.1, h.2.2.1, h.2.2.2⟩, fun h => ⟨rfl, h.1, h.2.1, h.2.2⟩⟩
theorem wc_X2_wink {b0 : Nat} : wp J K C Q (.invokeinterface 34 33 :: os) ls (.ref b0 :: st) M L = (kd b0 = 2 ∧ sc st ≤ 8 ∧ C 34 [.ref b0] M L (fun r M' L' => wp J K C Q os ls (r.toList ++ st) M' L')) :=
  propext ⟨fun h => ⟨h.2.1, h.2.2.1, h.2.2.2⟩, fun h => ⟨rfl, h.1, h.2.1, h.2.2⟩⟩
theorem wc_X2_seeWink {b0 : Nat} {b1 : Int32} : wp J K C Q (.invokeinterface 35 34 :: os) ls (.int b1 :: .ref b0 :: st) M L = (kd b0 = 2 ∧ sc st ≤ 8 ∧ C 35 [.ref b0, .int b1] M L (fun r M' L' => wp J K C Q os ls (r.toList ++ st) M' L')) :=
  propext ⟨fun h => ⟨h.2.1, h.2.2.1, h.2.2.2⟩, fun h => ⟨rfl, h.1, h.2.1, h.2.2⟩⟩
theorem wc_X2_fade {b0 : Nat} : wp J K C Q (.invokeinterface 36 33 :: os) ls (.ref b0 :: st) M L = (kd b0 = 2 ∧ sc st ≤ 8 ∧ C 36 [.ref b0] M L (fun r M' L' => wp J K C Q os ls (r.toList ++ st) M' L')) :=
  propext ⟨fun h => ⟨h.2.1, h.2.2.1, h.2.2.2⟩, fun h => ⟨rfl, h.1, h.2.1, h.2.2⟩⟩
theorem wc_X3_make {b0 : Nat} {b1 : Int32} {b2 : Int32} {b3 : Int32} : wp J K C Q (.invokeinterface 37 52 :: os) ls (.int b3 :: .int b2 :: .int b1 :: .ref b0 :: st) M L = (kd b0 = 3 ∧ sc st ≤ 8 ∧ C 37 [.ref b0, .int b1, .int b2, .int b3] M L (fun r M' L' => wp J K C Q os ls (r.toList ++ st) M' L')) :=
  propext ⟨fun h => ⟨h.2.1, h.2.2.1, h.2.2.2⟩, fun h => ⟨rfl, h.1, h.2.1, h.2.2⟩⟩
theorem wc_X3_put {b0 : Nat} {b1 : Int32} {b2 : Int32} {b3 : Int32} : wp J K C Q (.invokeinterface 38 52 :: os) ls (.int b3 :: .int b2 :: .int b1 :: .ref b0 :: st) M L = (kd b0 = 3 ∧ sc st ≤ 8 ∧ C 38 [.ref b0, .int b1, .int b2, .int b3] M L (fun r M' L' => wp J K C Q os ls (r.toList ++ st) M' L')) :=
  propext ⟨fun h => ⟨h.2.1, h.2.2.1, h.2.2.2⟩, fun h => ⟨rfl, h.1, h.2.1, h.2.2⟩⟩
theorem wc_X3_item {b0 : Nat} {b1 : Int32} {b2 : Int32} : wp J K C Q (.invokeinterface 39 51 :: os) ls (.int b2 :: .int b1 :: .ref b0 :: st) M L = (kd b0 = 3 ∧ sc st ≤ 8 ∧ C 39 [.ref b0, .int b1, .int b2] M L (fun r M' L' => wp J K C Q os ls (r.toList ++ st) M' L')) :=
  propext ⟨fun h => ⟨h.2.1, h.2.2.1, h.2.2.2⟩, fun h => ⟨rfl, h.1, h.2.1, h.2.2⟩⟩
theorem wc_X3_move {b0 : Nat} {b1 : Int32} {b2 : Int32} {b3 : Int32} {b4 : Int32} {b5 : Int32} : wp J K C Q (.invokeinterface 40 54 :: os) ls (.int b5 :: .int b4 :: .int b3 :: .int b2 :: .int b1 :: .ref b0 :: st) M L = (kd b0 = 3 ∧ sc st ≤ 8 ∧ C 40 [.ref b0, .int b1, .int b2, .int b3, .int b4, .int b5] M L (fun r M' L' => wp J K C Q os ls (r.toList ++ st) M' L')) :=
  propext ⟨fun h => ⟨h.2.1, h.2.2.1, h.2.2.2⟩, fun h => ⟨rfl, h.1, h.2.1, h.2.2⟩⟩
theorem wc_X3_remove {b0 : Nat} {b1 : Int32} : wp J K C Q (.invokeinterface 41 50 :: os) ls (.int b1 :: .ref b0 :: st) M L = (kd b0 = 3 ∧ sc st ≤ 8 ∧ C 41 [.ref b0, .int b1] M L (fun r M' L' => wp J K C Q os ls (r.toList ++ st) M' L')) :=
  propext ⟨fun h => ⟨h.2.1, h.2.2.1, h.2.2.2⟩, fun h => ⟨rfl, h.1, h.2.1, h.2.2⟩⟩
theorem wc_X3_isMissing {b0 : Nat} {b1 : Int32} : wp J K C Q (.invokeinterface 42 50 :: os) ls (.int b1 :: .ref b0 :: st) M L = (kd b0 = 3 ∧ sc st ≤ 8 ∧ C 42 [.ref b0, .int b1] M L (fun r M' L' => wp J K C Q os ls (r.toList ++ st) M' L')) :=
  propext ⟨fun h => ⟨h.2.1, h.2.2.1, h.2.2.2⟩, fun h => ⟨rfl, h.1, h.2.1, h.2.2⟩⟩
theorem wc_X3_present {b0 : Nat} : wp J K C Q (.invokeinterface 43 49 :: os) ls (.ref b0 :: st) M L = (kd b0 = 3 ∧ sc st ≤ 8 ∧ C 43 [.ref b0] M L (fun r M' L' => wp J K C Q os ls (r.toList ++ st) M' L')) :=
  propext ⟨fun h => ⟨h.2.1, h.2.2.1, h.2.2.2⟩, fun h => ⟨rfl, h.1, h.2.1, h.2.2⟩⟩
theorem wc_X3_hindrance {b0 : Nat} {b1 : Int32} {b2 : Int32} {b3 : Int32} : wp J K C Q (.invokeinterface 44 52 :: os) ls (.int b3 :: .int b2 :: .int b1 :: .ref b0 :: st) M L = (kd b0 = 3 ∧ sc st ≤ 8 ∧ C 44 [.ref b0, .int b1, .int b2, .int b3] M L (fun r M' L' => wp J K C Q os ls (r.toList ++ st) M' L')) :=
  propext ⟨fun h => ⟨h.2.1, h.2.2.1, h.2.2.2⟩, fun h => ⟨rfl, h.1, h.2.1, h.2.2⟩⟩
theorem wc_X3_hindranceOfTwo {b0 : Nat} {b1 : Int32} {b2 : Int32} {b3 : Int32} {b4 : Int32} {b5 : Int32} : wp J K C Q (.invokeinterface 45 54 :: os) ls (.int b5 :: .int b4 :: .int b3 :: .int b2 :: .int b1 :: .ref b0 :: st) M L = (kd b0 = 3 ∧ sc st ≤ 8 ∧ C 45 [.ref b0, .int b1, .int b2, .int b3, .int b4, .int b5] M L (fun r M' L' => wp J K C Q os ls (r.toList ++ st) M' L')) :=
  propext ⟨fun h => ⟨h.2.1, h.2.2.1, h.2.2.2⟩, fun h => ⟨rfl, h.1, h.2.1, h.2.2⟩⟩
theorem wc_X3_isWithin {b0 : Nat} {b1 : Int32} {b2 : Int32} {b3 : Int32} : wp J K C Q (.invokeinterface 46 52 :: os) ls (.int b3 :: .int b2 :: .int b1 :: .ref b0 :: st) M L = (kd b0 = 3 ∧ sc st ≤ 8 ∧ C 46 [.ref b0, .int b1, .int b2, .int b3] M L (fun r M' L' => wp J K C Q os ls (r.toList ++ st) M' L')) :=
  propext ⟨fun h => ⟨h.2.1, h.2.2.1, h.2.2.2⟩, fun h => ⟨rfl, h.1, h.2.1, h.2.2⟩⟩
theorem wc_X4_behind {b0 : Nat} {b1 : Nat} {b2 : Int32} : wp J K C Q (.invokeinterface 47 67 :: os) ls (.int b2 :: .ref b1 :: .ref b0 :: st) M L = (kd b0 = 4 ∧ sc st ≤ 8 ∧ C 47 [.ref b0, .ref b1, .int b2] M L (fun r M' L' => wp J K C Q os ls (r.toList ++ st) M' L')) :=
  propext ⟨fun h => ⟨h.2.1, h.2.2.1, h.2.2.2⟩, fun h => ⟨rfl, h.1, h.2.1, h.2.2⟩⟩
theorem wc_X4_firstSoFarGone {b0 : Nat} {b1 : Nat} {b2 : Int32} {b3 : Int32} : wp J K C Q (.invokeinterface 48 68 :: os) ls (.int b3 :: .int b2 :: .ref b1 :: .ref b0 :: st) M L = (kd b0 = 4 ∧ sc st ≤ 8 ∧ C 48 [.ref b0, .ref b1, .int b2, .int b3] M L (fun r M' L' => wp J K C Q os ls (r.toList ++ st) M' L')) :=
  propext ⟨fun h => ⟨h.2.1, h.2.2.1, h.2.2.2⟩, fun h => ⟨rfl, h.1, h.2.1, h.2.2⟩⟩
theorem wc_X4_firstFound {b0 : Nat} {b1 : Nat} : wp J K C Q (.invokeinterface 49 66 :: os) ls (.ref b1 :: .ref b0 :: st) M L = (kd b0 = 4 ∧ sc st ≤ 8 ∧ C 49 [.ref b0, .ref b1] M L (fun r M' L' => wp J K C Q os ls (r.toList ++ st) M' L')) :=
  propext ⟨fun h => ⟨h.2.1, h.2.2.1, h.2.2.2⟩, fun h => ⟨rfl, h.1, h.2.1, h.2.2⟩⟩
theorem wc_X4_firstMeeting {b0 : Nat} {b1 : Nat} {b2 : Int32} {b3 : Int32} : wp J K C Q (.invokeinterface 50 68 :: os) ls (.int b3 :: .int b2 :: .ref b1 :: .ref b0 :: st) M L = (kd b0 = 4 ∧ sc st ≤ 8 ∧ C 50 [.ref b0, .ref b1, .int b2, .int b3] M L (fun r M' L' => wp J K C Q os ls (r.toList ++ st) M' L')) :=
  propext ⟨fun h => ⟨h.2.1, h.2.2.1, h.2.2.2⟩, fun h => ⟨rfl, h.1, h.2.1, h.2.2⟩⟩
theorem wc_X4_findBestRole {b0 : Nat} {b1 : Nat} {b2 : Int32} : wp J K C Q (.invokeinterface 51 67 :: os) ls (.int b2 :: .ref b1 :: .ref b0 :: st) M L = (kd b0 = 4 ∧ sc st ≤ 8 ∧ C 51 [.ref b0, .ref b1, .int b2] M L (fun r M' L' => wp J K C Q os ls (r.toList ++ st) M' L')) :=
  propext ⟨fun h => ⟨h.2.1, h.2.2.1, h.2.2.2⟩, fun h => ⟨rfl, h.1, h.2.1, h.2.2⟩⟩
theorem wc_X4_beginWithMurderer {b0 : Nat} {b1 : Nat} {b2 : Int32} : wp J K C Q (.invokeinterface 52 67 :: os) ls (.int b2 :: .ref b1 :: .ref b0 :: st) M L = (kd b0 = 4 ∧ sc st ≤ 8 ∧ C 52 [.ref b0, .ref b1, .int b2] M L (fun r M' L' => wp J K C Q os ls (r.toList ++ st) M' L')) :=
  propext ⟨fun h => ⟨h.2.1, h.2.2.1, h.2.2.2⟩, fun h => ⟨rfl, h.1, h.2.1, h.2.2⟩⟩
theorem wc_X4_findBestGlance {b0 : Nat} {b1 : Nat} {b2 : Int32} : wp J K C Q (.invokeinterface 53 67 :: os) ls (.int b2 :: .ref b1 :: .ref b0 :: st) M L = (kd b0 = 4 ∧ sc st ≤ 8 ∧ C 53 [.ref b0, .ref b1, .int b2] M L (fun r M' L' => wp J K C Q os ls (r.toList ++ st) M' L')) :=
  propext ⟨fun h => ⟨h.2.1, h.2.2.1, h.2.2.2⟩, fun h => ⟨rfl, h.1, h.2.1, h.2.2⟩⟩
theorem wc_X4_offer {b0 : Nat} {b1 : Int32} {b2 : Int32} : wp J K C Q (.invokeinterface 54 67 :: os) ls (.int b2 :: .int b1 :: .ref b0 :: st) M L = (kd b0 = 4 ∧ sc st ≤ 8 ∧ C 54 [.ref b0, .int b1, .int b2] M L (fun r M' L' => wp J K C Q os ls (r.toList ++ st) M' L')) :=
  propext ⟨fun h => ⟨h.2.1, h.2.2.1, h.2.2.2⟩, fun h => ⟨rfl, h.1, h.2.1, h.2.2⟩⟩
theorem wc_X4_leastPassingProof {b0 : Nat} {b1 : Nat} {b2 : Int32} : wp J K C Q (.invokeinterface 55 67 :: os) ls (.int b2 :: .ref b1 :: .ref b0 :: st) M L = (kd b0 = 4 ∧ sc st ≤ 8 ∧ C 55 [.ref b0, .ref b1, .int b2] M L (fun r M' L' => wp J K C Q os ls (r.toList ++ st) M' L')) :=
  propext ⟨fun h => ⟨h.2.1, h.2.2.1, h.2.2.2⟩, fun h => ⟨rfl, h.1, h.2.1, h.2.2⟩⟩
theorem wc_X4_setsThatSaw {b0 : Nat} {b1 : Nat} {b2 : Int32} {b3 : Int32} : wp J K C Q (.invokeinterface 56 68 :: os) ls (.int b3 :: .int b2 :: .ref b1 :: .ref b0 :: st) M L = (kd b0 = 4 ∧ sc st ≤ 8 ∧ C 56 [.ref b0, .ref b1, .int b2, .int b3] M L (fun r M' L' => wp J K C Q os ls (r.toList ++ st) M' L')) :=
  propext ⟨fun h => ⟨h.2.1, h.2.2.1, h.2.2.2⟩, fun h => ⟨rfl, h.1, h.2.1, h.2.2⟩⟩
theorem wc_X4_sawTogether {b0 : Nat} {b1 : Int32} : wp J K C Q (.multianewarray 57 2 :: os) ls (.int b1 :: .ref b0 :: st) M L = (sc st ≤ 8 ∧ C 57 [.ref b0, .int b1] M L (fun r M' L' => wp J K C Q os ls (r.toList ++ st) M' L')) :=
  propext ⟨fun h => ⟨h.2.1, h.2.2⟩, fun h => ⟨rfl, h.1, h.2⟩⟩
theorem wc_X4_partOf {b0 : Nat} {b1 : Nat} {b2 : Int32} {b3 : Int32} : wp J K C Q (.invokeinterface 58 68 :: os) ls (.int b3 :: .int b2 :: .ref b1 :: .ref b0 :: st) M L = (kd b0 = 4 ∧ sc st ≤ 8 ∧ C 58 [.ref b0, .ref b1, .int b2, .int b3] M L (fun r M' L' => wp J K C Q os ls (r.toList ++ st) M' L')) :=
  propext ⟨fun h => ⟨h.2.1, h.2.2.1, h.2.2.2⟩, fun h => ⟨rfl, h.1, h.2.1, h.2.2⟩⟩
theorem wc_X4_whatComesOfTurns {b0 : Nat} {b1 : Nat} {b2 : Int32} {b3 : Int32} : wp J K C Q (.invokeinterface 59 68 :: os) ls (.int b3 :: .int b2 :: .ref b1 :: .ref b0 :: st) M L = (kd b0 = 4 ∧ sc st ≤ 8 ∧ C 59 [.ref b0, .ref b1, .int b2, .int b3] M L (fun r M' L' => wp J K C Q os ls (r.toList ++ st) M' L')) :=
  propext ⟨fun h => ⟨h.2.1, h.2.2.1, h.2.2.2⟩, fun h => ⟨rfl, h.1, h.2.1, h.2.2⟩⟩
theorem wc_X4_outcomeOfTurns {b0 : Nat} {b1 : Nat} {b2 : Int32} {b3 : Int32} {b4 : Int32} : wp J K C Q (.multianewarray 60 5 :: os) ls (.int b4 :: .int b3 :: .int b2 :: .ref b1 :: .ref b0 :: st) M L = (sc st ≤ 8 ∧ C 60 [.ref b0, .ref b1, .int b2, .int b3, .int b4] M L (fun r M' L' => wp J K C Q os ls (r.toList ++ st) M' L')) :=
  propext ⟨fun h => ⟨h.2.1, h.2.2⟩, fun h => ⟨rfl, h.1, h.2⟩⟩
theorem wc_X4_hear {b0 : Nat} {b1 : Nat} {b2 : Int32} {b3 : Int32} {b4 : Int32} : wp J K C Q (.invokeinterface 61 69 :: os) ls (.int b4 :: .int b3 :: .int b2 :: .ref b1 :: .ref b0 :: st) M L = (kd b0 = 4 ∧ sc st ≤ 8 ∧ C 61 [.ref b0, .ref b1, .int b2, .int b3, .int b4] M L (fun r M' L' => wp J K C Q os ls (r.toList ++ st) M' L')) :=
  propext ⟨fun h => ⟨h.2.1, h.2.2.1, h.2.2.2⟩, fun h => ⟨rfl, h.1, h.2.1, h.2.2⟩⟩
theorem wc_X4_isAsHeard {b0 : Nat} : wp J K C Q (.invokeinterface 62 65 :: os) ls (.ref b0 :: st) M L = (kd b0 = 4 ∧ sc st ≤ 8 ∧ C 62 [.ref b0] M L (fun r M' L' => wp J K C Q os ls (r.toList ++ st) M' L')) :=
  propext ⟨fun h => ⟨h.2.1, h.2.2.1, h.2.2.2⟩, fun h => ⟨rfl, h.1, h.2.1, h.2.2⟩⟩
theorem wc_X4_fittingMurderers {b0 : Nat} {b1 : Nat} : wp J K C Q (.invokeinterface 63 66 :: os) ls (.ref b1 :: .ref b0 :: st) M L = (kd b0 = 4 ∧ sc st ≤ 8 ∧ C 63 [.ref b0, .ref b1] M L (fun r M' L' => wp J K C Q os ls (r.toList ++ st) M' L')) :=
  propext ⟨fun h => ⟨h.2.1, h.2.2.1, h.2.2.2⟩, fun h => ⟨rfl, h.1, h.2.1, h.2.2⟩⟩
theorem wc_X4_fittingKinds {b0 : Nat} {b1 : Nat} {b2 : Int32} : wp J K C Q (.invokeinterface 64 67 :: os) ls (.int b2 :: .ref b1 :: .ref b0 :: st) M L = (kd b0 = 4 ∧ sc st ≤ 8 ∧ C 64 [.ref b0, .ref b1, .int b2] M L (fun r M' L' => wp J K C Q os ls (r.toList ++ st) M' L')) :=
  propext ⟨fun h => ⟨h.2.1, h.2.2.1, h.2.2.2⟩, fun h => ⟨rfl, h.1, h.2.1, h.2.2⟩⟩
theorem wc_X4_fittingLooks {b0 : Nat} {b1 : Nat} {b2 : Int32} : wp J K C Q (.invokeinterface 65 67 :: os) ls (.int b2 :: .ref b1 :: .ref b0 :: st) M L = (kd b0 = 4 ∧ sc st ≤ 8 ∧ C 65 [.ref b0, .ref b1, .int b2] M L (fun r M' L' => wp J K C Q os ls (r.toList ++ st) M' L')) :=
  propext ⟨fun h => ⟨h.2.1, h.2.2.1, h.2.2.2⟩, fun h => ⟨rfl, h.1, h.2.1, h.2.2⟩⟩
theorem wc_X4_fittingSlownesses {b0 : Nat} {b1 : Nat} {b2 : Int32} : wp J K C Q (.invokeinterface 66 67 :: os) ls (.int b2 :: .ref b1 :: .ref b0 :: st) M L = (kd b0 = 4 ∧ sc st ≤ 8 ∧ C 66 [.ref b0, .ref b1, .int b2] M L (fun r M' L' => wp J K C Q os ls (r.toList ++ st) M' L')) :=
  propext ⟨fun h => ⟨h.2.1, h.2.2.1, h.2.2.2⟩, fun h => ⟨rfl, h.1, h.2.1, h.2.2⟩⟩
theorem wc_X4_weighSleep {b0 : Nat} {b1 : Nat} {b2 : Int32} {b3 : Int32} : wp J K C Q (.invokeinterface 67 68 :: os) ls (.int b3 :: .int b2 :: .ref b1 :: .ref b0 :: st) M L = (kd b0 = 4 ∧ sc st ≤ 8 ∧ C 67 [.ref b0, .ref b1, .int b2, .int b3] M L (fun r M' L' => wp J K C Q os ls (r.toList ++ st) M' L')) :=
  propext ⟨fun h => ⟨h.2.1, h.2.2.1, h.2.2.2⟩, fun h => ⟨rfl, h.1, h.2.1, h.2.2⟩⟩
theorem wc_X4_isFoundThough {b0 : Nat} {b1 : Nat} {b2 : Int32} {b3 : Int32} : wp J K C Q (.invokeinterface 68 68 :: os) ls (.int b3 :: .int b2 :: .ref b1 :: .ref b0 :: st) M L = (kd b0 = 4 ∧ sc st ≤ 8 ∧ C 68 [.ref b0, .ref b1, .int b2, .int b3] M L (fun r M' L' => wp J K C Q os ls (r.toList ++ st) M' L')) :=
  propext ⟨fun h => ⟨h.2.1, h.2.2.1, h.2.2.2⟩, fun h => ⟨rfl, h.1, h.2.1, h.2.2⟩⟩
theorem wc_X4_power {b0 : Int64} {b1 : Int32} : wp J K C Q (.multianewarray 69 2 :: os) ls (.int b1 :: .long b0 :: st) M L = (sc st ≤ 8 ∧ C 69 [.long b0, .int b1] M L (fun r M' L' => wp J K C Q os ls (r.toList ++ st) M' L')) :=
  propext ⟨fun h => ⟨h.2.1, h.2.2⟩, fun h => ⟨rfl, h.1, h.2⟩⟩
theorem wc_X4_reduce {b0 : Nat} : wp J K C Q (.invokeinterface 70 65 :: os) ls (.ref b0 :: st) M L = (kd b0 = 4 ∧ sc st ≤ 8 ∧ C 70 [.ref b0] M L (fun r M' L' => wp J K C Q os ls (r.toList ++ st) M' L')) :=
  propext ⟨fun h => ⟨h.2.1, h.2.2.1, h.2.2.2⟩, fun h => ⟨rfl, h.1, h.2.1, h.2.2⟩⟩
theorem wc_X4_playDraws {b0 : Nat} {b1 : Nat} {b2 : Int32} {b3 : Int32} : wp J K C Q (.invokeinterface 71 68 :: os) ls (.int b3 :: .int b2 :: .ref b1 :: .ref b0 :: st) M L = (kd b0 = 4 ∧ sc st ≤ 8 ∧ C 71 [.ref b0, .ref b1, .int b2, .int b3] M L (fun r M' L' => wp J K C Q os ls (r.toList ++ st) M' L')) :=
  propext ⟨fun h => ⟨h.2.1, h.2.2.1, h.2.2.2⟩, fun h => ⟨rfl, h.1, h.2.1, h.2.2⟩⟩
theorem wc_X4_disturb {b0 : Nat} {b1 : Int64} : wp J K C Q (.invokeinterface 72 66 :: os) ls (.long b1 :: .ref b0 :: st) M L = (kd b0 = 4 ∧ sc st ≤ 8 ∧ C 72 [.ref b0, .long b1] M L (fun r M' L' => wp J K C Q os ls (r.toList ++ st) M' L')) :=
  propext ⟨fun h => ⟨h.2.1, h.2.2.1, h.2.2.2⟩, fun h => ⟨rfl, h.1, h.2.1, h.2.2⟩⟩
theorem wc_X5_isFull {b0 : Nat} : wp J K C Q (.invokeinterface 73 81 :: os) ls (.ref b0 :: st) M L = (kd b0 = 5 ∧ sc st ≤ 8 ∧ C 73 [.ref b0] M L (fun r M' L' => wp J K C Q os ls (r.toList ++ st) M' L')) :=
  propext ⟨fun h => ⟨h.2.1, h.2.2.1, h.2.2.2⟩, fun h => ⟨rfl, h.1, h.2.1, h.2.2⟩⟩
theorem wc_X5_size {b0 : Nat} : wp J K C Q (.invokeinterface 74 81 :: os) ls (.ref b0 :: st) M L = (kd b0 = 5 ∧ sc st ≤ 8 ∧ C 74 [.ref b0] M L (fun r M' L' => wp J K C Q os ls (r.toList ++ st) M' L')) :=
  propext ⟨fun h => ⟨h.2.1, h.2.2.1, h.2.2.2⟩, fun h => ⟨rfl, h.1, h.2.1, h.2.2⟩⟩
theorem wc_X5_add {b0 : Nat} {b1 : Int32} : wp J K C Q (.invokeinterface 75 82 :: os) ls (.int b1 :: .ref b0 :: st) M L = (kd b0 = 5 ∧ sc st ≤ 8 ∧ C 75 [.ref b0, .int b1] M L (fun r M' L' => wp J K C Q os ls (r.toList ++ st) M' L')) :=
  propext ⟨fun h => ⟨h.2.1, h.2.2.1, h.2.2.2⟩, fun h => ⟨rfl, h.1, h.2.1, h.2.2⟩⟩
theorem wc_X5_clear {b0 : Nat} : wp J K C Q (.invokeinterface 76 81 :: os) ls (.ref b0 :: st) M L = (kd b0 = 5 ∧ sc st ≤ 8 ∧ C 76 [.ref b0] M L (fun r M' L' => wp J K C Q os ls (r.toList ++ st) M' L')) :=
  propext ⟨fun h => ⟨h.2.1, h.2.2.1, h.2.2.2⟩, fun h => ⟨rfl, h.1, h.2.1, h.2.2⟩⟩
theorem wc_X5_place {b0 : Nat} : wp J K C Q (.invokeinterface 77 81 :: os) ls (.ref b0 :: st) M L = (kd b0 = 5 ∧ sc st ≤ 8 ∧ C 77 [.ref b0] M L (fun r M' L' => wp J K C Q os ls (r.toList ++ st) M' L')) :=
  propext ⟨fun h => ⟨h.2.1, h.2.2.1, h.2.2.2⟩, fun h => ⟨rfl, h.1, h.2.1, h.2.2⟩⟩
theorem wc_X5_readInto {b0 : Nat} {b1 : Nat} : wp J K C Q (.invokeinterface 78 82 :: os) ls (.ref b1 :: .ref b0 :: st) M L = (kd b0 = 5 ∧ sc st ≤ 8 ∧ C 78 [.ref b0, .ref b1] M L (fun r M' L' => wp J K C Q os ls (r.toList ++ st) M' L')) :=
  propext ⟨fun h => ⟨h.2.1, h.2.2.1, h.2.2.2⟩, fun h => ⟨rfl, h.1, h.2.1, h.2.2⟩⟩
theorem wc_X5_readPlayer {b0 : Nat} {b1 : Nat} {b2 : Int32} : wp J K C Q (.invokeinterface 79 83 :: os) ls (.int b2 :: .ref b1 :: .ref b0 :: st) M L = (kd b0 = 5 ∧ sc st ≤ 8 ∧ C 79 [.ref b0, .ref b1, .int b2] M L (fun r M' L' => wp J K C Q os ls (r.toList ++ st) M' L')) :=
  propext ⟨fun h => ⟨h.2.1, h.2.2.1, h.2.2.2⟩, fun h => ⟨rfl, h.1, h.2.1, h.2.2⟩⟩
theorem wc_X5_sortOf {b0 : Int32} : wp J K C Q (.multianewarray 80 1 :: os) ls (.int b0 :: st) M L = (sc st ≤ 8 ∧ C 80 [.int b0] M L (fun r M' L' => wp J K C Q os ls (r.toList ++ st) M' L')) :=
  propext ⟨fun h => ⟨h.2.1, h.2.2⟩, fun h => ⟨rfl, h.1, h.2⟩⟩
theorem wc_X5_readSign {b0 : Nat} {b1 : Int32} : wp J K C Q (.invokeinterface 81 82 :: os) ls (.int b1 :: .ref b0 :: st) M L = (kd b0 = 5 ∧ sc st ≤ 8 ∧ C 81 [.ref b0, .int b1] M L (fun r M' L' => wp J K C Q os ls (r.toList ++ st) M' L')) :=
  propext ⟨fun h => ⟨h.2.1, h.2.2.1, h.2.2.2⟩, fun h => ⟨rfl, h.1, h.2.1, h.2.2⟩⟩
theorem wc_X5_readNumber {b0 : Nat} {b1 : Int32} {b2 : Int32} : wp J K C Q (.invokeinterface 82 83 :: os) ls (.int b2 :: .int b1 :: .ref b0 :: st) M L = (kd b0 = 5 ∧ sc st ≤ 8 ∧ C 82 [.ref b0, .int b1, .int b2] M L (fun r M' L' => wp J K C Q os ls (r.toList ++ st) M' L')) :=
  propext ⟨fun h => ⟨h.2.1, h.2.2.1, h.2.2.2⟩, fun h => ⟨rfl, h.1, h.2.1, h.2.2⟩⟩
theorem wc_X5_isFigureAt {b0 : Nat} {b1 : Int32} : wp J K C Q (.invokeinterface 83 82 :: os) ls (.int b1 :: .ref b0 :: st) M L = (kd b0 = 5 ∧ sc st ≤ 8 ∧ C 83 [.ref b0, .int b1] M L (fun r M' L' => wp J K C Q os ls (r.toList ++ st) M' L')) :=
  propext ⟨fun h => ⟨h.2.1, h.2.2.1, h.2.2.2⟩, fun h => ⟨rfl, h.1, h.2.1, h.2.2⟩⟩
theorem wc_X6_row {b0 : Nat} {b1 : Int32} {b2 : Int32} {b3 : Int32} : wp J K C Q (.invokeinterface 84 100 :: os) ls (.int b3 :: .int b2 :: .int b1 :: .ref b0 :: st) M L = (kd b0 = 6 ∧ sc st ≤ 8 ∧ C 84 [.ref b0, .int b1, .int b2, .int b3] M L (fun r M' L' => wp J K C Q os ls (r.toList ++ st) M' L')) :=
  propext ⟨fun h => ⟨h.2.1, h.2.2.1, h.2.2.2⟩, fun h => ⟨rfl, h.1, h.2.1, h.2.2⟩⟩
theorem wc_X6_set {b0 : Nat} {b1 : Int32} {b2 : Int32} {b3 : Int32} : wp J K C Q (.invokeinterface 85 100 :: os) ls (.int b3 :: .int b2 :: .int b1 :: .ref b0 :: st) M L = (kd b0 = 6 ∧ sc st ≤ 8 ∧ C 85 [.ref b0, .int b1, .int b2, .int b3] M L (fun r M' L' => wp J K C Q os ls (r.toList ++ st) M' L')) :=
  propext ⟨fun h => ⟨h.2.1, h.2.2.1, h.2.2.2⟩, fun h => ⟨rfl, h.1, h.2.1, h.2.2⟩⟩
theorem wc_X6_copy {b0 : Nat} {b1 : Int32} {b2 : Int32} {b3 : Int32} {b4 : Int32} {b5 : Int32} : wp J K C Q (.invokeinterface 86 102 :: os) ls (.int b5 :: .int b4 :: .int b3 :: .int b2 :: .int b1 :: .ref b0 :: st) M L = (kd b0 = 6 ∧ sc st ≤ 8 ∧ C 86 [.ref b0, .int b1, .int b2, .int b3, .int b4, .int b5] M L (fun r M' L' => wp J K C Q os ls (r.toList ++ st) M' L')) :=
  propext ⟨fun h => ⟨h.2.1, h.2.2.1, h.2.2.2⟩, fun h => ⟨rfl, h.1, h.2.1, h.2.2⟩⟩
theorem wc_X6_drop {b0 : Nat} {b1 : Int32} : wp J K C Q (.invokeinterface 87 98 :: os) ls (.int b1 :: .ref b0 :: st) M L = (kd b0 = 6 ∧ sc st ≤ 8 ∧ C 87 [.ref b0, .int b1] M L (fun r M' L' => wp J K C Q os ls (r.toList ++ st) M' L')) :=
  propext ⟨fun h => ⟨h.2.1, h.2.2.1, h.2.2.2⟩, fun h => ⟨rfl, h.1, h.2.1, h.2.2⟩⟩
theorem wc_X6_feed {b0 : Nat} {b1 : Int32} : wp J K C Q (.invokeinterface 88 98 :: os) ls (.int b1 :: .ref b0 :: st) M L = (kd b0 = 6 ∧ sc st ≤ 8 ∧ C 88 [.ref b0, .int b1] M L (fun r M' L' => wp J K C Q os ls (r.toList ++ st) M' L')) :=
  propext ⟨fun h => ⟨h.2.1, h.2.2.1, h.2.2.2⟩, fun h => ⟨rfl, h.1, h.2.1, h.2.2⟩⟩
theorem wc_X6_circle {b0 : Nat} : wp J K C Q (.invokeinterface 89 97 :: os) ls (.ref b0 :: st) M L = (kd b0 = 6 ∧ sc st ≤ 8 ∧ C 89 [.ref b0] M L (fun r M' L' => wp J K C Q os ls (r.toList ++ st) M' L')) :=
  propext ⟨fun h => ⟨h.2.1, h.2.2.1, h.2.2.2⟩, fun h => ⟨rfl, h.1, h.2.1, h.2.2⟩⟩
theorem wc_X6_fault {b0 : Nat} : wp J K C Q (.invokeinterface 90 97 :: os) ls (.ref b0 :: st) M L = (kd b0 = 6 ∧ sc st ≤ 8 ∧ C 90 [.ref b0] M L (fun r M' L' => wp J K C Q os ls (r.toList ++ st) M' L')) :=
  propext ⟨fun h => ⟨h.2.1, h.2.2.1, h.2.2.2⟩, fun h => ⟨rfl, h.1, h.2.1, h.2.2⟩⟩
theorem wc_X6_undo {b0 : Nat} : wp J K C Q (.invokeinterface 91 97 :: os) ls (.ref b0 :: st) M L = (kd b0 = 6 ∧ sc st ≤ 8 ∧ C 91 [.ref b0] M L (fun r M' L' => wp J K C Q os ls (r.toList ++ st) M' L')) :=
  propext ⟨fun h => ⟨h.2.1, h.2.2.1, h.2.2.2⟩, fun h => ⟨rfl, h.1, h.2.1, h.2.2⟩⟩
theorem wc_X6_ticks {b0 : Nat} {b1 : Int32} : wp J K C Q (.invokeinterface 92 98 :: os) ls (.int b1 :: .ref b0 :: st) M L = (kd b0 = 6 ∧ sc st ≤ 8 ∧ C 92 [.ref b0, .int b1] M L (fun r M' L' => wp J K C Q os ls (r.toList ++ st) M' L')) :=
  propext ⟨fun h => ⟨h.2.1, h.2.2.1, h.2.2.2⟩, fun h => ⟨rfl, h.1, h.2.1, h.2.2⟩⟩
theorem wc_X6_turnHead {b0 : Nat} {b1 : Int32} {b2 : Int32} : wp J K C Q (.invokeinterface 93 99 :: os) ls (.int b2 :: .int b1 :: .ref b0 :: st) M L = (kd b0 = 6 ∧ sc st ≤ 8 ∧ C 93 [.ref b0, .int b1, .int b2] M L (fun r M' L' => wp J K C Q os ls (r.toList ++ st) M' L')) :=
  propext ⟨fun h => ⟨h.2.1, h.2.2.1, h.2.2.2⟩, fun h => ⟨rfl, h.1, h.2.1, h.2.2⟩⟩
theorem wc_X6_role {b0 : Nat} {b1 : Int32} : wp J K C Q (.invokeinterface 94 98 :: os) ls (.int b1 :: .ref b0 :: st) M L = (kd b0 = 6 ∧ sc st ≤ 8 ∧ C 94 [.ref b0, .int b1] M L (fun r M' L' => wp J K C Q os ls (r.toList ++ st) M' L')) :=
  propext ⟨fun h => ⟨h.2.1, h.2.2.1, h.2.2.2⟩, fun h => ⟨rfl, h.1, h.2.1, h.2.2⟩⟩
theorem wc_X6_proof {b0 : Nat} {b1 : Int32} : wp J K C Q (.invokeinterface 95 98 :: os) ls (.int b1 :: .ref b0 :: st) M L = (kd b0 = 6 ∧ sc st ≤ 8 ∧ C 95 [.ref b0, .int b1] M L (fun r M' L' => wp J K C Q os ls (r.toList ++ st) M' L')) :=
  propext ⟨fun h => ⟨h.2.1, h.2.2.1, h.2.2.2⟩, fun h => ⟨rfl, h.1, h.2.1, h.2.2⟩⟩
theorem wc_X6_rise {b0 : Nat} {b1 : Int32} : wp J K C Q (.invokeinterface 96 98 :: os) ls (.int b1 :: .ref b0 :: st) M L = (kd b0 = 6 ∧ sc st ≤ 8 ∧ C 96 [.ref b0, .int b1] M L (fun r M' L' => wp J K C Q os ls (r.toList ++ st) M' L')) :=
  propext ⟨fun h => ⟨h.2.1, h.2.2.1, h.2.2.2⟩, fun h => ⟨rfl, h.1, h.2.1, h.2.2⟩⟩
theorem wc_X6_player {b0 : Nat} {b1 : Int32} {b2 : Int32} : wp J K C Q (.invokeinterface 97 99 :: os) ls (.int b2 :: .int b1 :: .ref b0 :: st) M L = (kd b0 = 6 ∧ sc st ≤ 8 ∧ C 97 [.ref b0, .int b1, .int b2] M L (fun r M' L' => wp J K C Q os ls (r.toList ++ st) M' L')) :=
  propext ⟨fun h => ⟨h.2.1, h.2.2.1, h.2.2.2⟩, fun h => ⟨rfl, h.1, h.2.1, h.2.2⟩⟩
theorem wc_X6_stand {b0 : Nat} {b1 : Int32} : wp J K C Q (.invokeinterface 98 98 :: os) ls (.int b1 :: .ref b0 :: st) M L = (kd b0 = 6 ∧ sc st ≤ 8 ∧ C 98 [.ref b0, .int b1] M L (fun r M' L' => wp J K C Q os ls (r.toList ++ st) M' L')) :=
  propext ⟨fun h => ⟨h.2.1, h.2.2.1, h.2.2.2⟩, fun h => ⟨rfl, h.1, h.2.1, h.2.2⟩⟩
theorem wc_X6_ahead {b0 : Nat} {b1 : Int32} {b2 : Int32} {b3 : Int32} : wp J K C Q (.invokeinterface 99 100 :: os) ls (.int b3 :: .int b2 :: .int b1 :: .ref b0 :: st) M L = (kd b0 = 6 ∧ sc st ≤ 8 ∧ C 99 [.ref b0, .int b1, .int b2, .int b3] M L (fun r M' L' => wp J K C Q os ls (r.toList ++ st) M' L')) :=
  propext ⟨fun h => ⟨h.2.1, h.2.2.1, h.2.2.2⟩, fun h => ⟨rfl, h.1, h.2.1, h.2.2⟩⟩
theorem wc_X6_toll {b0 : Nat} {b1 : Int32} {b2 : Int32} : wp J K C Q (.invokeinterface 100 99 :: os) ls (.int b2 :: .int b1 :: .ref b0 :: st) M L = (kd b0 = 6 ∧ sc st ≤ 8 ∧ C 100 [.ref b0, .int b1, .int b2] M L (fun r M' L' => wp J K C Q os ls (r.toList ++ st) M' L')) :=
  propext ⟨fun h => ⟨h.2.1, h.2.2.1, h.2.2.2⟩, fun h => ⟨rfl, h.1, h.2.1, h.2.2⟩⟩
theorem wc_X6_when {b0 : Nat} {b1 : Int32} {b2 : Int32} : wp J K C Q (.invokeinterface 101 99 :: os) ls (.int b2 :: .int b1 :: .ref b0 :: st) M L = (kd b0 = 6 ∧ sc st ≤ 8 ∧ C 101 [.ref b0, .int b1, .int b2] M L (fun r M' L' => wp J K C Q os ls (r.toList ++ st) M' L')) :=
  propext ⟨fun h => ⟨h.2.1, h.2.2.1, h.2.2.2⟩, fun h => ⟨rfl, h.1, h.2.1, h.2.2⟩⟩
theorem wc_X6_out {b0 : Nat} : wp J K C Q (.invokeinterface 102 97 :: os) ls (.ref b0 :: st) M L = (kd b0 = 6 ∧ sc st ≤ 8 ∧ C 102 [.ref b0] M L (fun r M' L' => wp J K C Q os ls (r.toList ++ st) M' L')) :=
  propext ⟨fun h => ⟨h.2.1, h.2.2.1, h.2.2.2⟩, fun h => ⟨rfl, h.1, h.2.1, h.2.2⟩⟩
theorem wc_X6_meet {b0 : Nat} {b1 : Int32} {b2 : Int32} : wp J K C Q (.invokeinterface 103 99 :: os) ls (.int b2 :: .int b1 :: .ref b0 :: st) M L = (kd b0 = 6 ∧ sc st ≤ 8 ∧ C 103 [.ref b0, .int b1, .int b2] M L (fun r M' L' => wp J K C Q os ls (r.toList ++ st) M' L')) :=
  propext ⟨fun h => ⟨h.2.1, h.2.2.1, h.2.2.2⟩, fun h => ⟨rfl, h.1, h.2.1, h.2.2⟩⟩
theorem wc_X6_bestRole {b0 : Nat} {b1 : Int32} {b2 : Int32} : wp J K C Q (.invokeinterface 104 99 :: os) ls (.int b2 :: .int b1 :: .ref b0 :: st) M L = (kd b0 = 6 ∧ sc st ≤ 8 ∧ C 104 [.ref b0, .int b1, .int b2] M L (fun r M' L' => wp J K C Q os ls (r.toList ++ st) M' L')) :=
  propext ⟨fun h => ⟨h.2.1, h.2.2.1, h.2.2.2⟩, fun h => ⟨rfl, h.1, h.2.1, h.2.2⟩⟩
theorem wc_X6_glance {b0 : Nat} {b1 : Int32} {b2 : Int32} : wp J K C Q (.invokeinterface 105 99 :: os) ls (.int b2 :: .int b1 :: .ref b0 :: st) M L = (kd b0 = 6 ∧ sc st ≤ 8 ∧ C 105 [.ref b0, .int b1, .int b2] M L (fun r M' L' => wp J K C Q os ls (r.toList ++ st) M' L')) :=
  propext ⟨fun h => ⟨h.2.1, h.2.2.1, h.2.2.2⟩, fun h => ⟨rfl, h.1, h.2.1, h.2.2⟩⟩
theorem wc_X6_pass {b0 : Nat} {b1 : Int32} : wp J K C Q (.invokeinterface 106 98 :: os) ls (.int b1 :: .ref b0 :: st) M L = (kd b0 = 6 ∧ sc st ≤ 8 ∧ C 106 [.ref b0, .int b1] M L (fun r M' L' => wp J K C Q os ls (r.toList ++ st) M' L')) :=
  propext ⟨fun h => ⟨h.2.1, h.2.2.1, h.2.2.2⟩, fun h => ⟨rfl, h.1, h.2.1, h.2.2⟩⟩
theorem wc_X6_sets {b0 : Nat} {b1 : Int32} {b2 : Int32} : wp J K C Q (.invokeinterface 107 99 :: os) ls (.int b2 :: .int b1 :: .ref b0 :: st) M L = (kd b0 = 6 ∧ sc st ≤ 8 ∧ C 107 [.ref b0, .int b1, .int b2] M L (fun r M' L' => wp J K C Q os ls (r.toList ++ st) M' L')) :=
  propext ⟨fun h => ⟨h.2.1, h.2.2.1, h.2.2.2⟩, fun h => ⟨rfl, h.1, h.2.1, h.2.2⟩⟩
theorem wc_X6_share {b0 : Nat} {b1 : Int32} {b2 : Int32} : wp J K C Q (.invokeinterface 108 99 :: os) ls (.int b2 :: .int b1 :: .ref b0 :: st) M L = (kd b0 = 6 ∧ sc st ≤ 8 ∧ C 108 [.ref b0, .int b1, .int b2] M L (fun r M' L' => wp J K C Q os ls (r.toList ++ st) M' L')) :=
  propext ⟨fun h => ⟨h.2.1, h.2.2.1, h.2.2.2⟩, fun h => ⟨rfl, h.1, h.2.1, h.2.2⟩⟩
theorem wc_X6_byTurns {b0 : Nat} {b1 : Int32} {b2 : Int32} : wp J K C Q (.invokeinterface 109 99 :: os) ls (.int b2 :: .int b1 :: .ref b0 :: st) M L = (kd b0 = 6 ∧ sc st ≤ 8 ∧ C 109 [.ref b0, .int b1, .int b2] M L (fun r M' L' => wp J K C Q os ls (r.toList ++ st) M' L')) :=
  propext ⟨fun h => ⟨h.2.1, h.2.2.1, h.2.2.2⟩, fun h => ⟨rfl, h.1, h.2.1, h.2.2⟩⟩
theorem wc_X6_who {b0 : Nat} {b1 : Int32} {b2 : Int32} {b3 : Int32} {b4 : Int32} {b5 : Int32} : wp J K C Q (.invokeinterface 110 102 :: os) ls (.int b5 :: .int b4 :: .int b3 :: .int b2 :: .int b1 :: .ref b0 :: st) M L = (kd b0 = 6 ∧ sc st ≤ 8 ∧ C 110 [.ref b0, .int b1, .int b2, .int b3, .int b4, .int b5] M L (fun r M' L' => wp J K C Q os ls (r.toList ++ st) M' L')) :=
  propext ⟨fun h => ⟨h.2.1, h.2.2.1, h.2.2.2⟩, fun h => ⟨rfl, h.1, h.2.1, h.2.2⟩⟩
theorem wc_X6_sleep {b0 : Nat} {b1 : Int32} {b2 : Int32} {b3 : Int32} : wp J K C Q (.invokeinterface 111 100 :: os) ls (.int b3 :: .int b2 :: .int b1 :: .ref b0 :: st) M L = (kd b0 = 6 ∧ sc st ≤ 8 ∧ C 111 [.ref b0, .int b1, .int b2, .int b3] M L (fun r M' L' => wp J K C Q os ls (r.toList ++ st) M' L')) :=
  propext ⟨fun h => ⟨h.2.1, h.2.2.1, h.2.2.2⟩, fun h => ⟨rfl, h.1, h.2.1, h.2.2⟩⟩
theorem wc_X6_drawn {b0 : Nat} {b1 : Int32} {b2 : Int32} {b3 : Int32} : wp J K C Q (.invokeinterface 112 100 :: os) ls (.int b3 :: .int b2 :: .int b1 :: .ref b0 :: st) M L = (kd b0 = 6 ∧ sc st ≤ 8 ∧ C 112 [.ref b0, .int b1, .int b2, .int b3] M L (fun r M' L' => wp J K C Q os ls (r.toList ++ st) M' L')) :=
  propext ⟨fun h => ⟨h.2.1, h.2.2.1, h.2.2.2⟩, fun h => ⟨rfl, h.1, h.2.1, h.2.2⟩⟩
theorem wc_X6_image {b0 : Nat} {b1 : Int32} : wp J K C Q (.invokeinterface 113 98 :: os) ls (.int b1 :: .ref b0 :: st) M L = (kd b0 = 6 ∧ sc st ≤ 8 ∧ C 113 [.ref b0, .int b1] M L (fun r M' L' => wp J K C Q os ls (r.toList ++ st) M' L')) :=
  propext ⟨fun h => ⟨h.2.1, h.2.2.1, h.2.2.2⟩, fun h => ⟨rfl, h.1, h.2.1, h.2.2⟩⟩
theorem wc_X6_restore {b0 : Nat} {b1 : Int32} : wp J K C Q (.invokeinterface 114 98 :: os) ls (.int b1 :: .ref b0 :: st) M L = (kd b0 = 6 ∧ sc st ≤ 8 ∧ C 114 [.ref b0, .int b1] M L (fun r M' L' => wp J K C Q os ls (r.toList ++ st) M' L')) :=
  propext ⟨fun h => ⟨h.2.1, h.2.2.1, h.2.2.2⟩, fun h => ⟨rfl, h.1, h.2.1, h.2.2⟩⟩
theorem wc_X6_kind {b0 : Nat} {b1 : Int32} : wp J K C Q (.invokeinterface 115 98 :: os) ls (.int b1 :: .ref b0 :: st) M L = (kd b0 = 6 ∧ sc st ≤ 8 ∧ C 115 [.ref b0, .int b1] M L (fun r M' L' => wp J K C Q os ls (r.toList ++ st) M' L')) :=
  propext ⟨fun h => ⟨h.2.1, h.2.2.1, h.2.2.2⟩, fun h => ⟨rfl, h.1, h.2.1, h.2.2⟩⟩
theorem wc_X6_as {b0 : Nat} {b1 : Int32} {b2 : Int32} : wp J K C Q (.invokeinterface 116 99 :: os) ls (.int b2 :: .int b1 :: .ref b0 :: st) M L = (kd b0 = 6 ∧ sc st ≤ 8 ∧ C 116 [.ref b0, .int b1, .int b2] M L (fun r M' L' => wp J K C Q os ls (r.toList ++ st) M' L')) :=
  propext ⟨fun h => ⟨h.2.1, h.2.2.1, h.2.2.2⟩, fun h => ⟨rfl, h.1, h.2.1, h.2.2⟩⟩
theorem wc_X6_ask {b0 : Nat} {b1 : Int32} {b2 : Int32} : wp J K C Q (.invokeinterface 117 99 :: os) ls (.int b2 :: .int b1 :: .ref b0 :: st) M L = (kd b0 = 6 ∧ sc st ≤ 8 ∧ C 117 [.ref b0, .int b1, .int b2] M L (fun r M' L' => wp J K C Q os ls (r.toList ++ st) M' L')) :=
  propext ⟨fun h => ⟨h.2.1, h.2.2.1, h.2.2.2⟩, fun h => ⟨rfl, h.1, h.2.1, h.2.2⟩⟩
theorem wc_X6_trace {b0 : Nat} {b1 : Int32} : wp J K C Q (.invokeinterface 118 98 :: os) ls (.int b1 :: .ref b0 :: st) M L = (kd b0 = 6 ∧ sc st ≤ 8 ∧ C 118 [.ref b0, .int b1] M L (fun r M' L' => wp J K C Q os ls (r.toList ++ st) M' L')) :=
  propext ⟨fun h => ⟨h.2.1, h.2.2.1, h.2.2.2⟩, fun h => ⟨rfl, h.1, h.2.1, h.2.2⟩⟩
theorem wc_X6_count {b0 : Nat} {b1 : Int32} : wp J K C Q (.invokeinterface 119 98 :: os) ls (.int b1 :: .ref b0 :: st) M L = (kd b0 = 6 ∧ sc st ≤ 8 ∧ C 119 [.ref b0, .int b1] M L (fun r M' L' => wp J K C Q os ls (r.toList ++ st) M' L')) :=
  propext ⟨fun h => ⟨h.2.1, h.2.2.1, h.2.2.2⟩, fun h => ⟨rfl, h.1, h.2.1, h.2.2⟩⟩
theorem wc_X6_status {b0 : Nat} : wp J K C Q (.invokeinterface 120 97 :: os) ls (.ref b0 :: st) M L = (kd b0 = 6 ∧ sc st ≤ 8 ∧ C 120 [.ref b0] M L (fun r M' L' => wp J K C Q os ls (r.toList ++ st) M' L')) :=
  propext ⟨fun h => ⟨h.2.1, h.2.2.1, h.2.2.2⟩, fun h => ⟨rfl, h.1, h.2.1, h.2.2⟩⟩
theorem wc_X6_finding {b0 : Nat} {b1 : Int32} : wp J K C Q (.invokeinterface 121 98 :: os) ls (.int b1 :: .ref b0 :: st) M L = (kd b0 = 6 ∧ sc st ≤ 8 ∧ C 121 [.ref b0, .int b1] M L (fun r M' L' => wp J K C Q os ls (r.toList ++ st) M' L')) :=
  propext ⟨fun h => ⟨h.2.1, h.2.2.1, h.2.2.2⟩, fun h => ⟨rfl, h.1, h.2.1, h.2.2⟩⟩
theorem wc_X6_unhindered {b0 : Nat} {b1 : Int32} : wp J K C Q (.invokeinterface 122 98 :: os) ls (.int b1 :: .ref b0 :: st) M L = (kd b0 = 6 ∧ sc st ≤ 8 ∧ C 122 [.ref b0, .int b1] M L (fun r M' L' => wp J K C Q os ls (r.toList ++ st) M' L')) :=
  propext ⟨fun h => ⟨h.2.1, h.2.2.1, h.2.2.2⟩, fun h => ⟨rfl, h.1, h.2.1, h.2.2⟩⟩
theorem wc_X6_isRow {b0 : Int32} : wp J K C Q (.multianewarray 123 1 :: os) ls (.int b0 :: st) M L = (sc st ≤ 8 ∧ C 123 [.int b0] M L (fun r M' L' => wp J K C Q os ls (r.toList ++ st) M' L')) :=
  propext ⟨fun h => ⟨h.2.1, h.2.2⟩, fun h => ⟨rfl, h.1, h.2⟩⟩
theorem wc_X6_isImage {b0 : Int32} : wp J K C Q (.multianewarray 124 1 :: os) ls (.int b0 :: st) M L = (sc st ≤ 8 ∧ C 124 [.int b0] M L (fun r M' L' => wp J K C Q os ls (r.toList ++ st) M' L')) :=
  propext ⟨fun h => ⟨h.2.1, h.2.2⟩, fun h => ⟨rfl, h.1, h.2⟩⟩
theorem wc_X6_isHalf {b0 : Int32} : wp J K C Q (.multianewarray 125 1 :: os) ls (.int b0 :: st) M L = (sc st ≤ 8 ∧ C 125 [.int b0] M L (fun r M' L' => wp J K C Q os ls (r.toList ++ st) M' L')) :=
  propext ⟨fun h => ⟨h.2.1, h.2.2⟩, fun h => ⟨rfl, h.1, h.2⟩⟩
theorem wc_X6_isOfKind {b0 : Int32} {b1 : Int32} : wp J K C Q (.multianewarray 126 2 :: os) ls (.int b1 :: .int b0 :: st) M L = (sc st ≤ 8 ∧ C 126 [.int b0, .int b1] M L (fun r M' L' => wp J K C Q os ls (r.toList ++ st) M' L')) :=
  propext ⟨fun h => ⟨h.2.1, h.2.2⟩, fun h => ⟨rfl, h.1, h.2⟩⟩
theorem wc_X7_in {b0 : Int32} {b1 : Int32} {b2 : Int32} : wp J K C Q (.multianewarray 127 3 :: os) ls (.int b2 :: .int b1 :: .int b0 :: st) M L = (sc st ≤ 8 ∧ C 127 [.int b0, .int b1, .int b2] M L (fun r M' L' => wp J K C Q os ls (r.toList ++ st) M' L')) :=
  propext ⟨fun h => ⟨h.2.1, h.2.2⟩, fun h => ⟨rfl, h.1, h.2⟩⟩
theorem wc_X7_has {b0 : Int32} {b1 : Int32} : wp J K C Q (.multianewarray 128 2 :: os) ls (.int b1 :: .int b0 :: st) M L = (sc st ≤ 8 ∧ C 128 [.int b0, .int b1] M L (fun r M' L' => wp J K C Q os ls (r.toList ++ st) M' L')) :=
  propext ⟨fun h => ⟨h.2.1, h.2.2⟩, fun h => ⟨rfl, h.1, h.2⟩⟩
theorem wc_X7_found {b0 : Nat} {b1 : Int32} : wp J K C Q (.invokeinterface 129 114 :: os) ls (.int b1 :: .ref b0 :: st) M L = (kd b0 = 7 ∧ sc st ≤ 8 ∧ C 129 [.ref b0, .int b1] M L (fun r M' L' => wp J K C Q os ls (r.toList ++ st) M' L')) :=
  propext ⟨fun h => ⟨h.2.1, h.2.2.1, h.2.2.2⟩, fun h => ⟨rfl, h.1, h.2.1, h.2.2⟩⟩
theorem wc_X7_well {b0 : Nat} {b1 : Int32} : wp J K C Q (.invokeinterface 130 114 :: os) ls (.int b1 :: .ref b0 :: st) M L = (kd b0 = 7 ∧ sc st ≤ 8 ∧ C 130 [.ref b0, .int b1] M L (fun r M' L' => wp J K C Q os ls (r.toList ++ st) M' L')) :=
  propext ⟨fun h => ⟨h.2.1, h.2.2.1, h.2.2.2⟩, fun h => ⟨rfl, h.1, h.2.1, h.2.2⟩⟩
theorem wc_X7_isRow {b0 : Int32} : wp J K C Q (.multianewarray 131 1 :: os) ls (.int b0 :: st) M L = (sc st ≤ 8 ∧ C 131 [.int b0] M L (fun r M' L' => wp J K C Q os ls (r.toList ++ st) M' L')) :=
  propext ⟨fun h => ⟨h.2.1, h.2.2⟩, fun h => ⟨rfl, h.1, h.2⟩⟩
theorem wc_X7_row {b0 : Nat} {b1 : Int32} {b2 : Int32} {b3 : Int32} : wp J K C Q (.invokeinterface 132 116 :: os) ls (.int b3 :: .int b2 :: .int b1 :: .ref b0 :: st) M L = (kd b0 = 7 ∧ sc st ≤ 8 ∧ C 132 [.ref b0, .int b1, .int b2, .int b3] M L (fun r M' L' => wp J K C Q os ls (r.toList ++ st) M' L')) :=
  propext ⟨fun h => ⟨h.2.1, h.2.2.1, h.2.2.2⟩, fun h => ⟨rfl, h.1, h.2.1, h.2.2⟩⟩
theorem wc_X7_lowest {b0 : Int32} {b1 : Int32} : wp J K C Q (.multianewarray 133 2 :: os) ls (.int b1 :: .int b0 :: st) M L = (sc st ≤ 8 ∧ C 133 [.int b0, .int b1] M L (fun r M' L' => wp J K C Q os ls (r.toList ++ st) M' L')) :=
  propext ⟨fun h => ⟨h.2.1, h.2.2⟩, fun h => ⟨rfl, h.1, h.2⟩⟩
theorem wc_X7_set {b0 : Nat} {b1 : Int32} {b2 : Int32} {b3 : Int32} : wp J K C Q (.invokeinterface 134 116 :: os) ls (.int b3 :: .int b2 :: .int b1 :: .ref b0 :: st) M L = (kd b0 = 7 ∧ sc st ≤ 8 ∧ C 134 [.ref b0, .int b1, .int b2, .int b3] M L (fun r M' L' => wp J K C Q os ls (r.toList ++ st) M' L')) :=
  propext ⟨fun h => ⟨h.2.1, h.2.2.1, h.2.2.2⟩, fun h => ⟨rfl, h.1, h.2.1, h.2.2⟩⟩
theorem wc_X7_areIn {b0 : Nat} {b1 : Int32} {b2 : Int32} {b3 : Int32} : wp J K C Q (.invokeinterface 135 116 :: os) ls (.int b3 :: .int b2 :: .int b1 :: .ref b0 :: st) M L = (kd b0 = 7 ∧ sc st ≤ 8 ∧ C 135 [.ref b0, .int b1, .int b2, .int b3] M L (fun r M' L' => wp J K C Q os ls (r.toList ++ st) M' L')) :=
  propext ⟨fun h => ⟨h.2.1, h.2.2.1, h.2.2.2⟩, fun h => ⟨rfl, h.1, h.2.1, h.2.2⟩⟩
theorem wc_X7_copy {b0 : Nat} {b1 : Int32} {b2 : Int32} {b3 : Int32} {b4 : Int32} {b5 : Int32} : wp J K C Q (.invokeinterface 136 118 :: os) ls (.int b5 :: .int b4 :: .int b3 :: .int b2 :: .int b1 :: .ref b0 :: st) M L = (kd b0 = 7 ∧ sc st ≤ 8 ∧ C 136 [.ref b0, .int b1, .int b2, .int b3, .int b4, .int b5] M L (fun r M' L' => wp J K C Q os ls (r.toList ++ st) M' L')) :=
  propext ⟨fun h => ⟨h.2.1, h.2.2.1, h.2.2.2⟩, fun h => ⟨rfl, h.1, h.2.1, h.2.2⟩⟩
theorem wc_X7_drop {b0 : Nat} {b1 : Int32} : wp J K C Q (.invokeinterface 137 114 :: os) ls (.int b1 :: .ref b0 :: st) M L = (kd b0 = 7 ∧ sc st ≤ 8 ∧ C 137 [.ref b0, .int b1] M L (fun r M' L' => wp J K C Q os ls (r.toList ++ st) M' L')) :=
  propext ⟨fun h => ⟨h.2.1, h.2.2.1, h.2.2.2⟩, fun h => ⟨rfl, h.1, h.2.1, h.2.2⟩⟩
theorem wc_X7_take {b0 : Nat} : wp J K C Q (.invokeinterface 138 113 :: os) ls (.ref b0 :: st) M L = (kd b0 = 7 ∧ sc st ≤ 8 ∧ C 138 [.ref b0] M L (fun r M' L' => wp J K C Q os ls (r.toList ++ st) M' L')) :=
  propext ⟨fun h => ⟨h.2.1, h.2.2.1, h.2.2.2⟩, fun h => ⟨rfl, h.1, h.2.1, h.2.2⟩⟩
theorem wc_X7_know {b0 : Nat} : wp J K C Q (.invokeinterface 139 113 :: os) ls (.ref b0 :: st) M L = (kd b0 = 7 ∧ sc st ≤ 8 ∧ C 139 [.ref b0] M L (fun r M' L' => wp J K C Q os ls (r.toList ++ st) M' L')) :=
  propext ⟨fun h => ⟨h.2.1, h.2.2.1, h.2.2.2⟩, fun h => ⟨rfl, h.1, h.2.1, h.2.2⟩⟩
theorem wc_X7_isPlayer {b0 : Nat} {b1 : Int32} : wp J K C Q (.invokeinterface 140 114 :: os) ls (.int b1 :: .ref b0 :: st) M L = (kd b0 = 7 ∧ sc st ≤ 8 ∧ C 140 [.ref b0, .int b1] M L (fun r M' L' => wp J K C Q os ls (r.toList ++ st) M' L')) :=
  propext ⟨fun h => ⟨h.2.1, h.2.2.1, h.2.2.2⟩, fun h => ⟨rfl, h.1, h.2.1, h.2.2⟩⟩
theorem wc_X7_seatBy {b0 : Nat} {b1 : Int32} {b2 : Int32} : wp J K C Q (.multianewarray 141 3 :: os) ls (.int b2 :: .int b1 :: .ref b0 :: st) M L = (sc st ≤ 8 ∧ C 141 [.ref b0, .int b1, .int b2] M L (fun r M' L' => wp J K C Q os ls (r.toList ++ st) M' L')) :=
  propext ⟨fun h => ⟨h.2.1, h.2.2⟩, fun h => ⟨rfl, h.1, h.2⟩⟩
theorem wc_X7_nextLiving {b0 : Nat} {b1 : Int32} : wp J K C Q (.multianewarray 142 2 :: os) ls (.int b1 :: .ref b0 :: st) M L = (sc st ≤ 8 ∧ C 142 [.ref b0, .int b1] M L (fun r M' L' => wp J K C Q os ls (r.toList ++ st) M' L')) :=
  propext ⟨fun h => ⟨h.2.1, h.2.2⟩, fun h => ⟨rfl, h.1, h.2⟩⟩
theorem wc_X7_roves {b0 : Nat} {b1 : Int32} {b2 : Int32} : wp J K C Q (.multianewarray 143 3 :: os) ls (.int b2 :: .int b1 :: .ref b0 :: st) M L = (sc st ≤ 8 ∧ C 143 [.ref b0, .int b1, .int b2] M L (fun r M' L' => wp J K C Q os ls (r.toList ++ st) M' L')) :=
  propext ⟨fun h => ⟨h.2.1, h.2.2⟩, fun h => ⟨rfl, h.1, h.2⟩⟩
theorem wc_X7_lookOf {b0 : Nat} {b1 : Int32} : wp J K C Q (.multianewarray 144 2 :: os) ls (.int b1 :: .ref b0 :: st) M L = (sc st ≤ 8 ∧ C 144 [.ref b0, .int b1] M L (fun r M' L' => wp J K C Q os ls (r.toList ++ st) M' L')) :=
  propext ⟨fun h => ⟨h.2.1, h.2.2⟩, fun h => ⟨rfl, h.1, h.2⟩⟩
theorem wc_X7_wink {b0 : Nat} : wp J K C Q (.multianewarray 145 1 :: os) ls (.ref b0 :: st) M L = (sc st ≤ 8 ∧ C 145 [.ref b0] M L (fun r M' L' => wp J K C Q os ls (r.toList ++ st) M' L')) :=
  propext ⟨fun h => ⟨h.2.1, h.2.2⟩, fun h => ⟨rfl, h.1, h.2⟩⟩
theorem wc_X7_passOn {b0 : Nat} {b1 : Nat} : wp J K C Q (.invokeinterface 146 114 :: os) ls (.ref b1 :: .ref b0 :: st) M L = (kd b0 = 7 ∧ sc st ≤ 8 ∧ C 146 [.ref b0, .ref b1] M L (fun r M' L' => wp J K C Q os ls (r.toList ++ st) M' L')) :=
  propext ⟨fun h => ⟨h.2.1, h.2.2.1, h.2.2.2⟩, fun h => ⟨rfl, h.1, h.2.1, h.2.2⟩⟩
theorem wc_X7_giveRole {b0 : Nat} {b1 : Int32} : wp J K C Q (.multianewarray 147 2 :: os) ls (.int b1 :: .ref b0 :: st) M L = (sc st ≤ 8 ∧ C 147 [.ref b0, .int b1] M L (fun r M' L' => wp J K C Q os ls (r.toList ++ st) M' L')) :=
  propext ⟨fun h => ⟨h.2.1, h.2.2⟩, fun h => ⟨rfl, h.1, h.2⟩⟩
theorem wc_X7_sitUp {b0 : Nat} {b1 : Int32} : wp J K C Q (.multianewarray 148 2 :: os) ls (.int b1 :: .ref b0 :: st) M L = (sc st ≤ 8 ∧ C 148 [.ref b0, .int b1] M L (fun r M' L' => wp J K C Q os ls (r.toList ++ st) M' L')) :=
  propext ⟨fun h => ⟨h.2.1, h.2.2⟩, fun h => ⟨rfl, h.1, h.2⟩⟩
theorem wc_X7_those {b0 : Nat} {b1 : Int32} : wp J K C Q (.multianewarray 149 2 :: os) ls (.int b1 :: .ref b0 :: st) M L = (sc st ≤ 8 ∧ C 149 [.ref b0, .int b1] M L (fun r M' L' => wp J K C Q os ls (r.toList ++ st) M' L')) :=
  propext ⟨fun h => ⟨h.2.1, h.2.2⟩, fun h => ⟨rfl, h.1, h.2⟩⟩
theorem wc_X7_bitsOf {b0 : Int32} : wp J K C Q (.multianewarray 150 1 :: os) ls (.int b0 :: st) M L = (sc st ≤ 8 ∧ C 150 [.int b0] M L (fun r M' L' => wp J K C Q os ls (r.toList ++ st) M' L')) :=
  propext ⟨fun h => ⟨h.2.1, h.2.2⟩, fun h => ⟨rfl, h.1, h.2⟩⟩
theorem wc_X7_dead {b0 : Nat} : wp J K C Q (.multianewarray 151 1 :: os) ls (.ref b0 :: st) M L = (sc st ≤ 8 ∧ C 151 [.ref b0] M L (fun r M' L' => wp J K C Q os ls (r.toList ++ st) M' L')) :=
  propext ⟨fun h => ⟨h.2.1, h.2.2⟩, fun h => ⟨rfl, h.1, h.2⟩⟩
theorem wc_X7_feed {b0 : Nat} {b1 : Int32} : wp J K C Q (.invokeinterface 152 114 :: os) ls (.int b1 :: .ref b0 :: st) M L = (kd b0 = 7 ∧ sc st ≤ 8 ∧ C 152 [.ref b0, .int b1] M L (fun r M' L' => wp J K C Q os ls (r.toList ++ st) M' L')) :=
  propext ⟨fun h => ⟨h.2.1, h.2.2.1, h.2.2.2⟩, fun h => ⟨rfl, h.1, h.2.1, h.2.2⟩⟩
theorem wc_X7_here {b0 : Nat} : wp J K C Q (.invokeinterface 153 113 :: os) ls (.ref b0 :: st) M L = (kd b0 = 7 ∧ sc st ≤ 8 ∧ C 153 [.ref b0] M L (fun r M' L' => wp J K C Q os ls (r.toList ++ st) M' L')) :=
  propext ⟨fun h => ⟨h.2.1, h.2.2.1, h.2.2.2⟩, fun h => ⟨rfl, h.1, h.2.1, h.2.2⟩⟩
theorem wc_X7_step {b0 : Nat} : wp J K C Q (.invokeinterface 154 113 :: os) ls (.ref b0 :: st) M L = (kd b0 = 7 ∧ sc st ≤ 8 ∧ C 154 [.ref b0] M L (fun r M' L' => wp J K C Q os ls (r.toList ++ st) M' L')) :=
  propext ⟨fun h => ⟨h.2.1, h.2.2.1, h.2.2.2⟩, fun h => ⟨rfl, h.1, h.2.1, h.2.2⟩⟩
theorem wc_X7_due {b0 : Nat} {b1 : Int32} {b2 : Int32} : wp J K C Q (.invokeinterface 155 115 :: os) ls (.int b2 :: .int b1 :: .ref b0 :: st) M L = (kd b0 = 7 ∧ sc st ≤ 8 ∧ C 155 [.ref b0, .int b1, .int b2] M L (fun r M' L' => wp J K C Q os ls (r.toList ++ st) M' L')) :=
  propext ⟨fun h => ⟨h.2.1, h.2.2.1, h.2.2.2⟩, fun h => ⟨rfl, h.1, h.2.1, h.2.2⟩⟩
theorem wc_X7_told {b0 : Nat} {b1 : Int32} {b2 : Int32} {b3 : Int32} : wp J K C Q (.invokeinterface 156 116 :: os) ls (.int b3 :: .int b2 :: .int b1 :: .ref b0 :: st) M L = (kd b0 = 7 ∧ sc st ≤ 8 ∧ C 156 [.ref b0, .int b1, .int b2, .int b3] M L (fun r M' L' => wp J K C Q os ls (r.toList ++ st) M' L')) :=
  propext ⟨fun h => ⟨h.2.1, h.2.2.1, h.2.2.2⟩, fun h => ⟨rfl, h.1, h.2.1, h.2.2⟩⟩
theorem wc_X7_isLetter {b0 : Nat} {b1 : Int32} : wp J K C Q (.invokeinterface 157 114 :: os) ls (.int b1 :: .ref b0 :: st) M L = (kd b0 = 7 ∧ sc st ≤ 8 ∧ C 157 [.ref b0, .int b1] M L (fun r M' L' => wp J K C Q os ls (r.toList ++ st) M' L')) :=
  propext ⟨fun h => ⟨h.2.1, h.2.2.1, h.2.2.2⟩, fun h => ⟨rfl, h.1, h.2.1, h.2.2⟩⟩
theorem wc_X7_playerSort {b0 : Nat} : wp J K C Q (.invokeinterface 158 113 :: os) ls (.ref b0 :: st) M L = (kd b0 = 7 ∧ sc st ≤ 8 ∧ C 158 [.ref b0] M L (fun r M' L' => wp J K C Q os ls (r.toList ++ st) M' L')) :=
  propext ⟨fun h => ⟨h.2.1, h.2.2.1, h.2.2.2⟩, fun h => ⟨rfl, h.1, h.2.1, h.2.2⟩⟩
theorem wc_X7_readPlayer {b0 : Nat} : wp J K C Q (.invokeinterface 159 113 :: os) ls (.ref b0 :: st) M L = (kd b0 = 7 ∧ sc st ≤ 8 ∧ C 159 [.ref b0] M L (fun r M' L' => wp J K C Q os ls (r.toList ++ st) M' L')) :=
  propext ⟨fun h => ⟨h.2.1, h.2.2.1, h.2.2.2⟩, fun h => ⟨rfl, h.1, h.2.1, h.2.2⟩⟩
theorem wc_X7_circle {b0 : Nat} : wp J K C Q (.invokeinterface 160 113 :: os) ls (.ref b0 :: st) M L = (kd b0 = 7 ∧ sc st ≤ 8 ∧ C 160 [.ref b0] M L (fun r M' L' => wp J K C Q os ls (r.toList ++ st) M' L')) :=
  propext ⟨fun h => ⟨h.2.1, h.2.2.1, h.2.2.2⟩, fun h => ⟨rfl, h.1, h.2.1, h.2.2⟩⟩
theorem wc_X7_fault {b0 : Nat} : wp J K C Q (.invokeinterface 161 113 :: os) ls (.ref b0 :: st) M L = (kd b0 = 7 ∧ sc st ≤ 8 ∧ C 161 [.ref b0] M L (fun r M' L' => wp J K C Q os ls (r.toList ++ st) M' L')) :=
  propext ⟨fun h => ⟨h.2.1, h.2.2.1, h.2.2.2⟩, fun h => ⟨rfl, h.1, h.2.1, h.2.2⟩⟩
theorem wc_X7_undo {b0 : Nat} : wp J K C Q (.invokeinterface 162 113 :: os) ls (.ref b0 :: st) M L = (kd b0 = 7 ∧ sc st ≤ 8 ∧ C 162 [.ref b0] M L (fun r M' L' => wp J K C Q os ls (r.toList ++ st) M' L')) :=
  propext ⟨fun h => ⟨h.2.1, h.2.2.1, h.2.2.2⟩, fun h => ⟨rfl, h.1, h.2.1, h.2.2⟩⟩
theorem wc_X7_ticks {b0 : Nat} {b1 : Int32} : wp J K C Q (.invokeinterface 163 114 :: os) ls (.int b1 :: .ref b0 :: st) M L = (kd b0 = 7 ∧ sc st ≤ 8 ∧ C 163 [.ref b0, .int b1] M L (fun r M' L' => wp J K C Q os ls (r.toList ++ st) M' L')) :=
  propext ⟨fun h => ⟨h.2.1, h.2.2.1, h.2.2.2⟩, fun h => ⟨rfl, h.1, h.2.1, h.2.2⟩⟩
theorem wc_X7_turnHead {b0 : Nat} {b1 : Int32} {b2 : Int32} : wp J K C Q (.invokeinterface 164 115 :: os) ls (.int b2 :: .int b1 :: .ref b0 :: st) M L = (kd b0 = 7 ∧ sc st ≤ 8 ∧ C 164 [.ref b0, .int b1, .int b2] M L (fun r M' L' => wp J K C Q os ls (r.toList ++ st) M' L')) :=
  propext ⟨fun h => ⟨h.2.1, h.2.2.1, h.2.2.2⟩, fun h => ⟨rfl, h.1, h.2.1, h.2.2⟩⟩
theorem wc_X7_role {b0 : Nat} {b1 : Int32} : wp J K C Q (.invokeinterface 165 114 :: os) ls (.int b1 :: .ref b0 :: st) M L = (kd b0 = 7 ∧ sc st ≤ 8 ∧ C 165 [.ref b0, .int b1] M L (fun r M' L' => wp J K C Q os ls (r.toList ++ st) M' L')) :=
  propext ⟨fun h => ⟨h.2.1, h.2.2.1, h.2.2.2⟩, fun h => ⟨rfl, h.1, h.2.1, h.2.2⟩⟩
theorem wc_X7_proof {b0 : Nat} {b1 : Int32} : wp J K C Q (.invokeinterface 166 114 :: os) ls (.int b1 :: .ref b0 :: st) M L = (kd b0 = 7 ∧ sc st ≤ 8 ∧ C 166 [.ref b0, .int b1] M L (fun r M' L' => wp J K C Q os ls (r.toList ++ st) M' L')) :=
  propext ⟨fun h => ⟨h.2.1, h.2.2.1, h.2.2.2⟩, fun h => ⟨rfl, h.1, h.2.1, h.2.2⟩⟩
theorem wc_X7_rise {b0 : Nat} {b1 : Int32} : wp J K C Q (.invokeinterface 167 114 :: os) ls (.int b1 :: .ref b0 :: st) M L = (kd b0 = 7 ∧ sc st ≤ 8 ∧ C 167 [.ref b0, .int b1] M L (fun r M' L' => wp J K C Q os ls (r.toList ++ st) M' L')) :=
  propext ⟨fun h => ⟨h.2.1, h.2.2.1, h.2.2.2⟩, fun h => ⟨rfl, h.1, h.2.1, h.2.2⟩⟩
theorem wc_X7_seat {b0 : Int32} : wp J K C Q (.multianewarray 168 1 :: os) ls (.int b0 :: st) M L = (sc st ≤ 8 ∧ C 168 [.int b0] M L (fun r M' L' => wp J K C Q os ls (r.toList ++ st) M' L')) :=
  propext ⟨fun h => ⟨h.2.1, h.2.2⟩, fun h => ⟨rfl, h.1, h.2⟩⟩
theorem wc_X7_player {b0 : Nat} {b1 : Int32} {b2 : Int32} : wp J K C Q (.invokeinterface 169 115 :: os) ls (.int b2 :: .int b1 :: .ref b0 :: st) M L = (kd b0 = 7 ∧ sc st ≤ 8 ∧ C 169 [.ref b0, .int b1, .int b2] M L (fun r M' L' => wp J K C Q os ls (r.toList ++ st) M' L')) :=
  propext ⟨fun h => ⟨h.2.1, h.2.2.1, h.2.2.2⟩, fun h => ⟨rfl, h.1, h.2.1, h.2.2⟩⟩
theorem wc_X7_stand {b0 : Nat} {b1 : Int32} : wp J K C Q (.invokeinterface 170 114 :: os) ls (.int b1 :: .ref b0 :: st) M L = (kd b0 = 7 ∧ sc st ≤ 8 ∧ C 170 [.ref b0, .int b1] M L (fun r M' L' => wp J K C Q os ls (r.toList ++ st) M' L')) :=
  propext ⟨fun h => ⟨h.2.1, h.2.2.1, h.2.2.2⟩, fun h => ⟨rfl, h.1, h.2.1, h.2.2⟩⟩
theorem wc_X7_passAll {b0 : Nat} {b1 : Int32} : wp J K C Q (.invokeinterface 171 114 :: os) ls (.int b1 :: .ref b0 :: st) M L = (kd b0 = 7 ∧ sc st ≤ 8 ∧ C 171 [.ref b0, .int b1] M L (fun r M' L' => wp J K C Q os ls (r.toList ++ st) M' L')) :=
  propext ⟨fun h => ⟨h.2.1, h.2.2.1, h.2.2.2⟩, fun h => ⟨rfl, h.1, h.2.1, h.2.2⟩⟩
theorem wc_X7_ahead {b0 : Nat} {b1 : Int32} {b2 : Int32} {b3 : Int32} : wp J K C Q (.invokeinterface 172 116 :: os) ls (.int b3 :: .int b2 :: .int b1 :: .ref b0 :: st) M L = (kd b0 = 7 ∧ sc st ≤ 8 ∧ C 172 [.ref b0, .int b1, .int b2, .int b3] M L (fun r M' L' => wp J K C Q os ls (r.toList ++ st) M' L')) :=
  propext ⟨fun h => ⟨h.2.1, h.2.2.1, h.2.2.2⟩, fun h => ⟨rfl, h.1, h.2.1, h.2.2⟩⟩
theorem wc_X7_toll {b0 : Nat} {b1 : Int32} {b2 : Int32} : wp J K C Q (.invokeinterface 173 115 :: os) ls (.int b2 :: .int b1 :: .ref b0 :: st) M L = (kd b0 = 7 ∧ sc st ≤ 8 ∧ C 173 [.ref b0, .int b1, .int b2] M L (fun r M' L' => wp J K C Q os ls (r.toList ++ st) M' L')) :=
  propext ⟨fun h => ⟨h.2.1, h.2.2.1, h.2.2.2⟩, fun h => ⟨rfl, h.1, h.2.1, h.2.2⟩⟩
theorem wc_X7_when {b0 : Nat} {b1 : Int32} {b2 : Int32} : wp J K C Q (.invokeinterface 174 115 :: os) ls (.int b2 :: .int b1 :: .ref b0 :: st) M L = (kd b0 = 7 ∧ sc st ≤ 8 ∧ C 174 [.ref b0, .int b1, .int b2] M L (fun r M' L' => wp J K C Q os ls (r.toList ++ st) M' L')) :=
  propext ⟨fun h => ⟨h.2.1, h.2.2.1, h.2.2.2⟩, fun h => ⟨rfl, h.1, h.2.1, h.2.2⟩⟩
theorem wc_X7_out {b0 : Nat} : wp J K C Q (.invokeinterface 175 113 :: os) ls (.ref b0 :: st) M L = (kd b0 = 7 ∧ sc st ≤ 8 ∧ C 175 [.ref b0] M L (fun r M' L' => wp J K C Q os ls (r.toList ++ st) M' L')) :=
  propext ⟨fun h => ⟨h.2.1, h.2.2.1, h.2.2.2⟩, fun h => ⟨rfl, h.1, h.2.1, h.2.2⟩⟩
theorem wc_X7_meet {b0 : Nat} {b1 : Int32} {b2 : Int32} : wp J K C Q (.invokeinterface 176 115 :: os) ls (.int b2 :: .int b1 :: .ref b0 :: st) M L = (kd b0 = 7 ∧ sc st ≤ 8 ∧ C 176 [.ref b0, .int b1, .int b2] M L (fun r M' L' => wp J K C Q os ls (r.toList ++ st) M' L')) :=
  propext ⟨fun h => ⟨h.2.1, h.2.2.1, h.2.2.2⟩, fun h => ⟨rfl, h.1, h.2.1, h.2.2⟩⟩
theorem wc_X7_takeWith {b0 : Nat} {b1 : Int32} : wp J K C Q (.invokeinterface 177 114 :: os) ls (.int b1 :: .ref b0 :: st) M L = (kd b0 = 7 ∧ sc st ≤ 8 ∧ C 177 [.ref b0, .int b1] M L (fun r M' L' => wp J K C Q os ls (r.toList ++ st) M' L')) :=
  propext ⟨fun h => ⟨h.2.1, h.2.2.1, h.2.2.2⟩, fun h => ⟨rfl, h.1, h.2.1, h.2.2⟩⟩
theorem wc_X7_bestRole {b0 : Nat} {b1 : Int32} {b2 : Int32} : wp J K C Q (.invokeinterface 178 115 :: os) ls (.int b2 :: .int b1 :: .ref b0 :: st) M L = (kd b0 = 7 ∧ sc st ≤ 8 ∧ C 178 [.ref b0, .int b1, .int b2] M L (fun r M' L' => wp J K C Q os ls (r.toList ++ st) M' L')) :=
  propext ⟨fun h => ⟨h.2.1, h.2.2.1, h.2.2.2⟩, fun h => ⟨rfl, h.1, h.2.1, h.2.2⟩⟩
theorem wc_X7_glance {b0 : Nat} {b1 : Int32} {b2 : Int32} : wp J K C Q (.invokeinterface 179 115 :: os) ls (.int b2 :: .int b1 :: .ref b0 :: st) M L = (kd b0 = 7 ∧ sc st ≤ 8 ∧ C 179 [.ref b0, .int b1, .int b2] M L (fun r M' L' => wp J K C Q os ls (r.toList ++ st) M' L')) :=
  propext ⟨fun h => ⟨h.2.1, h.2.2.1, h.2.2.2⟩, fun h => ⟨rfl, h.1, h.2.1, h.2.2⟩⟩
theorem wc_X7_pass {b0 : Nat} {b1 : Int32} : wp J K C Q (.invokeinterface 180 114 :: os) ls (.int b1 :: .ref b0 :: st) M L = (kd b0 = 7 ∧ sc st ≤ 8 ∧ C 180 [.ref b0, .int b1] M L (fun r M' L' => wp J K C Q os ls (r.toList ++ st) M' L')) :=
  propext ⟨fun h => ⟨h.2.1, h.2.2.1, h.2.2.2⟩, fun h => ⟨rfl, h.1, h.2.1, h.2.2⟩⟩
theorem wc_X7_sets {b0 : Nat} {b1 : Int32} {b2 : Int32} : wp J K C Q (.invokeinterface 181 115 :: os) ls (.int b2 :: .int b1 :: .ref b0 :: st) M L = (kd b0 = 7 ∧ sc st ≤ 8 ∧ C 181 [.ref b0, .int b1, .int b2] M L (fun r M' L' => wp J K C Q os ls (r.toList ++ st) M' L')) :=
  propext ⟨fun h => ⟨h.2.1, h.2.2.1, h.2.2.2⟩, fun h => ⟨rfl, h.1, h.2.1, h.2.2⟩⟩
theorem wc_X7_allSaw {b0 : Nat} : wp J K C Q (.invokeinterface 182 113 :: os) ls (.ref b0 :: st) M L = (kd b0 = 7 ∧ sc st ≤ 8 ∧ C 182 [.ref b0] M L (fun r M' L' => wp J K C Q os ls (r.toList ++ st) M' L')) :=
  propext ⟨fun h => ⟨h.2.1, h.2.2.1, h.2.2.2⟩, fun h => ⟨rfl, h.1, h.2.1, h.2.2⟩⟩
theorem wc_X7_share {b0 : Nat} {b1 : Int32} {b2 : Int32} : wp J K C Q (.invokeinterface 183 115 :: os) ls (.int b2 :: .int b1 :: .ref b0 :: st) M L = (kd b0 = 7 ∧ sc st ≤ 8 ∧ C 183 [.ref b0, .int b1, .int b2] M L (fun r M' L' => wp J K C Q os ls (r.toList ++ st) M' L')) :=
  propext ⟨fun h => ⟨h.2.1, h.2.2.1, h.2.2.2⟩, fun h => ⟨rfl, h.1, h.2.1, h.2.2⟩⟩
theorem wc_X7_deadBy {b0 : Nat} {b1 : Int32} {b2 : Int32} {b3 : Int32} : wp J K C Q (.invokeinterface 184 116 :: os) ls (.int b3 :: .int b2 :: .int b1 :: .ref b0 :: st) M L = (kd b0 = 7 ∧ sc st ≤ 8 ∧ C 184 [.ref b0, .int b1, .int b2, .int b3] M L (fun r M' L' => wp J K C Q os ls (r.toList ++ st) M' L')) :=
  propext ⟨fun h => ⟨h.2.1, h.2.2.1, h.2.2.2⟩, fun h => ⟨rfl, h.1, h.2.1, h.2.2⟩⟩
theorem wc_X7_byTurns {b0 : Nat} {b1 : Int32} {b2 : Int32} : wp J K C Q (.invokeinterface 185 115 :: os) ls (.int b2 :: .int b1 :: .ref b0 :: st) M L = (kd b0 = 7 ∧ sc st ≤ 8 ∧ C 185 [.ref b0, .int b1, .int b2] M L (fun r M' L' => wp J K C Q os ls (r.toList ++ st) M' L')) :=
  propext ⟨fun h => ⟨h.2.1, h.2.2.1, h.2.2.2⟩, fun h => ⟨rfl, h.1, h.2.1, h.2.2⟩⟩
theorem wc_X7_isSo {b0 : Nat} {b1 : Int32} {b2 : Int32} {b3 : Int32} : wp J K C Q (.invokeinterface 186 116 :: os) ls (.int b3 :: .int b2 :: .int b1 :: .ref b0 :: st) M L = (kd b0 = 7 ∧ sc st ≤ 8 ∧ C 186 [.ref b0, .int b1, .int b2, .int b3] M L (fun r M' L' => wp J K C Q os ls (r.toList ++ st) M' L')) :=
  propext ⟨fun h => ⟨h.2.1, h.2.2.1, h.2.2.2⟩, fun h => ⟨rfl, h.1, h.2.1, h.2.2⟩⟩
theorem wc_X7_who {b0 : Nat} {b1 : Int32} {b2 : Int32} {b3 : Int32} {b4 : Int32} {b5 : Int32} : wp J K C Q (.invokeinterface 187 118 :: os) ls (.int b5 :: .int b4 :: .int b3 :: .int b2 :: .int b1 :: .ref b0 :: st) M L = (kd b0 = 7 ∧ sc st ≤ 8 ∧ C 187 [.ref b0, .int b1, .int b2, .int b3, .int b4, .int b5] M L (fun r M' L' => wp J K C Q os ls (r.toList ++ st) M' L')) :=
  propext ⟨fun h => ⟨h.2.1, h.2.2.1, h.2.2.2⟩, fun h => ⟨rfl, h.1, h.2.1, h.2.2⟩⟩
theorem wc_X7_sleep {b0 : Nat} {b1 : Int32} {b2 : Int32} {b3 : Int32} : wp J K C Q (.invokeinterface 188 116 :: os) ls (.int b3 :: .int b2 :: .int b1 :: .ref b0 :: st) M L = (kd b0 = 7 ∧ sc st ≤ 8 ∧ C 188 [.ref b0, .int b1, .int b2, .int b3] M L (fun r M' L' => wp J K C Q os ls (r.toList ++ st) M' L')) :=
  propext ⟨fun h => ⟨h.2.1, h.2.2.1, h.2.2.2⟩, fun h => ⟨rfl, h.1, h.2.1, h.2.2⟩⟩
theorem wc_X7_drawn {b0 : Nat} {b1 : Int32} {b2 : Int32} {b3 : Int32} : wp J K C Q (.invokeinterface 189 116 :: os) ls (.int b3 :: .int b2 :: .int b1 :: .ref b0 :: st) M L = (kd b0 = 7 ∧ sc st ≤ 8 ∧ C 189 [.ref b0, .int b1, .int b2, .int b3] M L (fun r M' L' => wp J K C Q os ls (r.toList ++ st) M' L')) :=
  propext ⟨fun h => ⟨h.2.1, h.2.2.1, h.2.2.2⟩, fun h => ⟨rfl, h.1, h.2.1, h.2.2⟩⟩
theorem wc_X7_image {b0 : Nat} {b1 : Int32} : wp J K C Q (.invokeinterface 190 114 :: os) ls (.int b1 :: .ref b0 :: st) M L = (kd b0 = 7 ∧ sc st ≤ 8 ∧ C 190 [.ref b0, .int b1] M L (fun r M' L' => wp J K C Q os ls (r.toList ++ st) M' L')) :=
  propext ⟨fun h => ⟨h.2.1, h.2.2.1, h.2.2.2⟩, fun h => ⟨rfl, h.1, h.2.1, h.2.2⟩⟩
theorem wc_X7_restore {b0 : Nat} {b1 : Int32} : wp J K C Q (.invokeinterface 191 114 :: os) ls (.int b1 :: .ref b0 :: st) M L = (kd b0 = 7 ∧ sc st ≤ 8 ∧ C 191 [.ref b0, .int b1] M L (fun r M' L' => wp J K C Q os ls (r.toList ++ st) M' L')) :=
  propext ⟨fun h => ⟨h.2.1, h.2.2.1, h.2.2.2⟩, fun h => ⟨rfl, h.1, h.2.1, h.2.2⟩⟩
theorem wc_X7_leave {b0 : Nat} {b1 : Int32} : wp J K C Q (.invokeinterface 192 114 :: os) ls (.int b1 :: .ref b0 :: st) M L = (kd b0 = 7 ∧ sc st ≤ 8 ∧ C 192 [.ref b0, .int b1] M L (fun r M' L' => wp J K C Q os ls (r.toList ++ st) M' L')) :=
  propext ⟨fun h => ⟨h.2.1, h.2.2.1, h.2.2.2⟩, fun h => ⟨rfl, h.1, h.2.1, h.2.2⟩⟩
theorem wc_X7_kind {b0 : Nat} {b1 : Int32} : wp J K C Q (.invokeinterface 193 114 :: os) ls (.int b1 :: .ref b0 :: st) M L = (kd b0 = 7 ∧ sc st ≤ 8 ∧ C 193 [.ref b0, .int b1] M L (fun r M' L' => wp J K C Q os ls (r.toList ++ st) M' L')) :=
  propext ⟨fun h => ⟨h.2.1, h.2.2.1, h.2.2.2⟩, fun h => ⟨rfl, h.1, h.2.1, h.2.2⟩⟩
theorem wc_X7_as {b0 : Nat} {b1 : Int32} {b2 : Int32} : wp J K C Q (.invokeinterface 194 115 :: os) ls (.int b2 :: .int b1 :: .ref b0 :: st) M L = (kd b0 = 7 ∧ sc st ≤ 8 ∧ C 194 [.ref b0, .int b1, .int b2] M L (fun r M' L' => wp J K C Q os ls (r.toList ++ st) M' L')) :=
  propext ⟨fun h => ⟨h.2.1, h.2.2.1, h.2.2.2⟩, fun h => ⟨rfl, h.1, h.2.1, h.2.2⟩⟩
theorem wc_X7_body10 {b0 : Nat} {b1 : Int32} : wp J K C Q (.invokeinterface 195 114 :: os) ls (.int b1 :: .ref b0 :: st) M L = (kd b0 = 7 ∧ sc st ≤ 8 ∧ C 195 [.ref b0, .int b1] M L (fun r M' L' => wp J K C Q os ls (r.toList ++ st) M' L')) :=
  propext ⟨fun h => ⟨h.2.1, h.2.2.1, h.2.2.2⟩, fun h => ⟨rfl, h.1, h.2.1, h.2.2⟩⟩
theorem wc_X7_body20 {b0 : Nat} {b1 : Int32} : wp J K C Q (.invokeinterface 196 114 :: os) ls (.int b1 :: .ref b0 :: st) M L = (kd b0 = 7 ∧ sc st ≤ 8 ∧ C 196 [.ref b0, .int b1] M L (fun r M' L' => wp J K C Q os ls (r.toList ++ st) M' L')) :=
  propext ⟨fun h => ⟨h.2.1, h.2.2.1, h.2.2.2⟩, fun h => ⟨rfl, h.1, h.2.1, h.2.2⟩⟩
theorem wc_X7_body21 {b0 : Nat} {b1 : Int32} : wp J K C Q (.invokeinterface 197 114 :: os) ls (.int b1 :: .ref b0 :: st) M L = (kd b0 = 7 ∧ sc st ≤ 8 ∧ C 197 [.ref b0, .int b1] M L (fun r M' L' => wp J K C Q os ls (r.toList ++ st) M' L')) :=
  propext ⟨fun h => ⟨h.2.1, h.2.2.1, h.2.2.2⟩, fun h => ⟨rfl, h.1, h.2.1, h.2.2⟩⟩
theorem wc_X7_markOfRover {b0 : Nat} {b1 : Int32} : wp J K C Q (.invokeinterface 198 114 :: os) ls (.int b1 :: .ref b0 :: st) M L = (kd b0 = 7 ∧ sc st ≤ 8 ∧ C 198 [.ref b0, .int b1] M L (fun r M' L' => wp J K C Q os ls (r.toList ++ st) M' L')) :=
  propext ⟨fun h => ⟨h.2.1, h.2.2.1, h.2.2.2⟩, fun h => ⟨rfl, h.1, h.2.1, h.2.2⟩⟩
theorem wc_X7_body11 {b0 : Nat} {b1 : Int32} : wp J K C Q (.invokeinterface 199 114 :: os) ls (.int b1 :: .ref b0 :: st) M L = (kd b0 = 7 ∧ sc st ≤ 8 ∧ C 199 [.ref b0, .int b1] M L (fun r M' L' => wp J K C Q os ls (r.toList ++ st) M' L')) :=
  propext ⟨fun h => ⟨h.2.1, h.2.2.1, h.2.2.2⟩, fun h => ⟨rfl, h.1, h.2.1, h.2.2⟩⟩
theorem wc_X7_body13 {b0 : Nat} {b1 : Int32} : wp J K C Q (.invokeinterface 200 114 :: os) ls (.int b1 :: .ref b0 :: st) M L = (kd b0 = 7 ∧ sc st ≤ 8 ∧ C 200 [.ref b0, .int b1] M L (fun r M' L' => wp J K C Q os ls (r.toList ++ st) M' L')) :=
  propext ⟨fun h => ⟨h.2.1, h.2.2.1, h.2.2.2⟩, fun h => ⟨rfl, h.1, h.2.1, h.2.2⟩⟩
theorem wc_X7_sizeOf {b0 : Nat} {b1 : Int32} : wp J K C Q (.invokeinterface 201 114 :: os) ls (.int b1 :: .ref b0 :: st) M L = (kd b0 = 7 ∧ sc st ≤ 8 ∧ C 201 [.ref b0, .int b1] M L (fun r M' L' => wp J K C Q os ls (r.toList ++ st) M' L')) :=
  propext ⟨fun h => ⟨h.2.1, h.2.2.1, h.2.2.2⟩, fun h => ⟨rfl, h.1, h.2.1, h.2.2⟩⟩
theorem wc_X7_markOf {b0 : Nat} {b1 : Int32} : wp J K C Q (.invokeinterface 202 114 :: os) ls (.int b1 :: .ref b0 :: st) M L = (kd b0 = 7 ∧ sc st ≤ 8 ∧ C 202 [.ref b0, .int b1] M L (fun r M' L' => wp J K C Q os ls (r.toList ++ st) M' L')) :=
  propext ⟨fun h => ⟨h.2.1, h.2.2.1, h.2.2.2⟩, fun h => ⟨rfl, h.1, h.2.1, h.2.2⟩⟩
theorem wc_X7_ask {b0 : Nat} {b1 : Int32} {b2 : Int32} : wp J K C Q (.invokeinterface 203 115 :: os) ls (.int b2 :: .int b1 :: .ref b0 :: st) M L = (kd b0 = 7 ∧ sc st ≤ 8 ∧ C 203 [.ref b0, .int b1, .int b2] M L (fun r M' L' => wp J K C Q os ls (r.toList ++ st) M' L')) :=
  propext ⟨fun h => ⟨h.2.1, h.2.2.1, h.2.2.2⟩, fun h => ⟨rfl, h.1, h.2.1, h.2.2⟩⟩
theorem wc_X7_trace {b0 : Nat} {b1 : Int32} : wp J K C Q (.invokeinterface 204 114 :: os) ls (.int b1 :: .ref b0 :: st) M L = (kd b0 = 7 ∧ sc st ≤ 8 ∧ C 204 [.ref b0, .int b1] M L (fun r M' L' => wp J K C Q os ls (r.toList ++ st) M' L')) :=
  propext ⟨fun h => ⟨h.2.1, h.2.2.1, h.2.2.2⟩, fun h => ⟨rfl, h.1, h.2.1, h.2.2⟩⟩
theorem wc_X7_count {b0 : Nat} {b1 : Int32} : wp J K C Q (.invokeinterface 205 114 :: os) ls (.int b1 :: .ref b0 :: st) M L = (kd b0 = 7 ∧ sc st ≤ 8 ∧ C 205 [.ref b0, .int b1] M L (fun r M' L' => wp J K C Q os ls (r.toList ++ st) M' L')) :=
  propext ⟨fun h => ⟨h.2.1, h.2.2.1, h.2.2.2⟩, fun h => ⟨rfl, h.1, h.2.1, h.2.2⟩⟩
theorem wc_X7_status {b0 : Nat} : wp J K C Q (.invokeinterface 206 113 :: os) ls (.ref b0 :: st) M L = (kd b0 = 7 ∧ sc st ≤ 8 ∧ C 206 [.ref b0] M L (fun r M' L' => wp J K C Q os ls (r.toList ++ st) M' L')) :=
  propext ⟨fun h => ⟨h.2.1, h.2.2.1, h.2.2.2⟩, fun h => ⟨rfl, h.1, h.2.1, h.2.2⟩⟩
theorem wc_J6_bitCount_0f7a4 {b0 : Int32} : wp J K C Q (.multianewarray 207 1 :: os) ls (.int b0 :: st) M L = (sc st ≤ 8 ∧ C 207 [.int b0] M L (fun r M' L' => wp J K C Q os ls (r.toList ++ st) M' L')) :=
  propext ⟨fun h => ⟨h.2.1, h.2.2⟩, fun h => ⟨rfl, h.1, h.2⟩⟩
end
theorem w_N {n d f pc : Nat} {t : Bt} {Q : Qt} {ls : Lc} {st : List Value} {M : Mm} {L : Ml} : wpN n d t Q (f + 1) pc ls st M L = wp (wpN n d t Q f) (Runs n d Q) (CallOk d) Q (tb t pc) ls st M L := rfl
theorem sc_nil : sc [] = 0 := rfl
theorem sc_i {x : Int32} {st : List Value} : sc (.int x :: st) = 1 + sc st := rfl
theorem sc_r {x : Nat} {st : List Value} : sc (.ref x :: st) = 1 + sc st := rfl
theorem sc_l {x : Int64} {st : List Value} : sc (.long x :: st) = 2 + sc st := rfl
theorem tl_s {v : Value} {st : List Value} : (some v).toList ++ st = v :: st := rfl
theorem tl_n {st : List Value} : (none : Option Value).toList ++ st = st := rfl
theorem lg_0 {a : Option Value} {t : Lc} : lg (a :: t) 0 = a := rfl
theorem lg_1 {a0 a : Option Value} {t : Lc} : lg (a0 :: a :: t) 1 = a := rfl
theorem lg_2 {a0 a1 a : Option Value} {t : Lc} : lg (a0 :: a1 :: a :: t) 2 = a := rfl
theorem lg_3 {a0 a1 a2 a : Option Value} {t : Lc} : lg (a0 :: a1 :: a2 :: a :: t) 3 = a := rfl
theorem lg_4 {a0 a1 a2 a3 a : Option Value} {t : Lc} : lg (a0 :: a1 :: a2 :: a3 :: a :: t) 4 = a := rfl
theorem lg_5 {a0 a1 a2 a3 a4 a : Option Value} {t : Lc} : lg (a0 :: a1 :: a2 :: a3 :: a4 :: a :: t) 5 = a := rfl
theorem lg_6 {a0 a1 a2 a3 a4 a5 a : Option Value} {t : Lc} : lg (a0 :: a1 :: a2 :: a3 :: a4 :: a5 :: a :: t) 6 = a := rfl
theorem lg_7 {a0 a1 a2 a3 a4 a5 a6 a : Option Value} {t : Lc} : lg (a0 :: a1 :: a2 :: a3 :: a4 :: a5 :: a6 :: a :: t) 7 = a := rfl
theorem lg_8 {a0 a1 a2 a3 a4 a5 a6 a7 a : Option Value} {t : Lc} : lg (a0 :: a1 :: a2 :: a3 :: a4 :: a5 :: a6 :: a7 :: a :: t) 8 = a := rfl
theorem lg_9 {a0 a1 a2 a3 a4 a5 a6 a7 a8 a : Option Value} {t : Lc} : lg (a0 :: a1 :: a2 :: a3 :: a4 :: a5 :: a6 :: a7 :: a8 :: a :: t) 9 = a := rfl
theorem lg_10 {a0 a1 a2 a3 a4 a5 a6 a7 a8 a9 a : Option Value} {t : Lc} : lg (a0 :: a1 :: a2 :: a3 :: a4 :: a5 :: a6 :: a7 :: a8 :: a9 :: a :: t) 10 = a := rfl
theorem lg_11 {a0 a1 a2 a3 a4 a5 a6 a7 a8 a9 a10 a : Option Value} {t : Lc} : lg (a0 :: a1 :: a2 :: a3 :: a4 :: a5 :: a6 :: a7 :: a8 :: a9 :: a10 :: a :: t) 11 = a := rfl
theorem lg_12 {a0 a1 a2 a3 a4 a5 a6 a7 a8 a9 a10 a11 a : Option Value} {t : Lc} : lg (a0 :: a1 :: a2 :: a3 :: a4 :: a5 :: a6 :: a7 :: a8 :: a9 :: a10 :: a11 :: a :: t) 12 = a := rfl
theorem lg_13 {a0 a1 a2 a3 a4 a5 a6 a7 a8 a9 a10 a11 a12 a : Option Value} {t : Lc} : lg (a0 :: a1 :: a2 :: a3 :: a4 :: a5 :: a6 :: a7 :: a8 :: a9 :: a10 :: a11 :: a12 :: a :: t) 13 = a := rfl
theorem lg_14 {a0 a1 a2 a3 a4 a5 a6 a7 a8 a9 a10 a11 a12 a13 a : Option Value} {t : Lc} : lg (a0 :: a1 :: a2 :: a3 :: a4 :: a5 :: a6 :: a7 :: a8 :: a9 :: a10 :: a11 :: a12 :: a13 :: a :: t) 14 = a := rfl
theorem lg_15 {a0 a1 a2 a3 a4 a5 a6 a7 a8 a9 a10 a11 a12 a13 a14 a : Option Value} {t : Lc} : lg (a0 :: a1 :: a2 :: a3 :: a4 :: a5 :: a6 :: a7 :: a8 :: a9 :: a10 :: a11 :: a12 :: a13 :: a14 :: a :: t) 15 = a := rfl
theorem lg_16 {a0 a1 a2 a3 a4 a5 a6 a7 a8 a9 a10 a11 a12 a13 a14 a15 a : Option Value} {t : Lc} : lg (a0 :: a1 :: a2 :: a3 :: a4 :: a5 :: a6 :: a7 :: a8 :: a9 :: a10 :: a11 :: a12 :: a13 :: a14 :: a15 :: a :: t) 16 = a := rfl
theorem lg_17 {a0 a1 a2 a3 a4 a5 a6 a7 a8 a9 a10 a11 a12 a13 a14 a15 a16 a : Option Value} {t : Lc} : lg (a0 :: a1 :: a2 :: a3 :: a4 :: a5 :: a6 :: a7 :: a8 :: a9 :: a10 :: a11 :: a12 :: a13 :: a14 :: a15 :: a16 :: a :: t) 17 = a := rfl
theorem lg_18 {a0 a1 a2 a3 a4 a5 a6 a7 a8 a9 a10 a11 a12 a13 a14 a15 a16 a17 a : Option Value} {t : Lc} : lg (a0 :: a1 :: a2 :: a3 :: a4 :: a5 :: a6 :: a7 :: a8 :: a9 :: a10 :: a11 :: a12 :: a13 :: a14 :: a15 :: a16 :: a17 :: a :: t) 18 = a := rfl
theorem lg_19 {a0 a1 a2 a3 a4 a5 a6 a7 a8 a9 a10 a11 a12 a13 a14 a15 a16 a17 a18 a : Option Value} {t : Lc} : lg (a0 :: a1 :: a2 :: a3 :: a4 :: a5 :: a6 :: a7 :: a8 :: a9 :: a10 :: a11 :: a12 :: a13 :: a14 :: a15 :: a16 :: a17 :: a18 :: a :: t) 19 = a := rfl
theorem ci_m1000100 : cI (-1000100) = -1000100 := by rw [cI_e]; decide
theorem ci_m1000010 : cI (-1000010) = -1000010 := by rw [cI_e]; decide
theorem ci_m1000003 : cI (-1000003) = -1000003 := by rw [cI_e]; decide
theorem ci_m1000002 : cI (-1000002) = -1000002 := by rw [cI_e]; decide
theorem ci_m1000001 : cI (-1000001) = -1000001 := by rw [cI_e]; decide
theorem ci_m1000000 : cI (-1000000) = -1000000 := by rw [cI_e]; decide
theorem ci_m1 : cI (-1) = -1 := by rw [cI_e]; decide
theorem ci_0 : cI 0 = nI 0 := by rw [cI_e]; decide
theorem ci_1 : cI 1 = nI 1 := by rw [cI_e]; decide
theorem ci_2 : cI 2 = nI 2 := by rw [cI_e]; decide
theorem ci_3 : cI 3 = nI 3 := by rw [cI_e]; decide
theorem ci_4 : cI 4 = nI 4 := by rw [cI_e]; decide
theorem ci_5 : cI 5 = nI 5 := by rw [cI_e]; decide
theorem ci_6 : cI 6 = nI 6 := by rw [cI_e]; decide
theorem ci_7 : cI 7 = nI 7 := by rw [cI_e]; decide
theorem ci_8 : cI 8 = nI 8 := by rw [cI_e]; decide
theorem ci_9 : cI 9 = nI 9 := by rw [cI_e]; decide
theorem ci_10 : cI 10 = nI 10 := by rw [cI_e]; decide
theorem ci_11 : cI 11 = nI 11 := by rw [cI_e]; decide
theorem ci_12 : cI 12 = nI 12 := by rw [cI_e]; decide
theorem ci_13 : cI 13 = nI 13 := by rw [cI_e]; decide
theorem ci_14 : cI 14 = nI 14 := by rw [cI_e]; decide
theorem ci_15 : cI 15 = nI 15 := by rw [cI_e]; decide
theorem ci_16 : cI 16 = nI 16 := by rw [cI_e]; decide
theorem ci_17 : cI 17 = nI 17 := by rw [cI_e]; decide
theorem ci_18 : cI 18 = nI 18 := by rw [cI_e]; decide
theorem ci_19 : cI 19 = nI 19 := by rw [cI_e]; decide
theorem ci_20 : cI 20 = nI 20 := by rw [cI_e]; decide
theorem ci_21 : cI 21 = nI 21 := by rw [cI_e]; decide
theorem ci_22 : cI 22 = nI 22 := by rw [cI_e]; decide
theorem ci_23 : cI 23 = nI 23 := by rw [cI_e]; decide
theorem ci_24 : cI 24 = nI 24 := by rw [cI_e]; decide
theorem ci_25 : cI 25 = nI 25 := by rw [cI_e]; decide
theorem ci_26 : cI 26 = nI 26 := by rw [cI_e]; decide
theorem ci_27 : cI 27 = nI 27 := by rw [cI_e]; decide
theorem ci_28 : cI 28 = nI 28 := by rw [cI_e]; decide
theorem ci_29 : cI 29 = nI 29 := by rw [cI_e]; decide
theorem ci_30 : cI 30 = nI 30 := by rw [cI_e]; decide
theorem ci_31 : cI 31 = nI 31 := by rw [cI_e]; decide
theorem ci_32 : cI 32 = nI 32 := by rw [cI_e]; decide
theorem ci_33 : cI 33 = nI 33 := by rw [cI_e]; decide
theorem ci_34 : cI 34 = nI 34 := by rw [cI_e]; decide
theorem ci_35 : cI 35 = nI 35 := by rw [cI_e]; decide
theorem ci_36 : cI 36 = nI 36 := by rw [cI_e]; decide
theorem ci_38 : cI 38 = nI 38 := by rw [cI_e]; decide
theorem ci_40 : cI 40 = nI 40 := by rw [cI_e]; decide
theorem ci_44 : cI 44 = nI 44 := by rw [cI_e]; decide
theorem ci_46 : cI 46 = nI 46 := by rw [cI_e]; decide
theorem ci_48 : cI 48 = nI 48 := by rw [cI_e]; decide
theorem ci_54 : cI 54 = nI 54 := by rw [cI_e]; decide
theorem ci_57 : cI 57 = nI 57 := by rw [cI_e]; decide
theorem ci_59 : cI 59 = nI 59 := by rw [cI_e]; decide
theorem ci_60 : cI 60 = nI 60 := by rw [cI_e]; decide
theorem ci_63 : cI 63 = nI 63 := by rw [cI_e]; decide
theorem ci_97 : cI 97 = nI 97 := by rw [cI_e]; decide
theorem ci_98 : cI 98 = nI 98 := by rw [cI_e]; decide
theorem ci_99 : cI 99 = nI 99 := by rw [cI_e]; decide
theorem ci_100 : cI 100 = nI 100 := by rw [cI_e]; decide
theorem ci_104 : cI 104 = nI 104 := by rw [cI_e]; decide
theorem ci_114 : cI 114 = nI 114 := by rw [cI_e]; decide
theorem ci_115 : cI 115 = nI 115 := by rw [cI_e]; decide
theorem ci_119 : cI 119 = nI 119 := by rw [cI_e]; decide
theorem ci_122 : cI 122 = nI 122 := by rw [cI_e]; decide
theorem ci_255 : cI 255 = nI 255 := by rw [cI_e]; decide
theorem ci_999 : cI 999 = nI 999 := by rw [cI_e]; decide
theorem ci_1000 : cI 1000 = nI 1000 := by rw [cI_e]; decide
theorem ci_1242 : cI 1242 = nI 1242 := by rw [cI_e]; decide
theorem ci_999999 : cI 999999 = nI 999999 := by rw [cI_e]; decide
theorem ci_252645135 : cI 252645135 = nI 252645135 := by rw [cI_e]; decide
theorem ci_858993459 : cI 858993459 = nI 858993459 := by rw [cI_e]; decide
theorem ci_1431655765 : cI 1431655765 = nI 1431655765 := by rw [cI_e]; decide
theorem cl_m1000002 : lI (-1000002) = -1000002 := by rw [lI_e]; decide
theorem cl_m1000001 : lI (-1000001) = -1000001 := by rw [lI_e]; decide
theorem cl_0 : lI 0 = lN 0 := by rw [lI_e]; decide
theorem cl_1 : lI 1 = lN 1 := by rw [lI_e]; decide
theorem cl_3 : lI 3 = lN 3 := by rw [lI_e]; decide
theorem cl_8 : lI 8 = lN 8 := by rw [lI_e]; decide
theorem cl_10 : lI 10 = lN 10 := by rw [lI_e]; decide
theorem cl_16807 : lI 16807 = lN 16807 := by rw [lI_e]; decide
theorem cl_2147483647 : lI 2147483647 = lN 2147483647 := by rw [lI_e]; decide
