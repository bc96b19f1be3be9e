/-! THE PLAIN MACHINE: a small evaluator of bytecode over a plain memory; its proofs against the JVM's model stand in the next parts -/
/-- memory: ints (booleans, bytes too), longs, references (0 null, 1 the script, n the cell n), cells made, slots made -/
abbrev tm_M : Type := (Nat → Nat → Int32) × (Nat → Nat → Int64) × (Nat → Nat → Nat) × Nat × Nat
def tm_i (M : tm_M) (a k : Nat) : Int32 := M.1 a k
def tm_j (M : tm_M) (a k : Nat) : Int64 := M.2.1 a k
def tm_r (M : tm_M) (a k : Nat) : Nat := M.2.2.1 a k
def tm_z (M : tm_M) : Nat := M.2.2.2.1
def tm_s (M : tm_M) : Nat := M.2.2.2.2
def tm_u {α : Type} (f : Nat → Nat → α) (a k : Nat) (v : α) : Nat → Nat → α := fun x y => if x = a then (if y = k then v else f x y) else f x y
def tm_c {α : Type} (f : Nat → Nat → α) (a : Nat) (v : α) : Nat → Nat → α := fun x y => if x = a then v else f x y
def tm_si (M : tm_M) (a k : Nat) (v : Int32) : tm_M := (tm_u M.1 a k v, M.2)
def tm_sj (M : tm_M) (a k : Nat) (v : Int64) : tm_M := (M.1, tm_u M.2.1 a k v, M.2.2)
def tm_sr (M : tm_M) (a k : Nat) (v : Nat) : tm_M := (M.1, M.2.1, tm_u M.2.2.1 a k v, M.2.2.2)
/-- a new cell with n slots: all of it 0 -/
def tm_nw (M : tm_M) (n : Nat) : tm_M := (tm_c M.1 (M.2.2.2.1 + 2) 0, tm_c M.2.1 (M.2.2.2.1 + 2) 0, tm_c M.2.2.1 (M.2.2.2.1 + 2) 0, M.2.2.2.1 + 1, M.2.2.2.2 + n)
abbrev tm_A : Type := List (Nat × Value)
abbrev tm_R : Type := Option Value × tm_M
abbrev tm_K : Type := Nat → tm_A → List Value → tm_M → Option tm_R
abbrev tm_G : Type := Nat → List Value → tm_M → Option tm_R
abbrev tm_E : Type := Nat × Instr × Nat × Nat × Nat × Nat
abbrev tm_X : Type := Option (Nat × (Nat → Int32))
abbrev tm_N : Type := Nat → tm_A → List Value → tm_M → Option tm_R
/-- the shapes of cells: kind and length -/
abbrev tm_S : Type := Nat → Nat × Nat
def tm_kd (S : tm_S) (M : tm_M) (a : Nat) : Nat := if a < tm_z M + 2 then (S a).1 else 0
def tm_at : List tm_E → Nat → Option (Instr × Nat × Nat × Nat × Nat)
  | [], _ => none
  | q :: r, pc => bif Nat.beq q.1 pc then some q.2 else tm_at r pc
def tm_lg : tm_A → Nat → Option Value
  | [], _ => none
  | q :: r, i => bif Nat.beq q.1 i then some q.2 else tm_lg r i
def tm_pk (live : List Nat) (ls : tm_A) : tm_A := live.filterMap (fun i => (tm_lg ls i).map (fun v => (i, v)))
def tm_cut : List (Nat × List Nat) → Nat → Option (List Nat)
  | [], _ => none
  | q :: r, pc => bif Nat.beq q.1 pc then some q.2 else tm_cut r pc
def tm_st1 (ls : tm_A) (i : Nat) (v : Value) : tm_A := (i, v) :: ls.filter (fun q => !(q.1 == i) && !(q.1 + 1 == i && q.2.category == 2))
def tm_st2 (ls : tm_A) (i : Nat) (v : Value) : tm_A := (i, v) :: ls.filter (fun q => !(q.1 == i) && (!(q.1 == i + 1) && !(q.1 + 1 == i && q.2.category == 2)))
def tm_p1 (st : List Value) (k : Int32 → List Value → Option tm_R) : Option tm_R := match st with
  | .int x :: r => k x r
  | _ => none
def tm_p2 (st : List Value) (k : Int32 → Int32 → List Value → Option tm_R) : Option tm_R := match st with
  | .int y :: .int x :: r => k x y r
  | _ => none
def tm_pl (st : List Value) (k : Int64 → Int64 → List Value → Option tm_R) : Option tm_R := match st with
  | .long y :: .long x :: r => k x y r
  | _ => none
def tm_pr (st : List Value) (k : Nat → List Value → Option tm_R) : Option tm_R := match st with
  | .ref a :: r => k a r
  | _ => none
/-- index and array -/
def tm_pa (st : List Value) (k : Int32 → Nat → List Value → Option tm_R) : Option tm_R := match st with
  | .int i :: .ref a :: r => k i a r
  | _ => none
def tm_li (o : Option Value) (k : Int32 → Option tm_R) : Option tm_R := match o with
  | some (.int x) => k x
  | _ => none
def tm_ll (o : Option Value) (k : Int64 → Option tm_R) : Option tm_R := match o with
  | some (.long x) => k x
  | _ => none
def tm_la (o : Option Value) (k : Nat → Option tm_R) : Option tm_R := match o with
  | some (.ref x) => k x
  | _ => none
def tm_bI (o : Option tm_R) (k : Int32 → tm_M → Option tm_R) : Option tm_R := match o with
  | some (some (.int x), M) => k x M
  | _ => none
def tm_bJ (o : Option tm_R) (k : Int64 → tm_M → Option tm_R) : Option tm_R := match o with
  | some (some (.long x), M) => k x M
  | _ => none
def tm_bV (o : Option tm_R) (k : tm_M → Option tm_R) : Option tm_R := match o with
  | some (none, M) => k M
  | _ => none
def tm_sw (go : Nat → Option tm_R) (pc : Nat) (x : Int32) : List Int → Int → Int → Option tm_R
  | [], _, d => go ((pc : Int) + d).toNat
  | o :: r, lo, d => if x.toInt = lo then go ((pc : Int) + o).toNat else tm_sw go pc x r (lo + 1) d
def tm_lk (go : Nat → Option tm_R) (pc : Nat) (x : Int32) : List (Int × Int) → Int → Option tm_R
  | [], d => go ((pc : Int) + d).toNat
  | o :: r, d => if x.toInt = o.1 then go ((pc : Int) + o.2).toNat else tm_lk go pc x r d
def tm_w (st : List Value) : Nat := (st.map fun v => v.category).sum
/-- a call: n values, then (with 1) the receiver -/
def tm_call (G : tm_G) (go : tm_N) (pc id rk : Nat) (as rest : List Value) (ls : tm_A) (M : tm_M) : Option tm_R :=
  if 8 < tm_w rest then none else
  match rk with
  | 0 => tm_bV (G id as M) fun M => go (pc + 3) ls rest M
  | 1 => tm_bI (G id as M) fun x M => go (pc + 3) ls (.int x :: rest) M
  | _ => tm_bJ (G id as M) fun x M => go (pc + 3) ls (.long x :: rest) M
def tm_cmp (c : ClassFile.Cond) (x y : Int32) (a b : Option tm_R) : Option tm_R := match c with
  | .eq => if x = y then a else b
  | .ne => if x = y then b else a
  | .lt => if x < y then a else b
  | .ge => if y ≤ x then a else b
  | .gt => if y < x then a else b
  | .le => if x ≤ y then a else b
/-- one instruction. S: the shapes; X: the script; G: what calls give; tz: whether the method answers a boolean; go: what follows -/
def tm_ex (S : tm_S) (X : tm_X) (G : tm_G) (tz : Bool) (go : tm_N) (i : Instr) (x1 x2 x3 : Nat) (pc : Nat) (ls : tm_A) (st : List Value) (M : tm_M) : Option tm_R := match i with
  | .aload_n n => tm_la (tm_lg ls n) fun a => go (pc + 1) ls (.ref a :: st) M
  | .aload n => tm_la (tm_lg ls n) fun a => go (pc + 2) ls (.ref a :: st) M
  | .iload_n n => tm_li (tm_lg ls n) fun a => go (pc + 1) ls (.int a :: st) M
  | .iload n => tm_li (tm_lg ls n) fun a => go (pc + 2) ls (.int a :: st) M
  | .lload_n n => tm_ll (tm_lg ls n) fun a => go (pc + 1) ls (.long a :: st) M
  | .lload n => tm_ll (tm_lg ls n) fun a => go (pc + 2) ls (.long a :: st) M
  | .istore_n n => tm_p1 st fun x r => go (pc + 1) (tm_st1 ls n (.int x)) r M
  | .istore n => tm_p1 st fun x r => go (pc + 2) (tm_st1 ls n (.int x)) r M
  | .astore_n n => tm_pr st fun x r => go (pc + 1) (tm_st1 ls n (.ref x)) r M
  | .astore n => tm_pr st fun x r => go (pc + 2) (tm_st1 ls n (.ref x)) r M
  | .lstore_n n => match st with
    | .long x :: r => go (pc + 1) (tm_st2 ls n (.long x)) r M
    | _ => none
  | .lstore n => match st with
    | .long x :: r => go (pc + 2) (tm_st2 ls n (.long x)) r M
    | _ => none
  | .iinc n d => tm_li (tm_lg ls n) fun a => go (pc + 3) (tm_st1 ls n (.int (a + Int32.ofInt d))) st M
  | .iconst c => go (pc + 1) ls (.int (Int32.ofInt c) :: st) M
  | .bipush c => go (pc + 2) ls (.int (Int8.ofInt c).toInt32 :: st) M
  | .sipush c => go (pc + 3) ls (.int (Int16.ofInt c).toInt32 :: st) M
  | .lconst c => go (pc + 1) ls (.long (Int64.ofNat (c : Nat)) :: st) M
  | .ldc _ => if x3 = 1 then go (pc + 2) ls (.retAddr 0 :: st) M else go (pc + 2) ls (.int (Int32.ofInt (Int.negSucc x1 + Int.ofNat x2 + 1)) :: st) M
  | .ldc_w _ => go (pc + 3) ls (.int (Int32.ofInt (Int.negSucc x1 + Int.ofNat x2 + 1)) :: st) M
  | .ldc2_w _ => go (pc + 3) ls (.long (Int64.ofNat x1) :: st) M
  | .iadd => tm_p2 st fun x y r => go (pc + 1) ls (.int (x + y) :: r) M
  | .isub => tm_p2 st fun x y r => go (pc + 1) ls (.int (x - y) :: r) M
  | .imul => tm_p2 st fun x y r => go (pc + 1) ls (.int (x * y) :: r) M
  | .idiv => tm_p2 st fun x y r => if y = 0 then none else go (pc + 1) ls (.int (x / y) :: r) M
  | .irem => tm_p2 st fun x y r => if y = 0 then none else go (pc + 1) ls (.int (x - x / y * y) :: r) M
  | .iand => tm_p2 st fun x y r => go (pc + 1) ls (.int (x &&& y) :: r) M
  | .ior => tm_p2 st fun x y r => go (pc + 1) ls (.int (x ||| y) :: r) M
  | .ixor => tm_p2 st fun x y r => go (pc + 1) ls (.int (x ^^^ y) :: r) M
  | .ishl => tm_p2 st fun x y r => go (pc + 1) ls (.int (x <<< (y &&& 31)) :: r) M
  | .ishr => tm_p2 st fun x y r => go (pc + 1) ls (.int (x >>> (y &&& 31)) :: r) M
  | .iushr => tm_p2 st fun x y r => go (pc + 1) ls (.int (x.toUInt32 >>> (y.toUInt32 &&& Int32.toUInt32 31)).toInt32 :: r) M
  | .ladd => tm_pl st fun x y r => go (pc + 1) ls (.long (x + y) :: r) M
  | .lmul => tm_pl st fun x y r => go (pc + 1) ls (.long (x * y) :: r) M
  | .lor => tm_pl st fun x y r => go (pc + 1) ls (.long (x ||| y) :: r) M
  | .land => tm_pl st fun x y r => go (pc + 1) ls (.long (x &&& y) :: r) M
  | .lxor => tm_pl st fun x y r => go (pc + 1) ls (.long (x ^^^ y) :: r) M
  | .lshl => match st with
    | .int y :: .long x :: r => go (pc + 1) ls (.long (x <<< (y.toInt64 &&& 63)) :: r) M
    | _ => none
  | .lshr => match st with
    | .int y :: .long x :: r => go (pc + 1) ls (.long (x >>> (y.toInt64 &&& 63)) :: r) M
    | _ => none
  | .lcmp => tm_pl st fun x y r => go (pc + 1) ls (.int (lg_cmp x y) :: r) M
  | .i2l => tm_p1 st fun x r => go (pc + 1) ls (.long x.toInt64 :: r) M
  | .i2b => tm_p1 st fun x r => go (pc + 1) ls (.int x.toInt8.toInt32 :: r) M
  | .l2i => match st with
    | .long x :: r => go (pc + 1) ls (.int x.toInt32 :: r) M
    | _ => none
  | .dup => match st with
    | v :: r => if v.category = 1 then go (pc + 1) ls (v :: v :: r) M else none
    | _ => none
  | .dup2 => match st with
    | v :: w :: r => if v.category = 1 ∧ w.category = 1 then go (pc + 1) ls (v :: w :: v :: w :: r) M else none
    | _ => none
  | .goto _ => go x1 ls st M
  | .ifCond c _ => tm_p1 st fun x r => tm_cmp c x 0 (go x1 ls r M) (go (pc + 3) ls r M)
  | .if_icmp c _ => tm_p2 st fun x y r => tm_cmp c x y (go x1 ls r M) (go (pc + 3) ls r M)
  | .tableswitch d lo _ os => tm_p1 st fun x r => tm_sw (fun q => go q ls r M) pc x os.toList lo d
  | .lookupswitch d ps => tm_p1 st fun x r => tm_lk (fun q => go q ls r M) pc x ps.toList d
  | .getfield _ => tm_pr st fun a r => if tm_kd S M a = 100 + x1 then (match x3 with
      | 0 => go (pc + 3) ls (.int (tm_i M a x2) :: r) M
      | 1 => go (pc + 3) ls (.long (tm_j M a x2) :: r) M
      | _ => go (pc + 3) ls (.ref (tm_r M a x2) :: r) M) else none
  | .putfield _ => match x3, st with
    | 0, .int v :: .ref a :: r => if tm_kd S M a = 100 + x1 then go (pc + 3) ls r (tm_si M a x2 v) else none
    | 1, .long v :: .ref a :: r => if tm_kd S M a = 100 + x1 then go (pc + 3) ls r (tm_sj M a x2 v) else none
    | 2, .ref v :: .ref a :: r => if tm_kd S M a = 100 + x1 then go (pc + 3) ls r (tm_sr M a x2 v) else none
    | 3, .int v :: .ref a :: r => if tm_kd S M a = 100 + x1 then (if v = 0 ∨ v = 1 then go (pc + 3) ls r (tm_si M a x2 v) else none) else none
    | _, _ => none
  | .iaload => tm_pa st fun i a r => if a = 1 then (match X with
      | some q => if 0 ≤ i ∧ i.toNatClampNeg < q.1 then go (pc + 1) ls (.int (q.2 i.toNatClampNeg) :: r) M else none
      | none => none) else if tm_kd S M a = 1 then (if 0 ≤ i ∧ i.toNatClampNeg < (S a).2 then go (pc + 1) ls (.int (tm_i M a i.toNatClampNeg) :: r) M else none) else none
  | .baload => tm_pa st fun i a r => if tm_kd S M a = 2 ∨ tm_kd S M a = 3 then (if 0 ≤ i ∧ i.toNatClampNeg < (S a).2 then go (pc + 1) ls (.int (tm_i M a i.toNatClampNeg) :: r) M else none) else none
  | .laload => tm_pa st fun i a r => if tm_kd S M a = 4 then (if 0 ≤ i ∧ i.toNatClampNeg < (S a).2 then go (pc + 1) ls (.long (tm_j M a i.toNatClampNeg) :: r) M else none) else none
  | .aaload => tm_pa st fun i a r => if tm_kd S M a = 5 ∨ tm_kd S M a = 6 then (if 0 ≤ i ∧ i.toNatClampNeg < (S a).2 then go (pc + 1) ls (.ref (tm_r M a i.toNatClampNeg) :: r) M else none) else none
  | .iastore => tm_p1 st fun v st => tm_pa st fun i a r => if tm_kd S M a = 1 then (if 0 ≤ i ∧ i.toNatClampNeg < (S a).2 then go (pc + 1) ls r (tm_si M a i.toNatClampNeg v) else none) else none
  | .bastore => tm_p1 st fun v st => tm_pa st fun i a r => if tm_kd S M a = 2 then (if 0 ≤ i ∧ i.toNatClampNeg < (S a).2 then go (pc + 1) ls r (tm_si M a i.toNatClampNeg v.toInt8.toInt32) else none)
      else if tm_kd S M a = 3 then (if 0 ≤ i ∧ i.toNatClampNeg < (S a).2 then go (pc + 1) ls r (tm_si M a i.toNatClampNeg (v &&& 1)) else none) else none
  | .lastore => match st with
    | .long v :: st => tm_pa st fun i a r => if tm_kd S M a = 4 then (if 0 ≤ i ∧ i.toNatClampNeg < (S a).2 then go (pc + 1) ls r (tm_sj M a i.toNatClampNeg v) else none) else none
    | _ => none
  | .aastore => tm_pr st fun v st => tm_pa st fun i a r => if (tm_kd S M a = 5 ∨ tm_kd S M a = 6) ∧ tm_kd S M v = 100 + x1 ∧ tm_kd S M a = x2 then (if 0 ≤ i ∧ i.toNatClampNeg < (S a).2 then go (pc + 1) ls r (tm_sr M a i.toNatClampNeg v) else none) else none
  | .arraylength => tm_pr st fun a r => if a = 1 then (match X with
      | some q => go (pc + 1) ls (.int (Int32.ofNat q.1) :: r) M
      | none => none) else if 1 ≤ tm_kd S M a ∧ tm_kd S M a ≤ 6 then go (pc + 1) ls (.int (Int32.ofNat (S a).2) :: r) M else none
  | .new _ => if S (tm_z M + 2) = (100 + x1, x2) then go (pc + 3) ls (.ref (tm_z M + 2) :: st) (tm_nw M x2) else none
  | .newarray _ => tm_p1 st fun n r => if 0 ≤ n ∧ n.toNatClampNeg ≤ 100000 ∧ S (tm_z M + 2) = (x1, n.toNatClampNeg) then go (pc + 2) ls (.ref (tm_z M + 2) :: r) (tm_nw M n.toNatClampNeg) else none
  | .anewarray _ => tm_p1 st fun n r => if 0 ≤ n ∧ n.toNatClampNeg ≤ 100000 ∧ S (tm_z M + 2) = (x1, n.toNatClampNeg) then go (pc + 3) ls (.ref (tm_z M + 2) :: r) (tm_nw M n.toNatClampNeg) else none
  | .invokestatic _ => match x1 with
    | 9003 => tm_p2 st fun x y r => if tm_w r ≤ 8 then go (pc + 3) ls (.int (if x < y then y else x) :: r) M else none
    | 9004 => tm_p2 st fun x y r => if tm_w r ≤ 8 then go (pc + 3) ls (.int (if y < x then y else x) :: r) M else none
    | _ => if st.length < x2 then none else tm_call G go pc x1 x3 (st.take x2).reverse (st.drop x2) ls M
  | .invokevirtual _ => match st.drop x2 with
    | .ref a :: r => if st.length < x2 then none else if tm_kd S M a = 100 + x3 / 4 then tm_call G go pc x1 (x3 % 4) (.ref a :: (st.take x2).reverse) r ls M else none
    | .retAddr _ :: r => match x1, st with
      | 9001, _ => if x2 = 0 ∧ tm_w r ≤ 8 then go (pc + 3) ls (.int 108 :: r) M else none
      | 9002, .int i :: _ => if x2 = 1 ∧ tm_w r ≤ 8 ∧ 0 ≤ i ∧ i.toNatClampNeg < 108 then go (pc + 3) ls (.int (Int32.ofNat ("trick worth feet cross to off turn from facing alone a b l r beats at in out does mirrored takes left right ".toList.getD i.toNatClampNeg ' ').toNat) :: r) M else none
      | _, _ => none
    | _ => none
  | .invokespecial _ => match st.drop x2 with
    | .ref a :: r => if st.length < x2 then none else if tm_kd S M a = 100 + x3 / 4 then (match x1 with
      | 9000 => if x2 = 0 ∧ tm_w r ≤ 8 then go (pc + 3) ls r M else none
      | _ => tm_call G go pc x1 0 (.ref a :: (st.take x2).reverse) r ls M) else none
    | _ => none
  | .ireturn => match st with
    | [.int v] => if tz = true then (if v = 0 ∨ v = 1 then some (some (.int v), M) else none) else some (some (.int v), M)
    | _ => none
  | .lreturn => match st with
    | [.long v] => some (some (.long v), M)
    | _ => none
  | .return_ => match st with
    | [] => some (none, M)
    | _ => none
  | _ => none
def tm_go (cuts : List (Nat × List Nat)) (K : tm_K) (rec : tm_N) : tm_N := fun pc ls st M => match tm_cut cuts pc with
  | some live => K pc (tm_pk live ls) st M
  | none => rec pc ls st M
/-- a stretch up to the next cut -/
def tm_b (S : tm_S) (X : tm_X) (G : tm_G) (tz : Bool) (cd : List tm_E) (cuts : List (Nat × List Nat)) (K : tm_K) : Nat → tm_N
  | 0 => fun _ _ _ _ => none
  | f + 1 => fun pc ls st M => match tm_at cd pc with
    | none => none
    | some q => tm_ex S X G tz (tm_go cuts K (tm_b S X G tz cd cuts K f)) q.1 q.2.2.1 q.2.2.2.1 q.2.2.2.2 pc ls st M
/-- with n cuts gone through at most -/
def tm_run (S : tm_S) (X : tm_X) (G : tm_G) (tz : Bool) (cd : List tm_E) (cuts : List (Nat × List Nat)) (f : Nat) : Nat → tm_K
  | 0 => fun _ _ _ _ => none
  | n + 1 => fun pc ls st M => tm_b S X G tz cd cuts (tm_run S X G tz cd cuts f n) f pc ls st M
