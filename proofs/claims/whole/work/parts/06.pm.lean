/-! ===== A SMALL MACHINE OVER A PURE MEMORY: cells by number (0: the script; 1 .. n: what was made, in the order of making), ints, longs and references apart ===== -/
/-- how many cells, how many slots in all, tag and length of each cell -/
abbrev pm_W : Type := Nat × Nat × (Nat → Nat × Nat)
abbrev pm_M : Type := pm_W × (Nat → Nat → Int32) × (Nat → Nat → Int64) × (Nat → Nat → Option Nat)
abbrev pm_L : Type := List (Option Value)
def pm_u {α : Type} (f : Nat → Nat → α) (k j : Nat) (v : α) : Nat → Nat → α := fun a i => if a = k ∧ i = j then v else f a i
def pm_z {α : Type} (f : Nat → Nat → α) (lo hi : Nat) (v : α) : Nat → Nat → α := fun a i => if lo ≤ a ∧ a < hi then v else f a i
def pm_zr (f : Nat → Nat → Option Nat) (lo hi o m : Nat) : Nat → Nat → Option Nat := fun a i => if a = o ∧ i < m then some (o + 1 + i) else if lo ≤ a ∧ a < hi then none else f a i
def pm_at (q : pm_D) (pc : Nat) : Option (Instr × Nat) := q.2.2.2.2.2.lookup pc
def pm_cmp (c : Jvm.ClassFile.Cond) (x y : Int32) : Prop := match c with
  | .eq => x = y
  | .ne => ¬ x = y
  | .lt => x < y
  | .ge => y ≤ x
  | .gt => y < x
  | .le => x ≤ y
/-- no long lies over the place ahead of i -/
def pm_ok1 (ls : pm_L) (i : Nat) : Bool := match i with
  | 0 => true
  | i + 1 => match ls[i]? with
    | some (some (.long _)) => false
    | some (some (.double _)) => false
    | _ => true
/-- a cell that is there, by its tag -/
def pm_is (mem : pm_M) (k t : Nat) : Prop := 1 ≤ k ∧ k ≤ mem.1.1 ∧ (mem.1.2.2 k).1 = t
def pm_fv (mem : pm_M) (k c j : Nat) : Value := match c with
  | 0 => .int (mem.2.1 k j)
  | 1 => .long (mem.2.2.1 k j)
  | _ => va_rf (mem.2.2.2 k j)
/-- one more cell, of tag t and length len -/
def pm_new (mem : pm_M) (t len : Nat) : pm_M := ((mem.1.1 + 1, mem.1.2.1 + len, fun k => if k = mem.1.1 + 1 then (t, len) else mem.1.2.2 k), pm_z mem.2.1 (mem.1.1 + 1) (mem.1.1 + 2) 0, pm_z mem.2.2.1 (mem.1.1 + 1) (mem.1.1 + 2) 0, pm_z mem.2.2.2 (mem.1.1 + 1) (mem.1.1 + 2) none)
/-- a row of m rows of len ints -/
def pm_new2 (mem : pm_M) (m len : Nat) : pm_M := ((mem.1.1 + (1 + m), mem.1.2.1 + (m + m * len), fun k => if k = mem.1.1 + 1 then (27, m) else if mem.1.1 + 1 < k ∧ k ≤ mem.1.1 + (1 + m) then (20, len) else mem.1.2.2 k), pm_z mem.2.1 (mem.1.1 + 1) (mem.1.1 + (2 + m)) 0, pm_z mem.2.2.1 (mem.1.1 + 1) (mem.1.1 + (2 + m)) 0, pm_zr mem.2.2.2 (mem.1.1 + 1) (mem.1.1 + (2 + m)) (mem.1.1 + 1) m)
def pm_cpy (f : Nat → Nat → Int32) (a sp b dp n : Nat) : Nat → Nat → Int32 := fun k i => if k = b ∧ dp ≤ i ∧ i < dp + n then f a (sp + (i - dp)) else f k i
/-- links: (own class, entry, kind of call, receiver's tag, method, how many arguments) -/
abbrev pm_row : Type := Nat × Nat × Nat × Nat × Nat × Nat
/-- the tag of a new array of numbers -/
def pm_atag : ArrayType → Option Nat
  | .int => some 20
  | .byte => some 21
  | .boolean => some 22
  | _ => none
/-- how many bytes an instruction has (of the switches nothing is said) -/
def pm_len : Instr → Nat
  | .bipush _ | .ldc _ | .iload _ | .lload _ | .aload _ | .istore _ | .lstore _ | .astore _ | .newarray _ => 2
  | .sipush _ | .ldc_w _ | .ldc2_w _ | .iinc .. | .ifCond .. | .if_icmp .. | .goto _ | .getfield _ | .putfield _ | .new _ | .anewarray _ | .invokestatic _ | .invokevirtual _ | .invokespecial _ => 3
  | .multianewarray .. => 4
  | _ => 1
def pm_lok (ins : Instr) (len : Nat) : Prop := match ins with
  | .tableswitch .. => True
  | .lookupswitch .. => True
  | ins => len = pm_len ins
section PMX
variable (g : Nat → Prop) (C : Nat → List Value → pm_M → Option Value → pm_M → Prop) (E : Option Value → pm_M → Prop) (q : pm_D) (K : Nat → pm_L → List Value → pm_M → Prop)
/-- a call: arguments off the stack, the callee's answer onto it -/
def pm_call (i : Nat) (kinds : List Nat) (stat : Bool) (pc : Nat) (ls : pm_L) (st : List Value) (mem : pm_M) : Prop :=
  ∃ (kd tg M na : Nat) (As r : List Value) (v : Option Value) (mem' : pm_M), (q.2.1, i, kd, tg, M, na) ∈ k_cs ∧ kd ∈ kinds ∧ As.length = na ∧ (r.map fun v => v.category).sum ≤ 8 ∧
    ((stat = true ∧ st = As.reverse ++ r ∧ C M As mem v mem') ∨ (stat = false ∧ ∃ b, st = As.reverse ++ .ref b :: r ∧ pm_is mem b tg ∧ C M (.ref b :: As) mem v mem')) ∧ K (pc + 3) ls (v.toList ++ r) mem'
def pm_ex (pc : Nat) (ls : pm_L) (st : List Value) (mem : pm_M) (ins : Instr) : Prop := match ins with
  | .iconst n => K (pc + 1) ls (.int (Int32.ofInt n) :: st) mem
  | .bipush n => K (pc + 2) ls (.int (Int8.ofInt n).toInt32 :: st) mem
  | .sipush n => K (pc + 3) ls (.int (Int16.ofInt n).toInt32 :: st) mem
  | .lconst n => K (pc + 1) ls (.long (Int64.ofNat (n : Nat)) :: st) mem
  | .ldc i => (∃ v, (q.2.1, i, v) ∈ k_ci ∧ K (pc + 2) ls (.int v :: st) mem) ∨ ∃ k, (q.2.1, i, k) ∈ k_sx ∧ K (pc + 2) ls (.ref (1000000 + k) :: st) mem
  | .ldc_w i => ∃ v, (q.2.1, i, v) ∈ k_ci ∧ K (pc + 3) ls (.int v :: st) mem
  | .ldc2_w i => ∃ v, (q.2.1, i, v) ∈ k_c2 ∧ K (pc + 3) ls (.long v :: st) mem
  | .iload_n k => ∃ x, ls[(k : Nat)]? = some (some (.int x)) ∧ K (pc + 1) ls (.int x :: st) mem
  | .iload k => ∃ x, ls[k]? = some (some (.int x)) ∧ K (pc + 2) ls (.int x :: st) mem
  | .lload_n k => ∃ x, ls[(k : Nat)]? = some (some (.long x)) ∧ K (pc + 1) ls (.long x :: st) mem
  | .lload k => ∃ x, ls[k]? = some (some (.long x)) ∧ K (pc + 2) ls (.long x :: st) mem
  | .aload_n k => ∃ x, ls[(k : Nat)]? = some (some (.ref x)) ∧ K (pc + 1) ls (.ref x :: st) mem
  | .aload k => ∃ x, ls[k]? = some (some (.ref x)) ∧ K (pc + 2) ls (.ref x :: st) mem
  | .istore_n k => ∃ x r, st = .int x :: r ∧ pm_ok1 ls k = true ∧ (k : Nat) < q.2.2.2.1 ∧ K (pc + 1) (ls.set k (some (.int x))) r mem
  | .istore k => ∃ x r, st = .int x :: r ∧ pm_ok1 ls k = true ∧ k < q.2.2.2.1 ∧ K (pc + 2) (ls.set k (some (.int x))) r mem
  | .astore_n k => ∃ x r, st = .ref x :: r ∧ pm_ok1 ls k = true ∧ (k : Nat) < q.2.2.2.1 ∧ K (pc + 1) (ls.set k (some (.ref x))) r mem
  | .astore k => ∃ x r, st = .ref x :: r ∧ pm_ok1 ls k = true ∧ k < q.2.2.2.1 ∧ K (pc + 2) (ls.set k (some (.ref x))) r mem
  | .lstore_n k => ∃ x r, st = .long x :: r ∧ pm_ok1 ls k = true ∧ (k : Nat) + 1 < q.2.2.2.1 ∧ K (pc + 1) ((ls.set k (some (.long x))).set (k + 1) none) r mem
  | .lstore k => ∃ x r, st = .long x :: r ∧ pm_ok1 ls k = true ∧ k + 1 < q.2.2.2.1 ∧ K (pc + 2) ((ls.set k (some (.long x))).set (k + 1) none) r mem
  | .iinc k n => ∃ x, ls[k]? = some (some (.int x)) ∧ pm_ok1 ls k = true ∧ k < q.2.2.2.1 ∧ K (pc + 3) (ls.set k (some (.int (x + Int32.ofInt n)))) st mem
  | .iadd => ∃ x y r, st = .int y :: .int x :: r ∧ K (pc + 1) ls (.int (x + y) :: r) mem
  | .isub => ∃ x y r, st = .int y :: .int x :: r ∧ K (pc + 1) ls (.int (x - y) :: r) mem
  | .imul => ∃ x y r, st = .int y :: .int x :: r ∧ K (pc + 1) ls (.int (x * y) :: r) mem
  | .iand => ∃ x y r, st = .int y :: .int x :: r ∧ K (pc + 1) ls (.int (x &&& y) :: r) mem
  | .ior => ∃ x y r, st = .int y :: .int x :: r ∧ K (pc + 1) ls (.int (x ||| y) :: r) mem
  | .ixor => ∃ x y r, st = .int y :: .int x :: r ∧ K (pc + 1) ls (.int (x ^^^ y) :: r) mem
  | .ishl => ∃ x y r, st = .int y :: .int x :: r ∧ K (pc + 1) ls (.int (x <<< (y &&& 31)) :: r) mem
  | .ishr => ∃ x y r, st = .int y :: .int x :: r ∧ K (pc + 1) ls (.int (x >>> (y &&& 31)) :: r) mem
  | .iushr => ∃ x y r, st = .int y :: .int x :: r ∧ K (pc + 1) ls (.int ((x.toUInt32 >>> (y &&& 31).toUInt32).toInt32) :: r) mem
  | .ineg => ∃ x r, st = .int x :: r ∧ K (pc + 1) ls (.int (-x) :: r) mem
  | .idiv => ∃ x y r, st = .int y :: .int x :: r ∧ ¬ y = 0 ∧ K (pc + 1) ls (.int (x / y) :: r) mem
  | .irem => ∃ x y r, st = .int y :: .int x :: r ∧ ¬ y = 0 ∧ K (pc + 1) ls (.int (x - x / y * y) :: r) mem
  | .ladd => ∃ x y r, st = .long y :: .long x :: r ∧ K (pc + 1) ls (.long (x + y) :: r) mem
  | .lmul => ∃ x y r, st = .long y :: .long x :: r ∧ K (pc + 1) ls (.long (x * y) :: r) mem
  | .ldiv => ∃ x y r, st = .long y :: .long x :: r ∧ ¬ y = 0 ∧ K (pc + 1) ls (.long (x / y) :: r) mem
  | .lrem => ∃ x y r, st = .long y :: .long x :: r ∧ ¬ y = 0 ∧ K (pc + 1) ls (.long (x - x / y * y) :: r) mem
  | .lcmp => ∃ x y r, st = .long y :: .long x :: r ∧ K (pc + 1) ls (.int (lg_cmp x y) :: r) mem
  | .i2l => ∃ x r, st = .int x :: r ∧ K (pc + 1) ls (.long x.toInt64 :: r) mem
  | .l2i => ∃ x r, st = .long x :: r ∧ K (pc + 1) ls (.int x.toInt32 :: r) mem
  | .i2b => ∃ x r, st = .int x :: r ∧ K (pc + 1) ls (.int x.toInt8.toInt32 :: r) mem
  | .dup => ∃ v r, st = v :: r ∧ v.category = 1 ∧ K (pc + 1) ls (v :: v :: r) mem
  | .dup2 => ∃ v w r, st = v :: w :: r ∧ v.category = 1 ∧ w.category = 1 ∧ K (pc + 1) ls (v :: w :: v :: w :: r) mem
  | .pop => ∃ v r, st = v :: r ∧ v.category = 1 ∧ K (pc + 1) ls r mem
  | .ifCond c off => ∃ x r tgt, st = .int x :: r ∧ (pc : Int) + off = ((tgt : Nat) : Int) ∧ (pm_cmp c x 0 → K tgt ls r mem) ∧ (¬ pm_cmp c x 0 → K (pc + 3) ls r mem)
  | .if_icmp c off => ∃ x y r tgt, st = .int y :: .int x :: r ∧ (pc : Int) + off = ((tgt : Nat) : Int) ∧ (pm_cmp c x y → K tgt ls r mem) ∧ (¬ pm_cmp c x y → K (pc + 3) ls r mem)
  | .goto off => ∃ tgt : Nat, (pc : Int) + off = (tgt : Int) ∧ K tgt ls st mem
  | .tableswitch dflt lo hi offs => ∃ x r, st = .int x :: r ∧ ((∃ tgt : Nat, (x.toInt < lo ∨ hi < x.toInt) ∧ (pc : Int) + dflt = (tgt : Int) ∧ K tgt ls r mem) ∨ ∃ (off : Int) (tgt : Nat), ¬ x.toInt < lo ∧ ¬ hi < x.toInt ∧ offs[(x.toInt - lo).toNat]? = some off ∧ (pc : Int) + off = (tgt : Int) ∧ K tgt ls r mem)
  | .lookupswitch dflt ps => ∃ x r tgt, st = .int x :: r ∧ (ps.toList.zip (ps.toList.drop 1)).all (fun (a, next) => a.1 < next.1) = true ∧ (pc : Int) + Op.lookupswitch.offset ps.toList dflt x.toInt = ((tgt : Nat) : Int) ∧ K tgt ls r mem
  | .ireturn => ∃ v ty, st = [.int v] ∧ q.2.2.2.2.1 = some ty ∧ narrow ty (.int v) = .int v ∧ E (some (.int v)) mem
  | .lreturn => ∃ v, st = [.long v] ∧ q.2.2.2.2.1 = some .long ∧ E (some (.long v)) mem
  | .return_ => st = [] ∧ q.2.2.2.2.1 = none ∧ E none mem
  | .getfield i => ∃ k r c j, st = .ref k :: r ∧ (q.2.1, i, c, j) ∈ k_fd ∧ pm_is mem k c ∧ K (pc + 3) ls (pm_fv mem k (k_fc c j) j :: r) mem
  | .putfield i => ∃ v k r c j, st = v :: .ref k :: r ∧ (q.2.1, i, c, j) ∈ k_fd ∧ pm_is mem k c ∧ g k ∧ (k_fin c j = true → q.1.name = "<init>" ∧ q.2.1 = c) ∧
      ((∃ x, v = .int x ∧ k_fc c j = 0 ∧ K (pc + 3) ls r (mem.1, pm_u mem.2.1 k j x, mem.2.2)) ∨ (∃ x, v = .long x ∧ k_fc c j = 1 ∧ K (pc + 3) ls r (mem.1, mem.2.1, pm_u mem.2.2.1 k j x, mem.2.2.2)) ∨ ∃ a, v = .ref a ∧ k_fc c j = 2 ∧ K (pc + 3) ls r (mem.1, mem.2.1, mem.2.2.1, pm_u mem.2.2.2 k j (some a)))
  | .iaload => ∃ i k r, st = .int i :: .ref k :: r ∧ vp_in i (mem.1.2.2 k).2 ∧ (k = 0 ∨ pm_is mem k 20) ∧ K (pc + 1) ls (.int (mem.2.1 k i.toNatClampNeg) :: r) mem
  | .baload => ∃ i k r, st = .int i :: .ref k :: r ∧ vp_in i (mem.1.2.2 k).2 ∧ (pm_is mem k 21 ∨ pm_is mem k 22) ∧ K (pc + 1) ls (.int (mem.2.1 k i.toNatClampNeg) :: r) mem
  | .aaload => ∃ i k r t, st = .int i :: .ref k :: r ∧ vp_in i (mem.1.2.2 k).2 ∧ 23 ≤ t ∧ t ≤ 27 ∧ pm_is mem k t ∧ K (pc + 1) ls (va_rf (mem.2.2.2 k i.toNatClampNeg) :: r) mem
  | .iastore => ∃ x i k r, st = .int x :: .int i :: .ref k :: r ∧ vp_in i (mem.1.2.2 k).2 ∧ pm_is mem k 20 ∧ g k ∧ K (pc + 1) ls r (mem.1, pm_u mem.2.1 k i.toNatClampNeg x, mem.2.2)
  | .bastore => ∃ x i k r, st = .int x :: .int i :: .ref k :: r ∧ vp_in i (mem.1.2.2 k).2 ∧ g k ∧ ((pm_is mem k 21 ∧ K (pc + 1) ls r (mem.1, pm_u mem.2.1 k i.toNatClampNeg (vp_nar .byte x), mem.2.2)) ∨ (pm_is mem k 22 ∧ K (pc + 1) ls r (mem.1, pm_u mem.2.1 k i.toNatClampNeg (vp_nar .boolean x), mem.2.2)))
  | .aastore => ∃ a i k r t c, st = .ref a :: .int i :: .ref k :: r ∧ vp_in i (mem.1.2.2 k).2 ∧ pm_is mem k t ∧ pm_is mem a c ∧ (t, c) ∈ [(23, 4), (24, 2), (25, 3), (26, 8), (26, 6), (26, 0), (26, 1), (26, 5), (26, 10)] ∧ g k ∧ K (pc + 1) ls r (mem.1, mem.2.1, mem.2.2.1, pm_u mem.2.2.2 k i.toNatClampNeg (some a))
  | .arraylength => ∃ k r, st = .ref k :: r ∧ (k = 0 ∨ ∃ t, 20 ≤ t ∧ t ≤ 27 ∧ pm_is mem k t) ∧ K (pc + 1) ls (.int (Int32.ofNat (mem.1.2.2 k).2) :: r) mem
  | .new i => ∃ c, (q.2.1, i, c) ∈ k_nw ∧ c < 13 ∧ mem.1.1 + 2 < 1000000 ∧ K (pc + 3) ls (.ref (mem.1.1 + 1) :: st) (pm_new mem c (k_nf c))
  | .newarray t => ∃ x r tg, st = .int x :: r ∧ ¬ x < 0 ∧ x.toNatClampNeg ≤ 100000 ∧ pm_atag t = some tg ∧ mem.1.1 + 2 < 1000000 ∧ K (pc + 2) ls (.ref (mem.1.1 + 1) :: r) (pm_new mem tg x.toNatClampNeg)
  | .anewarray i => ∃ x r tg, st = .int x :: r ∧ ¬ x < 0 ∧ x.toNatClampNeg ≤ 100000 ∧ (q.2.1, i, tg) ∈ k_nw ∧ 23 ≤ tg ∧ tg ≤ 26 ∧ mem.1.1 + 2 < 1000000 ∧ K (pc + 3) ls (.ref (mem.1.1 + 1) :: r) (pm_new mem tg x.toNatClampNeg)
  | .multianewarray i d => ∃ x y r, d = 2 ∧ st = .int y :: .int x :: r ∧ ¬ x < 0 ∧ ¬ y < 0 ∧ x.toNatClampNeg ≤ 1000 ∧ y.toNatClampNeg ≤ 1000 ∧ (q.2.1, i, 27) ∈ k_nw ∧ mem.1.1 + 2 + x.toNatClampNeg < 1000000 ∧ K (pc + 4) ls (.ref (mem.1.1 + 1) :: r) (pm_new2 mem x.toNatClampNeg y.toNatClampNeg)
  | .invokestatic i => pm_call C q K i [0, 1] true pc ls st mem ∨
      (∃ a sp b dp n r, st = .int n :: .int dp :: .ref b :: .int sp :: .ref a :: r ∧ (q.2.1, i, 8, 0, 0, 5) ∈ k_cs ∧ pm_is mem a 20 ∧ pm_is mem b 20 ∧ g b ∧ ¬ sp < 0 ∧ ¬ dp < 0 ∧ ¬ n < 0 ∧ sp.toNatClampNeg + n.toNatClampNeg ≤ (mem.1.2.2 a).2 ∧ dp.toNatClampNeg + n.toNatClampNeg ≤ (mem.1.2.2 b).2 ∧ (r.map fun v => v.category).sum ≤ 8 ∧
        K (pc + 3) ls r (mem.1, pm_cpy mem.2.1 a sp.toNatClampNeg b dp.toNatClampNeg n.toNatClampNeg, mem.2.2)) ∨
      (∃ x y r, st = .int y :: .int x :: r ∧ (q.2.1, i, 10, 0, 0, 0) ∈ k_cs ∧ (r.map fun v => v.category).sum ≤ 8 ∧ K (pc + 3) ls (.int (if x < y then y else x) :: r) mem) ∨
      (∃ x y r, st = .int y :: .int x :: r ∧ (q.2.1, i, 11, 0, 0, 0) ∈ k_cs ∧ (r.map fun v => v.category).sum ≤ 8 ∧ K (pc + 3) ls (.int (if y < x then y else x) :: r) mem) ∨
      ∃ x r, st = .int x :: r ∧ (q.2.1, i, 12, 0, 0, 0) ∈ k_cs ∧ (r.map fun v => v.category).sum ≤ 8 ∧ K (pc + 3) ls (.int (if 0 ≤ x then x else 0 - x) :: r) mem
  | .invokevirtual i => pm_call C q K i [2, 3] false pc ls st mem
  | .invokespecial i => pm_call C q K i [4, 5, 6, 7] false pc ls st mem ∨ ∃ b r, st = .ref b :: r ∧ (q.2.1, i, 9, 0, 0, 0) ∈ k_cs ∧ (r.map fun v => v.category).sum ≤ 8 ∧ K (pc + 3) ls r mem
  | _ => False
def pm_run : Nat → Nat → pm_L → List Value → pm_M → Prop
  | 0, _, _, _, _ => False
  | f + 1, pc, ls, st, mem => ∃ ins len, pm_at q pc = some (ins, len) ∧ pm_lok ins len ∧ pm_ex g C E q (fun pc' ls' st' mem' => pm_run f pc' ls' st' mem') pc ls st mem ins
end PMX
