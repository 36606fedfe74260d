/-! ===== runs of the small machine, goal first ===== -/
def pm_wd (k : Nat) : List Int32 := (k_wd.getD k "").toList.map fun c => Int32.ofNat c.toNat
/-- the one method that is taken by what it does, not by its code: Text.isWord of a constant text -/
def pm_bi (M : Nat) (args : List Value) (mem : pm_M) (r : Option Value) (mem' : pm_M) : Prop :=
  M = 53 ∧ ∃ t bb k, k < 5 ∧ args = [.ref t, .ref (1000000 + k)] ∧ pm_is mem t 7 ∧ mem.2.2.2 t 0 = some bb ∧ pm_is mem bb 21 ∧
    (mem.2.1 t 2 = 1 → mem.2.1 t 4 - mem.2.1 t 3 = nI (pm_wd k).length → ∀ i, i < (pm_wd k).length → vp_in (mem.2.1 t 3 + nI i) (mem.1.2.2 bb).2) ∧ mem' = mem ∧
    r = some (.int (if mem.2.1 t 2 = 1 ∧ mem.2.1 t 4 - mem.2.1 t 3 = nI (pm_wd k).length ∧ ∀ i, i < (pm_wd k).length → mem.2.1 bb (mem.2.1 t 3 + nI i).toNatClampNeg = (pm_wd k).getD i 0 then 1 else 0))
def pm_sl : List Value → pm_L
  | [] => []
  | v :: r => match v with
    | .long x => some (.long x) :: none :: pm_sl r
    | .double x => some (.double x) :: none :: pm_sl r
    | v => some v :: pm_sl r
def pm_en (args : List Value) (n : Nat) : pm_L := pm_sl args ++ List.replicate (n - (pm_sl args).length) none
def pm_ev (g : Nat → Prop) : Nat → Nat → List Value → pm_M → Option Value → pm_M → Prop
  | 0 => fun _ _ _ _ _ => False
  | d + 1 => fun M args mem r mem' => (7 ≤ d ∧ pm_bi M args mem r mem') ∨ ∃ q, pm_all[M]? = some q ∧ (pm_sl args).length ≤ q.2.2.2.1 ∧ ∃ f, pm_run g (pm_ev g d) (fun r1 m1 => r1 = r ∧ m1 = mem') q f 0 (pm_en args q.2.2.2.1) [] mem
def Ev (g : Nat → Prop) (C : Nat → List Value → pm_M → Option Value → pm_M → Prop) (E : Option Value → pm_M → Prop) (q : pm_D) (pc : Nat) (ls : pm_L) (st : List Value) (mem : pm_M) : Prop := ∃ f, pm_run g C E q f pc ls st mem
theorem ev_enter {g : Nat → Prop} {d M : Nat} {args : List Value} {mem mem' : pm_M} {r : Option Value} {q : pm_D} {ls : pm_L} (hq : pm_all[M]? = some q) (ha : (pm_sl args).length ≤ q.2.2.2.1) (hl : pm_en args q.2.2.2.1 = ls)
    (k : Ev g (pm_ev g d) (fun r1 m1 => r1 = r ∧ m1 = mem') q 0 ls [] mem) : pm_ev g (d + 1) M args mem r mem' := by
  obtain ⟨f, k⟩ := k
  subst hl
  exact Or.inr ⟨q, hq, ha, f, k⟩
section EV
variable {g : Nat → Prop} {C : Nat → List Value → pm_M → Option Value → pm_M → Prop} {E : Option Value → pm_M → Prop} {q : pm_D} {pc p' : Nat} {ls : pm_L} {r : List Value} {n z : Nat} {sh : Nat → Nat × Nat} {mi : Nat → Nat → Int32} {ml : Nat → Nat → Int64} {mr : Nat → Nat → Option Nat} {mem : pm_M}
theorem ev_iconst {i : Int} {v : Int32} (h : pm_at q pc = some (.iconst i, 1)) (hp : pc + 1 = p') (hv : Int32.ofInt i = v)
    (k : Ev g C E q p' ls (.int v :: r) mem) : Ev g C E q pc ls r mem := by
  subst hp
  obtain ⟨f, k⟩ := k
  exact ⟨f + 1, _, _, h, rfl, by subst hv; exact k⟩
theorem ev_bipush {i : Int} {v : Int32} (h : pm_at q pc = some (.bipush i, 2)) (hp : pc + 2 = p') (hv : (Int8.ofInt i).toInt32 = v)
    (k : Ev g C E q p' ls (.int v :: r) mem) : Ev g C E q pc ls r mem := by
  subst hp
  obtain ⟨f, k⟩ := k
  exact ⟨f + 1, _, _, h, rfl, by subst hv; exact k⟩
theorem ev_sipush {i : Int} {v : Int32} (h : pm_at q pc = some (.sipush i, 3)) (hp : pc + 3 = p') (hv : (Int16.ofInt i).toInt32 = v)
    (k : Ev g C E q p' ls (.int v :: r) mem) : Ev g C E q pc ls r mem := by
  subst hp
  obtain ⟨f, k⟩ := k
  exact ⟨f + 1, _, _, h, rfl, by subst hv; exact k⟩
theorem ev_lconst {i : Fin 2} {v : Int64} (h : pm_at q pc = some (.lconst i, 1)) (hp : pc + 1 = p') (hv : Int64.ofNat (i : Nat) = v)
    (k : Ev g C E q p' ls (.long v :: r) mem) : Ev g C E q pc ls r mem := by
  subst hp
  obtain ⟨f, k⟩ := k
  exact ⟨f + 1, _, _, h, rfl, by subst hv; exact k⟩
theorem ev_ldc {i : Nat} {v : Int32} (h : pm_at q pc = some (.ldc i, 2)) (hp : pc + 2 = p') (hc : (q.2.1, i, v) ∈ k_ci)
    (k : Ev g C E q p' ls (.int v :: r) mem) : Ev g C E q pc ls r mem := by
  subst hp
  obtain ⟨f, k⟩ := k
  exact ⟨f + 1, _, _, h, rfl, Or.inl ⟨v, hc, k⟩⟩
theorem ev_ldcs {i j : Nat} (h : pm_at q pc = some (.ldc i, 2)) (hp : pc + 2 = p') (hc : (q.2.1, i, j) ∈ k_sx)
    (k : Ev g C E q p' ls (.ref (1000000 + j) :: r) mem) : Ev g C E q pc ls r mem := by
  subst hp
  obtain ⟨f, k⟩ := k
  exact ⟨f + 1, _, _, h, rfl, Or.inr ⟨j, hc, k⟩⟩
theorem ev_ldc_w {i : Nat} {v : Int32} (h : pm_at q pc = some (.ldc_w i, 3)) (hp : pc + 3 = p') (hc : (q.2.1, i, v) ∈ k_ci)
    (k : Ev g C E q p' ls (.int v :: r) mem) : Ev g C E q pc ls r mem := by
  subst hp
  obtain ⟨f, k⟩ := k
  exact ⟨f + 1, _, _, h, rfl, ⟨v, hc, k⟩⟩
theorem ev_ldc2_w {i : Nat} {v : Int64} (h : pm_at q pc = some (.ldc2_w i, 3)) (hp : pc + 3 = p') (hc : (q.2.1, i, v) ∈ k_c2)
    (k : Ev g C E q p' ls (.long v :: r) mem) : Ev g C E q pc ls r mem := by
  subst hp
  obtain ⟨f, k⟩ := k
  exact ⟨f + 1, _, _, h, rfl, ⟨v, hc, k⟩⟩
theorem ev_iload_n {i : Fin 4} {x : Int32} (h : pm_at q pc = some (.iload_n i, 1)) (hp : pc + 1 = p') (hl : ls[(i : Nat)]? = some (some (.int x)))
    (k : Ev g C E q p' ls (.int x :: r) mem) : Ev g C E q pc ls r mem := by
  subst hp
  obtain ⟨f, k⟩ := k
  exact ⟨f + 1, _, _, h, rfl, ⟨x, hl, k⟩⟩
theorem ev_iload {i : Nat} {x : Int32} (h : pm_at q pc = some (.iload i, 2)) (hp : pc + 2 = p') (hl : ls[i]? = some (some (.int x)))
    (k : Ev g C E q p' ls (.int x :: r) mem) : Ev g C E q pc ls r mem := by
  subst hp
  obtain ⟨f, k⟩ := k
  exact ⟨f + 1, _, _, h, rfl, ⟨x, hl, k⟩⟩
theorem ev_istore_n {i : Fin 4} {x : Int32} {ls' : pm_L} (h : pm_at q pc = some (.istore_n i, 1)) (hp : pc + 1 = p') (ho : pm_ok1 ls i = true) (hn : (i : Nat) < q.2.2.2.1) (hl : ls.set i (some (.int x)) = ls')
    (k : Ev g C E q p' ls' r mem) : Ev g C E q pc ls (.int x :: r) mem := by
  subst hp
  obtain ⟨f, k⟩ := k
  exact ⟨f + 1, _, _, h, rfl, ⟨x, r, rfl, ho, hn, hl ▸ k⟩⟩
theorem ev_istore {i : Nat} {x : Int32} {ls' : pm_L} (h : pm_at q pc = some (.istore i, 2)) (hp : pc + 2 = p') (ho : pm_ok1 ls i = true) (hn : i < q.2.2.2.1) (hl : ls.set i (some (.int x)) = ls')
    (k : Ev g C E q p' ls' r mem) : Ev g C E q pc ls (.int x :: r) mem := by
  subst hp
  obtain ⟨f, k⟩ := k
  exact ⟨f + 1, _, _, h, rfl, ⟨x, r, rfl, ho, hn, hl ▸ k⟩⟩
theorem ev_lload_n {i : Fin 4} {x : Int64} (h : pm_at q pc = some (.lload_n i, 1)) (hp : pc + 1 = p') (hl : ls[(i : Nat)]? = some (some (.long x)))
    (k : Ev g C E q p' ls (.long x :: r) mem) : Ev g C E q pc ls r mem := by
  subst hp
  obtain ⟨f, k⟩ := k
  exact ⟨f + 1, _, _, h, rfl, ⟨x, hl, k⟩⟩
theorem ev_lload {i : Nat} {x : Int64} (h : pm_at q pc = some (.lload i, 2)) (hp : pc + 2 = p') (hl : ls[i]? = some (some (.long x)))
    (k : Ev g C E q p' ls (.long x :: r) mem) : Ev g C E q pc ls r mem := by
  subst hp
  obtain ⟨f, k⟩ := k
  exact ⟨f + 1, _, _, h, rfl, ⟨x, hl, k⟩⟩
theorem ev_lstore_n {i : Fin 4} {x : Int64} {ls' : pm_L} (h : pm_at q pc = some (.lstore_n i, 1)) (hp : pc + 1 = p') (ho : pm_ok1 ls i = true) (hn : (i : Nat) + 1 < q.2.2.2.1) (hl : (ls.set i (some (.long x))).set (i + 1) none = ls')
    (k : Ev g C E q p' ls' r mem) : Ev g C E q pc ls (.long x :: r) mem := by
  subst hp
  obtain ⟨f, k⟩ := k
  exact ⟨f + 1, _, _, h, rfl, ⟨x, r, rfl, ho, hn, hl ▸ k⟩⟩
theorem ev_lstore {i : Nat} {x : Int64} {ls' : pm_L} (h : pm_at q pc = some (.lstore i, 2)) (hp : pc + 2 = p') (ho : pm_ok1 ls i = true) (hn : i + 1 < q.2.2.2.1) (hl : (ls.set i (some (.long x))).set (i + 1) none = ls')
    (k : Ev g C E q p' ls' r mem) : Ev g C E q pc ls (.long x :: r) mem := by
  subst hp
  obtain ⟨f, k⟩ := k
  exact ⟨f + 1, _, _, h, rfl, ⟨x, r, rfl, ho, hn, hl ▸ k⟩⟩
theorem ev_aload_n {i : Fin 4} {x : Nat} (h : pm_at q pc = some (.aload_n i, 1)) (hp : pc + 1 = p') (hl : ls[(i : Nat)]? = some (some (.ref x)))
    (k : Ev g C E q p' ls (.ref x :: r) mem) : Ev g C E q pc ls r mem := by
  subst hp
  obtain ⟨f, k⟩ := k
  exact ⟨f + 1, _, _, h, rfl, ⟨x, hl, k⟩⟩
theorem ev_aload {i : Nat} {x : Nat} (h : pm_at q pc = some (.aload i, 2)) (hp : pc + 2 = p') (hl : ls[i]? = some (some (.ref x)))
    (k : Ev g C E q p' ls (.ref x :: r) mem) : Ev g C E q pc ls r mem := by
  subst hp
  obtain ⟨f, k⟩ := k
  exact ⟨f + 1, _, _, h, rfl, ⟨x, hl, k⟩⟩
theorem ev_astore_n {i : Fin 4} {x : Nat} {ls' : pm_L} (h : pm_at q pc = some (.astore_n i, 1)) (hp : pc + 1 = p') (ho : pm_ok1 ls i = true) (hn : (i : Nat) < q.2.2.2.1) (hl : ls.set i (some (.ref x)) = ls')
    (k : Ev g C E q p' ls' r mem) : Ev g C E q pc ls (.ref x :: r) mem := by
  subst hp
  obtain ⟨f, k⟩ := k
  exact ⟨f + 1, _, _, h, rfl, ⟨x, r, rfl, ho, hn, hl ▸ k⟩⟩
theorem ev_astore {i : Nat} {x : Nat} {ls' : pm_L} (h : pm_at q pc = some (.astore i, 2)) (hp : pc + 2 = p') (ho : pm_ok1 ls i = true) (hn : i < q.2.2.2.1) (hl : ls.set i (some (.ref x)) = ls')
    (k : Ev g C E q p' ls' r mem) : Ev g C E q pc ls (.ref x :: r) mem := by
  subst hp
  obtain ⟨f, k⟩ := k
  exact ⟨f + 1, _, _, h, rfl, ⟨x, r, rfl, ho, hn, hl ▸ k⟩⟩
theorem ev_iinc {i : Nat} {c : Int} {x v : Int32} {ls' : pm_L} (h : pm_at q pc = some (.iinc i c, 3)) (hp : pc + 3 = p') (hg : ls[i]? = some (some (.int x))) (ho : pm_ok1 ls i = true) (hn : i < q.2.2.2.1) (hv : x + Int32.ofInt c = v) (hl : ls.set i (some (.int v)) = ls')
    (k : Ev g C E q p' ls' r mem) : Ev g C E q pc ls r mem := by
  subst hp
  obtain ⟨f, k⟩ := k
  exact ⟨f + 1, _, _, h, rfl, ⟨x, hg, ho, hn, by rw [hv, hl]; exact k⟩⟩
theorem ev_iadd {x y : Int32} (h : pm_at q pc = some (.iadd, 1)) (hp : pc + 1 = p') 
    (k : Ev g C E q p' ls (.int (x + y) :: r) mem) : Ev g C E q pc ls (.int y :: .int x :: r) mem := by
  subst hp
  obtain ⟨f, k⟩ := k
  exact ⟨f + 1, _, _, h, rfl, ⟨x, y, r, rfl, k⟩⟩
theorem ev_isub {x y : Int32} (h : pm_at q pc = some (.isub, 1)) (hp : pc + 1 = p') 
    (k : Ev g C E q p' ls (.int (x - y) :: r) mem) : Ev g C E q pc ls (.int y :: .int x :: r) mem := by
  subst hp
  obtain ⟨f, k⟩ := k
  exact ⟨f + 1, _, _, h, rfl, ⟨x, y, r, rfl, k⟩⟩
theorem ev_imul {x y : Int32} (h : pm_at q pc = some (.imul, 1)) (hp : pc + 1 = p') 
    (k : Ev g C E q p' ls (.int (x * y) :: r) mem) : Ev g C E q pc ls (.int y :: .int x :: r) mem := by
  subst hp
  obtain ⟨f, k⟩ := k
  exact ⟨f + 1, _, _, h, rfl, ⟨x, y, r, rfl, k⟩⟩
theorem ev_iand {x y : Int32} (h : pm_at q pc = some (.iand, 1)) (hp : pc + 1 = p') 
    (k : Ev g C E q p' ls (.int (x &&& y) :: r) mem) : Ev g C E q pc ls (.int y :: .int x :: r) mem := by
  subst hp
  obtain ⟨f, k⟩ := k
  exact ⟨f + 1, _, _, h, rfl, ⟨x, y, r, rfl, k⟩⟩
theorem ev_ior {x y : Int32} (h : pm_at q pc = some (.ior, 1)) (hp : pc + 1 = p') 
    (k : Ev g C E q p' ls (.int (x ||| y) :: r) mem) : Ev g C E q pc ls (.int y :: .int x :: r) mem := by
  subst hp
  obtain ⟨f, k⟩ := k
  exact ⟨f + 1, _, _, h, rfl, ⟨x, y, r, rfl, k⟩⟩
theorem ev_ixor {x y : Int32} (h : pm_at q pc = some (.ixor, 1)) (hp : pc + 1 = p') 
    (k : Ev g C E q p' ls (.int (x ^^^ y) :: r) mem) : Ev g C E q pc ls (.int y :: .int x :: r) mem := by
  subst hp
  obtain ⟨f, k⟩ := k
  exact ⟨f + 1, _, _, h, rfl, ⟨x, y, r, rfl, k⟩⟩
theorem ev_ishl {x y : Int32} (h : pm_at q pc = some (.ishl, 1)) (hp : pc + 1 = p') 
    (k : Ev g C E q p' ls (.int (x <<< (y &&& 31)) :: r) mem) : Ev g C E q pc ls (.int y :: .int x :: r) mem := by
  subst hp
  obtain ⟨f, k⟩ := k
  exact ⟨f + 1, _, _, h, rfl, ⟨x, y, r, rfl, k⟩⟩
theorem ev_ishr {x y : Int32} (h : pm_at q pc = some (.ishr, 1)) (hp : pc + 1 = p') 
    (k : Ev g C E q p' ls (.int (x >>> (y &&& 31)) :: r) mem) : Ev g C E q pc ls (.int y :: .int x :: r) mem := by
  subst hp
  obtain ⟨f, k⟩ := k
  exact ⟨f + 1, _, _, h, rfl, ⟨x, y, r, rfl, k⟩⟩
theorem ev_iushr {x y : Int32} (h : pm_at q pc = some (.iushr, 1)) (hp : pc + 1 = p') 
    (k : Ev g C E q p' ls (.int ((x.toUInt32 >>> (y &&& 31).toUInt32).toInt32) :: r) mem) : Ev g C E q pc ls (.int y :: .int x :: r) mem := by
  subst hp
  obtain ⟨f, k⟩ := k
  exact ⟨f + 1, _, _, h, rfl, ⟨x, y, r, rfl, k⟩⟩
theorem ev_idiv {x y : Int32} (h : pm_at q pc = some (.idiv, 1)) (hp : pc + 1 = p') (hy : ¬ y = 0)
    (k : Ev g C E q p' ls (.int (x / y) :: r) mem) : Ev g C E q pc ls (.int y :: .int x :: r) mem := by
  subst hp
  obtain ⟨f, k⟩ := k
  exact ⟨f + 1, _, _, h, rfl, ⟨x, y, r, rfl, hy, k⟩⟩
theorem ev_irem {x y : Int32} (h : pm_at q pc = some (.irem, 1)) (hp : pc + 1 = p') (hy : ¬ y = 0)
    (k : Ev g C E q p' ls (.int (x - x / y * y) :: r) mem) : Ev g C E q pc ls (.int y :: .int x :: r) mem := by
  subst hp
  obtain ⟨f, k⟩ := k
  exact ⟨f + 1, _, _, h, rfl, ⟨x, y, r, rfl, hy, k⟩⟩
theorem ev_ladd {x y : Int64} (h : pm_at q pc = some (.ladd, 1)) (hp : pc + 1 = p') 
    (k : Ev g C E q p' ls (.long (x + y) :: r) mem) : Ev g C E q pc ls (.long y :: .long x :: r) mem := by
  subst hp
  obtain ⟨f, k⟩ := k
  exact ⟨f + 1, _, _, h, rfl, ⟨x, y, r, rfl, k⟩⟩
theorem ev_lmul {x y : Int64} (h : pm_at q pc = some (.lmul, 1)) (hp : pc + 1 = p') 
    (k : Ev g C E q p' ls (.long (x * y) :: r) mem) : Ev g C E q pc ls (.long y :: .long x :: r) mem := by
  subst hp
  obtain ⟨f, k⟩ := k
  exact ⟨f + 1, _, _, h, rfl, ⟨x, y, r, rfl, k⟩⟩
theorem ev_ldiv {x y : Int64} (h : pm_at q pc = some (.ldiv, 1)) (hp : pc + 1 = p') (hy : ¬ y = 0)
    (k : Ev g C E q p' ls (.long (x / y) :: r) mem) : Ev g C E q pc ls (.long y :: .long x :: r) mem := by
  subst hp
  obtain ⟨f, k⟩ := k
  exact ⟨f + 1, _, _, h, rfl, ⟨x, y, r, rfl, hy, k⟩⟩
theorem ev_lrem {x y : Int64} (h : pm_at q pc = some (.lrem, 1)) (hp : pc + 1 = p') (hy : ¬ y = 0)
    (k : Ev g C E q p' ls (.long (x - x / y * y) :: r) mem) : Ev g C E q pc ls (.long y :: .long x :: r) mem := by
  subst hp
  obtain ⟨f, k⟩ := k
  exact ⟨f + 1, _, _, h, rfl, ⟨x, y, r, rfl, hy, k⟩⟩
theorem ev_lcmp {x y : Int64} (h : pm_at q pc = some (.lcmp, 1)) (hp : pc + 1 = p') 
    (k : Ev g C E q p' ls (.int (lg_cmp x y) :: r) mem) : Ev g C E q pc ls (.long y :: .long x :: r) mem := by
  subst hp
  obtain ⟨f, k⟩ := k
  exact ⟨f + 1, _, _, h, rfl, ⟨x, y, r, rfl, k⟩⟩
theorem ev_ineg {x : Int32} (h : pm_at q pc = some (.ineg, 1)) (hp : pc + 1 = p') 
    (k : Ev g C E q p' ls (.int (-x) :: r) mem) : Ev g C E q pc ls (.int x :: r) mem := by
  subst hp
  obtain ⟨f, k⟩ := k
  exact ⟨f + 1, _, _, h, rfl, ⟨x, r, rfl, k⟩⟩
theorem ev_i2l {x : Int32} (h : pm_at q pc = some (.i2l, 1)) (hp : pc + 1 = p') 
    (k : Ev g C E q p' ls (.long x.toInt64 :: r) mem) : Ev g C E q pc ls (.int x :: r) mem := by
  subst hp
  obtain ⟨f, k⟩ := k
  exact ⟨f + 1, _, _, h, rfl, ⟨x, r, rfl, k⟩⟩
theorem ev_l2i {x : Int64} (h : pm_at q pc = some (.l2i, 1)) (hp : pc + 1 = p') 
    (k : Ev g C E q p' ls (.int x.toInt32 :: r) mem) : Ev g C E q pc ls (.long x :: r) mem := by
  subst hp
  obtain ⟨f, k⟩ := k
  exact ⟨f + 1, _, _, h, rfl, ⟨x, r, rfl, k⟩⟩
theorem ev_i2b {x : Int32} (h : pm_at q pc = some (.i2b, 1)) (hp : pc + 1 = p') 
    (k : Ev g C E q p' ls (.int x.toInt8.toInt32 :: r) mem) : Ev g C E q pc ls (.int x :: r) mem := by
  subst hp
  obtain ⟨f, k⟩ := k
  exact ⟨f + 1, _, _, h, rfl, ⟨x, r, rfl, k⟩⟩
theorem ev_dup {v : Value} (h : pm_at q pc = some (.dup, 1)) (hp : pc + 1 = p') (hv : v.category = 1)
    (k : Ev g C E q p' ls (v :: v :: r) mem) : Ev g C E q pc ls (v :: r) mem := by
  subst hp
  obtain ⟨f, k⟩ := k
  exact ⟨f + 1, _, _, h, rfl, ⟨v, r, rfl, hv, k⟩⟩
theorem ev_dup2 {v w : Value} (h : pm_at q pc = some (.dup2, 1)) (hp : pc + 1 = p') (hv : v.category = 1) (hw : w.category = 1)
    (k : Ev g C E q p' ls (v :: w :: v :: w :: r) mem) : Ev g C E q pc ls (v :: w :: r) mem := by
  subst hp
  obtain ⟨f, k⟩ := k
  exact ⟨f + 1, _, _, h, rfl, ⟨v, w, r, rfl, hv, hw, k⟩⟩
theorem ev_pop {v : Value} (h : pm_at q pc = some (.pop, 1)) (hp : pc + 1 = p') (hv : v.category = 1)
    (k : Ev g C E q p' ls r mem) : Ev g C E q pc ls (v :: r) mem := by
  subst hp
  obtain ⟨f, k⟩ := k
  exact ⟨f + 1, _, _, h, rfl, ⟨v, r, rfl, hv, k⟩⟩
theorem ev_icmp_eq {x y : Int32} {off : Int} {tg : Nat} (h : pm_at q pc = some (.if_icmp .eq off, 3)) (hp : pc + 3 = p') (ht : (pc : Int) + off = (tg : Int)) (kt : x = y → Ev g C E q tg ls r mem) (kf : ¬ (x = y) → Ev g C E q p' ls r mem) : Ev g C E q pc ls (.int y :: .int x :: r) mem := by
  subst hp
  by_cases hc : x = y
  · obtain ⟨f, k⟩ := kt hc
    exact ⟨f + 1, _, _, h, rfl, x, y, r, tg, rfl, ht, fun _ => k, fun hn => absurd hc hn⟩
  · obtain ⟨f, k⟩ := kf hc
    exact ⟨f + 1, _, _, h, rfl, x, y, r, tg, rfl, ht, fun hn => absurd hn hc, fun _ => k⟩
theorem ev_if_eq {x : Int32} {off : Int} {tg : Nat} (h : pm_at q pc = some (.ifCond .eq off, 3)) (hp : pc + 3 = p') (ht : (pc : Int) + off = (tg : Int)) (kt : x = 0 → Ev g C E q tg ls r mem) (kf : ¬ (x = 0) → Ev g C E q p' ls r mem) : Ev g C E q pc ls (.int x :: r) mem := by
  subst hp
  by_cases hc : x = 0
  · obtain ⟨f, k⟩ := kt hc
    exact ⟨f + 1, _, _, h, rfl, x, r, tg, rfl, ht, fun _ => k, fun hn => absurd hc hn⟩
  · obtain ⟨f, k⟩ := kf hc
    exact ⟨f + 1, _, _, h, rfl, x, r, tg, rfl, ht, fun hn => absurd hn hc, fun _ => k⟩
theorem ev_icmp_ne {x y : Int32} {off : Int} {tg : Nat} (h : pm_at q pc = some (.if_icmp .ne off, 3)) (hp : pc + 3 = p') (ht : (pc : Int) + off = (tg : Int)) (kt : ¬ x = y → Ev g C E q tg ls r mem) (kf : ¬ (¬ x = y) → Ev g C E q p' ls r mem) : Ev g C E q pc ls (.int y :: .int x :: r) mem := by
  subst hp
  by_cases hc : ¬ x = y
  · obtain ⟨f, k⟩ := kt hc
    exact ⟨f + 1, _, _, h, rfl, x, y, r, tg, rfl, ht, fun _ => k, fun hn => absurd hc hn⟩
  · obtain ⟨f, k⟩ := kf hc
    exact ⟨f + 1, _, _, h, rfl, x, y, r, tg, rfl, ht, fun hn => absurd hn hc, fun _ => k⟩
theorem ev_if_ne {x : Int32} {off : Int} {tg : Nat} (h : pm_at q pc = some (.ifCond .ne off, 3)) (hp : pc + 3 = p') (ht : (pc : Int) + off = (tg : Int)) (kt : ¬ x = 0 → Ev g C E q tg ls r mem) (kf : ¬ (¬ x = 0) → Ev g C E q p' ls r mem) : Ev g C E q pc ls (.int x :: r) mem := by
  subst hp
  by_cases hc : ¬ x = 0
  · obtain ⟨f, k⟩ := kt hc
    exact ⟨f + 1, _, _, h, rfl, x, r, tg, rfl, ht, fun _ => k, fun hn => absurd hc hn⟩
  · obtain ⟨f, k⟩ := kf hc
    exact ⟨f + 1, _, _, h, rfl, x, r, tg, rfl, ht, fun hn => absurd hn hc, fun _ => k⟩
theorem ev_icmp_lt {x y : Int32} {off : Int} {tg : Nat} (h : pm_at q pc = some (.if_icmp .lt off, 3)) (hp : pc + 3 = p') (ht : (pc : Int) + off = (tg : Int)) (kt : x < y → Ev g C E q tg ls r mem) (kf : ¬ (x < y) → Ev g C E q p' ls r mem) : Ev g C E q pc ls (.int y :: .int x :: r) mem := by
  subst hp
  by_cases hc : x < y
  · obtain ⟨f, k⟩ := kt hc
    exact ⟨f + 1, _, _, h, rfl, x, y, r, tg, rfl, ht, fun _ => k, fun hn => absurd hc hn⟩
  · obtain ⟨f, k⟩ := kf hc
    exact ⟨f + 1, _, _, h, rfl, x, y, r, tg, rfl, ht, fun hn => absurd hn hc, fun _ => k⟩
theorem ev_if_lt {x : Int32} {off : Int} {tg : Nat} (h : pm_at q pc = some (.ifCond .lt off, 3)) (hp : pc + 3 = p') (ht : (pc : Int) + off = (tg : Int)) (kt : x < 0 → Ev g C E q tg ls r mem) (kf : ¬ (x < 0) → Ev g C E q p' ls r mem) : Ev g C E q pc ls (.int x :: r) mem := by
  subst hp
  by_cases hc : x < 0
  · obtain ⟨f, k⟩ := kt hc
    exact ⟨f + 1, _, _, h, rfl, x, r, tg, rfl, ht, fun _ => k, fun hn => absurd hc hn⟩
  · obtain ⟨f, k⟩ := kf hc
    exact ⟨f + 1, _, _, h, rfl, x, r, tg, rfl, ht, fun hn => absurd hn hc, fun _ => k⟩
theorem ev_icmp_ge {x y : Int32} {off : Int} {tg : Nat} (h : pm_at q pc = some (.if_icmp .ge off, 3)) (hp : pc + 3 = p') (ht : (pc : Int) + off = (tg : Int)) (kt : y ≤ x → Ev g C E q tg ls r mem) (kf : ¬ (y ≤ x) → Ev g C E q p' ls r mem) : Ev g C E q pc ls (.int y :: .int x :: r) mem := by
  subst hp
  by_cases hc : y ≤ x
  · obtain ⟨f, k⟩ := kt hc
    exact ⟨f + 1, _, _, h, rfl, x, y, r, tg, rfl, ht, fun _ => k, fun hn => absurd hc hn⟩
  · obtain ⟨f, k⟩ := kf hc
    exact ⟨f + 1, _, _, h, rfl, x, y, r, tg, rfl, ht, fun hn => absurd hn hc, fun _ => k⟩
theorem ev_if_ge {x : Int32} {off : Int} {tg : Nat} (h : pm_at q pc = some (.ifCond .ge off, 3)) (hp : pc + 3 = p') (ht : (pc : Int) + off = (tg : Int)) (kt : 0 ≤ x → Ev g C E q tg ls r mem) (kf : ¬ (0 ≤ x) → Ev g C E q p' ls r mem) : Ev g C E q pc ls (.int x :: r) mem := by
  subst hp
  by_cases hc : 0 ≤ x
  · obtain ⟨f, k⟩ := kt hc
    exact ⟨f + 1, _, _, h, rfl, x, r, tg, rfl, ht, fun _ => k, fun hn => absurd hc hn⟩
  · obtain ⟨f, k⟩ := kf hc
    exact ⟨f + 1, _, _, h, rfl, x, r, tg, rfl, ht, fun hn => absurd hn hc, fun _ => k⟩
theorem ev_icmp_gt {x y : Int32} {off : Int} {tg : Nat} (h : pm_at q pc = some (.if_icmp .gt off, 3)) (hp : pc + 3 = p') (ht : (pc : Int) + off = (tg : Int)) (kt : y < x → Ev g C E q tg ls r mem) (kf : ¬ (y < x) → Ev g C E q p' ls r mem) : Ev g C E q pc ls (.int y :: .int x :: r) mem := by
  subst hp
  by_cases hc : y < x
  · obtain ⟨f, k⟩ := kt hc
    exact ⟨f + 1, _, _, h, rfl, x, y, r, tg, rfl, ht, fun _ => k, fun hn => absurd hc hn⟩
  · obtain ⟨f, k⟩ := kf hc
    exact ⟨f + 1, _, _, h, rfl, x, y, r, tg, rfl, ht, fun hn => absurd hn hc, fun _ => k⟩
theorem ev_if_gt {x : Int32} {off : Int} {tg : Nat} (h : pm_at q pc = some (.ifCond .gt off, 3)) (hp : pc + 3 = p') (ht : (pc : Int) + off = (tg : Int)) (kt : 0 < x → Ev g C E q tg ls r mem) (kf : ¬ (0 < x) → Ev g C E q p' ls r mem) : Ev g C E q pc ls (.int x :: r) mem := by
  subst hp
  by_cases hc : 0 < x
  · obtain ⟨f, k⟩ := kt hc
    exact ⟨f + 1, _, _, h, rfl, x, r, tg, rfl, ht, fun _ => k, fun hn => absurd hc hn⟩
  · obtain ⟨f, k⟩ := kf hc
    exact ⟨f + 1, _, _, h, rfl, x, r, tg, rfl, ht, fun hn => absurd hn hc, fun _ => k⟩
theorem ev_icmp_le {x y : Int32} {off : Int} {tg : Nat} (h : pm_at q pc = some (.if_icmp .le off, 3)) (hp : pc + 3 = p') (ht : (pc : Int) + off = (tg : Int)) (kt : x ≤ y → Ev g C E q tg ls r mem) (kf : ¬ (x ≤ y) → Ev g C E q p' ls r mem) : Ev g C E q pc ls (.int y :: .int x :: r) mem := by
  subst hp
  by_cases hc : x ≤ y
  · obtain ⟨f, k⟩ := kt hc
    exact ⟨f + 1, _, _, h, rfl, x, y, r, tg, rfl, ht, fun _ => k, fun hn => absurd hc hn⟩
  · obtain ⟨f, k⟩ := kf hc
    exact ⟨f + 1, _, _, h, rfl, x, y, r, tg, rfl, ht, fun hn => absurd hn hc, fun _ => k⟩
theorem ev_if_le {x : Int32} {off : Int} {tg : Nat} (h : pm_at q pc = some (.ifCond .le off, 3)) (hp : pc + 3 = p') (ht : (pc : Int) + off = (tg : Int)) (kt : x ≤ 0 → Ev g C E q tg ls r mem) (kf : ¬ (x ≤ 0) → Ev g C E q p' ls r mem) : Ev g C E q pc ls (.int x :: r) mem := by
  subst hp
  by_cases hc : x ≤ 0
  · obtain ⟨f, k⟩ := kt hc
    exact ⟨f + 1, _, _, h, rfl, x, r, tg, rfl, ht, fun _ => k, fun hn => absurd hc hn⟩
  · obtain ⟨f, k⟩ := kf hc
    exact ⟨f + 1, _, _, h, rfl, x, r, tg, rfl, ht, fun hn => absurd hn hc, fun _ => k⟩
theorem ev_goto {off : Int} {tg : Nat} {st : List Value} (h : pm_at q pc = some (.goto off, 3)) (ht : (pc : Int) + off = (tg : Int)) (k : Ev g C E q tg ls st mem) : Ev g C E q pc ls st mem := by
  obtain ⟨f, k⟩ := k
  exact ⟨f + 1, _, _, h, rfl, tg, ht, k⟩
theorem ev_tsOut {x : Int32} {dflt lo hi : Int} {offs : Array Int} {len tg : Nat} (h : pm_at q pc = some (.tableswitch dflt lo hi offs, len)) (hc : x.toInt < lo ∨ hi < x.toInt) (ht : (pc : Int) + dflt = (tg : Int)) (k : Ev g C E q tg ls r mem) : Ev g C E q pc ls (.int x :: r) mem := by
  obtain ⟨f, k⟩ := k
  exact ⟨f + 1, _, _, h, trivial, x, r, rfl, Or.inl ⟨tg, hc, ht, k⟩⟩
theorem ev_tsIn {x : Int32} {dflt lo hi off : Int} {offs : Array Int} {len tg : Nat} (h : pm_at q pc = some (.tableswitch dflt lo hi offs, len)) (h1 : ¬ x.toInt < lo) (h2 : ¬ hi < x.toInt) (ho : offs[(x.toInt - lo).toNat]? = some off) (ht : (pc : Int) + off = (tg : Int)) (k : Ev g C E q tg ls r mem) : Ev g C E q pc ls (.int x :: r) mem := by
  obtain ⟨f, k⟩ := k
  exact ⟨f + 1, _, _, h, trivial, x, r, rfl, Or.inr ⟨off, tg, h1, h2, ho, ht, k⟩⟩
theorem ev_ls {x : Int32} {dflt : Int} {ps : Array (Int × Int)} {len tg : Nat} (h : pm_at q pc = some (.lookupswitch dflt ps, len)) (hs : (ps.toList.zip (ps.toList.drop 1)).all (fun (a, next) => a.1 < next.1) = true) (ht : (pc : Int) + Op.lookupswitch.offset ps.toList dflt x.toInt = (tg : Int)) (k : Ev g C E q tg ls r mem) : Ev g C E q pc ls (.int x :: r) mem := by
  obtain ⟨f, k⟩ := k
  exact ⟨f + 1, _, _, h, trivial, x, r, tg, rfl, hs, ht, k⟩
theorem ev_iret {v : Int32} {ty : FieldType} (h : pm_at q pc = some (.ireturn, 1)) (hr : q.2.2.2.2.1 = some ty) (hn : narrow ty (.int v) = .int v) (k : E (some (.int v)) mem) : Ev g C E q pc ls [.int v] mem := ⟨1, _, _, h, rfl, v, ty, rfl, hr, hn, k⟩
theorem ev_iretI {v : Int32} (h : pm_at q pc = some (.ireturn, 1)) (hr : q.2.2.2.2.1 = some .int) (k : E (some (.int v)) mem) : Ev g C E q pc ls [.int v] mem := ⟨1, _, _, h, rfl, v, _, rfl, hr, vp_nar_int v, k⟩
theorem ev_lret {v : Int64} (h : pm_at q pc = some (.lreturn, 1)) (hr : q.2.2.2.2.1 = some .long) (k : E (some (.long v)) mem) : Ev g C E q pc ls [.long v] mem := ⟨1, _, _, h, rfl, v, rfl, hr, k⟩
theorem ev_ret (h : pm_at q pc = some (.return_, 1)) (hr : q.2.2.2.2.1 = none) (k : E none mem) : Ev g C E q pc ls [] mem := ⟨1, _, _, h, rfl, rfl, hr, k⟩
theorem ev_geti {i k c j : Nat} (h : pm_at q pc = some (.getfield i, 3)) (hp : pc + 3 = p') (hf : (q.2.1, i, c, j) ∈ k_fd) (hc : k_fc c j = 0) (hi : pm_is ((n, z, sh), mi, ml, mr) k c)
    (kk : Ev g C E q p' ls (.int (mi k j) :: r) ((n, z, sh), mi, ml, mr)) : Ev g C E q pc ls (.ref k :: r) ((n, z, sh), mi, ml, mr) := by
  subst hp
  obtain ⟨f, kk⟩ := kk
  exact ⟨f + 1, _, _, h, rfl, ⟨_, r, c, j, rfl, hf, hi, by rw [hc]; exact kk⟩⟩
theorem ev_getl {i k c j : Nat} (h : pm_at q pc = some (.getfield i, 3)) (hp : pc + 3 = p') (hf : (q.2.1, i, c, j) ∈ k_fd) (hc : k_fc c j = 1) (hi : pm_is ((n, z, sh), mi, ml, mr) k c)
    (kk : Ev g C E q p' ls (.long (ml k j) :: r) ((n, z, sh), mi, ml, mr)) : Ev g C E q pc ls (.ref k :: r) ((n, z, sh), mi, ml, mr) := by
  subst hp
  obtain ⟨f, kk⟩ := kk
  exact ⟨f + 1, _, _, h, rfl, ⟨_, r, c, j, rfl, hf, hi, by rw [hc]; exact kk⟩⟩
theorem ev_getr {i k c j a : Nat} (h : pm_at q pc = some (.getfield i, 3)) (hp : pc + 3 = p') (hf : (q.2.1, i, c, j) ∈ k_fd) (hc : k_fc c j = 2) (hi : pm_is ((n, z, sh), mi, ml, mr) k c) (ha : mr k j = some a)
    (kk : Ev g C E q p' ls (.ref a :: r) ((n, z, sh), mi, ml, mr)) : Ev g C E q pc ls (.ref k :: r) ((n, z, sh), mi, ml, mr) := by
  subst hp
  obtain ⟨f, kk⟩ := kk
  exact ⟨f + 1, _, _, h, rfl, ⟨_, r, c, j, rfl, hf, hi, by rw [hc]; simp only [pm_fv, ha]; exact kk⟩⟩
theorem ev_puti {i k c j : Nat} {x : Int32} (h : pm_at q pc = some (.putfield i, 3)) (hp : pc + 3 = p') (hf : (q.2.1, i, c, j) ∈ k_fd) (hc : k_fc c j = 0) (hi : pm_is ((n, z, sh), mi, ml, mr) k c) (hg : g k) (hfi : k_fin c j = false)
    (kk : Ev g C E q p' ls r ((n, z, sh), pm_u mi k j x, ml, mr)) : Ev g C E q pc ls (.int x :: .ref k :: r) ((n, z, sh), mi, ml, mr) := by
  subst hp
  obtain ⟨f, kk⟩ := kk
  exact ⟨f + 1, _, _, h, rfl, ⟨_, _, r, c, j, rfl, hf, hi, hg, fun h9 => absurd (hfi.symm.trans h9) (by decide), Or.inl ⟨x, rfl, hc, kk⟩⟩⟩
theorem ev_putl {i k c j : Nat} {x : Int64} (h : pm_at q pc = some (.putfield i, 3)) (hp : pc + 3 = p') (hf : (q.2.1, i, c, j) ∈ k_fd) (hc : k_fc c j = 1) (hi : pm_is ((n, z, sh), mi, ml, mr) k c) (hg : g k) (hfi : k_fin c j = false)
    (kk : Ev g C E q p' ls r ((n, z, sh), mi, pm_u ml k j x, mr)) : Ev g C E q pc ls (.long x :: .ref k :: r) ((n, z, sh), mi, ml, mr) := by
  subst hp
  obtain ⟨f, kk⟩ := kk
  exact ⟨f + 1, _, _, h, rfl, ⟨_, _, r, c, j, rfl, hf, hi, hg, fun h9 => absurd (hfi.symm.trans h9) (by decide), Or.inr (Or.inl ⟨x, rfl, hc, kk⟩)⟩⟩
theorem ev_putr {i k c j a : Nat} (h : pm_at q pc = some (.putfield i, 3)) (hp : pc + 3 = p') (hf : (q.2.1, i, c, j) ∈ k_fd) (hc : k_fc c j = 2) (hi : pm_is ((n, z, sh), mi, ml, mr) k c) (hg : g k) (hnm : q.1.name = "<init>") (hoc : q.2.1 = c)
    (kk : Ev g C E q p' ls r ((n, z, sh), mi, ml, pm_u mr k j (some a))) : Ev g C E q pc ls (.ref a :: .ref k :: r) ((n, z, sh), mi, ml, mr) := by
  subst hp
  obtain ⟨f, kk⟩ := kk
  exact ⟨f + 1, _, _, h, rfl, ⟨_, _, r, c, j, rfl, hf, hi, hg, fun _ => ⟨hnm, hoc⟩, Or.inr (Or.inr ⟨a, rfl, hc, kk⟩)⟩⟩
theorem ev_iald {i : Int32} {k : Nat} (h : pm_at q pc = some (.iaload, 1)) (hp : pc + 1 = p') (hin : vp_in i (sh k).2) (hi : pm_is ((n, z, sh), mi, ml, mr) k 20)
    (kk : Ev g C E q p' ls (.int (mi k i.toNatClampNeg) :: r) ((n, z, sh), mi, ml, mr)) : Ev g C E q pc ls (.int i :: .ref k :: r) ((n, z, sh), mi, ml, mr) := by
  subst hp
  obtain ⟨f, kk⟩ := kk
  exact ⟨f + 1, _, _, h, rfl, ⟨i, _, r, rfl, hin, Or.inr hi, kk⟩⟩
theorem ev_sald {i : Int32} (h : pm_at q pc = some (.iaload, 1)) (hp : pc + 1 = p') (hin : vp_in i (sh 0).2)
    (kk : Ev g C E q p' ls (.int (mi 0 i.toNatClampNeg) :: r) ((n, z, sh), mi, ml, mr)) : Ev g C E q pc ls (.int i :: .ref 0 :: r) ((n, z, sh), mi, ml, mr) := by
  subst hp
  obtain ⟨f, kk⟩ := kk
  exact ⟨f + 1, _, _, h, rfl, ⟨i, _, r, rfl, hin, Or.inl rfl, kk⟩⟩
theorem ev_bald {i : Int32} {k : Nat} (h : pm_at q pc = some (.baload, 1)) (hp : pc + 1 = p') (hin : vp_in i (sh k).2) (hi : pm_is ((n, z, sh), mi, ml, mr) k 21)
    (kk : Ev g C E q p' ls (.int (mi k i.toNatClampNeg) :: r) ((n, z, sh), mi, ml, mr)) : Ev g C E q pc ls (.int i :: .ref k :: r) ((n, z, sh), mi, ml, mr) := by
  subst hp
  obtain ⟨f, kk⟩ := kk
  exact ⟨f + 1, _, _, h, rfl, ⟨i, _, r, rfl, hin, Or.inl hi, kk⟩⟩
theorem ev_zald {i : Int32} {k : Nat} (h : pm_at q pc = some (.baload, 1)) (hp : pc + 1 = p') (hin : vp_in i (sh k).2) (hi : pm_is ((n, z, sh), mi, ml, mr) k 22)
    (kk : Ev g C E q p' ls (.int (mi k i.toNatClampNeg) :: r) ((n, z, sh), mi, ml, mr)) : Ev g C E q pc ls (.int i :: .ref k :: r) ((n, z, sh), mi, ml, mr) := by
  subst hp
  obtain ⟨f, kk⟩ := kk
  exact ⟨f + 1, _, _, h, rfl, ⟨i, _, r, rfl, hin, Or.inr hi, kk⟩⟩
theorem ev_aald {i : Int32} {k a : Nat} (t : Nat) (h : pm_at q pc = some (.aaload, 1)) (hp : pc + 1 = p') (hin : vp_in i (sh k).2) (hi : pm_is ((n, z, sh), mi, ml, mr) k t) (ht : 23 ≤ t ∧ t ≤ 27) (ha : mr k i.toNatClampNeg = some a)
    (kk : Ev g C E q p' ls (.ref a :: r) ((n, z, sh), mi, ml, mr)) : Ev g C E q pc ls (.int i :: .ref k :: r) ((n, z, sh), mi, ml, mr) := by
  subst hp
  obtain ⟨f, kk⟩ := kk
  exact ⟨f + 1, _, _, h, rfl, ⟨i, _, r, t, rfl, hin, ht.1, ht.2, hi, by simp only [ha]; exact kk⟩⟩
theorem ev_iast {i x : Int32} {k : Nat} (h : pm_at q pc = some (.iastore, 1)) (hp : pc + 1 = p') (hin : vp_in i (sh k).2) (hi : pm_is ((n, z, sh), mi, ml, mr) k 20) (hg : g k)
    (kk : Ev g C E q p' ls r ((n, z, sh), pm_u mi k i.toNatClampNeg x, ml, mr)) : Ev g C E q pc ls (.int x :: .int i :: .ref k :: r) ((n, z, sh), mi, ml, mr) := by
  subst hp
  obtain ⟨f, kk⟩ := kk
  exact ⟨f + 1, _, _, h, rfl, ⟨x, i, _, r, rfl, hin, hi, hg, kk⟩⟩
theorem ev_bast {i x : Int32} {k : Nat} (h : pm_at q pc = some (.bastore, 1)) (hp : pc + 1 = p') (hin : vp_in i (sh k).2) (hi : pm_is ((n, z, sh), mi, ml, mr) k 21) (hg : g k)
    (kk : Ev g C E q p' ls r ((n, z, sh), pm_u mi k i.toNatClampNeg (vp_nar .byte x), ml, mr)) : Ev g C E q pc ls (.int x :: .int i :: .ref k :: r) ((n, z, sh), mi, ml, mr) := by
  subst hp
  obtain ⟨f, kk⟩ := kk
  exact ⟨f + 1, _, _, h, rfl, ⟨x, i, _, r, rfl, hin, hg, Or.inl ⟨hi, kk⟩⟩⟩
theorem ev_zast {i x : Int32} {k : Nat} (h : pm_at q pc = some (.bastore, 1)) (hp : pc + 1 = p') (hin : vp_in i (sh k).2) (hi : pm_is ((n, z, sh), mi, ml, mr) k 22) (hg : g k)
    (kk : Ev g C E q p' ls r ((n, z, sh), pm_u mi k i.toNatClampNeg (vp_nar .boolean x), ml, mr)) : Ev g C E q pc ls (.int x :: .int i :: .ref k :: r) ((n, z, sh), mi, ml, mr) := by
  subst hp
  obtain ⟨f, kk⟩ := kk
  exact ⟨f + 1, _, _, h, rfl, ⟨x, i, _, r, rfl, hin, hg, Or.inr ⟨hi, kk⟩⟩⟩
theorem ev_aast {i : Int32} {k a : Nat} (t c : Nat) (h : pm_at q pc = some (.aastore, 1)) (hp : pc + 1 = p') (hin : vp_in i (sh k).2) (hi : pm_is ((n, z, sh), mi, ml, mr) k t) (hia : pm_is ((n, z, sh), mi, ml, mr) a c) (htc : (t, c) ∈ [(23, 4), (24, 2), (25, 3), (26, 8), (26, 6), (26, 0), (26, 1), (26, 5), (26, 10)]) (hg : g k)
    (kk : Ev g C E q p' ls r ((n, z, sh), mi, ml, pm_u mr k i.toNatClampNeg (some a))) : Ev g C E q pc ls (.ref a :: .int i :: .ref k :: r) ((n, z, sh), mi, ml, mr) := by
  subst hp
  obtain ⟨f, kk⟩ := kk
  exact ⟨f + 1, _, _, h, rfl, ⟨a, i, _, r, t, c, rfl, hin, hi, hia, htc, hg, kk⟩⟩
theorem ev_alen {k : Nat} (t : Nat) (h : pm_at q pc = some (.arraylength, 1)) (hp : pc + 1 = p') (hi : pm_is ((n, z, sh), mi, ml, mr) k t) (ht : 20 ≤ t ∧ t ≤ 27)
    (kk : Ev g C E q p' ls (.int (Int32.ofNat (sh k).2) :: r) ((n, z, sh), mi, ml, mr)) : Ev g C E q pc ls (.ref k :: r) ((n, z, sh), mi, ml, mr) := by
  subst hp
  obtain ⟨f, kk⟩ := kk
  exact ⟨f + 1, _, _, h, rfl, ⟨_, r, rfl, Or.inr ⟨t, ht.1, ht.2, hi⟩, kk⟩⟩
theorem ev_slen  (h : pm_at q pc = some (.arraylength, 1)) (hp : pc + 1 = p') 
    (kk : Ev g C E q p' ls (.int (Int32.ofNat (sh 0).2) :: r) ((n, z, sh), mi, ml, mr)) : Ev g C E q pc ls (.ref 0 :: r) ((n, z, sh), mi, ml, mr) := by
  subst hp
  obtain ⟨f, kk⟩ := kk
  exact ⟨f + 1, _, _, h, rfl, ⟨_, r, rfl, Or.inl rfl, kk⟩⟩
theorem ev_new {i : Nat} (c : Nat) (h : pm_at q pc = some (.new i, 3)) (hp : pc + 3 = p') (hw : (q.2.1, i, c) ∈ k_nw) (hc : c < 13) (hn : mem.1.1 + 2 < 1000000)
    (k : Ev g C E q p' ls (.ref (mem.1.1 + 1) :: r) (pm_new mem c (k_nf c))) : Ev g C E q pc ls r mem := by
  subst hp
  obtain ⟨f, k⟩ := k
  exact ⟨f + 1, _, _, h, rfl, ⟨c, hw, hc, hn, k⟩⟩
theorem ev_newa {t : ArrayType} {x : Int32} (tg : Nat) (h : pm_at q pc = some (.newarray t, 2)) (hp : pc + 2 = p') (hx : ¬ x < 0) (hm : x.toNatClampNeg ≤ 100000) (ht : pm_atag t = some tg) (hn : mem.1.1 + 2 < 1000000)
    (k : Ev g C E q p' ls (.ref (mem.1.1 + 1) :: r) (pm_new mem tg x.toNatClampNeg)) : Ev g C E q pc ls (.int x :: r) mem := by
  subst hp
  obtain ⟨f, k⟩ := k
  exact ⟨f + 1, _, _, h, rfl, ⟨x, r, tg, rfl, hx, hm, ht, hn, k⟩⟩
theorem ev_anewa {i : Nat} {x : Int32} (tg : Nat) (h : pm_at q pc = some (.anewarray i, 3)) (hp : pc + 3 = p') (hx : ¬ x < 0) (hm : x.toNatClampNeg ≤ 100000) (hw : (q.2.1, i, tg) ∈ k_nw) (ht : 23 ≤ tg ∧ tg ≤ 26) (hn : mem.1.1 + 2 < 1000000)
    (k : Ev g C E q p' ls (.ref (mem.1.1 + 1) :: r) (pm_new mem tg x.toNatClampNeg)) : Ev g C E q pc ls (.int x :: r) mem := by
  subst hp
  obtain ⟨f, k⟩ := k
  exact ⟨f + 1, _, _, h, rfl, ⟨x, r, tg, rfl, hx, hm, hw, ht.1, ht.2, hn, k⟩⟩
theorem ev_mnew {i : Nat} {x y : Int32} (h : pm_at q pc = some (.multianewarray i 2, 4)) (hp : pc + 4 = p') (hx : ¬ x < 0) (hy : ¬ y < 0) (hm : x.toNatClampNeg ≤ 1000) (hm2 : y.toNatClampNeg ≤ 1000) (hw : (q.2.1, i, 27) ∈ k_nw) (hn : mem.1.1 + 2 + x.toNatClampNeg < 1000000)
    (k : Ev g C E q p' ls (.ref (mem.1.1 + 1) :: r) (pm_new2 mem x.toNatClampNeg y.toNatClampNeg)) : Ev g C E q pc ls (.int y :: .int x :: r) mem := by
  subst hp
  obtain ⟨f, k⟩ := k
  exact ⟨f + 1, _, _, h, rfl, ⟨x, y, r, rfl, rfl, hx, hy, hm, hm2, hw, hn, k⟩⟩
theorem ev_objInit {i b : Nat} (h : pm_at q pc = some (.invokespecial i, 3)) (hp : pc + 3 = p') (hc : (q.2.1, i, 9, 0, 0, 0) ∈ k_cs) (hr : (r.map fun v => v.category).sum ≤ 8) (k : Ev g C E q p' ls r mem) : Ev g C E q pc ls (.ref b :: r) mem := by
  subst hp
  obtain ⟨f, k⟩ := k
  exact ⟨f + 1, _, _, h, rfl, Or.inr ⟨b, r, rfl, hc, hr, k⟩⟩
theorem ev_acopy {i a b : Nat} {sp dp m : Int32} (h : pm_at q pc = some (.invokestatic i, 3)) (hp : pc + 3 = p') (hc : (q.2.1, i, 8, 0, 0, 5) ∈ k_cs) (ha : pm_is ((n, z, sh), mi, ml, mr) a 20) (hb : pm_is ((n, z, sh), mi, ml, mr) b 20) (hg : g b) (h1 : ¬ sp < 0) (h2 : ¬ dp < 0) (h3 : ¬ m < 0) (h4 : sp.toNatClampNeg + m.toNatClampNeg ≤ (sh a).2) (h5 : dp.toNatClampNeg + m.toNatClampNeg ≤ (sh b).2) (hr : (r.map fun v => v.category).sum ≤ 8)
    (k : Ev g C E q p' ls r ((n, z, sh), pm_cpy mi a sp.toNatClampNeg b dp.toNatClampNeg m.toNatClampNeg, ml, mr)) : Ev g C E q pc ls (.int m :: .int dp :: .ref b :: .int sp :: .ref a :: r) ((n, z, sh), mi, ml, mr) := by
  subst hp
  obtain ⟨f, k⟩ := k
  exact ⟨f + 1, _, _, h, rfl, Or.inr (Or.inl ⟨a, sp, b, dp, m, r, rfl, hc, ha, hb, hg, h1, h2, h3, h4, h5, hr, k⟩)⟩
theorem ev_max {i : Nat} {x y : Int32} (h : pm_at q pc = some (.invokestatic i, 3)) (hp : pc + 3 = p') (hc : (q.2.1, i, 10, 0, 0, 0) ∈ k_cs) (hr : (r.map fun v => v.category).sum ≤ 8) (k : Ev g C E q p' ls (.int (if x < y then y else x) :: r) mem) : Ev g C E q pc ls (.int y :: .int x :: r) mem := by
  subst hp
  obtain ⟨f, k⟩ := k
  exact ⟨f + 1, _, _, h, rfl, Or.inr (Or.inr (Or.inl ⟨x, y, r, rfl, hc, hr, k⟩))⟩
theorem ev_min {i : Nat} {x y : Int32} (h : pm_at q pc = some (.invokestatic i, 3)) (hp : pc + 3 = p') (hc : (q.2.1, i, 11, 0, 0, 0) ∈ k_cs) (hr : (r.map fun v => v.category).sum ≤ 8) (k : Ev g C E q p' ls (.int (if y < x then y else x) :: r) mem) : Ev g C E q pc ls (.int y :: .int x :: r) mem := by
  subst hp
  obtain ⟨f, k⟩ := k
  exact ⟨f + 1, _, _, h, rfl, Or.inr (Or.inr (Or.inr (Or.inl ⟨x, y, r, rfl, hc, hr, k⟩)))⟩
theorem ev_abs {i : Nat} {x : Int32} (h : pm_at q pc = some (.invokestatic i, 3)) (hp : pc + 3 = p') (hc : (q.2.1, i, 12, 0, 0, 0) ∈ k_cs) (hr : (r.map fun v => v.category).sum ≤ 8) (k : Ev g C E q p' ls (.int (if 0 ≤ x then x else 0 - x) :: r) mem) : Ev g C E q pc ls (.int x :: r) mem := by
  subst hp
  obtain ⟨f, k⟩ := k
  exact ⟨f + 1, _, _, h, rfl, Or.inr (Or.inr (Or.inr (Or.inr ⟨x, r, rfl, hc, hr, k⟩)))⟩
theorem ev_calls {i kd M na : Nat} {As : List Value} {v : Option Value} {st : List Value} {mem' : pm_M} (h : pm_at q pc = some (.invokestatic i, 3)) (hp : pc + 3 = p') (hc : (q.2.1, i, kd, 0, M, na) ∈ k_cs) (hk : kd ∈ [0, 1]) (hn : As.length = na) (hs : st = As.reverse ++ r) (hr : (r.map fun v => v.category).sum ≤ 8) (hC : C M As mem v mem')
    (k : Ev g C E q p' ls (v.toList ++ r) mem') : Ev g C E q pc ls st mem := by
  subst hp
  obtain ⟨f, k⟩ := k
  exact ⟨f + 1, _, _, h, rfl, Or.inl ⟨kd, 0, M, na, As, r, v, mem', hc, hk, hn, hr, Or.inl ⟨rfl, hs, hC⟩, k⟩⟩
theorem ev_callv {i b : Nat} {kd tg M na : Nat} {As : List Value} {v : Option Value} {st : List Value} {mem' : pm_M} (h : pm_at q pc = some (.invokevirtual i, 3)) (hp : pc + 3 = p') (hc : (q.2.1, i, kd, tg, M, na) ∈ k_cs) (hk : kd ∈ [2, 3]) (hn : As.length = na) (hs : st = As.reverse ++ .ref b :: r) (hi : pm_is mem b tg) (hr : (r.map fun v => v.category).sum ≤ 8) (hC : C M (.ref b :: As) mem v mem')
    (k : Ev g C E q p' ls (v.toList ++ r) mem') : Ev g C E q pc ls st mem := by
  subst hp
  obtain ⟨f, k⟩ := k
  exact ⟨f + 1, _, _, h, rfl, kd, tg, M, na, As, r, v, mem', hc, hk, hn, hr, Or.inr ⟨rfl, b, hs, hi, hC⟩, k⟩
theorem ev_callp {i b : Nat} {kd tg M na : Nat} {As : List Value} {v : Option Value} {st : List Value} {mem' : pm_M} (h : pm_at q pc = some (.invokespecial i, 3)) (hp : pc + 3 = p') (hc : (q.2.1, i, kd, tg, M, na) ∈ k_cs) (hk : kd ∈ [4, 5, 6, 7]) (hn : As.length = na) (hs : st = As.reverse ++ .ref b :: r) (hi : pm_is mem b tg) (hr : (r.map fun v => v.category).sum ≤ 8) (hC : C M (.ref b :: As) mem v mem')
    (k : Ev g C E q p' ls (v.toList ++ r) mem') : Ev g C E q pc ls st mem := by
  subst hp
  obtain ⟨f, k⟩ := k
  exact ⟨f + 1, _, _, h, rfl, Or.inl ⟨kd, tg, M, na, As, r, v, mem', hc, hk, hn, hr, Or.inr ⟨rfl, b, hs, hi, hC⟩, k⟩⟩
end EV
