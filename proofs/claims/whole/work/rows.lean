section
/-! ===== new int[m][n]: what the machine's own 'multianewarray' makes, and what stands behind it ===== -/
theorem mw_over {args : Array Value} {s : State} {t : FieldType} (h : (Cond.arrayOver (.array t)).before args s = true) : ∃ (q c : ClassId) (k : Class), s.vm.findClass (FieldType.array t).toString = some q ∧ s.vm.classes[c]? = some k ∧ k.kind = .array q (.array t) ∧ s.vm.findClass ("[" ++ (FieldType.array t).toString) = some c := by
  have h1 : (Cond.arrayOver (.array t)).holds args s none s [] = true := h
  simp only [Cond.holds, Cond.value, beq_iff_eq] at h1
  obtain ⟨q, h2, h3⟩ := Option.bind_eq_some_iff.mp h1
  obtain ⟨c, h4, h5⟩ := Option.bind_eq_some_iff.mp h3
  obtain ⟨k, h6, h7⟩ := Option.map_eq_some_iff.mp h5
  obtain ⟨hl, h8, -⟩ := Array.findIdx?_eq_some_iff_getElem.mp h4
  rw [Array.getElem?_eq_getElem hl] at h6
  cases h6
  refine ⟨q, c, _, h2, Array.getElem?_eq_getElem hl, ?_, ?_⟩
  · revert h7 h8
    cases s.vm.classes[c].kind with
    | array a b => intro h8 h7; simp at h7 h8; rw [h8, h7.1]
    | _ => intro h8; simp at h8
  · revert h7
    cases s.vm.classes[c].kind with
    | array a b => intro h7; simp at h7; exact h7.2
    | _ => intro h7; simp at h7
/-- the row of rows when i of its N rows have come (the cells behind it, one by one) -/
def mw_o (c : ClassId) (N a i : Nat) : Cell := arrV c N (fun j => va_rf (if j < i then some (a + 1 + j) else none))
def mw_r (c : ClassId) (M : Nat) : Cell := { cls := c, slots := Array.replicate M (.int 0), vm := .none }
def mw_st (U : State) (c q : ClassId) (N M i : Nat) : State := { U with heap := U.heap.push (mw_o c N U.heap.size i) ++ Array.replicate i (mw_r q M), slotsUsed := U.slotsUsed + (N + i * M) }
section MULTI
variable {U : State} {c q : ClassId} {N M i : Nat}
theorem mw_osz : (mw_o c N N i).slots.size = N := by simp [mw_o, arrV]
theorem mw_size : (mw_st U c q N M i).heap.size = U.heap.size + 1 + i := by simp [mw_st]
theorem mw_old {a : Nat} (h : a < U.heap.size) : (mw_st U c q N M i).heap[a]? = U.heap[a]? := by
  show (U.heap.push _ ++ Array.replicate i _)[a]? = _
  rw [Array.getElem?_append_left (by rw [Array.size_push]; omega), Array.getElem?_push_lt h, Array.getElem?_eq_getElem h]
theorem mw_out : (mw_st U c q N M i).heap[U.heap.size]? = some (mw_o c N U.heap.size i) := by
  show (U.heap.push _ ++ Array.replicate i _)[U.heap.size]? = _
  rw [Array.getElem?_append_left (by rw [Array.size_push]; omega), Array.getElem?_push_size]
theorem mw_in {j : Nat} (h : j < i) : (mw_st U c q N M i).heap[U.heap.size + 1 + j]? = some (mw_r q M) := by
  show (U.heap.push _ ++ Array.replicate i _)[U.heap.size + 1 + j]? = _
  rw [Array.getElem?_append_right (by rw [Array.size_push]; omega), Array.size_push, Nat.add_sub_cancel_left, Array.getElem?_replicate, if_pos h]
theorem mw_o0 : mw_o c N M 0 = { cls := c, slots := Array.replicate N .null, vm := .none } := by
  rw [arrV_new]
  exact congrArg (arrV c N) (funext fun j => by rw [if_neg (Nat.not_lt_zero j)]; rfl)
theorem mw_os : (mw_o c N M i).setSlot i (.ref (M + 1 + i)) = mw_o c N M (i + 1) := by
  rw [mw_o, arrV_store]
  refine congrArg (arrV c N) (funext fun j => ?_)
  show (if j = i then _ else va_rf (if j < i then some (M + 1 + j) else none)) = _
  rcases Nat.lt_trichotomy j i with h | h | h
  · rw [if_neg (by omega), if_pos h, if_pos (by omega)]
  · subst h; rw [if_pos rfl, if_pos (by omega)]; rfl
  · rw [if_neg (by omega), if_neg (by omega), if_neg (by omega)]
theorem mw_0 : U.pushCell { cls := c, slots := Array.replicate N .null, vm := .none } = mw_st U c q N M 0 := by
  rw [← mw_o0 (M := U.heap.size)]
  simp [State.pushCell, mw_st, mw_o, arrV]
theorem mw_s : ((mw_st U c q N M i).pushCell (mw_r q M)).setCell U.heap.size ((mw_o c N U.heap.size i).setSlot i (.ref (U.heap.size + 1 + i))) = mw_st U c q N M (i + 1) := by
  rw [mw_os]
  have h1 : ((U.heap.push (mw_o c N U.heap.size i) ++ Array.replicate i (mw_r q M)).push (mw_r q M)).setIfInBounds U.heap.size (mw_o c N U.heap.size (i + 1)) = U.heap.push (mw_o c N U.heap.size (i + 1)) ++ Array.replicate (i + 1) (mw_r q M) := by
    refine Array.ext_getElem? fun j => ?_
    rw [Array.replicate_succ]
    simp only [Array.getElem?_setIfInBounds, Array.getElem?_push, Array.getElem?_append, Array.size_push, Array.size_append, Array.size_replicate, Array.getElem?_replicate]
    repeat' split
    all_goals first | rfl | omega | simp_all <;> omega
  have h2 : U.slotsUsed + (N + i * M) + (mw_r q M).slots.size = U.slotsUsed + (N + (i + 1) * M) := by
    simp [mw_r, Nat.add_mul]; omega
  simp only [State.pushCell, State.setCell, mw_st, h1, h2]
theorem mw_stand {p : Program} {l : Launch} {e : Env} {R : Room} {s : State} {m : MethodId} {args : Array Value} {below : List Frame} {meth : Method} {co : Code} {locs : List Loc} {cells slots : Nat} (X : Stand p l e R s m args below meth co U locs cells slots) : ∀ i : Nat, Stand p l e R s m args below meth co (mw_st U c q N M i) locs (cells + 1 + i) (slots + N + i * M)
  | 0 => by
    have h := X.pushed { cls := c, slots := Array.replicate N .null, vm := .none }
    rw [mw_0 (q := q) (M := M)] at h
    simpa using h
  | i + 1 => by
    have h := (mw_stand X i).pushed (mw_r q M)
    have h1 : ((mw_st U c q N M i).pushCell (mw_r q M)).heap[U.heap.size]? = some (mw_o c N U.heap.size i) := by
      show ((mw_st U c q N M i).heap.push _)[U.heap.size]? = _
      rw [Array.getElem?_push, if_neg (by rw [mw_size]; omega), mw_out]
    have h2 := (h.stored h1 i (.ref (U.heap.size + 1 + i))).dropFresh (fun x hx => by
      rw [List.mem_singleton] at hx
      subst hx
      exact X.heapGrown)
    rw [mw_s] at h2
    have e1 : cells + 1 + i + 1 = cells + 1 + (i + 1) := by omega
    have e2 : slots + N + i * M + (mw_r q M).slots.size = slots + N + (i + 1) * M := by simp [mw_r, Nat.add_mul]; omega
    rwa [e1, e2] at h2
theorem mw_make {e : Env} {E : CtlPost} {d : Bool} {acts : List Action} {Q : Addr → Pre} {p0 : ClassId} {k1 k2 : Class} {n k : Int32} (h1 : U.vm.classes[c]? = some k1) (h2 : k1.kind = .array q (.array .int)) (h3 : U.vm.classes[q]? = some k2) (h4 : k2.kind = .array p0 .int) (hn : ¬ n < 0) (hk : ¬ k < 0)
    (l1 : ¬ n.toNatClampNeg > e.platform.arrayLengthLimit) (l2 : ¬ k.toNatClampNeg > e.platform.arrayLengthLimit) (g1 : ¬ n.toNatClampNeg * 4 > e.platform.maxHeapBytes) (g2 : ¬ k.toNatClampNeg * 4 > e.platform.maxHeapBytes)
    (hc : U.heap.size + (1 + n.toNatClampNeg) ≤ e.platform.maxCells) (hs : U.slotsUsed + (n.toNatClampNeg + n.toNatClampNeg * k.toNatClampNeg) ≤ e.platform.maxSlots)
    (hq : ∀ d' acts', Q U.heap.size d' acts' (mw_st U c q n.toNatClampNeg k.toNatClampNeg n.toNatClampNeg)) : wp (multianewarray.make c [n, k]) Q E e d acts U := by
  have hin : ∀ {d' : Bool} {acts' : List Action} {Q' : Addr → Pre} (i : Nat), i < n.toNatClampNeg → (∀ acts'', Q' (U.heap.size + 1 + i) d' acts'' ((mw_st U c q n.toNatClampNeg k.toNatClampNeg i).pushCell (mw_r q k.toNatClampNeg))) → wp (multianewarray.make q [k]) Q' E e d' acts' (mw_st U c q n.toNatClampNeg k.toNatClampNeg i) := by
    intro d' acts' Q' i hi h
    have hm : i * k.toNatClampNeg + k.toNatClampNeg ≤ n.toNatClampNeg * k.toNatClampNeg := by rw [← Nat.succ_mul]; exact Nat.mul_le_mul_right _ hi
    rw [multianewarray.make]
    simp only [wp_bind', W.ite, hk, if_false, wp_pure', W.theClass]
    refine ⟨k2, h3, ?_⟩
    rw [h4]
    refine W.newArray_of (k := k2) (comp := p0) (type := .int) h3 h4 l2 g2 ?_ ?_ rfl ?_
    · rw [mw_size]; omega
    · show U.slotsUsed + (n.toNatClampNeg + i * k.toNatClampNeg) + _ ≤ _; omega
    · intro acts''
      rw [mw_size]
      exact h acts''
  rw [multianewarray.make]
  simp only [wp_bind', W.ite, hn, if_false, wp_pure', W.theClass]
  refine ⟨k1, h1, ?_⟩
  rw [h2]
  simp only [wp_bind']
  refine W.newArray_of (k := k1) (comp := q) (type := .array .int) h1 h2 l1 g1 (by omega) (by omega) rfl ?_
  intro acts1
  have h0 := mw_0 (U := U) (c := c) (q := q) (N := n.toNatClampNeg) (M := k.toNatClampNeg)
  rw [h0]
  have hf : [k].find? (· < 0) = none := by simp [hk]
  rw [hf]
  simp only [W.ite, wp_pure', ite_self]
  rw [Std.Legacy.Range.forIn_eq_forIn_range', wp_bind']
  refine wp_forIn_inv (fun l S => ∃ i : Nat, i ≤ n.toNatClampNeg ∧ l = List.range' i (n.toNatClampNeg - i) ∧ S = mw_st U c q n.toNatClampNeg k.toNatClampNeg i) _ _ ?_ ?_ ?_
  · exact ⟨0, Nat.zero_le _, by simp [Std.Legacy.Range.size], rfl⟩
  · rintro x rest S d' acts' Q' ⟨i, hi, hl, rfl⟩ hy
    have hlt : i < n.toNatClampNeg := by
      rcases Nat.lt_or_ge i n.toNatClampNeg with z | z
      · exact z
      · rw [Nat.sub_eq_zero_of_le z] at hl; cases hl
    rw [show n.toNatClampNeg - i = (n.toNatClampNeg - (i + 1)) + 1 by omega, List.range'_succ] at hl
    obtain ⟨rfl, rfl⟩ := List.cons.inj hl
    simp only [wp_bind', W.writeLoc, wp_pure']
    refine hin x hlt (fun acts'' => ⟨mw_o c n.toNatClampNeg U.heap.size x, ?_, ?_, ?_, ?_, ?_⟩)
    · show ((mw_st U c q n.toNatClampNeg k.toNatClampNeg x).heap.push _)[U.heap.size]? = _
      rw [Array.getElem?_push, if_neg (by rw [mw_size]; omega), mw_out]
    · intro z; cases z
    · simp [mw_o, arrV]; exact hlt
    · show State.fitsSlot _ c .none x _ = true
      simp [State.fitsSlot, State.slotType?, State.pushCell, mw_st, h1, h2, fits]
    · rw [mw_s]
      exact hy _ _ _ ⟨x + 1, hlt, rfl, rfl⟩
  · rintro S d' acts' ⟨i, hi, hl, rfl⟩
    have : n.toNatClampNeg - i = 0 := by
      have := congrArg List.length hl
      simpa using this.symm
    obtain rfl : i = n.toNatClampNeg := by omega
    simp only [wp_pure']
    exact hq _ _
/-- one instruction: the walk stands behind it, at the state with the row of rows and its rows -/
theorem mw_instr {p : Program} {l : Launch} {e : Env} {R : Room} {s T : State} {m : MethodId} {args : Array Value} {below : List Frame} {meth : Method} {co : Code} {locs : List Loc} {cells slots : Nat} (X : Stand p l e R s m args below meth co T locs cells slots) (hexec : p.tables.exec = Jvm.exec) {own : String} {index : Nat}
    (hown : s.vm.findClass own = some m.cls) (hclink : (Cond.classLink own index ("[" ++ (FieldType.array .int).toString)).before args s = true) (hover : (Cond.arrayOver (.array .int)).before args s = true) (harr : (Cond.arrayClass .int).before args s = true)
    {g : JFrame} (hg : g.method = m) (hdg : decode co.code g.pc = .ok (.multianewarray index 2, 4)) {n k : Int32} {rest : List Value} (hst : g.stack = .int k :: .int n :: rest) (hn : ¬ n < 0) (hk : ¬ k < 0) (b1 : n.toNatClampNeg ≤ 1000) (b2 : k.toNatClampNeg ≤ 1000)
    (hcells : cells + (1 + n.toNatClampNeg) ≤ R.cells) (hslots : slots + (n.toNatClampNeg + n.toNatClampNeg * k.toNatClampNeg) ≤ R.slots) :
    ∃ (v : Vm) (c q : ClassId), s.vm.findClass ("[" ++ (FieldType.array .int).toString) = some c ∧ s.vm.findClass (FieldType.array .int).toString = some q ∧
      Stand p l e R s m args below meth co (mw_st (T.setVm v) c q n.toNatClampNeg k.toNatClampNeg n.toNatClampNeg) locs (cells + 1 + n.toNatClampNeg) (slots + n.toNatClampNeg + n.toNatClampNeg * k.toNatClampNeg) ∧
      ∀ target, Steps p.tables e below ((mw_st (T.setVm v) c q n.toNatClampNeg k.toNatClampNeg n.toNatClampNeg).setTop { g with pc := g.pc + 4, stack := .ref T.heap.size :: rest }) target → Steps p.tables e below (T.setTop g) target := by
  subst hg
  have hpl : e.platform.magicAccessors = ({} : Platform).magicAccessors := by rw [X.admits.platform]
  obtain ⟨q, c, k1, o1, o2, o3, o4⟩ := mw_over hover
  obtain ⟨q', k2, p0, a1, a2, a3⟩ := Cond.arrayClass_spec harr
  have hqq : q' = q := Option.some.inj (a1.symm.trans o1)
  subst hqq
  obtain ⟨cc, f1, f2⟩ := Cond.classLink_spec hown hclink e.platform hpl
  obtain rfl : cc = c := Option.some.inj (f1.symm.trans o4)
  obtain ⟨w1, w2, w3⟩ := State.classEntry (e := e) X.warmed f2
  generalize T.vm.noted g.method.cls index (.cls cc) = v at w1 w2 w3
  obtain ⟨k1', o2', e1⟩ := w2.alike.2.2 _ _ o2
  obtain ⟨k2', a2', e2⟩ := w2.alike.2.2 _ _ a2
  have o3' : k1'.kind = .array q' (.array .int) := by rw [e1]; exact o3
  have a3' : k2'.kind = .array p0 .int := by rw [e2]; exact a3
  obtain ⟨r1, r2⟩ := X.roomAbove hcells hslots
  have l0 := Launch.admits_arrayLengthLimit X.admits
  have l1 := Launch.admits_maxHeapBytes X.admits
  refine ⟨v, cc, q', o4, o1, mw_stand (X.noted w2) _, fun target hr => ?_⟩
  refine Steps.instr (c := co) X.here ?_
  rw [hdg]
  show wpRun (p.tables.exec (.multianewarray index 2)) _ _ e (T.setTop g)
  rw [hexec]
  show wp (multianewarray.sem index 2) _ _ e false [] (T.setTop g)
  rw [multianewarray.sem, wp_bind', W.resolveClassAt_transfer (s := T.setTop g) (State.method?_setTop g X.here.top) w1 w3]
  refine (W.resolveClassAt_ready (s := (T.setVm v).setTop g) (State.method?_setTop g X.here.top) w3).mpr ?_
  rw [wp_bind']
  refine (popN_top (s := T.setVm v) (f := g) (args := [.int n, .int k]) X.here.top hst).mpr ?_
  simp only [List.mapM_cons, List.mapM_nil, pure_bind, wp_bind', wp_pure']
  refine mw_make (U := (T.setVm v).setTop { g with stack := rest }) o2' o3' a2' a3' hn hk (by rw [l0]; omega) (by rw [l0]; omega) (by rw [l1]; omega) (by rw [l1]; omega) r1 r2 (fun d' acts' => ?_)
  rw [wp_bind', W.mark, W.pushRef]
  refine ⟨{ g with stack := rest }, State.topJava?_setTop' (s := mw_st (T.setVm v) cc q' n.toNatClampNeg k.toNatClampNeg n.toNatClampNeg) _ X.here.top, fun acts'' => ?_⟩
  rw [afterInstr_ok]
  show Steps p.tables e below (((mw_st (T.setVm v) cc q' n.toNatClampNeg k.toNatClampNeg n.toNatClampNeg).setTop { g with stack := rest }).setTop { g with pc := g.pc + 4, stack := .ref T.heap.size :: rest }) target
  rw [State.setTop_setTop]
  exact hr
end MULTI
end
