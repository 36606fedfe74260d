theorem dv_53_0 : decode q_53.2.2.1 0 = .ok (.aload_n 0, 1) := by decide +kernel
theorem dv_53_1 : decode q_53.2.2.1 1 = .ok (.getfield 19, 3) := by decide +kernel
theorem dv_53_4 : decode q_53.2.2.1 4 = .ok (.iconst 1, 1) := by decide +kernel
theorem dv_53_5 : decode q_53.2.2.1 5 = .ok (.if_icmp .ne 19, 3) := by decide +kernel
theorem dv_53_8 : decode q_53.2.2.1 8 = .ok (.aload_n 0, 1) := by decide +kernel
theorem dv_53_9 : decode q_53.2.2.1 9 = .ok (.getfield 25, 3) := by decide +kernel
theorem dv_53_12 : decode q_53.2.2.1 12 = .ok (.aload_n 0, 1) := by decide +kernel
theorem dv_53_13 : decode q_53.2.2.1 13 = .ok (.getfield 22, 3) := by decide +kernel
theorem dv_53_16 : decode q_53.2.2.1 16 = .ok (.isub, 1) := by decide +kernel
theorem dv_53_17 : decode q_53.2.2.1 17 = .ok (.aload_n 1, 1) := by decide +kernel
theorem dv_53_18 : decode q_53.2.2.1 18 = .ok (.invokevirtual 101, 3) := by decide +kernel
theorem dv_53_21 : decode q_53.2.2.1 21 = .ok (.if_icmp .eq 5, 3) := by decide +kernel
theorem dv_53_24 : decode q_53.2.2.1 24 = .ok (.iconst 0, 1) := by decide +kernel
theorem dv_53_25 : decode q_53.2.2.1 25 = .ok (.ireturn, 1) := by decide +kernel
theorem dv_53_26 : decode q_53.2.2.1 26 = .ok (.iconst 0, 1) := by decide +kernel
theorem dv_53_27 : decode q_53.2.2.1 27 = .ok (.istore_n 2, 1) := by decide +kernel
theorem dv_53_28 : decode q_53.2.2.1 28 = .ok (.iload_n 2, 1) := by decide +kernel
theorem dv_53_29 : decode q_53.2.2.1 29 = .ok (.aload_n 1, 1) := by decide +kernel
theorem dv_53_30 : decode q_53.2.2.1 30 = .ok (.invokevirtual 101, 3) := by decide +kernel
theorem dv_53_33 : decode q_53.2.2.1 33 = .ok (.if_icmp .ge 30, 3) := by decide +kernel
theorem dv_53_36 : decode q_53.2.2.1 36 = .ok (.aload_n 0, 1) := by decide +kernel
theorem dv_53_37 : decode q_53.2.2.1 37 = .ok (.getfield 9, 3) := by decide +kernel
theorem dv_53_40 : decode q_53.2.2.1 40 = .ok (.aload_n 0, 1) := by decide +kernel
theorem dv_53_41 : decode q_53.2.2.1 41 = .ok (.getfield 22, 3) := by decide +kernel
theorem dv_53_44 : decode q_53.2.2.1 44 = .ok (.iload_n 2, 1) := by decide +kernel
theorem dv_53_45 : decode q_53.2.2.1 45 = .ok (.iadd, 1) := by decide +kernel
theorem dv_53_46 : decode q_53.2.2.1 46 = .ok (.baload, 1) := by decide +kernel
theorem dv_53_47 : decode q_53.2.2.1 47 = .ok (.aload_n 1, 1) := by decide +kernel
theorem dv_53_48 : decode q_53.2.2.1 48 = .ok (.iload_n 2, 1) := by decide +kernel
theorem dv_53_49 : decode q_53.2.2.1 49 = .ok (.invokevirtual 106, 3) := by decide +kernel
theorem dv_53_52 : decode q_53.2.2.1 52 = .ok (.if_icmp .eq 5, 3) := by decide +kernel
theorem dv_53_55 : decode q_53.2.2.1 55 = .ok (.iconst 0, 1) := by decide +kernel
theorem dv_53_56 : decode q_53.2.2.1 56 = .ok (.ireturn, 1) := by decide +kernel
theorem dv_53_57 : decode q_53.2.2.1 57 = .ok (.iinc 2 1, 3) := by decide +kernel
theorem dv_53_60 : decode q_53.2.2.1 60 = .ok (.goto (-32), 3) := by decide +kernel
theorem dv_53_63 : decode q_53.2.2.1 63 = .ok (.iconst 1, 1) := by decide +kernel
theorem dv_53_64 : decode q_53.2.2.1 64 = .ok (.ireturn, 1) := by decide +kernel
section BI2
variable {l : Launch} {D : va_G} {cy : Nat → ClassId} {base b : Nat} {sa sv : Nat → Nat} {p : Program} {e : Env} {R : Room} {s : State} {m : MethodId} {args : Array Value} {below : List Frame} {meth : Method} {c : Code} {Q : State → Prop} {z0 : Nat} {mem : pm_M} {pc : Nat} {ls : pm_L} {st : List Value}
abbrev nC : Nat → List Value → pm_M → Option Value → pm_M → Prop := fun _ _ _ _ _ => False
abbrev nE : Option Value → pm_M → Prop := fun _ _ => False
theorem bk_aload {i : Fin 4} {x : Nat} (F : pm_fix q_53 D cy sa p s m args meth c) (hat : decode q_53.2.2.1 pc = .ok (.aload_n i, 1)) (hl : ls[(i : Nat)]? = some (some (.ref x))) (kk : bK l D cy base b sa sv p e R s m args below meth c Q z0 (pc + 1) ls (.ref x :: st) mem) : bK l D cy base b sa sv p e R s m args below meth c Q z0 pc ls st mem :=
  fun H locs cells slots Ls hR => sm_aload_n (g := gT) (C := nC) (E := nE) F bK_KW ⟨x, hl, kk⟩ hR hat
theorem bk_iload {i : Fin 4} {x : Int32} (F : pm_fix q_53 D cy sa p s m args meth c) (hat : decode q_53.2.2.1 pc = .ok (.iload_n i, 1)) (hl : ls[(i : Nat)]? = some (some (.int x))) (kk : bK l D cy base b sa sv p e R s m args below meth c Q z0 (pc + 1) ls (.int x :: st) mem) : bK l D cy base b sa sv p e R s m args below meth c Q z0 pc ls st mem :=
  fun H locs cells slots Ls hR => sm_iload_n (g := gT) (C := nC) (E := nE) F bK_KW ⟨x, hl, kk⟩ hR hat
theorem bk_iconst {i : Int} (F : pm_fix q_53 D cy sa p s m args meth c) (hat : decode q_53.2.2.1 pc = .ok (.iconst i, 1)) (kk : bK l D cy base b sa sv p e R s m args below meth c Q z0 (pc + 1) ls (.int (Int32.ofInt i) :: st) mem) : bK l D cy base b sa sv p e R s m args below meth c Q z0 pc ls st mem :=
  fun H locs cells slots Ls hR => sm_iconst (g := gT) (C := nC) (E := nE) F bK_KW kk hR hat
theorem bk_istore {i : Fin 4} {x : Int32} (F : pm_fix q_53 D cy sa p s m args meth c) (hat : decode q_53.2.2.1 pc = .ok (.istore_n i, 1)) (ho : pm_ok1 ls i = true) (hn : (i : Nat) < 3) (kk : bK l D cy base b sa sv p e R s m args below meth c Q z0 (pc + 1) (ls.set i (some (.int x))) st mem) : bK l D cy base b sa sv p e R s m args below meth c Q z0 pc ls (.int x :: st) mem :=
  fun H locs cells slots Ls hR => sm_istore_n (g := gT) (C := nC) (E := nE) F bK_KW ⟨x, st, rfl, ho, hn, kk⟩ hR hat
theorem bk_iinc {i : Nat} {n : Int} {x : Int32} (F : pm_fix q_53 D cy sa p s m args meth c) (hat : decode q_53.2.2.1 pc = .ok (.iinc i n, 3)) (hl : ls[i]? = some (some (.int x))) (ho : pm_ok1 ls i = true) (hn : i < 3) (kk : bK l D cy base b sa sv p e R s m args below meth c Q z0 (pc + 3) (ls.set i (some (.int (x + Int32.ofInt n)))) st mem) : bK l D cy base b sa sv p e R s m args below meth c Q z0 pc ls st mem :=
  fun H locs cells slots Ls hR => sm_iinc (g := gT) (C := nC) (E := nE) F bK_KW ⟨x, hl, ho, hn, kk⟩ hR hat
theorem bk_isub {x y : Int32} (F : pm_fix q_53 D cy sa p s m args meth c) (hat : decode q_53.2.2.1 pc = .ok (.isub, 1)) (kk : bK l D cy base b sa sv p e R s m args below meth c Q z0 (pc + 1) ls (.int (x - y) :: st) mem) : bK l D cy base b sa sv p e R s m args below meth c Q z0 pc ls (.int y :: .int x :: st) mem :=
  fun H locs cells slots Ls hR => sm_isub (g := gT) (C := nC) (E := nE) F bK_KW ⟨x, y, st, rfl, kk⟩ hR hat
theorem bk_iadd {x y : Int32} (F : pm_fix q_53 D cy sa p s m args meth c) (hat : decode q_53.2.2.1 pc = .ok (.iadd, 1)) (kk : bK l D cy base b sa sv p e R s m args below meth c Q z0 (pc + 1) ls (.int (x + y) :: st) mem) : bK l D cy base b sa sv p e R s m args below meth c Q z0 pc ls (.int y :: .int x :: st) mem :=
  fun H locs cells slots Ls hR => sm_iadd (g := gT) (C := nC) (E := nE) F bK_KW ⟨x, y, st, rfl, kk⟩ hR hat
theorem bk_goto {off : Int} {tg : Nat} (F : pm_fix q_53 D cy sa p s m args meth c) (hat : decode q_53.2.2.1 pc = .ok (.goto off, 3)) (ht : (pc : Int) + off = (tg : Int)) (kk : bK l D cy base b sa sv p e R s m args below meth c Q z0 tg ls st mem) : bK l D cy base b sa sv p e R s m args below meth c Q z0 pc ls st mem :=
  fun H locs cells slots Ls hR => sm_goto (g := gT) (C := nC) (E := nE) F bK_KW ⟨tg, ht, kk⟩ hR hat
theorem bk_icmp {k : Jvm.ClassFile.Cond} {off : Int} {tg : Nat} {x y : Int32} (F : pm_fix q_53 D cy sa p s m args meth c) (hat : decode q_53.2.2.1 pc = .ok (.if_icmp k off, 3)) (ht : (pc : Int) + off = (tg : Int)) (h1 : pm_cmp k x y → bK l D cy base b sa sv p e R s m args below meth c Q z0 tg ls st mem) (h2 : ¬ pm_cmp k x y → bK l D cy base b sa sv p e R s m args below meth c Q z0 (pc + 3) ls st mem) : bK l D cy base b sa sv p e R s m args below meth c Q z0 pc ls (.int y :: .int x :: st) mem :=
  fun H locs cells slots Ls hR => sm_if_icmp (g := gT) (C := nC) (E := nE) F bK_KW ⟨x, y, st, tg, rfl, ht, h1, h2⟩ hR hat
theorem bk_geti {i k j : Nat} (F : pm_fix q_53 D cy sa p s m args meth c) (hat : decode q_53.2.2.1 pc = .ok (.getfield i, 3)) (hf : ((7 : Nat), i, (7 : Nat), j) ∈ k_fd) (hc : k_fc 7 j = 0) (hi : pm_is mem k 7) (kk : bK l D cy base b sa sv p e R s m args below meth c Q z0 (pc + 3) ls (.int (mem.2.1 k j) :: st) mem) : bK l D cy base b sa sv p e R s m args below meth c Q z0 pc ls (.ref k :: st) mem :=
  fun H locs cells slots Ls hR => sm_getfield (g := gT) (C := nC) (E := nE) F bK_KW ⟨k, st, 7, j, rfl, hf, hi, by rw [hc]; exact kk⟩ hR hat
theorem bk_getr {i k j a : Nat} (F : pm_fix q_53 D cy sa p s m args meth c) (hat : decode q_53.2.2.1 pc = .ok (.getfield i, 3)) (hf : ((7 : Nat), i, (7 : Nat), j) ∈ k_fd) (hc : k_fc 7 j = 2) (hi : pm_is mem k 7) (ha : mem.2.2.2 k j = some a) (kk : bK l D cy base b sa sv p e R s m args below meth c Q z0 (pc + 3) ls (.ref a :: st) mem) : bK l D cy base b sa sv p e R s m args below meth c Q z0 pc ls (.ref k :: st) mem :=
  fun H locs cells slots Ls hR => sm_getfield (g := gT) (C := nC) (E := nE) F bK_KW ⟨k, st, 7, j, rfl, hf, hi, by rw [hc]; show bK l D cy base b sa sv p e R s m args below meth c Q z0 (pc + 3) ls (va_rf (mem.2.2.2 k j) :: st) mem; rw [ha]; exact kk⟩ hR hat
theorem bk_bald {k : Nat} {i : Int32} (F : pm_fix q_53 D cy sa p s m args meth c) (hat : decode q_53.2.2.1 pc = .ok (.baload, 1)) (hin : vp_in i (mem.1.2.2 k).2) (hi : pm_is mem k 21) (kk : bK l D cy base b sa sv p e R s m args below meth c Q z0 (pc + 1) ls (.int (mem.2.1 k i.toNatClampNeg) :: st) mem) : bK l D cy base b sa sv p e R s m args below meth c Q z0 pc ls (.int i :: .ref k :: st) mem :=
  fun H locs cells slots Ls hR => sm_baload (g := gT) (C := nC) (E := nE) F bK_KW ⟨i, k, st, rfl, hin, Or.inl hi, kk⟩ hR hat
theorem bk_loop (F : pm_fix q_53 D cy sa p s m args meth c) (hf : 8 ≤ R.frames) (hlc : 8000 ≤ R.locals) (hce : base + mem.1.1 ≤ s.heap.size + R.cells) (hsl : mem.1.2.1 ≤ z0 + R.slots) {t bb k : Nat} (hk : k < 5) (ht : pm_is mem t 7) (hbb : mem.2.2.2 t 0 = some bb) (hib : pm_is mem bb 21)
    (hso : mem.2.1 t 2 = 1) (hln : mem.2.1 t 4 - mem.2.1 t 3 = nI (pm_wd k).length) (hin : ∀ i, i < (pm_wd k).length → vp_in (mem.2.1 t 3 + nI i) (mem.1.2.2 bb).2) (hret : ∀ (pc : Nat) (v : Int32) (ls : pm_L), decode q_53.2.2.1 pc = .ok (.ireturn, 1) → narrow .boolean (.int v) = .int v → v = (if mem.2.1 t 2 = 1 ∧ mem.2.1 t 4 - mem.2.1 t 3 = nI (pm_wd k).length ∧ ∀ i, i < (pm_wd k).length → mem.2.1 bb (mem.2.1 t 3 + nI i).toNatClampNeg = (pm_wd k).getD i 0 then (1 : Int32) else 0) → bK l D cy base b sa sv p e R s m args below meth c Q z0 pc ls [.int v] mem) :
    ∀ q i, i + q = (pm_wd k).length → (∀ j, j < i → mem.2.1 bb (mem.2.1 t 3 + nI j).toNatClampNeg = (pm_wd k).getD j 0) → bK l D cy base b sa sv p e R s m args below meth c Q z0 28 [some (.ref t), some (.ref (1000000 + k)), some (.int (nI i))] [] mem := by
  have hn5 := (pmw_len hk).2
  intro q
  induction q with
  | zero =>
    intro i hi hj
    have hi : i = (pm_wd k).length := by omega
    refine bk_iload F dv_53_28 rfl ?_
    refine bk_aload F dv_53_29 rfl ?_
    refine bK_len F hf hlc hce hsl hk (Nat.le_of_ble_eq_true rfl) dv_53_30 ?_
    refine bk_icmp F dv_53_33 (tg := 63) rfl (fun _ => ?_) (fun z => absurd (nI_le (by omega) (by omega)) z)
    refine bk_iconst F dv_53_63 ?_
    exact hret 64 1 _ dv_53_64 rfl (by rw [if_pos ⟨hso, hln, fun j hj' => hj j (by omega)⟩])
  | succ q ih =>
    intro i hi hj
    refine bk_iload F dv_53_28 rfl ?_
    refine bk_aload F dv_53_29 rfl ?_
    refine bK_len F hf hlc hce hsl hk (Nat.le_of_ble_eq_true rfl) dv_53_30 ?_
    refine bk_icmp F dv_53_33 (tg := 63) rfl (fun z => absurd z (nI_ge (by omega) (by omega))) (fun _ => ?_)
    refine bk_aload F dv_53_36 rfl ?_
    refine bk_getr F dv_53_37 fl_7_9 rfl ht hbb ?_
    refine bk_aload F dv_53_40 rfl ?_
    refine bk_geti F dv_53_41 fl_7_22 rfl ht ?_
    refine bk_iload F dv_53_44 rfl ?_
    refine bk_iadd F dv_53_45 ?_
    refine bk_bald F dv_53_46 (hin i (by omega)) hib ?_
    refine bk_aload F dv_53_47 rfl ?_
    refine bk_iload F dv_53_48 rfl ?_
    refine bK_chr F hf hlc hce hsl hk (show i < (pm_wd k).length by omega) (Nat.le_of_ble_eq_true rfl) dv_53_49 ?_
    refine bk_icmp F dv_53_52 (tg := 57) rfl (fun z => ?_) (fun z => ?_)
    · refine bk_iinc F dv_53_57 rfl rfl (by decide) ?_
      refine bk_goto F dv_53_60 (tg := 28) rfl ?_
      have h2 := ih (i + 1) (by omega) (fun j h => by
        by_cases e : j = i
        · subst e; exact z
        · exact hj j (by omega))
      rw [← nI_1] at h2
      exact h2
    · refine bk_iconst F dv_53_55 ?_
      exact hret 56 0 _ dv_53_56 rfl (by rw [if_neg (fun y => z (y.2.2 i (by omega)))])
theorem bk_main (F : pm_fix q_53 D cy sa p s m args meth c) (hf : 8 ≤ R.frames) (hlc : 8000 ≤ R.locals) (hce : base + mem.1.1 ≤ s.heap.size + R.cells) (hsl : mem.1.2.1 ≤ z0 + R.slots) {t bb k : Nat} (hk : k < 5) (ht : pm_is mem t 7) (hbb : mem.2.2.2 t 0 = some bb) (hib : pm_is mem bb 21)
    (hin : mem.2.1 t 2 = 1 → mem.2.1 t 4 - mem.2.1 t 3 = nI (pm_wd k).length → ∀ i, i < (pm_wd k).length → vp_in (mem.2.1 t 3 + nI i) (mem.1.2.2 bb).2) (hret : ∀ (pc : Nat) (v : Int32) (ls : pm_L), decode q_53.2.2.1 pc = .ok (.ireturn, 1) → narrow .boolean (.int v) = .int v → v = (if mem.2.1 t 2 = 1 ∧ mem.2.1 t 4 - mem.2.1 t 3 = nI (pm_wd k).length ∧ ∀ i, i < (pm_wd k).length → mem.2.1 bb (mem.2.1 t 3 + nI i).toNatClampNeg = (pm_wd k).getD i 0 then (1 : Int32) else 0) → bK l D cy base b sa sv p e R s m args below meth c Q z0 pc ls [.int v] mem) : bK l D cy base b sa sv p e R s m args below meth c Q z0 0 [some (.ref t), some (.ref (1000000 + k)), none] [] mem := by
  refine bk_aload F dv_53_0 rfl ?_
  refine bk_geti F dv_53_1 fl_7_19 rfl ht ?_
  refine bk_iconst F dv_53_4 ?_
  refine bk_icmp F dv_53_5 (tg := 24) rfl (fun z => ?_) (fun z => ?_)
  · refine bk_iconst F dv_53_24 ?_
    exact hret 25 0 _ dv_53_25 rfl (by rw [if_neg (fun y => z y.1)])
  · have hso : mem.2.1 t 2 = 1 := Classical.not_not.mp z
    refine bk_aload F dv_53_8 rfl ?_
    refine bk_geti F dv_53_9 fl_7_25 rfl ht ?_
    refine bk_aload F dv_53_12 rfl ?_
    refine bk_geti F dv_53_13 fl_7_22 rfl ht ?_
    refine bk_isub F dv_53_16 ?_
    refine bk_aload F dv_53_17 rfl ?_
    refine bK_len F hf hlc hce hsl hk (Nat.le_of_ble_eq_true rfl) dv_53_18 ?_
    refine bk_icmp F dv_53_21 (tg := 26) rfl (fun y => ?_) (fun y => ?_)
    · refine bk_iconst F dv_53_26 ?_
      refine bk_istore F dv_53_27 rfl (by decide) ?_
      exact bk_loop F hf hlc hce hsl hk ht hbb hib hso y (hin hso y) hret (pm_wd k).length 0 (by omega) (fun j hj => absurd hj (Nat.not_lt_zero j))
    · refine bk_iconst F dv_53_24 ?_
      exact hret 25 0 _ dv_53_25 rfl (by rw [if_neg (fun w => y w.2.1)])
end BI2
