/-! ===== calls, answers, and the whole: a run of the small machine is a contract of the machine's ===== -/
theorem k_nest_form : ∀ w ∈ k_nest, ∃ a i x h, w = .methodLinkNest a i x h := by
  intro w h
  simp only [k_nest, List.mem_cons, List.not_mem_nil, or_false] at h
  rcases h with rfl | rfl | rfl | rfl | rfl | rfl | rfl | rfl | rfl | rfl | rfl | rfl | rfl | rfl | rfl | rfl
  all_goals exact ⟨_, _, _, _, rfl⟩
theorem k_cst_form : ∀ w ∈ k_cst, ∃ a c, w = .castable a c := by
  intro w h
  simp only [k_cst, List.mem_cons, List.not_mem_nil, or_false] at h
  rcases h with rfl | rfl | rfl | rfl | rfl
  all_goals exact ⟨_, _, rfl⟩
theorem k_max : ∀ q ∈ pm_all, q.2.2.2.1 ≤ 900 := by decide +kernel
theorem pm_AA_spec {s : State} (h : pm_AA s) : ∃ comp c k, s.vm.findClass (FieldType.array .int).toString = some comp ∧ (s.vm.classes.findIdx? fun (x : Class) => match x.kind with | .array component _ => component == comp | _ => false) = some c ∧ s.vm.classes[c]? = some k ∧ k.kind = .array comp (.array .int) ∧ s.vm.findClass ("[" ++ (FieldType.array .int).toString) = some c := by
  unfold pm_AA at h
  simp only [Cond.before, Cond.holds, Cond.value, beq_iff_eq] at h
  cases hc : s.vm.findClass (FieldType.array .int).toString with
  | none => simp [hc] at h
  | some comp =>
    simp only [hc, Option.bind_some, Option.bind_eq_some_iff, Option.map_eq_some_iff] at h
    obtain ⟨c, hi, k, hk, hb⟩ := h
    obtain ⟨hlt, hp, -⟩ := Array.findIdx?_eq_some_iff_getElem.mp hi
    have hkk : s.vm.classes[c] = k := (Array.getElem?_eq_some_iff.mp hk).2
    rw [hkk] at hp
    cases hkind : k.kind with
    | array component ty =>
      rw [hkind] at hb hp
      simp at hb hp
      exact ⟨comp, c, k, rfl, hi, hk, by rw [hkind, hp, hb.1], hb.2⟩
    | _ => rw [hkind] at hb; simp at hb
theorem pm_AA.moved {u U : State} (hvm : u.vm.Alike U.vm) (h : pm_AA u) : pm_AA U := by
  obtain ⟨comp, c, k, h1, h2, h3, h4, h5⟩ := pm_AA_spec h
  obtain ⟨k', hk', he⟩ := hvm.2.2 _ _ h3
  have hi : (U.vm.classes.findIdx? fun (x : Class) => match x.kind with | .array component _ => component == comp | _ => false) = some c := by
    refine (((va_idx_bare U.vm comp).symm.trans (Eq.trans ?_ (va_idx_bare u.vm comp))).trans h2)
    first | rw [hvm.bare_eq] | rw [← hvm.bare_eq]
  have hkind : k'.kind = .array comp (.array .int) := by rw [he]; exact h4
  have f2 : U.vm.findClass ("[" ++ (FieldType.array .int).toString) = some c := by rw [hvm.findClass]; exact h5
  have f1 : U.vm.findClass (FieldType.array .int).toString = some comp := by rw [hvm.findClass]; exact h1
  unfold pm_AA Cond.before Cond.holds
  simp only [Cond.value]
  rw [f1, Option.bind_some]
  refine (congrArg (fun o : Option Nat => (o.bind (fun c => (U.vm.classes[c]?).map fun (k : Class) => match k.kind with | .array _ ty => decide (ty = FieldType.array .int) && decide (U.vm.findClass ("[" ++ (FieldType.array .int).toString) = some c) | _ => false) == some true)) hi).trans ?_
  simp [hk', hkind, f2]
section KMV
variable {D : va_G} {cy : Nat → ClassId} {base b : Nat} {sa sv : Nat → Nat}
theorem pm_K.warm {s U : State} (hW : s.WarmedH U.vm) (h : pm_K D cy sa s) : pm_K D cy sa U := by
  obtain ⟨h1, h2, h3, h4, h5, h6⟩ := h
  refine ⟨va_K.moved hW.alike h1, fun w hw => ?_, fun r hr => (h3 r hr).warm hW, fun t t1 t2 => (h4 t t1 t2).moved hW.alike, h5.moved hW.alike, fun w hw => ?_⟩
  · obtain ⟨a, i, x, hh, rfl⟩ := k_nest_form w hw
    exact va_Nw.warmM hW (h2 _ hw)
  · obtain ⟨a, c, rfl⟩ := k_cst_form w hw
    exact va_Nw.warmC hW (h6 _ hw)
theorem pm_K.same {s U : State} (hv : s.vm = U.vm) (h : pm_K D cy sa s) : pm_K D cy sa U := by
  obtain ⟨h1, h2, h3, h4, h5, h6⟩ := h
  have ha : s.vm.Alike U.vm := by rw [← hv]; exact Vm.Alike.refl _
  refine ⟨va_K.moved ha h1, fun w hw => ?_, fun r hr => (h3 r hr).same hv.symm, fun t t1 t2 => (h4 t t1 t2).moved ha, h5.moved ha, fun w hw => ?_⟩
  · obtain ⟨a, i, x, hh, rfl⟩ := k_nest_form w hw
    exact va_Nw.same rfl hv (h2 _ hw)
  · obtain ⟨a, c, rfl⟩ := k_cst_form w hw
    exact va_Nw.same rfl hv (h6 _ hw)
theorem pm_GH.moved {s U : State} {H : Heap} {mem : pm_M} (ha : s.vm.Alike U.vm) (h : pm_GH D cy base b sa sv s H mem) : pm_GH D cy base b sa sv U H mem :=
  ⟨h.1, h.2.1, h.2.2.1.moved ha, ⟨h.2.2.2.1.1.moved ha, h.2.2.2.1.2.moved ha⟩, h.2.2.2.2⟩
variable (D cy base b sa sv) in
def pm_Pc (as : List Value) (mem : pm_M) : Array Value → State → Prop := fun a U => a = (as.map (pm_v base b sa)).toArray ∧ pm_GH D cy base b sa sv U U.heap mem ∧ pm_K D cy sa U ∧ base + mem.1.1 = U.heap.size
variable (D cy base b sa sv) in
def pm_Qc (v : Option Value) (mem' : pm_M) : Array Value → State → Outcome → State → Prop := fun _ st oc t => oc = .returned (v.map (pm_v base b sa)) ∧ pm_GH D cy base b sa sv t t.heap mem' ∧ va_F (pm_A base) st t
theorem pm_Pc.blind {as : List Value} {mem : pm_M} : FrameBlind (pm_Pc D cy base b sa sv as mem) := fun a U g mk h =>
  ⟨h.1, h.2.1.moved (s := U) (U := U.calling g mk a) (Vm.Alike.refl U.vm), h.2.2.1.same (s := U) (U := U.calling g mk a) rfl, h.2.2.2⟩
end KMV
def pm_wsM (q : pm_D) : List Jvm.Cond := .code q.1 q.2.2.1 q.2.2.2.1 q.2.2.2.2.1 :: pm_tbl
def pm_rm (d mc ms : Nat) : Room := { frames := d, cells := mc, slots := ms, locals := 1000 * d }
def pm_mt (l : Launch) (D : va_G) (cy : Nat → ClassId) (base b : Nat) (sa sv : Nat → Nat) (d M : Nat) (as : List Value) (mem : pm_M) (v : Option Value) (mem' : pm_M) : Prop :=
  ∀ q, pm_all[M]? = some q → plainName q.1.cls = true → Met l q.1 (pm_wsM q) (pm_rm d (mem'.1.1 - mem.1.1) (mem'.1.2.1 - mem.1.2.1)) (pm_Pc D cy base b sa sv as mem) (pm_Qc D cy base b sa sv v mem') (mem'.1.1 - mem.1.1) (mem'.1.2.1 - mem.1.2.1) (pm_A base)
theorem pm_gi {ws : List Jvm.Cond} (h : ∀ w ∈ ws, w ∈ pm_tbl) : GoodIn pm_tbl ws := fun w hw => ⟨h w hw, good_of_word (pm_good (h w hw)).2⟩
theorem pm_wsM_in {q : pm_D} (hq : q ∈ pm_all) : ∀ w ∈ pm_wsM q, w ∈ pm_tbl := fun w hw => by
  rcases List.mem_cons.mp hw with rfl | h
  · exact (k_all_ok q hq).1
  · exact h
section SIM5
variable {l : Launch} {D : va_G} {cy : Nat → ClassId} {base b : Nat} {sa sv : Nat → Nat} {p : Program} {e : Env} {R : Room} {s : State} {m : MethodId} {args : Array Value} {below : List Frame} {meth : Method} {c : Code} {Q : State → Prop} {z0 nE zE d : Nat}
variable {g : Nat → Prop} {C : Nat → List Value → pm_M → Option Value → pm_M → Prop} {E : Option Value → pm_M → Prop} {q : pm_D} {K : Nat → pm_L → List Value → pm_M → Prop}
variable {pc : Nat} {ls : pm_L} {st : List Value} {mem mem' : pm_M} {H H1 : Heap} {locs locs1 : List Loc} {cells slots : Nat} {Ls : Array Slot}
/-- behind a call -/
theorem pm_fin {mc ms : Nat} {v : Option Value} {r : List Value} {a : Array Value} {st0 : List Value} (hr : va_Run p l e R s m args below meth c H locs cells slots mc ms (F0 m pc Ls st0) (r.map (pm_v base b sa)) (pm_Qc D cy base b sa sv v mem' a) (pm_A base)) (hK : pm_KW l D cy base b sa sv p e R s m args below meth c Q z0 q.2.2.2.1 K) (hR : pm_Rel D cy base b sa sv s z0 q.2.2.2.1 H locs cells slots Ls ls mem)
    (hmc : mem.1.1 + mc = mem'.1.1) (hms : mem.1.2.1 + ms = mem'.1.2.1) (h : K (pc + 3) ls (v.toList ++ r) mem') : W p l e R s m args below meth c H locs cells slots Q (F0 m pc Ls st0) := by
  intro T hT X
  obtain ⟨w, st₀, t, T', L, h0, X', hL, e1, e2, ⟨hv, hG, hz, hk⟩, st⟩ := hr T hT X
  cases hv
  rw [h0] at hz hk
  have hS1 : va_S (pm_A base) s.heap T'.heap (locs ++ L) := ⟨Nat.le_trans hR.2.1.1 (by rw [e1]; exact hz), fun x h1 h2 => by rw [e1, hk x (Nat.lt_of_lt_of_le h1 hR.2.1.1) h2]; exact hR.2.1.2.1 x h1 h2, fun x hx => by
      rcases List.mem_append.mp hx with h | h
      · exact hR.2.1.2.2 x h
      · exact hL x h⟩
  have ha : t.vm.Alike s.vm := by rw [← e2]; exact X'.warmed.alike.symm
  have hG' : pm_GH D cy base b sa sv s T'.heap mem' := by rw [e1]; exact hG.moved ha
  obtain ⟨t2, a1, b1⟩ := hK _ _ _ _ T'.heap (locs ++ L) (cells + mc) (slots + ms) Ls h ⟨hG', hS1, ⟨hR.2.2.1.1, by have := hR.2.2.1.2; omega⟩, by have := hR.2.2.2.1; omega, hR.2.2.2.2⟩ T' rfl X'
  refine ⟨t2, st t2 ?_, b1⟩
  have hst : (v.toList ++ r).map (pm_v base b sa) = (v.map (pm_v base b sa)).toList ++ r.map (pm_v base b sa) := by cases v <;> simp
  rw [hst] at a1
  exact a1
theorem pm_pre {as : List Value} (F : pm_fix q D cy sa p s m args meth c) (hR : pm_Rel D cy base b sa sv s z0 q.2.2.2.1 H locs cells slots Ls ls mem) (hz : H.size = base + mem.1.1) : ∀ U : State, U.heap = H → s.WarmedH U.vm → pm_Pc D cy base b sa sv as mem (as.map (pm_v base b sa)).toArray U := fun U hU hW =>
  ⟨rfl, by rw [hU]; exact hR.1.moved hW.alike, F.2.2.2.2.2.2.warm hW, by rw [hU, hz]⟩
theorem sm_calls {i : Nat} (F : pm_fix q D cy sa p s m args meth c) (hK : pm_KW l D cy base b sa sv p e R s m args below meth c Q z0 q.2.2.2.1 K) (hKb : ∀ pc ls st mem, K pc ls st mem → mem.1.1 ≤ nE ∧ mem.1.2.1 ≤ zE) (hRm : pm_Rm base nE zE z0 d s R) (hCC : ∀ M as mem v mem', C M as mem v mem' → pm_P g mem mem' ∧ pm_mt l D cy base b sa sv d M as mem v mem') (hR : pm_Rel D cy base b sa sv s z0 q.2.2.2.1 H locs cells slots Ls ls mem) (hdg : decode q.2.2.1 pc = .ok (.invokestatic i, 3))
    (h : pm_call C q K i [0, 1] true pc ls st mem) : W p l e R s m args below meth c H locs cells slots Q (F0 m pc Ls (st.map (pm_v base b sa))) := by
  obtain ⟨kd, tg, M, na, As, r, v, mem', hc, hkd, hna, hr, hh, hk⟩ := h
  rcases hh with ⟨-, hs, hC⟩ | ⟨hf, -⟩
  · obtain ⟨q0, hq0, hhd, hck⟩ := k_cs_ok _ hc
    dsimp only at hq0 hhd hck
    have hkd8 : kd < 8 := by
      rcases List.mem_cons.mp hkd with rfl | hkd
      · decide
      · rcases List.mem_cons.mp hkd with rfl | hkd
        · decide
        · cases hkd
    obtain ⟨hpl, hmh, hvh, hpd⟩ := hhd hkd8
    have hqm : q0 ∈ pm_all := List.mem_of_getElem? hq0
    obtain ⟨hPP, hMt⟩ := hCC _ _ _ _ _ hC
    have hMt := hMt q0 hq0 hpl
    have hok := k_all_ok q0 hqm
    have hbd := pm_more hRm hR (hKb _ _ _ _ hk) hPP.1 hPP.2.1
    have hmx := k_max q0 hqm
    refine W.sized (fun hsz => ?_)
    have hz := hR.size hsz
    have hpre : PreS s H (pm_Pc D cy base b sa sv As mem) (As.map (pm_v base b sa)) := ⟨pm_Pc.blind, pm_pre F hR hz⟩
    have hst : st.map (pm_v base b sa) = (As.map (pm_v base b sa)).reverse ++ r.map (pm_v base b sa) := by rw [hs, List.map_append, List.map_reverse]
    obtain ⟨hx, hb, hml, hown, hts, hnm, hk1⟩ := F
    have hroom : (pm_rm d (mem'.1.1 - mem.1.1) (mem'.1.2.1 - mem.1.2.1)).frames + 1 ≤ R.frames ∧ 8 + (q0.2.2.2.1 + 11) + (pm_rm d (mem'.1.1 - mem.1.1) (mem'.1.2.1 - mem.1.2.1)).locals ≤ R.locals := ⟨hRm.1, by have := hRm.2.1; show 8 + (q0.2.2.2.1 + 11) + 1000 * d ≤ _; omega⟩
    have hsum : 2 * (F0 m pc Ls (st.map (pm_v base b sa))).monitorRoom + ((r.map (pm_v base b sa)).map fun v => v.category).sum ≤ 8 := lv_room (by rw [pm_v_sum]; exact hr)
    rcases List.mem_cons.mp hkd with rfl | hkd
    · obtain ⟨w1, w2⟩ := hck
      refine pm_fin (va_runS (g := F0 m pc Ls (st.map (pm_v base b sa))) (As := As.map (pm_v base b sa)) (n := na) ⟨hx, hb, hml, hown, hts⟩ hMt (va_cwS na hts (pm_gi (fun w hw => ?_)) rfl rfl rfl ⟨hmh, hvh, hpd⟩ hroom) hpre rfl (by rw [List.length_map]; exact hna) hR.2.2.2.2.1 hst hsum hdg hbd) hK hR (by have := hPP.1; omega) (by have := hPP.2.1; omega) hk
      rcases List.mem_append.mp hw with h | h
      · simp only [List.mem_cons, List.not_mem_nil, or_false] at h
        rcases h with rfl | rfl | rfl
        · exact w1
        · exact w2
        · exact hok.2.2.2
      · exact pm_wsM_in hqm w h
    · rcases List.mem_cons.mp hkd with rfl | hkd
      · obtain ⟨w1, w2⟩ := hck
        exact pm_fin (va_runSN (g := F0 m pc Ls (st.map (pm_v base b sa))) (As := As.map (pm_v base b sa)) (n := na) (host := "StandUpBook") ⟨hx, hb, hml, hown, hts⟩ hMt ⟨va_cnB na hts (pm_gi (pm_wsM_in hqm)) rfl rfl rfl (hk1.2.1 _ w1) (hts _ hok.2.2.2) ⟨hmh, hvh, hpd⟩ hroom, hts _ w2, trivial⟩ hpre rfl (by rw [List.length_map]; exact hna) hR.2.2.2.2.1 hst hsum hdg hbd) hK hR (by have := hPP.1; omega) (by have := hPP.2.1; omega) hk
      · cases hkd
  · cases hf
theorem k_tg : ∀ r ∈ k_cs, 2 ≤ r.2.2.1 ∧ r.2.2.1 < 8 → r.2.2.2.1 < 13 := by decide +kernel
theorem k_init_ret : ∀ q ∈ pm_all, q.1.name = "<init>" → q.2.2.2.2.1 = none := by decide +kernel
/-- super.m() where the superclass has m from above: as the kit's row for its own m -/
theorem pm_runSO {x y : MethodName} {bytes cc : ByteArray} {maxL nL mc ms n index : Nat} {ret : Option FieldType} {ws' : List Jvm.Cond} {rm : Room} {Pc : Array Value → State → Prop} {Qc : Array Value → State → Outcome → State → Prop} {free : Addr → Prop} {Ts : List Jvm.Cond} {own C : String} {cC : ClassId} {b : Addr} {As rest : List Value} {g : JFrame}
    (hat : ClassAt s C cC) (S : CallFix p m c cc nL s args Ts own) (hM : Met l y (.code y bytes maxL ret :: ws') rm Pc Qc mc ms free) (hrc : rm.cells = mc) (hrs : rm.slots = ms) (hR : rm.frames + 1 ≤ R.frames ∧ 8 + (maxL + 11) + rm.locals ≤ R.locals) (hG : GoodIn Ts (.code y bytes maxL ret :: ws'))
    (hlink : (Jvm.Cond.methodLink own index x).before args s = true) (hsame : (Jvm.Cond.sameMethod x.cls y.cls x.name x.desc).before args s = true) (hsup : (Jvm.Cond.superclass own x.cls).before args s = true) (hsup2 : (Jvm.Cond.superclass x.cls y.cls).before args s = true) (hinst : (Jvm.Cond.instanceMethod y).before args s = true) (hini : (Jvm.Cond.initialized y.cls).before args s = true) (hcode : (Jvm.Cond.code y bytes maxL ret).before args s = true) (hyn : y.name = x.name) (hyd : y.desc = x.desc) (hno : y.name ≠ "<init>") (hpd : (parseMethodDescriptor y.desc).map (fun d => d.parameters.length) = some n)
    (hp : PreV s H C b Pc As)
    (hg : g.method = m) (hn : As.length = n) (hsize : g.locals.size = nL) (hstack : g.stack = As.reverse ++ .ref b :: rest) (hW : 2 * g.monitorRoom + (rest.map fun v => v.category).sum ≤ 8) (hdg : decode cc g.pc = .ok (.invokespecial index, 3)) (hf : cells + mc ≤ R.cells ∧ slots + ms ≤ R.slots) :
    va_Run p l e R s m args below meth c H locs cells slots mc ms g rest (Qc (Value.ref b :: As).toArray) (free) := by
  obtain ⟨hx, hb, hml, ho, ht⟩ := S
  have hK : Back l R p e below s args y 3 8 (PreOf R mc ms Pc) (PostOf Qc mc ms free) := back_of (bytes := bytes) (maxL := maxL) (ret := ret) hM hp.1 hrc hrs hR.1 hR.2 (pay_in ht hG) List.mem_cons_self (fun a' U hW => word_at hW (Or.inl (by first | rfl | simp [Cond.onTables, Cond.keeps, Cond.steady])) hini)
  obtain ⟨-, ⟨cellB, hcB, hoB, hclB⟩, hPc⟩ := hp
  obtain ⟨hfc, kB, hkB, -⟩ := hat
  cases hfc.symm.trans hclB
  intro T hT X
  obtain ⟨mk, methM, hnamed, hmethM, hstM, habM⟩ := Cond.instanceMethod_spec hinst
  obtain ⟨methM', cM, hmethM', -, -, -, -, -, -, hsigM⟩ := Cond.code_spec hnamed hcode
  cases hmethM.symm.trans hmethM'
  obtain ⟨ps, dk, kp, hps, hdk, hkp, hsuper, -, -, hnid⟩ := Cond.superclass_spec ho hsup
  obtain ⟨ps2, dk2, kp2, hps2, hdk2, hkp2, hsuper2, -, -, -⟩ := Cond.superclass_spec hps hsup2
  have hn0 : s.methodNamed? ⟨y.cls, x.name, x.desc⟩ = some mk := by rw [← hyn, ← hyd]; exact hnamed
  have hpm : ps2 = mk.cls := Option.some.inj (hps2.symm.trans (findClass_of_methodNamed hnamed))
  have hne : ∃ n, s.vm.classes.size = n + 1 := by
    have := (Array.getElem?_eq_some_iff.mp hdk2).1
    exact ⟨s.vm.classes.size - 1, by omega⟩
  obtain ⟨nz, hnz⟩ := hne
  have hsub : s.vm.isSubclass ps mk.cls = true := by
    rw [← hpm]
    simp [Vm.isSubclass, Vm.isSubclassAux, hdk2, hsuper2, hnz]
  have hnx : x.name ≠ "<init>" := by rw [← hyn]; exact hno
  have hlen : As.length = methM.sig.parameters.length := by
    rw [hsigM] at hpd
    rw [hn]
    exact (Option.some.inj hpd).symm
  obtain ⟨vm₁, X₁, hstep₁⟩ := X.invokespecialUp hx ho hlink hsame hn0 hmethM hstM habM hnx hdk hnid hps hsuper hsub (a := b) (cell := cellB) (by rw [hT]; exact hcB)
    (fun z h => by rw [h] at hoB; cases hoB) hkB (g := g) hg (argsL := As) (rest := rest) hlen hstack (by rw [hb]; exact hdg)
  obtain ⟨v, ⟨U', l2, c2, s2⟩, X', ⟨g', mk', t, L, e1, e2, hq, h1, hL, h2, h3⟩, hsteps⟩ := hK m meth c ⟨T.setVm vm₁, locs, cells, slots⟩ { g with stack := rest } (.invokespecial index) mk (Value.ref b :: As).toArray X₁ hg (hsize.trans hml.symm) (by rw [hb]; exact hdg) hW (X₁.named hnamed) ⟨hf.1, hf.2, hPc (T.setVm vm₁) hT X₁.warmed⟩
  dsimp only [Pt.U, Pt.locs, Pt.cells, Pt.slots] at X' e1 e2 h1 h2 h3 hsteps
  subst h1; subst h2; subst h3
  exact ⟨v, (T.setVm vm₁).calling g' mk' (Value.ref b :: As).toArray, t, U', L, hT, X', hL, e1, e2, hq, fun target h => hstep₁ _ (by rw [doInvoke_state]; exact hsteps.trans h)⟩
theorem sm_callv {i : Nat} (F : pm_fix q D cy sa p s m args meth c) (hK : pm_KW l D cy base b sa sv p e R s m args below meth c Q z0 q.2.2.2.1 K) (hKb : ∀ pc ls st mem, K pc ls st mem → mem.1.1 ≤ nE ∧ mem.1.2.1 ≤ zE) (hRm : pm_Rm base nE zE z0 d s R) (hCC : ∀ M as mem v mem', C M as mem v mem' → pm_P g mem mem' ∧ pm_mt l D cy base b sa sv d M as mem v mem') (hR : pm_Rel D cy base b sa sv s z0 q.2.2.2.1 H locs cells slots Ls ls mem) (hdg : decode q.2.2.1 pc = .ok (.invokevirtual i, 3))
    (h : pm_call C q K i [2, 3] false pc ls st mem) : W p l e R s m args below meth c H locs cells slots Q (F0 m pc Ls (st.map (pm_v base b sa))) := by
  obtain ⟨kd, tg, M, na, As, r, v, mem', hc, hkd, hna, hr, hh, hk⟩ := h
  rcases hh with ⟨hf, -⟩ | ⟨-, k, hs, ⟨i1, i2, i3⟩, hC⟩
  · cases hf
  · obtain ⟨q0, hq0, hhd, hck⟩ := k_cs_ok _ hc
    dsimp only at hq0 hhd hck
    have hkd8 : kd < 8 := by
      revert hkd
      simp only [List.mem_cons, List.not_mem_nil, or_false]
      omega
    obtain ⟨hpl, hmh, hvh, hpd⟩ := hhd hkd8
    have hqm : q0 ∈ pm_all := List.mem_of_getElem? hq0
    obtain ⟨hPP, hMt⟩ := hCC _ _ _ _ _ hC
    have hMt := hMt q0 hq0 hpl
    have hok := k_all_ok q0 hqm
    have hbd := pm_more hRm hR (hKb _ _ _ _ hk) hPP.1 hPP.2.1
    have hmx := k_max q0 hqm
    have htg : tg < 13 := k_tg _ hc (by dsimp only; revert hkd; simp only [List.mem_cons, List.not_mem_nil, or_false]; omega)
    refine W.sized (fun hsz => ?_)
    have hz := hR.size hsz
    obtain ⟨rc, hcl⟩ : ∃ rc, k_cl[tg]? = some rc := ⟨_, List.getElem?_eq_getElem (by simpa [k_cl] using htg)⟩
    have hrc := (k_cl_ok _ _ hcl).2.2.2.2.2.1
    have he := pm_ws_get (base := base) (b := b) (sa := sa) (cy := cy) i1 i2
    rw [pm_e_obj i3 (by omega)] at he
    have hrecv := va_recv F.2.2.2.2.2.2.1 hR.1.2.1 hcl he
    rw [hrc] at hrecv
    have hcat : ClassAt s (k_cn tg) (D.1 tg) := by rw [← hrc]; exact (F.2.2.2.2.2.2.1.1 tg rc hcl).2
    have hpre : PreV s H (k_cn tg) (pm_ad base b sa k) (pm_Pc D cy base b sa sv (.ref k :: As) mem) (As.map (pm_v base b sa)) := ⟨pm_Pc.blind, hrecv, pm_pre (as := .ref k :: As) F hR hz⟩
    have hpreS : PreS s H (pm_Pc D cy base b sa sv (.ref k :: As) mem) (.ref (pm_ad base b sa k) :: As.map (pm_v base b sa)) := ⟨pm_Pc.blind, pm_pre (as := .ref k :: As) F hR hz⟩
    have hst : st.map (pm_v base b sa) = (As.map (pm_v base b sa)).reverse ++ .ref (pm_ad base b sa k) :: r.map (pm_v base b sa) := by rw [hs, List.map_append, List.map_reverse]; rfl
    obtain ⟨hx, hb, hml, hown, hts, hnm, hk1⟩ := F
    have hroom : (pm_rm d (mem'.1.1 - mem.1.1) (mem'.1.2.1 - mem.1.2.1)).frames + 1 ≤ R.frames ∧ 8 + (q0.2.2.2.1 + 11) + (pm_rm d (mem'.1.1 - mem.1.1) (mem'.1.2.1 - mem.1.2.1)).locals ≤ R.locals := ⟨hRm.1, by have := hRm.2.1; show 8 + (q0.2.2.2.1 + 11) + 1000 * d ≤ _; omega⟩
    have hsum : 2 * (F0 m pc Ls (st.map (pm_v base b sa))).monitorRoom + ((r.map (pm_v base b sa)).map fun v => v.category).sum ≤ 8 := lv_room (by rw [pm_v_sum]; exact hr)
    have hlen : (As.map (pm_v base b sa)).length = na := by rw [List.length_map]; exact hna
    rcases List.mem_cons.mp hkd with rfl | hkd
    · obtain ⟨w1, w2, w3, w4⟩ := hck
      refine pm_fin (va_runV (g := F0 m pc Ls (st.map (pm_v base b sa))) (As := As.map (pm_v base b sa)) (n := na) (C := k_cn tg) ⟨hx, hb, hml, hown, hts⟩ hMt (cwV na hts (pm_gi (fun w hw => ?_)) rfl rfl rfl ⟨w4, hmh, hvh, hpd⟩ hroom) hpre rfl hlen hR.2.2.2.2.1 hst hsum hdg hbd) hK hR (by have := hPP.1; omega) (by have := hPP.2.1; omega) hk
      rcases List.mem_append.mp hw with h | h
      · simp only [List.mem_cons, List.not_mem_nil, or_false] at h
        rcases h with rfl | rfl | rfl | rfl
        · exact w1
        · exact w2
        · exact w3
        · rw [← w4]
          exact hok.2.2.2
      · exact pm_wsM_in hqm w h
    · rcases List.mem_cons.mp hkd with rfl | hkd
      · obtain ⟨x, w1, w2, w3, w4, w5, w6, w7, w8, w9, b0, m0, r0, w10⟩ := hck
        refine pm_fin (va_runU (g := F0 m pc Ls (st.map (pm_v base b sa))) (As := As.map (pm_v base b sa)) (n := na) (C := k_cn tg) (owner := x.cls) (x := x) ⟨hx, hb, hml, hown, hts⟩ hMt (va_cwO na hts (pm_gi (fun w hw => ?_)) rfl rfl rfl w10 ⟨w8, w9, by rw [← w7]; exact hpd⟩ hroom) hpre rfl hlen hR.2.2.2.2.1 hst hsum hdg hbd) hK hR (by have := hPP.1; omega) (by have := hPP.2.1; omega) hk
        rcases List.mem_append.mp hw with h | h
        · simp only [List.mem_cons, List.not_mem_nil, or_false] at h
          rcases h with rfl | rfl | rfl | rfl | rfl | rfl
          · exact w1
          · exact w2
          · exact w3
          · exact w4
          · exact w5
          · exact hok.2.2.2
        · exact pm_wsM_in hqm w h
      · cases hkd
theorem sm_callp {i : Nat} (F : pm_fix q D cy sa p s m args meth c) (hK : pm_KW l D cy base b sa sv p e R s m args below meth c Q z0 q.2.2.2.1 K) (hKb : ∀ pc ls st mem, K pc ls st mem → mem.1.1 ≤ nE ∧ mem.1.2.1 ≤ zE) (hRm : pm_Rm base nE zE z0 d s R) (hCC : ∀ M as mem v mem', C M as mem v mem' → pm_P g mem mem' ∧ pm_mt l D cy base b sa sv d M as mem v mem') (hR : pm_Rel D cy base b sa sv s z0 q.2.2.2.1 H locs cells slots Ls ls mem) (hdg : decode q.2.2.1 pc = .ok (.invokespecial i, 3))
    (h : pm_call C q K i [4, 5, 6, 7] false pc ls st mem) : W p l e R s m args below meth c H locs cells slots Q (F0 m pc Ls (st.map (pm_v base b sa))) := by
  obtain ⟨kd, tg, M, na, As, r, v, mem', hc, hkd, hna, hr, hh, hk⟩ := h
  rcases hh with ⟨hf, -⟩ | ⟨-, k, hs, ⟨i1, i2, i3⟩, hC⟩
  · cases hf
  · obtain ⟨q0, hq0, hhd, hck⟩ := k_cs_ok _ hc
    dsimp only at hq0 hhd hck
    have hkd8 : kd < 8 := by
      revert hkd
      simp only [List.mem_cons, List.not_mem_nil, or_false]
      omega
    obtain ⟨hpl, hmh, hvh, hpd⟩ := hhd hkd8
    have hqm : q0 ∈ pm_all := List.mem_of_getElem? hq0
    obtain ⟨hPP, hMt⟩ := hCC _ _ _ _ _ hC
    have hMt := hMt q0 hq0 hpl
    have hok := k_all_ok q0 hqm
    have hbd := pm_more hRm hR (hKb _ _ _ _ hk) hPP.1 hPP.2.1
    have hmx := k_max q0 hqm
    have htg : tg < 13 := k_tg _ hc (by dsimp only; revert hkd; simp only [List.mem_cons, List.not_mem_nil, or_false]; omega)
    refine W.sized (fun hsz => ?_)
    have hz := hR.size hsz
    obtain ⟨rc, hcl⟩ : ∃ rc, k_cl[tg]? = some rc := ⟨_, List.getElem?_eq_getElem (by simpa [k_cl] using htg)⟩
    have hrc := (k_cl_ok _ _ hcl).2.2.2.2.2.1
    have he := pm_ws_get (base := base) (b := b) (sa := sa) (cy := cy) i1 i2
    rw [pm_e_obj i3 (by omega)] at he
    have hrecv := va_recv F.2.2.2.2.2.2.1 hR.1.2.1 hcl he
    rw [hrc] at hrecv
    have hcat : ClassAt s (k_cn tg) (D.1 tg) := by rw [← hrc]; exact (F.2.2.2.2.2.2.1.1 tg rc hcl).2
    have hpre : PreV s H (k_cn tg) (pm_ad base b sa k) (pm_Pc D cy base b sa sv (.ref k :: As) mem) (As.map (pm_v base b sa)) := ⟨pm_Pc.blind, hrecv, pm_pre (as := .ref k :: As) F hR hz⟩
    have hpreS : PreS s H (pm_Pc D cy base b sa sv (.ref k :: As) mem) (.ref (pm_ad base b sa k) :: As.map (pm_v base b sa)) := ⟨pm_Pc.blind, pm_pre (as := .ref k :: As) F hR hz⟩
    have hst : st.map (pm_v base b sa) = (As.map (pm_v base b sa)).reverse ++ .ref (pm_ad base b sa k) :: r.map (pm_v base b sa) := by rw [hs, List.map_append, List.map_reverse]; rfl
    obtain ⟨hx, hb, hml, hown, hts, hnm, hk1⟩ := F
    have hroom : (pm_rm d (mem'.1.1 - mem.1.1) (mem'.1.2.1 - mem.1.2.1)).frames + 1 ≤ R.frames ∧ 8 + (q0.2.2.2.1 + 11) + (pm_rm d (mem'.1.1 - mem.1.1) (mem'.1.2.1 - mem.1.2.1)).locals ≤ R.locals := ⟨hRm.1, by have := hRm.2.1; show 8 + (q0.2.2.2.1 + 11) + 1000 * d ≤ _; omega⟩
    have hsum : 2 * (F0 m pc Ls (st.map (pm_v base b sa))).monitorRoom + ((r.map (pm_v base b sa)).map fun v => v.category).sum ≤ 8 := lv_room (by rw [pm_v_sum]; exact hr)
    have hlen : (As.map (pm_v base b sa)).length = na := by rw [List.length_map]; exact hna
    simp only [List.mem_cons, List.not_mem_nil, or_false] at hkd
    rcases hkd with rfl | rfl | rfl | rfl
    · obtain ⟨x, w1, w2, w3, w4, w5, w6, w7, w8⟩ := hck
      exact pm_fin (pm_runSO (g := F0 m pc Ls (st.map (pm_v base b sa))) (As := As.map (pm_v base b sa)) (n := na) (C := k_cn tg) (x := x) hcat ⟨hx, hb, hml, hown, hts⟩ hMt rfl rfl hroom (pm_gi (pm_wsM_in hqm)) (hts _ w1) (hts _ w2) (hts _ w3) (hts _ w4) (hts _ w5) (hts _ hok.2.2.2) (hts _ hok.1) w6 w7 w8 hpd hpre rfl hlen hR.2.2.2.2.1 hst hsum hdg hbd) hK hR (by have := hPP.1; omega) (by have := hPP.2.1; omega) hk
    · obtain ⟨w1, w2, w3⟩ := hck
      have hret : q0.2.2.2.2.1 = none := k_init_ret q0 hqm w3
      have hMt' := hMt
      have hin := pm_wsM_in hqm
      unfold pm_wsM at hMt' hin
      rw [hret] at hMt' hin
      exact pm_fin (va_runI (g := F0 m pc Ls (st.map (pm_v base b sa))) (As := As.map (pm_v base b sa)) (n := na) ⟨hx, hb, hml, hown, hts⟩ hMt' (cwI na hts (pm_gi hin) rfl rfl rfl (hts _ hok.2.2.2) (hts _ w1) (hts _ w2) w3 ⟨hmh, hvh, hpd⟩ hroom) hpreS rfl hlen hR.2.2.2.2.1 hst hsum hdg hbd) hK hR (by have := hPP.1; omega) (by have := hPP.2.1; omega) hk
    · obtain ⟨w1, w2, w3⟩ := hck
      have hret : q0.2.2.2.2.1 = none := k_init_ret q0 hqm w3
      have hMt' := hMt
      have hin := pm_wsM_in hqm
      unfold pm_wsM at hMt' hin
      rw [hret] at hMt' hin
      exact pm_fin (va_runIN (g := F0 m pc Ls (st.map (pm_v base b sa))) (As := As.map (pm_v base b sa)) (n := na) (host := "StandUpBook") ⟨hx, hb, hml, hown, hts⟩ hMt' ⟨va_cnB na hts (pm_gi hin) rfl rfl rfl (hk1.2.1 _ w1) (hts _ hok.2.2.2) ⟨hmh, hvh, hpd⟩ hroom, w3, hts _ w2⟩ hpreS rfl hlen hR.2.2.2.2.1 hst hsum hdg hbd) hK hR (by have := hPP.1; omega) (by have := hPP.2.1; omega) hk
    · obtain ⟨w1, w2, w3, w4, w5⟩ := hck
      refine pm_fin (va_runSU (g := F0 m pc Ls (st.map (pm_v base b sa))) (As := As.map (pm_v base b sa)) (n := na) (C := k_cn tg) hcat ⟨hx, hb, hml, hown, hts⟩ hMt (va_cwSU na hts (pm_gi (fun w hw => ?_)) rfl rfl rfl ⟨w5, hpd⟩ hroom) hpre rfl hlen hR.2.2.2.2.1 hst hsum hdg hbd) hK hR (by have := hPP.1; omega) (by have := hPP.2.1; omega) hk
      rcases List.mem_append.mp hw with h | h
      · simp only [List.mem_cons, List.not_mem_nil, or_false] at h
        rcases h with rfl | rfl | rfl | rfl | rfl
        · exact w1
        · exact w2
        · exact w3
        · exact w4
        · exact hok.2.2.2
      · exact pm_wsM_in hqm w h
end SIM5
