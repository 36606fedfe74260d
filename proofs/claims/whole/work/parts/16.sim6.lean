/-! ===== the run as a whole ===== -/
theorem pm_lookup {α : Type} {pc : Nat} {v : α} : ∀ {tab : List (Nat × α)}, tab.lookup pc = some v → (pc, v) ∈ tab
  | [], h => by cases h
  | (k, w) :: r, h => by
    rw [List.lookup_cons] at h
    split at h
    · rename_i hk
      have hk : pc = k := by simpa using hk
      cases h
      subst hk
      exact List.mem_cons_self
    · exact List.mem_cons_of_mem _ (pm_lookup h)
section SIM6
variable {l : Launch} {D : va_G} {cy : Nat → ClassId} {base b : Nat} {sa sv : Nat → Nat} {p : Program} {e : Env} {R : Room} {s : State} {m : MethodId} {args : Array Value} {below : List Frame} {meth : Method} {c : Code} {Q : State → Prop} {z0 d : Nat}
variable {g : Nat → Prop} {C : Nat → List Value → pm_M → Option Value → pm_M → Prop} {q : pm_D} {v0 : Option Value} {m0 : pm_M}
set_option maxHeartbeats 4000000 in
theorem pm_simW (F : pm_fix q D cy sa p s m args meth c) (hdec : ∀ x ∈ q.2.2.2.2.2, decode q.2.2.1 x.1 = .ok x.2) (hRm : pm_Rm base m0.1.1 m0.1.2.1 z0 d s R) (hCC : ∀ M as mem v mem', C M as mem v mem' → pm_P g mem mem' ∧ pm_mt l D cy base b sa sv d M as mem v mem')
    (hretI : ∀ (pc : Nat) (v : Int32) (ty : FieldType) (ls : pm_L) (H : Heap) (locs : List Loc) (cells slots : Nat) (Ls : Array Slot), decode q.2.2.1 pc = .ok (.ireturn, 1) → q.2.2.2.2.1 = some ty → narrow ty (.int v) = .int v → v0 = some (.int v) → pm_Rel D cy base b sa sv s z0 q.2.2.2.1 H locs cells slots Ls ls m0 → W p l e R s m args below meth c H locs cells slots Q (F0 m pc Ls [.int v]))
    (hretL : ∀ (pc : Nat) (v : Int64) (ls : pm_L) (H : Heap) (locs : List Loc) (cells slots : Nat) (Ls : Array Slot), decode q.2.2.1 pc = .ok (.lreturn, 1) → q.2.2.2.2.1 = some .long → v0 = some (.long v) → pm_Rel D cy base b sa sv s z0 q.2.2.2.1 H locs cells slots Ls ls m0 → W p l e R s m args below meth c H locs cells slots Q (F0 m pc Ls [.long v]))
    (hretV : ∀ (pc : Nat) (ls : pm_L) (H : Heap) (locs : List Loc) (cells slots : Nat) (Ls : Array Slot), decode q.2.2.1 pc = .ok (.return_, 1) → q.2.2.2.2.1 = none → v0 = none → pm_Rel D cy base b sa sv s z0 q.2.2.2.1 H locs cells slots Ls ls m0 → W p l e R s m args below meth c H locs cells slots Q (F0 m pc Ls [])) :
    ∀ (f pc : Nat) (ls : pm_L) (st : List Value) (mem : pm_M) (H : Heap) (locs : List Loc) (cells slots : Nat) (Ls : Array Slot), pm_run g C (fun r1 m1 => r1 = v0 ∧ m1 = m0) q f pc ls st mem → pm_Rel D cy base b sa sv s z0 q.2.2.2.1 H locs cells slots Ls ls mem → W p l e R s m args below meth c H locs cells slots Q (F0 m pc Ls (st.map (pm_v base b sa))) := by
  intro f
  induction f with
  | zero => intro pc ls st mem H locs cells slots Ls h; exact h.elim
  | succ f ih =>
    intro pc ls st mem H locs cells slots Ls h hR
    obtain ⟨ins, len, hat, hlk, h⟩ := h
    have hdg := hdec _ (pm_lookup hat)
    dsimp only at hdg
    have hK : pm_KW l D cy base b sa sv p e R s m args below meth c Q z0 q.2.2.2.1 (fun pc' ls' st' mem' => pm_run g C (fun r1 m1 => r1 = v0 ∧ m1 = m0) q f pc' ls' st' mem') := fun pc ls st mem H locs cells slots Ls hk hR => ih pc ls st mem H locs cells slots Ls hk hR
    have hKb : ∀ pc ls st mem, pm_run g C (fun r1 m1 => r1 = v0 ∧ m1 = m0) q f pc ls st mem → mem.1.1 ≤ m0.1.1 ∧ mem.1.2.1 ≤ m0.1.2.1 := fun pc ls st mem hk => by
      have hp := pm_run_pres (fun M as mem v mem' hc => (hCC M as mem v mem' hc).1) (fun r m1 h => h.2) f pc ls st mem hk
      exact ⟨hp.1, hp.2.1⟩
    cases ins with
    | iconst i =>
      have hlk : len = 1 := hlk
      subst hlk
      exact sm_iconst F hK h hR hdg
    | bipush i =>
      have hlk : len = 2 := hlk
      subst hlk
      exact sm_bipush F hK h hR hdg
    | sipush i =>
      have hlk : len = 3 := hlk
      subst hlk
      exact sm_sipush F hK h hR hdg
    | lconst i =>
      have hlk : len = 1 := hlk
      subst hlk
      exact sm_lconst F hK h hR hdg
    | ldc i =>
      have hlk : len = 2 := hlk
      subst hlk
      exact sm_ldc F hK h hR hdg
    | ldc_w i =>
      have hlk : len = 3 := hlk
      subst hlk
      exact sm_ldc_w F hK h hR hdg
    | ldc2_w i =>
      have hlk : len = 3 := hlk
      subst hlk
      exact sm_ldc2_w F hK h hR hdg
    | iload_n i =>
      have hlk : len = 1 := hlk
      subst hlk
      exact sm_iload_n F hK h hR hdg
    | iload i =>
      have hlk : len = 2 := hlk
      subst hlk
      exact sm_iload F hK h hR hdg
    | lload_n i =>
      have hlk : len = 1 := hlk
      subst hlk
      exact sm_lload_n F hK h hR hdg
    | lload i =>
      have hlk : len = 2 := hlk
      subst hlk
      exact sm_lload F hK h hR hdg
    | aload_n i =>
      have hlk : len = 1 := hlk
      subst hlk
      exact sm_aload_n F hK h hR hdg
    | aload i =>
      have hlk : len = 2 := hlk
      subst hlk
      exact sm_aload F hK h hR hdg
    | istore_n i =>
      have hlk : len = 1 := hlk
      subst hlk
      exact sm_istore_n F hK h hR hdg
    | istore i =>
      have hlk : len = 2 := hlk
      subst hlk
      exact sm_istore F hK h hR hdg
    | astore_n i =>
      have hlk : len = 1 := hlk
      subst hlk
      exact sm_astore_n F hK h hR hdg
    | astore i =>
      have hlk : len = 2 := hlk
      subst hlk
      exact sm_astore F hK h hR hdg
    | lstore_n i =>
      have hlk : len = 1 := hlk
      subst hlk
      exact sm_lstore_n F hK h hR hdg
    | lstore i =>
      have hlk : len = 2 := hlk
      subst hlk
      exact sm_lstore F hK h hR hdg
    | iinc i k =>
      have hlk : len = 3 := hlk
      subst hlk
      exact sm_iinc F hK h hR hdg
    | goto off =>
      have hlk : len = 3 := hlk
      subst hlk
      exact sm_goto F hK h hR hdg
    | ifCond k off =>
      have hlk : len = 3 := hlk
      subst hlk
      exact sm_ifCond F hK h hR hdg
    | if_icmp k off =>
      have hlk : len = 3 := hlk
      subst hlk
      exact sm_if_icmp F hK h hR hdg
    | getfield i =>
      have hlk : len = 3 := hlk
      subst hlk
      exact sm_getfield F hK h hR hdg
    | putfield i =>
      have hlk : len = 3 := hlk
      subst hlk
      exact sm_putfield F hK h hR hdg
    | iadd =>
      have hlk : len = 1 := hlk
      subst hlk
      exact sm_iadd F hK h hR hdg
    | isub =>
      have hlk : len = 1 := hlk
      subst hlk
      exact sm_isub F hK h hR hdg
    | imul =>
      have hlk : len = 1 := hlk
      subst hlk
      exact sm_imul F hK h hR hdg
    | iand =>
      have hlk : len = 1 := hlk
      subst hlk
      exact sm_iand F hK h hR hdg
    | ior =>
      have hlk : len = 1 := hlk
      subst hlk
      exact sm_ior F hK h hR hdg
    | ixor =>
      have hlk : len = 1 := hlk
      subst hlk
      exact sm_ixor F hK h hR hdg
    | ishl =>
      have hlk : len = 1 := hlk
      subst hlk
      exact sm_ishl F hK h hR hdg
    | ishr =>
      have hlk : len = 1 := hlk
      subst hlk
      exact sm_ishr F hK h hR hdg
    | iushr =>
      have hlk : len = 1 := hlk
      subst hlk
      exact sm_iushr F hK h hR hdg
    | ladd =>
      have hlk : len = 1 := hlk
      subst hlk
      exact sm_ladd F hK h hR hdg
    | lmul =>
      have hlk : len = 1 := hlk
      subst hlk
      exact sm_lmul F hK h hR hdg
    | idiv =>
      have hlk : len = 1 := hlk
      subst hlk
      exact sm_idiv F hK h hR hdg
    | irem =>
      have hlk : len = 1 := hlk
      subst hlk
      exact sm_irem F hK h hR hdg
    | ldiv =>
      have hlk : len = 1 := hlk
      subst hlk
      exact sm_ldiv F hK h hR hdg
    | lrem =>
      have hlk : len = 1 := hlk
      subst hlk
      exact sm_lrem F hK h hR hdg
    | lcmp =>
      have hlk : len = 1 := hlk
      subst hlk
      exact sm_lcmp F hK h hR hdg
    | i2l =>
      have hlk : len = 1 := hlk
      subst hlk
      exact sm_i2l F hK h hR hdg
    | l2i =>
      have hlk : len = 1 := hlk
      subst hlk
      exact sm_l2i F hK h hR hdg
    | i2b =>
      have hlk : len = 1 := hlk
      subst hlk
      exact sm_i2b F hK h hR hdg
    | ineg =>
      have hlk : len = 1 := hlk
      subst hlk
      exact sm_ineg F hK h hR hdg
    | dup =>
      have hlk : len = 1 := hlk
      subst hlk
      exact sm_dup F hK h hR hdg
    | dup2 =>
      have hlk : len = 1 := hlk
      subst hlk
      exact sm_dup2 F hK h hR hdg
    | pop =>
      have hlk : len = 1 := hlk
      subst hlk
      exact sm_pop F hK h hR hdg
    | iaload =>
      have hlk : len = 1 := hlk
      subst hlk
      exact sm_iaload F hK h hR hdg
    | baload =>
      have hlk : len = 1 := hlk
      subst hlk
      exact sm_baload F hK h hR hdg
    | aaload =>
      have hlk : len = 1 := hlk
      subst hlk
      exact sm_aaload F hK h hR hdg
    | iastore =>
      have hlk : len = 1 := hlk
      subst hlk
      exact sm_iastore F hK h hR hdg
    | bastore =>
      have hlk : len = 1 := hlk
      subst hlk
      exact sm_bastore F hK h hR hdg
    | aastore =>
      have hlk : len = 1 := hlk
      subst hlk
      exact sm_aastore F hK h hR hdg
    | arraylength =>
      have hlk : len = 1 := hlk
      subst hlk
      exact sm_arraylength F hK h hR hdg
    | tableswitch dflt lo hi offs =>
      exact sm_table F hK h hR hdg
    | lookupswitch dflt ps =>
      exact sm_lookup F hK h hR hdg
    | new i =>
      have hlk : len = 3 := hlk
      subst hlk
      exact sm_new F hK hKb hRm h hR hdg
    | newarray t =>
      have hlk : len = 2 := hlk
      subst hlk
      exact sm_newarray F hK hKb hRm h hR hdg
    | anewarray i =>
      have hlk : len = 3 := hlk
      subst hlk
      exact sm_anewarray F hK hKb hRm h hR hdg
    | multianewarray i dd =>
      have hlk : len = 4 := hlk
      subst hlk
      exact sm_mnew F hK hKb hRm h hR hdg
    | ireturn =>
      have hlk : len = 1 := hlk
      subst hlk
      obtain ⟨v, ty, rfl, hr, hn, hv, rfl⟩ := h
      exact hretI pc v ty ls H locs cells slots Ls hdg hr hn hv.symm hR
    | lreturn =>
      have hlk : len = 1 := hlk
      subst hlk
      obtain ⟨v, rfl, hr, hv, rfl⟩ := h
      exact hretL pc v ls H locs cells slots Ls hdg hr hv.symm hR
    | return_ =>
      have hlk : len = 1 := hlk
      subst hlk
      obtain ⟨rfl, hr, hv, rfl⟩ := h
      exact hretV pc ls H locs cells slots Ls hdg hr hv.symm hR
    | invokestatic i =>
      have hlk : len = 3 := hlk
      subst hlk
      rcases h with h | h | h
      · exact sm_calls F hK hKb hRm hCC hR hdg h
      · exact sm_acopy F hK hRm hR hdg h
      · exact sm_math F hK hKb hRm hR hdg h
    | invokevirtual i =>
      have hlk : len = 3 := hlk
      subst hlk
      exact sm_callv F hK hKb hRm hCC hR hdg h
    | invokespecial i =>
      have hlk : len = 3 := hlk
      subst hlk
      rcases h with h | h
      · exact sm_callp F hK hKb hRm hCC hR hdg h
      · exact sm_objInit F hK hRm hR hdg h
    | _ => exact absurd h id
end SIM6
theorem pm_sl_len {base b : Nat} {sa : Nat → Nat} : ∀ as : List Value, (lg_sl (as.map (pm_v base b sa))).length = (pm_sl as).length
  | [] => rfl
  | v :: r => by
    have ih := pm_sl_len (base := base) (b := b) (sa := sa) r
    have e : lg_sl ((v :: r).map (pm_v base b sa)) = (if (pm_v base b sa v).category = 2 then [Slot.val (pm_v base b sa v), Slot.second] else [Slot.val (pm_v base b sa v)]) ++ lg_sl (r.map (pm_v base b sa)) := by simp [lg_sl, List.flatMap_cons]
    rw [e, List.length_append, ih]
    cases v <;> simp [pm_v, pm_sl, Value.category] <;> omega
theorem pm_sl_in {base b : Nat} {sa : Nat → Nat} : ∀ (as : List Value) (o i : Nat) (v : Value), (pm_sl as)[i]? = some (some v) → (o + i, pm_v base b sa v) ∈ lv_args o (as.map (pm_v base b sa))
  | [], o, i, v, h => by simp [pm_sl] at h
  | w :: r, o, i, v, h => by
    have ih := pm_sl_in (base := base) (b := b) (sa := sa) r
    cases w with
    | long x =>
      match i, h with
      | 0, h => cases h; simp [lv_args, pm_v]
      | 1, h => simp [pm_sl] at h
      | i + 2, h =>
        have h2 := ih (o + 2) i v (by simpa [pm_sl] using h)
        rw [show o + (i + 2) = o + 2 + i by omega]
        exact List.mem_cons_of_mem _ h2
    | double x =>
      match i, h with
      | 0, h => cases h; simp [lv_args, pm_v]
      | 1, h => simp [pm_sl] at h
      | i + 2, h =>
        have h2 := ih (o + 2) i v (by simpa [pm_sl] using h)
        rw [show o + (i + 2) = o + 2 + i by omega]
        exact List.mem_cons_of_mem _ h2
    | _ =>
      match i, h with
      | 0, h => cases h; simp [lv_args, pm_v]
      | i + 1, h =>
        have h2 := ih (o + 1) i v (by simpa [pm_sl] using h)
        rw [show o + (i + 1) = o + 1 + i by omega]
        exact List.mem_cons_of_mem _ h2
theorem pm_en_lh {base b : Nat} {sa : Nat → Nat} {as : List Value} {n : Nat} {Ls : Array Slot} (h : lv_has Ls n (lv_args 0 (as.map (pm_v base b sa)))) : pm_lh base b sa Ls n (pm_en as n) := by
  refine ⟨h.1, h.2.1, fun i v hi => ?_⟩
  unfold pm_en at hi
  rw [List.getElem?_append] at hi
  split at hi
  · have h2 := pm_sl_in (base := base) (b := b) (sa := sa) as 0 i v hi
    rw [Nat.zero_add] at h2
    exact h.2.2 _ h2
  · rw [List.getElem?_replicate] at hi
    split at hi <;> cases hi
/-- isWord, taken by what it does: owed -/
def pm_BI (l : Launch) (D : va_G) (cy : Nat → ClassId) (base b : Nat) (sa sv : Nat → Nat) : Prop := ∀ (d M : Nat) (as : List Value) (mem : pm_M) (v : Option Value) (mem' : pm_M), 7 ≤ d → pm_bi M as mem v mem' → pm_mt l D cy base b sa sv (d + 1) M as mem v mem'
set_option maxHeartbeats 4000000 in
theorem pm_sim {l : Launch} {D : va_G} {cy : Nat → ClassId} {base b : Nat} {sa sv : Nat → Nat} {g : Nat → Prop} (hBI : pm_BI l D cy base b sa sv) : ∀ (d M : Nat) (as : List Value) (mem : pm_M) (v : Option Value) (mem' : pm_M), pm_ev g d M as mem v mem' → pm_P g mem mem' ∧ pm_mt l D cy base b sa sv d M as mem v mem' := by
  intro d
  induction d with
  | zero => intro M as mem v mem' h; exact h.elim
  | succ d ih =>
    intro M as mem v mem' h
    have hPP := pm_ev_pres (d + 1) M as mem v mem' h
    refine ⟨hPP, ?_⟩
    rcases h with ⟨hd, h⟩ | ⟨q, hq, hlen, f, h⟩
    · exact hBI d M as mem v mem' hd h
    · intro q' hq' hpl
      cases hq.symm.trans hq'
      have hqm : q ∈ pm_all := List.mem_of_getElem? hq
      obtain ⟨hcode, hdec, hcn, hini⟩ := k_all_ok q hqm
      refine Met.ofW (cc := q.2.2.1) (maxL := q.2.2.2.1) (ret := q.2.2.2.2.1) hpl rfl ?_
      intro p e s m args below meth c s₁ B hml hv
      obtain ⟨rfl, hG, hKs, hsz⟩ := hv
      have hx := B.exec
      have hb := B.bytes
      have hr := B.returns
      have hts0 := atoms_spec (ws := pm_wsM q) B.pre
      have hts : ∀ w ∈ pm_tbl, w.before (as.map (pm_v base b sa)).toArray s = true := fun w hw => hts0 w (List.mem_cons_of_mem _ hw)
      have hown : s.vm.findClass (k_cn q.2.1) = some m.cls := by rw [← hcn]; exact findClass_of_methodNamed B.named
      have hlocks := B.notSynchronized
      have hnm : meth.name = q.1.name := (name_of_methodNamed B.named B.method).1
      have hl := lv_entry (as.map (pm_v base b sa)) (n := q.2.2.2.1) (by rw [pm_sl_len]; exact hlen)
      rw [lg_entry_eq]
      generalize (lg_sl (as.map (pm_v base b sa)) ++ List.replicate (q.2.2.2.1 - (lg_sl (as.map (pm_v base b sa))).length) Slot.unset).toArray = Ls at hl ⊢
      have F : pm_fix q D cy sa p s m (as.map (pm_v base b sa)).toArray meth c := ⟨hx, hb, hml, hown, hts, hnm, hKs⟩
      have hwide : ∀ {H : Heap} {locs : List Loc} {cells slots : Nat} {Ls : Array Slot} {ls : pm_L}, pm_Rel D cy base b sa sv s mem.1.2.1 q.2.2.2.1 H locs cells slots Ls ls mem' → cells ≤ mem'.1.1 - mem.1.1 ∧ slots ≤ mem'.1.2.1 - mem.1.2.1 := by
        intro H locs cells slots Ls ls hR
        have h1 := hR.2.2.1.2
        have h2 := hR.2.2.2.1
        omega
      refine pm_simW (g := g) (C := pm_ev g d) (q := q) (v0 := v) (m0 := mem') (z0 := mem.1.2.1) (d := d) F hdec ⟨Nat.le_refl _, by show 1000 * d + 1000 ≤ 1000 * (d + 1); omega, by show base + mem'.1.1 ≤ s.heap.size + (mem'.1.1 - mem.1.1); have := hPP.1; omega, by show mem'.1.2.1 ≤ mem.1.2.1 + (mem'.1.2.1 - mem.1.2.1); omega⟩ ih ?_ ?_ ?_ f 0 (pm_en as q.2.2.2.1) [] mem s.heap [] 0 0 Ls h ⟨hG, va_S.rf, ⟨by omega, by omega⟩, rfl, pm_en_lh hl⟩
      · intro pc v1 ty ls H locs cells slots Ls hdg hty hn hv hR
        have hw := hwide hR
        refine W.widen hw.1 hw.2 ?_
        subst hv
        exact W.zret hx hb (hr.trans hty) hn (fun t ht hW => ⟨rfl, by rw [ht]; exact hR.1.moved hW.alike, hR.2.1.F ht⟩) hR.2.1.2.2 hdg
      · intro pc v1 ls H locs cells slots Ls hdg hty hv hR
        have hw := hwide hR
        refine W.widen hw.1 hw.2 ?_
        subst hv
        exact W.lret hx hb (hr.trans hty) (fun t ht hW => ⟨rfl, by rw [ht]; exact hR.1.moved hW.alike, hR.2.1.F ht⟩) hR.2.1.2.2 hdg
      · intro pc ls H locs cells slots Ls hdg hty hv hR
        have hw := hwide hR
        refine W.widen hw.1 hw.2 ?_
        subst hv
        exact W.vret hx hb (hr.trans hty) (fun t ht hW => ⟨rfl, by rw [ht]; exact hR.1.moved hW.alike, hR.2.1.F ht⟩) hR.2.1.2.2 hdg

