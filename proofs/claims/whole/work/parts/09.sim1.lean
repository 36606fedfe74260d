/-! ===== the small machine's instructions are the machine's: locals, stack, arithmetic, branches ===== -/
section LOC
variable {base b : Nat} {sa : Nat → Nat}
variable (base b sa) in
def pm_lh (Ls : Array Slot) (nL : Nat) (ls : pm_L) : Prop := Ls.size = nL ∧ lv_wf Ls ∧ ∀ (i : Nat) (v : Value), ls[i]? = some (some v) → Ls[i]? = some (.val (pm_v base b sa v))
variable (base b sa) in
def pm_al (ls : pm_L) : List (Nat × Value) := (List.range ls.length).filterMap fun i => match ls[i]? with
  | some (some v) => some (i, pm_v base b sa v)
  | _ => none
theorem pm_al_in {ls : pm_L} {i : Nat} {v : Value} (h : ls[i]? = some (some v)) : (i, pm_v base b sa v) ∈ pm_al base b sa ls := by
  refine List.mem_filterMap.mpr ⟨i, List.mem_range.mpr (List.getElem?_eq_some_iff.mp h).1, ?_⟩
  simp only [h]
theorem pm_al_out {ls : pm_L} {q : Nat × Value} (h : q ∈ pm_al base b sa ls) : ∃ v, ls[q.1]? = some (some v) ∧ q.2 = pm_v base b sa v := by
  obtain ⟨i, -, hi⟩ := List.mem_filterMap.mp h
  split at hi
  · rename_i v hv
    cases hi
    exact ⟨v, hv, rfl⟩
  · cases hi
theorem pm_lh.has {Ls : Array Slot} {nL : Nat} {ls : pm_L} (h : pm_lh base b sa Ls nL ls) : lv_has Ls nL (pm_al base b sa ls) := by
  refine ⟨h.1, h.2.1, fun q hq => ?_⟩
  obtain ⟨v, h1, h2⟩ := pm_al_out hq
  rw [h2]
  exact h.2.2 _ _ h1
theorem pm_ok1_cat {ls : pm_L} {i j : Nat} {w : Value} (h : pm_ok1 ls i = true) (hj : j + 1 = i) (hw : ls[j]? = some (some w)) : w.category = 1 := by
  subst hj
  cases w <;> first | rfl | (simp [pm_ok1, hw] at h)
theorem pm_lh.st1 {Ls' : Array Slot} {nL i : Nat} {ls : pm_L} {v : Value} (hok : pm_ok1 ls i = true) (h : lv_has Ls' nL ((i, pm_v base b sa v) :: (pm_al base b sa ls).filter (fun q => !(q.1 == i) && !(q.1 + 1 == i && q.2.category == 2)))) : pm_lh base b sa Ls' nL (ls.set i (some v)) := by
  refine ⟨h.1, h.2.1, fun j w hj => ?_⟩
  by_cases hij : j = i
  · subst hij
    have hl : j < (ls.set j (some v)).length := (List.getElem?_eq_some_iff.mp hj).1
    rw [List.length_set] at hl
    rw [List.getElem?_set_self hl] at hj
    cases hj
    exact h.2.2 (j, _) List.mem_cons_self
  · rw [List.getElem?_set_ne (fun q => hij q.symm)] at hj
    refine h.2.2 (j, _) (List.mem_cons_of_mem _ (List.mem_filter.mpr ⟨pm_al_in hj, ?_⟩))
    have hc : ¬ (j + 1 = i ∧ (pm_v base b sa w).category = 2) := fun q => by
      have := pm_ok1_cat hok q.1 hj
      rw [pm_v_cat] at q
      omega
    simp only [Bool.and_eq_true, Bool.not_eq_true', beq_eq_false_iff_ne, ne_eq, Bool.and_eq_false_iff]
    refine ⟨hij, ?_⟩
    by_cases h1 : j + 1 = i
    · exact Or.inr (fun q => hc ⟨h1, q⟩)
    · exact Or.inl h1
theorem pm_lh.st2 {Ls' : Array Slot} {nL i : Nat} {ls : pm_L} {v : Value} (hok : pm_ok1 ls i = true) (h : lv_has Ls' nL ((i, pm_v base b sa v) :: (pm_al base b sa ls).filter (fun q => !(q.1 == i) && (!(q.1 == i + 1) && !(q.1 + 1 == i && q.2.category == 2))))) : pm_lh base b sa Ls' nL ((ls.set i (some v)).set (i + 1) none) := by
  refine ⟨h.1, h.2.1, fun j w hj => ?_⟩
  by_cases hi1 : j = i + 1
  · subst hi1
    have hl : i + 1 < ((ls.set i (some v)).set (i + 1) none).length := (List.getElem?_eq_some_iff.mp hj).1
    rw [List.length_set] at hl
    rw [List.getElem?_set_self hl] at hj
    cases hj
  · rw [List.getElem?_set_ne (fun q => hi1 q.symm)] at hj
    by_cases hij : j = i
    · subst hij
      have hl : j < (ls.set j (some v)).length := (List.getElem?_eq_some_iff.mp hj).1
      rw [List.length_set] at hl
      rw [List.getElem?_set_self hl] at hj
      cases hj
      exact h.2.2 (j, _) List.mem_cons_self
    · rw [List.getElem?_set_ne (fun q => hij q.symm)] at hj
      refine h.2.2 (j, _) (List.mem_cons_of_mem _ (List.mem_filter.mpr ⟨pm_al_in hj, ?_⟩))
      have hc : ¬ (j + 1 = i ∧ (pm_v base b sa w).category = 2) := fun q => by
        have := pm_ok1_cat hok q.1 hj
        rw [pm_v_cat] at q
        omega
      simp only [Bool.and_eq_true, Bool.not_eq_true', beq_eq_false_iff_ne, ne_eq, Bool.and_eq_false_iff]
      refine ⟨hij, hi1, ?_⟩
      by_cases h1 : j + 1 = i
      · exact Or.inr (fun q => hc ⟨h1, q⟩)
      · exact Or.inl h1
end LOC
def pm_lens : List Nat := [4, 5, 2, 4, 4]
def pm_byts : List (List Int32) := [pm_wd 0, pm_wd 1, pm_wd 2, pm_wd 3, pm_wd 4]
def pm_SX (base : Nat) (U : State) (H : Heap) : Prop := va_Z "java/lang/String" "COMPACT_STRINGS" "Z" (.int 1) (pm_A base) U H ∧ va_Zq "jdk/internal/util/Preconditions" "SIOOBE_FORMATTER" "Ljava/util/function/BiFunction;" (pm_A base) U H
theorem pm_SX.moved {base : Nat} {u U : State} {H : Heap} (hvm : u.vm.Alike U.vm) (h : pm_SX base u H) : pm_SX base U H := ⟨h.1.moved hvm, h.2.moved hvm⟩
theorem pm_SX.kept {base : Nat} {U : State} {H H1 : Heap} (h : pm_SX base U H) (hq : ∀ a : Nat, a < H.size → ¬ pm_A base a → H1[a]? = H[a]?) : pm_SX base U H1 := ⟨h.1.kept hq, h.2.kept hq⟩
def pm_GH (D : va_G) (cy : Nat → ClassId) (base b : Nat) (sa sv : Nat → Nat) (U : State) (H : Heap) (mem : pm_M) : Prop :=
  mem.1.1 < 999999 ∧ va_P D k_cl (pm_ws base b sa cy mem) H ∧ va_X b (mem.1.2.2 0).2 (mem.2.1 0) U H ∧ (vk_S 5 pm_lens pm_byts sa sv (pm_A base) U H ∧ pm_SX base U H) ∧ b < base
def k_cst : List Jvm.Cond := [.castable "StandUpBook$Tent" "StandUpBook$Vee", .castable "StandUpBook$Box" "StandUpBook$Vee", .castable "StandUpBook$Flap" "StandUpBook$Vee", .castable "StandUpBook$Stage" "StandUpBook$Vee", .castable "StandUpBook$Wheel" "StandUpBook$Vee"]
def pm_AA (U : State) : Prop := (Jvm.Cond.arrayOver (.array .int)).before #[] U = true
/-- what the tables say that isn't among the words -/
def pm_K (D : va_G) (cy : Nat → ClassId) (sa : Nat → Nat) (U : State) : Prop :=
  va_K D k_cl (pm_T cy) U ∧ (∀ w ∈ k_nest, va_Nw w U) ∧ (∀ r ∈ k_sx, vk_R (k_cn r.1) r.2.1 (k_wd.getD r.2.2 "") (sa r.2.2) U) ∧ (∀ t, 23 ≤ t → t ≤ 26 → va_AO (k_an t) U) ∧ pm_AA U ∧ ∀ w ∈ k_cst, va_Nw w U
def pm_fix (q : pm_D) (D : va_G) (cy : Nat → ClassId) (sa : Nat → Nat) (p : Program) (s : State) (m : MethodId) (args : Array Value) (meth : Method) (c : Code) : Prop :=
  p.tables.exec = Jvm.exec ∧ c.code = q.2.2.1 ∧ c.maxLocals = q.2.2.2.1 ∧ s.vm.findClass (k_cn q.2.1) = some m.cls ∧ (∀ w ∈ pm_tbl, w.before args s = true) ∧ meth.name = q.1.name ∧ pm_K D cy sa s
def pm_Rel (D : va_G) (cy : Nat → ClassId) (base b : Nat) (sa sv : Nat → Nat) (s : State) (z0 nL : Nat) (H : Heap) (locs : List Loc) (cells slots : Nat) (Ls : Array Slot) (ls : pm_L) (mem : pm_M) : Prop :=
  pm_GH D cy base b sa sv s H mem ∧ va_S (pm_A base) s.heap H locs ∧ (base ≤ s.heap.size ∧ base + mem.1.1 = s.heap.size + cells) ∧ z0 + slots = mem.1.2.1 ∧ pm_lh base b sa Ls nL ls
abbrev pm_KW (l : Launch) (D : va_G) (cy : Nat → ClassId) (base b : Nat) (sa sv : Nat → Nat) (p : Program) (e : Env) (R : Room) (s : State) (m : MethodId) (args : Array Value) (below : List Frame) (meth : Method) (c : Code) (Q : State → Prop) (z0 nL : Nat) (K : Nat → pm_L → List Value → pm_M → Prop) : Prop :=
  ∀ (pc : Nat) (ls : pm_L) (st : List Value) (mem : pm_M) (H : Heap) (locs : List Loc) (cells slots : Nat) (Ls : Array Slot), K pc ls st mem → pm_Rel D cy base b sa sv s z0 nL H locs cells slots Ls ls mem → W p l e R s m args below meth c H locs cells slots Q (F0 m pc Ls (st.map (pm_v base b sa)))
section SIM
variable {l : Launch} {D : va_G} {cy : Nat → ClassId} {base b : Nat} {sa sv : Nat → Nat} {p : Program} {e : Env} {R : Room} {s : State} {m : MethodId} {args : Array Value} {below : List Frame} {meth : Method} {c : Code} {Q : State → Prop} {z0 : Nat}
variable {g : Nat → Prop} {C : Nat → List Value → pm_M → Option Value → pm_M → Prop} {E : Option Value → pm_M → Prop} {q : pm_D} {K : Nat → pm_L → List Value → pm_M → Prop}
variable {pc : Nat} {ls : pm_L} {st : List Value} {mem : pm_M} {H : Heap} {locs : List Loc} {cells slots : Nat} {Ls : Array Slot}
theorem sm_iconst {i : Int} (F : pm_fix q D cy sa p s m args meth c) (hK : pm_KW l D cy base b sa sv p e R s m args below meth c Q z0 q.2.2.2.1 K) (h : pm_ex g C E q K pc ls st mem (.iconst i)) (hR : pm_Rel D cy base b sa sv s z0 q.2.2.2.1 H locs cells slots Ls ls mem) (hdg : decode q.2.2.1 pc = .ok (.iconst i, 1)) : W p l e R s m args below meth c H locs cells slots Q (F0 m pc Ls (st.map (pm_v base b sa))) := by
  obtain ⟨hx, hb, hml, hown, hts, hnm, hk⟩ := F
  exact lv_iconst hx hb hdg rfl (hK _ _ _ _ _ _ _ _ _ h hR)
theorem sm_bipush {i : Int} (F : pm_fix q D cy sa p s m args meth c) (hK : pm_KW l D cy base b sa sv p e R s m args below meth c Q z0 q.2.2.2.1 K) (h : pm_ex g C E q K pc ls st mem (.bipush i)) (hR : pm_Rel D cy base b sa sv s z0 q.2.2.2.1 H locs cells slots Ls ls mem) (hdg : decode q.2.2.1 pc = .ok (.bipush i, 2)) : W p l e R s m args below meth c H locs cells slots Q (F0 m pc Ls (st.map (pm_v base b sa))) := by
  obtain ⟨hx, hb, hml, hown, hts, hnm, hk⟩ := F
  exact lv_bipush hx hb hdg rfl (hK _ _ _ _ _ _ _ _ _ h hR)
theorem sm_sipush {i : Int} (F : pm_fix q D cy sa p s m args meth c) (hK : pm_KW l D cy base b sa sv p e R s m args below meth c Q z0 q.2.2.2.1 K) (h : pm_ex g C E q K pc ls st mem (.sipush i)) (hR : pm_Rel D cy base b sa sv s z0 q.2.2.2.1 H locs cells slots Ls ls mem) (hdg : decode q.2.2.1 pc = .ok (.sipush i, 3)) : W p l e R s m args below meth c H locs cells slots Q (F0 m pc Ls (st.map (pm_v base b sa))) := by
  obtain ⟨hx, hb, hml, hown, hts, hnm, hk⟩ := F
  exact lv_sipush hx hb hdg rfl (hK _ _ _ _ _ _ _ _ _ h hR)
theorem sm_lconst {i : Fin 2} (F : pm_fix q D cy sa p s m args meth c) (hK : pm_KW l D cy base b sa sv p e R s m args below meth c Q z0 q.2.2.2.1 K) (h : pm_ex g C E q K pc ls st mem (.lconst i)) (hR : pm_Rel D cy base b sa sv s z0 q.2.2.2.1 H locs cells slots Ls ls mem) (hdg : decode q.2.2.1 pc = .ok (.lconst i, 1)) : W p l e R s m args below meth c H locs cells slots Q (F0 m pc Ls (st.map (pm_v base b sa))) := by
  obtain ⟨hx, hb, hml, hown, hts, hnm, hk⟩ := F
  exact lv_lconst hx hb hdg rfl (hK _ _ _ _ _ _ _ _ _ h hR)
theorem sm_ldc {i : Nat} (F : pm_fix q D cy sa p s m args meth c) (hK : pm_KW l D cy base b sa sv p e R s m args below meth c Q z0 q.2.2.2.1 K) (h : pm_ex g C E q K pc ls st mem (.ldc i)) (hR : pm_Rel D cy base b sa sv s z0 q.2.2.2.1 H locs cells slots Ls ls mem) (hdg : decode q.2.2.1 pc = .ok (.ldc i, 2)) : W p l e R s m args below meth c H locs cells slots Q (F0 m pc Ls (st.map (pm_v base b sa))) := by
  obtain ⟨hx, hb, hml, hown, hts, hnm, hk⟩ := F
  rcases h with ⟨v, hc, h⟩ | ⟨k, hc, h⟩
  · exact lv_ldc hx hb hown (hts _ (k_ci_ok _ hc)) hdg (hK _ _ _ _ _ _ _ _ _ h hR)
  · have hZ : vk_R (k_cn q.2.1) i (k_wd.getD k "") (sa k) s := hk.2.2.1 (q.2.1, i, k) hc
    generalize k_wd.getD k "" = tx at hZ
    generalize k_cn q.2.1 = own at hown hZ
    refine va_ldcS hx hb hown hZ hdg ?_
    have h2 := hK _ _ _ _ _ _ _ _ _ h hR
    simp only [List.map_cons, pm_v_ref] at h2
    rw [show pm_ad base b sa (1000000 + k) = sa k by unfold pm_ad; rw [if_neg (by omega), if_neg (by omega)]; rw [Nat.add_sub_cancel_left]] at h2
    exact h2
theorem sm_ldc_w {i : Nat} (F : pm_fix q D cy sa p s m args meth c) (hK : pm_KW l D cy base b sa sv p e R s m args below meth c Q z0 q.2.2.2.1 K) (h : pm_ex g C E q K pc ls st mem (.ldc_w i)) (hR : pm_Rel D cy base b sa sv s z0 q.2.2.2.1 H locs cells slots Ls ls mem) (hdg : decode q.2.2.1 pc = .ok (.ldc_w i, 3)) : W p l e R s m args below meth c H locs cells slots Q (F0 m pc Ls (st.map (pm_v base b sa))) := by
  obtain ⟨hx, hb, hml, hown, hts, hnm, hk⟩ := F
  obtain ⟨v, hc, h⟩ := h
  exact lv_ldcw hx hb hown (hts _ (k_ci_ok _ hc)) hdg (hK _ _ _ _ _ _ _ _ _ h hR)
theorem sm_ldc2_w {i : Nat} (F : pm_fix q D cy sa p s m args meth c) (hK : pm_KW l D cy base b sa sv p e R s m args below meth c Q z0 q.2.2.2.1 K) (h : pm_ex g C E q K pc ls st mem (.ldc2_w i)) (hR : pm_Rel D cy base b sa sv s z0 q.2.2.2.1 H locs cells slots Ls ls mem) (hdg : decode q.2.2.1 pc = .ok (.ldc2_w i, 3)) : W p l e R s m args below meth c H locs cells slots Q (F0 m pc Ls (st.map (pm_v base b sa))) := by
  obtain ⟨hx, hb, hml, hown, hts, hnm, hk⟩ := F
  obtain ⟨v, hc, h⟩ := h
  exact lv_ldc2 hx hb hown (hts _ (k_c2_ok _ hc)) hdg (hK _ _ _ _ _ _ _ _ _ h hR)
theorem sm_iload_n {i : Fin 4} (F : pm_fix q D cy sa p s m args meth c) (hK : pm_KW l D cy base b sa sv p e R s m args below meth c Q z0 q.2.2.2.1 K) (h : pm_ex g C E q K pc ls st mem (.iload_n i)) (hR : pm_Rel D cy base b sa sv s z0 q.2.2.2.1 H locs cells slots Ls ls mem) (hdg : decode q.2.2.1 pc = .ok (.iload_n i, 1)) : W p l e R s m args below meth c H locs cells slots Q (F0 m pc Ls (st.map (pm_v base b sa))) := by
  obtain ⟨hx, hb, hml, hown, hts, hnm, hk⟩ := F
  obtain ⟨x, hl, h⟩ := h
  exact lv_iload_n hx hb hdg rfl (hR.2.2.2.2.2.2 _ _ hl) (hK _ _ _ _ _ _ _ _ _ h hR)
theorem sm_iload {i : Nat} (F : pm_fix q D cy sa p s m args meth c) (hK : pm_KW l D cy base b sa sv p e R s m args below meth c Q z0 q.2.2.2.1 K) (h : pm_ex g C E q K pc ls st mem (.iload i)) (hR : pm_Rel D cy base b sa sv s z0 q.2.2.2.1 H locs cells slots Ls ls mem) (hdg : decode q.2.2.1 pc = .ok (.iload i, 2)) : W p l e R s m args below meth c H locs cells slots Q (F0 m pc Ls (st.map (pm_v base b sa))) := by
  obtain ⟨hx, hb, hml, hown, hts, hnm, hk⟩ := F
  obtain ⟨x, hl, h⟩ := h
  exact lv_iload hx hb hdg (hR.2.2.2.2.2.2 _ _ hl) (hK _ _ _ _ _ _ _ _ _ h hR)
theorem sm_istore_n {i : Fin 4} (F : pm_fix q D cy sa p s m args meth c) (hK : pm_KW l D cy base b sa sv p e R s m args below meth c Q z0 q.2.2.2.1 K) (h : pm_ex g C E q K pc ls st mem (.istore_n i)) (hR : pm_Rel D cy base b sa sv s z0 q.2.2.2.1 H locs cells slots Ls ls mem) (hdg : decode q.2.2.1 pc = .ok (.istore_n i, 1)) : W p l e R s m args below meth c H locs cells slots Q (F0 m pc Ls (st.map (pm_v base b sa))) := by
  obtain ⟨hx, hb, hml, hown, hts, hnm, hk⟩ := F
  obtain ⟨x, r, rfl, ho, hn, h⟩ := h
  refine lv_istore_n hx hb hdg rfl hR.2.2.2.2.has hn rfl (fun ls2 hl2 => ?_)
  exact hK _ _ _ _ _ _ _ _ _ h ⟨hR.1, hR.2.1, hR.2.2.1, hR.2.2.2.1, pm_lh.st1 ho hl2⟩
theorem sm_istore {i : Nat} (F : pm_fix q D cy sa p s m args meth c) (hK : pm_KW l D cy base b sa sv p e R s m args below meth c Q z0 q.2.2.2.1 K) (h : pm_ex g C E q K pc ls st mem (.istore i)) (hR : pm_Rel D cy base b sa sv s z0 q.2.2.2.1 H locs cells slots Ls ls mem) (hdg : decode q.2.2.1 pc = .ok (.istore i, 2)) : W p l e R s m args below meth c H locs cells slots Q (F0 m pc Ls (st.map (pm_v base b sa))) := by
  obtain ⟨hx, hb, hml, hown, hts, hnm, hk⟩ := F
  obtain ⟨x, r, rfl, ho, hn, h⟩ := h
  refine lv_istore hx hb hdg hR.2.2.2.2.has hn rfl (fun ls2 hl2 => ?_)
  exact hK _ _ _ _ _ _ _ _ _ h ⟨hR.1, hR.2.1, hR.2.2.1, hR.2.2.2.1, pm_lh.st1 ho hl2⟩
theorem sm_lload_n {i : Fin 4} (F : pm_fix q D cy sa p s m args meth c) (hK : pm_KW l D cy base b sa sv p e R s m args below meth c Q z0 q.2.2.2.1 K) (h : pm_ex g C E q K pc ls st mem (.lload_n i)) (hR : pm_Rel D cy base b sa sv s z0 q.2.2.2.1 H locs cells slots Ls ls mem) (hdg : decode q.2.2.1 pc = .ok (.lload_n i, 1)) : W p l e R s m args below meth c H locs cells slots Q (F0 m pc Ls (st.map (pm_v base b sa))) := by
  obtain ⟨hx, hb, hml, hown, hts, hnm, hk⟩ := F
  obtain ⟨x, hl, h⟩ := h
  exact lv_lload_n hx hb hdg rfl (hR.2.2.2.2.2.2 _ _ hl) (hK _ _ _ _ _ _ _ _ _ h hR)
theorem sm_lload {i : Nat} (F : pm_fix q D cy sa p s m args meth c) (hK : pm_KW l D cy base b sa sv p e R s m args below meth c Q z0 q.2.2.2.1 K) (h : pm_ex g C E q K pc ls st mem (.lload i)) (hR : pm_Rel D cy base b sa sv s z0 q.2.2.2.1 H locs cells slots Ls ls mem) (hdg : decode q.2.2.1 pc = .ok (.lload i, 2)) : W p l e R s m args below meth c H locs cells slots Q (F0 m pc Ls (st.map (pm_v base b sa))) := by
  obtain ⟨hx, hb, hml, hown, hts, hnm, hk⟩ := F
  obtain ⟨x, hl, h⟩ := h
  exact lv_lload hx hb hdg (hR.2.2.2.2.2.2 _ _ hl) (hK _ _ _ _ _ _ _ _ _ h hR)
theorem sm_lstore_n {i : Fin 4} (F : pm_fix q D cy sa p s m args meth c) (hK : pm_KW l D cy base b sa sv p e R s m args below meth c Q z0 q.2.2.2.1 K) (h : pm_ex g C E q K pc ls st mem (.lstore_n i)) (hR : pm_Rel D cy base b sa sv s z0 q.2.2.2.1 H locs cells slots Ls ls mem) (hdg : decode q.2.2.1 pc = .ok (.lstore_n i, 1)) : W p l e R s m args below meth c H locs cells slots Q (F0 m pc Ls (st.map (pm_v base b sa))) := by
  obtain ⟨hx, hb, hml, hown, hts, hnm, hk⟩ := F
  obtain ⟨x, r, rfl, ho, hn, h⟩ := h
  refine lv_lstore_n hx hb hdg rfl hR.2.2.2.2.has hn rfl (fun ls2 hl2 => ?_)
  exact hK _ _ _ _ _ _ _ _ _ h ⟨hR.1, hR.2.1, hR.2.2.1, hR.2.2.2.1, pm_lh.st2 ho hl2⟩
theorem sm_lstore {i : Nat} (F : pm_fix q D cy sa p s m args meth c) (hK : pm_KW l D cy base b sa sv p e R s m args below meth c Q z0 q.2.2.2.1 K) (h : pm_ex g C E q K pc ls st mem (.lstore i)) (hR : pm_Rel D cy base b sa sv s z0 q.2.2.2.1 H locs cells slots Ls ls mem) (hdg : decode q.2.2.1 pc = .ok (.lstore i, 2)) : W p l e R s m args below meth c H locs cells slots Q (F0 m pc Ls (st.map (pm_v base b sa))) := by
  obtain ⟨hx, hb, hml, hown, hts, hnm, hk⟩ := F
  obtain ⟨x, r, rfl, ho, hn, h⟩ := h
  refine lv_lstore hx hb hdg hR.2.2.2.2.has hn rfl (fun ls2 hl2 => ?_)
  exact hK _ _ _ _ _ _ _ _ _ h ⟨hR.1, hR.2.1, hR.2.2.1, hR.2.2.2.1, pm_lh.st2 ho hl2⟩
theorem sm_aload_n {i : Fin 4} (F : pm_fix q D cy sa p s m args meth c) (hK : pm_KW l D cy base b sa sv p e R s m args below meth c Q z0 q.2.2.2.1 K) (h : pm_ex g C E q K pc ls st mem (.aload_n i)) (hR : pm_Rel D cy base b sa sv s z0 q.2.2.2.1 H locs cells slots Ls ls mem) (hdg : decode q.2.2.1 pc = .ok (.aload_n i, 1)) : W p l e R s m args below meth c H locs cells slots Q (F0 m pc Ls (st.map (pm_v base b sa))) := by
  obtain ⟨hx, hb, hml, hown, hts, hnm, hk⟩ := F
  obtain ⟨x, hl, h⟩ := h
  exact lv_aload_n hx hb hdg rfl (hR.2.2.2.2.2.2 _ _ hl) (hK _ _ _ _ _ _ _ _ _ h hR)
theorem sm_aload {i : Nat} (F : pm_fix q D cy sa p s m args meth c) (hK : pm_KW l D cy base b sa sv p e R s m args below meth c Q z0 q.2.2.2.1 K) (h : pm_ex g C E q K pc ls st mem (.aload i)) (hR : pm_Rel D cy base b sa sv s z0 q.2.2.2.1 H locs cells slots Ls ls mem) (hdg : decode q.2.2.1 pc = .ok (.aload i, 2)) : W p l e R s m args below meth c H locs cells slots Q (F0 m pc Ls (st.map (pm_v base b sa))) := by
  obtain ⟨hx, hb, hml, hown, hts, hnm, hk⟩ := F
  obtain ⟨x, hl, h⟩ := h
  exact lv_aload hx hb hdg (hR.2.2.2.2.2.2 _ _ hl) (hK _ _ _ _ _ _ _ _ _ h hR)
theorem sm_astore_n {i : Fin 4} (F : pm_fix q D cy sa p s m args meth c) (hK : pm_KW l D cy base b sa sv p e R s m args below meth c Q z0 q.2.2.2.1 K) (h : pm_ex g C E q K pc ls st mem (.astore_n i)) (hR : pm_Rel D cy base b sa sv s z0 q.2.2.2.1 H locs cells slots Ls ls mem) (hdg : decode q.2.2.1 pc = .ok (.astore_n i, 1)) : W p l e R s m args below meth c H locs cells slots Q (F0 m pc Ls (st.map (pm_v base b sa))) := by
  obtain ⟨hx, hb, hml, hown, hts, hnm, hk⟩ := F
  obtain ⟨x, r, rfl, ho, hn, h⟩ := h
  refine lv_astore_n hx hb hdg rfl hR.2.2.2.2.has hn rfl (fun ls2 hl2 => ?_)
  exact hK _ _ _ _ _ _ _ _ _ h ⟨hR.1, hR.2.1, hR.2.2.1, hR.2.2.2.1, pm_lh.st1 ho hl2⟩
theorem sm_astore {i : Nat} (F : pm_fix q D cy sa p s m args meth c) (hK : pm_KW l D cy base b sa sv p e R s m args below meth c Q z0 q.2.2.2.1 K) (h : pm_ex g C E q K pc ls st mem (.astore i)) (hR : pm_Rel D cy base b sa sv s z0 q.2.2.2.1 H locs cells slots Ls ls mem) (hdg : decode q.2.2.1 pc = .ok (.astore i, 2)) : W p l e R s m args below meth c H locs cells slots Q (F0 m pc Ls (st.map (pm_v base b sa))) := by
  obtain ⟨hx, hb, hml, hown, hts, hnm, hk⟩ := F
  obtain ⟨x, r, rfl, ho, hn, h⟩ := h
  refine lv_astore hx hb hdg hR.2.2.2.2.has hn rfl (fun ls2 hl2 => ?_)
  exact hK _ _ _ _ _ _ _ _ _ h ⟨hR.1, hR.2.1, hR.2.2.1, hR.2.2.2.1, pm_lh.st1 ho hl2⟩
theorem sm_iinc {i : Nat} {k : Int} (F : pm_fix q D cy sa p s m args meth c) (hK : pm_KW l D cy base b sa sv p e R s m args below meth c Q z0 q.2.2.2.1 K) (h : pm_ex g C E q K pc ls st mem (.iinc i k)) (hR : pm_Rel D cy base b sa sv s z0 q.2.2.2.1 H locs cells slots Ls ls mem) (hdg : decode q.2.2.1 pc = .ok (.iinc i k, 3)) : W p l e R s m args below meth c H locs cells slots Q (F0 m pc Ls (st.map (pm_v base b sa))) := by
  obtain ⟨hx, hb, hml, hown, hts, hnm, hk⟩ := F
  obtain ⟨x, hl, ho, hn, h⟩ := h
  obtain ⟨j, hj⟩ := List.getElem?_of_mem (pm_al_in (base := base) (b := b) (sa := sa) hl)
  refine lv_iinc hx hb hdg hR.2.2.2.2.has hj rfl hn rfl (fun ls2 hl2 => ?_)
  exact hK _ _ _ _ _ _ _ _ _ h ⟨hR.1, hR.2.1, hR.2.2.1, hR.2.2.2.1, pm_lh.st1 (v := .int (x + Int32.ofInt k)) ho hl2⟩
theorem sm_iadd  (F : pm_fix q D cy sa p s m args meth c) (hK : pm_KW l D cy base b sa sv p e R s m args below meth c Q z0 q.2.2.2.1 K) (h : pm_ex g C E q K pc ls st mem (.iadd)) (hR : pm_Rel D cy base b sa sv s z0 q.2.2.2.1 H locs cells slots Ls ls mem) (hdg : decode q.2.2.1 pc = .ok (.iadd, 1)) : W p l e R s m args below meth c H locs cells slots Q (F0 m pc Ls (st.map (pm_v base b sa))) := by
  obtain ⟨hx, hb, hml, hown, hts, hnm, hk⟩ := F
  obtain ⟨x, y, r, rfl, h⟩ := h
  exact lv_iadd hx hb hdg (hK _ _ _ _ _ _ _ _ _ h hR)
theorem sm_isub  (F : pm_fix q D cy sa p s m args meth c) (hK : pm_KW l D cy base b sa sv p e R s m args below meth c Q z0 q.2.2.2.1 K) (h : pm_ex g C E q K pc ls st mem (.isub)) (hR : pm_Rel D cy base b sa sv s z0 q.2.2.2.1 H locs cells slots Ls ls mem) (hdg : decode q.2.2.1 pc = .ok (.isub, 1)) : W p l e R s m args below meth c H locs cells slots Q (F0 m pc Ls (st.map (pm_v base b sa))) := by
  obtain ⟨hx, hb, hml, hown, hts, hnm, hk⟩ := F
  obtain ⟨x, y, r, rfl, h⟩ := h
  exact lv_isub hx hb hdg (hK _ _ _ _ _ _ _ _ _ h hR)
theorem sm_imul  (F : pm_fix q D cy sa p s m args meth c) (hK : pm_KW l D cy base b sa sv p e R s m args below meth c Q z0 q.2.2.2.1 K) (h : pm_ex g C E q K pc ls st mem (.imul)) (hR : pm_Rel D cy base b sa sv s z0 q.2.2.2.1 H locs cells slots Ls ls mem) (hdg : decode q.2.2.1 pc = .ok (.imul, 1)) : W p l e R s m args below meth c H locs cells slots Q (F0 m pc Ls (st.map (pm_v base b sa))) := by
  obtain ⟨hx, hb, hml, hown, hts, hnm, hk⟩ := F
  obtain ⟨x, y, r, rfl, h⟩ := h
  exact lv_imul hx hb hdg (hK _ _ _ _ _ _ _ _ _ h hR)
theorem sm_iand  (F : pm_fix q D cy sa p s m args meth c) (hK : pm_KW l D cy base b sa sv p e R s m args below meth c Q z0 q.2.2.2.1 K) (h : pm_ex g C E q K pc ls st mem (.iand)) (hR : pm_Rel D cy base b sa sv s z0 q.2.2.2.1 H locs cells slots Ls ls mem) (hdg : decode q.2.2.1 pc = .ok (.iand, 1)) : W p l e R s m args below meth c H locs cells slots Q (F0 m pc Ls (st.map (pm_v base b sa))) := by
  obtain ⟨hx, hb, hml, hown, hts, hnm, hk⟩ := F
  obtain ⟨x, y, r, rfl, h⟩ := h
  exact lv_iand hx hb hdg (hK _ _ _ _ _ _ _ _ _ h hR)
theorem sm_ior  (F : pm_fix q D cy sa p s m args meth c) (hK : pm_KW l D cy base b sa sv p e R s m args below meth c Q z0 q.2.2.2.1 K) (h : pm_ex g C E q K pc ls st mem (.ior)) (hR : pm_Rel D cy base b sa sv s z0 q.2.2.2.1 H locs cells slots Ls ls mem) (hdg : decode q.2.2.1 pc = .ok (.ior, 1)) : W p l e R s m args below meth c H locs cells slots Q (F0 m pc Ls (st.map (pm_v base b sa))) := by
  obtain ⟨hx, hb, hml, hown, hts, hnm, hk⟩ := F
  obtain ⟨x, y, r, rfl, h⟩ := h
  exact lv_ior hx hb hdg (hK _ _ _ _ _ _ _ _ _ h hR)
theorem sm_ixor  (F : pm_fix q D cy sa p s m args meth c) (hK : pm_KW l D cy base b sa sv p e R s m args below meth c Q z0 q.2.2.2.1 K) (h : pm_ex g C E q K pc ls st mem (.ixor)) (hR : pm_Rel D cy base b sa sv s z0 q.2.2.2.1 H locs cells slots Ls ls mem) (hdg : decode q.2.2.1 pc = .ok (.ixor, 1)) : W p l e R s m args below meth c H locs cells slots Q (F0 m pc Ls (st.map (pm_v base b sa))) := by
  obtain ⟨hx, hb, hml, hown, hts, hnm, hk⟩ := F
  obtain ⟨x, y, r, rfl, h⟩ := h
  exact lv_ixor hx hb hdg (hK _ _ _ _ _ _ _ _ _ h hR)
theorem sm_ishl  (F : pm_fix q D cy sa p s m args meth c) (hK : pm_KW l D cy base b sa sv p e R s m args below meth c Q z0 q.2.2.2.1 K) (h : pm_ex g C E q K pc ls st mem (.ishl)) (hR : pm_Rel D cy base b sa sv s z0 q.2.2.2.1 H locs cells slots Ls ls mem) (hdg : decode q.2.2.1 pc = .ok (.ishl, 1)) : W p l e R s m args below meth c H locs cells slots Q (F0 m pc Ls (st.map (pm_v base b sa))) := by
  obtain ⟨hx, hb, hml, hown, hts, hnm, hk⟩ := F
  obtain ⟨x, y, r, rfl, h⟩ := h
  exact lv_ishl hx hb hdg (hK _ _ _ _ _ _ _ _ _ h hR)
theorem sm_ishr  (F : pm_fix q D cy sa p s m args meth c) (hK : pm_KW l D cy base b sa sv p e R s m args below meth c Q z0 q.2.2.2.1 K) (h : pm_ex g C E q K pc ls st mem (.ishr)) (hR : pm_Rel D cy base b sa sv s z0 q.2.2.2.1 H locs cells slots Ls ls mem) (hdg : decode q.2.2.1 pc = .ok (.ishr, 1)) : W p l e R s m args below meth c H locs cells slots Q (F0 m pc Ls (st.map (pm_v base b sa))) := by
  obtain ⟨hx, hb, hml, hown, hts, hnm, hk⟩ := F
  obtain ⟨x, y, r, rfl, h⟩ := h
  exact lv_ishr hx hb hdg (hK _ _ _ _ _ _ _ _ _ h hR)
theorem sm_iushr  (F : pm_fix q D cy sa p s m args meth c) (hK : pm_KW l D cy base b sa sv p e R s m args below meth c Q z0 q.2.2.2.1 K) (h : pm_ex g C E q K pc ls st mem (.iushr)) (hR : pm_Rel D cy base b sa sv s z0 q.2.2.2.1 H locs cells slots Ls ls mem) (hdg : decode q.2.2.1 pc = .ok (.iushr, 1)) : W p l e R s m args below meth c H locs cells slots Q (F0 m pc Ls (st.map (pm_v base b sa))) := by
  obtain ⟨hx, hb, hml, hown, hts, hnm, hk⟩ := F
  obtain ⟨x, y, r, rfl, h⟩ := h
  exact lv_iushr hx hb hdg rfl (hK _ _ _ _ _ _ _ _ _ h hR)
theorem sm_ladd  (F : pm_fix q D cy sa p s m args meth c) (hK : pm_KW l D cy base b sa sv p e R s m args below meth c Q z0 q.2.2.2.1 K) (h : pm_ex g C E q K pc ls st mem (.ladd)) (hR : pm_Rel D cy base b sa sv s z0 q.2.2.2.1 H locs cells slots Ls ls mem) (hdg : decode q.2.2.1 pc = .ok (.ladd, 1)) : W p l e R s m args below meth c H locs cells slots Q (F0 m pc Ls (st.map (pm_v base b sa))) := by
  obtain ⟨hx, hb, hml, hown, hts, hnm, hk⟩ := F
  obtain ⟨x, y, r, rfl, h⟩ := h
  exact lv_ladd hx hb hdg (hK _ _ _ _ _ _ _ _ _ h hR)
theorem sm_lmul  (F : pm_fix q D cy sa p s m args meth c) (hK : pm_KW l D cy base b sa sv p e R s m args below meth c Q z0 q.2.2.2.1 K) (h : pm_ex g C E q K pc ls st mem (.lmul)) (hR : pm_Rel D cy base b sa sv s z0 q.2.2.2.1 H locs cells slots Ls ls mem) (hdg : decode q.2.2.1 pc = .ok (.lmul, 1)) : W p l e R s m args below meth c H locs cells slots Q (F0 m pc Ls (st.map (pm_v base b sa))) := by
  obtain ⟨hx, hb, hml, hown, hts, hnm, hk⟩ := F
  obtain ⟨x, y, r, rfl, h⟩ := h
  exact lv_lmul hx hb hdg (hK _ _ _ _ _ _ _ _ _ h hR)
theorem sm_idiv  (F : pm_fix q D cy sa p s m args meth c) (hK : pm_KW l D cy base b sa sv p e R s m args below meth c Q z0 q.2.2.2.1 K) (h : pm_ex g C E q K pc ls st mem (.idiv)) (hR : pm_Rel D cy base b sa sv s z0 q.2.2.2.1 H locs cells slots Ls ls mem) (hdg : decode q.2.2.1 pc = .ok (.idiv, 1)) : W p l e R s m args below meth c H locs cells slots Q (F0 m pc Ls (st.map (pm_v base b sa))) := by
  obtain ⟨hx, hb, hml, hown, hts, hnm, hk⟩ := F
  obtain ⟨x, y, r, rfl, hy, h⟩ := h
  exact lv_idiv hx hb hdg hy (hK _ _ _ _ _ _ _ _ _ h hR)
theorem sm_irem  (F : pm_fix q D cy sa p s m args meth c) (hK : pm_KW l D cy base b sa sv p e R s m args below meth c Q z0 q.2.2.2.1 K) (h : pm_ex g C E q K pc ls st mem (.irem)) (hR : pm_Rel D cy base b sa sv s z0 q.2.2.2.1 H locs cells slots Ls ls mem) (hdg : decode q.2.2.1 pc = .ok (.irem, 1)) : W p l e R s m args below meth c H locs cells slots Q (F0 m pc Ls (st.map (pm_v base b sa))) := by
  obtain ⟨hx, hb, hml, hown, hts, hnm, hk⟩ := F
  obtain ⟨x, y, r, rfl, hy, h⟩ := h
  exact lv_irem hx hb hdg hy (hK _ _ _ _ _ _ _ _ _ h hR)
theorem sm_ldiv  (F : pm_fix q D cy sa p s m args meth c) (hK : pm_KW l D cy base b sa sv p e R s m args below meth c Q z0 q.2.2.2.1 K) (h : pm_ex g C E q K pc ls st mem (.ldiv)) (hR : pm_Rel D cy base b sa sv s z0 q.2.2.2.1 H locs cells slots Ls ls mem) (hdg : decode q.2.2.1 pc = .ok (.ldiv, 1)) : W p l e R s m args below meth c H locs cells slots Q (F0 m pc Ls (st.map (pm_v base b sa))) := by
  obtain ⟨hx, hb, hml, hown, hts, hnm, hk⟩ := F
  obtain ⟨x, y, r, rfl, hy, h⟩ := h
  exact lv_ldiv hx hb hdg hy (hK _ _ _ _ _ _ _ _ _ h hR)
theorem sm_lrem  (F : pm_fix q D cy sa p s m args meth c) (hK : pm_KW l D cy base b sa sv p e R s m args below meth c Q z0 q.2.2.2.1 K) (h : pm_ex g C E q K pc ls st mem (.lrem)) (hR : pm_Rel D cy base b sa sv s z0 q.2.2.2.1 H locs cells slots Ls ls mem) (hdg : decode q.2.2.1 pc = .ok (.lrem, 1)) : W p l e R s m args below meth c H locs cells slots Q (F0 m pc Ls (st.map (pm_v base b sa))) := by
  obtain ⟨hx, hb, hml, hown, hts, hnm, hk⟩ := F
  obtain ⟨x, y, r, rfl, hy, h⟩ := h
  exact lv_lrem hx hb hdg hy (hK _ _ _ _ _ _ _ _ _ h hR)
theorem sm_lcmp  (F : pm_fix q D cy sa p s m args meth c) (hK : pm_KW l D cy base b sa sv p e R s m args below meth c Q z0 q.2.2.2.1 K) (h : pm_ex g C E q K pc ls st mem (.lcmp)) (hR : pm_Rel D cy base b sa sv s z0 q.2.2.2.1 H locs cells slots Ls ls mem) (hdg : decode q.2.2.1 pc = .ok (.lcmp, 1)) : W p l e R s m args below meth c H locs cells slots Q (F0 m pc Ls (st.map (pm_v base b sa))) := by
  obtain ⟨hx, hb, hml, hown, hts, hnm, hk⟩ := F
  obtain ⟨x, y, r, rfl, h⟩ := h
  exact W.lcmp hx hb hdg (hK _ _ _ _ _ _ _ _ _ h hR)
theorem sm_i2l  (F : pm_fix q D cy sa p s m args meth c) (hK : pm_KW l D cy base b sa sv p e R s m args below meth c Q z0 q.2.2.2.1 K) (h : pm_ex g C E q K pc ls st mem (.i2l)) (hR : pm_Rel D cy base b sa sv s z0 q.2.2.2.1 H locs cells slots Ls ls mem) (hdg : decode q.2.2.1 pc = .ok (.i2l, 1)) : W p l e R s m args below meth c H locs cells slots Q (F0 m pc Ls (st.map (pm_v base b sa))) := by
  obtain ⟨hx, hb, hml, hown, hts, hnm, hk⟩ := F
  obtain ⟨x, r, rfl, h⟩ := h
  exact lv_i2l hx hb hdg rfl (hK _ _ _ _ _ _ _ _ _ h hR)
theorem sm_l2i  (F : pm_fix q D cy sa p s m args meth c) (hK : pm_KW l D cy base b sa sv p e R s m args below meth c Q z0 q.2.2.2.1 K) (h : pm_ex g C E q K pc ls st mem (.l2i)) (hR : pm_Rel D cy base b sa sv s z0 q.2.2.2.1 H locs cells slots Ls ls mem) (hdg : decode q.2.2.1 pc = .ok (.l2i, 1)) : W p l e R s m args below meth c H locs cells slots Q (F0 m pc Ls (st.map (pm_v base b sa))) := by
  obtain ⟨hx, hb, hml, hown, hts, hnm, hk⟩ := F
  obtain ⟨x, r, rfl, h⟩ := h
  exact lv_l2i hx hb hdg rfl (hK _ _ _ _ _ _ _ _ _ h hR)
theorem sm_i2b  (F : pm_fix q D cy sa p s m args meth c) (hK : pm_KW l D cy base b sa sv p e R s m args below meth c Q z0 q.2.2.2.1 K) (h : pm_ex g C E q K pc ls st mem (.i2b)) (hR : pm_Rel D cy base b sa sv s z0 q.2.2.2.1 H locs cells slots Ls ls mem) (hdg : decode q.2.2.1 pc = .ok (.i2b, 1)) : W p l e R s m args below meth c H locs cells slots Q (F0 m pc Ls (st.map (pm_v base b sa))) := by
  obtain ⟨hx, hb, hml, hown, hts, hnm, hk⟩ := F
  obtain ⟨x, r, rfl, h⟩ := h
  exact lv_i2b hx hb hdg rfl (hK _ _ _ _ _ _ _ _ _ h hR)
theorem sm_ineg  (F : pm_fix q D cy sa p s m args meth c) (hK : pm_KW l D cy base b sa sv p e R s m args below meth c Q z0 q.2.2.2.1 K) (h : pm_ex g C E q K pc ls st mem (.ineg)) (hR : pm_Rel D cy base b sa sv s z0 q.2.2.2.1 H locs cells slots Ls ls mem) (hdg : decode q.2.2.1 pc = .ok (.ineg, 1)) : W p l e R s m args below meth c H locs cells slots Q (F0 m pc Ls (st.map (pm_v base b sa))) := by
  obtain ⟨hx, hb, hml, hown, hts, hnm, hk⟩ := F
  obtain ⟨x, r, rfl, h⟩ := h
  exact lv_ineg hx hb hdg (hK _ _ _ _ _ _ _ _ _ h hR)
theorem sm_dup  (F : pm_fix q D cy sa p s m args meth c) (hK : pm_KW l D cy base b sa sv p e R s m args below meth c Q z0 q.2.2.2.1 K) (h : pm_ex g C E q K pc ls st mem (.dup)) (hR : pm_Rel D cy base b sa sv s z0 q.2.2.2.1 H locs cells slots Ls ls mem) (hdg : decode q.2.2.1 pc = .ok (.dup, 1)) : W p l e R s m args below meth c H locs cells slots Q (F0 m pc Ls (st.map (pm_v base b sa))) := by
  obtain ⟨hx, hb, hml, hown, hts, hnm, hk⟩ := F
  obtain ⟨v, r, rfl, hv, h⟩ := h
  exact lv_dup hx hb hdg ((pm_v_cat v).trans hv) (hK _ _ _ _ _ _ _ _ _ h hR)
theorem sm_dup2  (F : pm_fix q D cy sa p s m args meth c) (hK : pm_KW l D cy base b sa sv p e R s m args below meth c Q z0 q.2.2.2.1 K) (h : pm_ex g C E q K pc ls st mem (.dup2)) (hR : pm_Rel D cy base b sa sv s z0 q.2.2.2.1 H locs cells slots Ls ls mem) (hdg : decode q.2.2.1 pc = .ok (.dup2, 1)) : W p l e R s m args below meth c H locs cells slots Q (F0 m pc Ls (st.map (pm_v base b sa))) := by
  obtain ⟨hx, hb, hml, hown, hts, hnm, hk⟩ := F
  obtain ⟨v, w, r, rfl, hv, hw, h⟩ := h
  exact lv_dup2_11 hx hb hdg ((pm_v_cat v).trans hv) ((pm_v_cat w).trans hw) (hK _ _ _ _ _ _ _ _ _ h hR)
theorem sm_pop  (F : pm_fix q D cy sa p s m args meth c) (hK : pm_KW l D cy base b sa sv p e R s m args below meth c Q z0 q.2.2.2.1 K) (h : pm_ex g C E q K pc ls st mem (.pop)) (hR : pm_Rel D cy base b sa sv s z0 q.2.2.2.1 H locs cells slots Ls ls mem) (hdg : decode q.2.2.1 pc = .ok (.pop, 1)) : W p l e R s m args below meth c H locs cells slots Q (F0 m pc Ls (st.map (pm_v base b sa))) := by
  obtain ⟨hx, hb, hml, hown, hts, hnm, hk⟩ := F
  obtain ⟨v, r, rfl, hv, h⟩ := h
  exact lv_pop hx hb hdg ((pm_v_cat v).trans hv) (hK _ _ _ _ _ _ _ _ _ h hR)
theorem sm_goto {off : Int} (F : pm_fix q D cy sa p s m args meth c) (hK : pm_KW l D cy base b sa sv p e R s m args below meth c Q z0 q.2.2.2.1 K) (h : pm_ex g C E q K pc ls st mem (.goto off)) (hR : pm_Rel D cy base b sa sv s z0 q.2.2.2.1 H locs cells slots Ls ls mem) (hdg : decode q.2.2.1 pc = .ok (.goto off, 3)) : W p l e R s m args below meth c H locs cells slots Q (F0 m pc Ls (st.map (pm_v base b sa))) := by
  obtain ⟨hx, hb, hml, hown, hts, hnm, hk⟩ := F
  obtain ⟨tg, ht, h⟩ := h
  exact lv_goto hx hb hdg ht (hK _ _ _ _ _ _ _ _ _ h hR)
theorem sm_ifCond {k : Jvm.ClassFile.Cond} {off : Int} (F : pm_fix q D cy sa p s m args meth c) (hK : pm_KW l D cy base b sa sv p e R s m args below meth c Q z0 q.2.2.2.1 K) (h : pm_ex g C E q K pc ls st mem (.ifCond k off)) (hR : pm_Rel D cy base b sa sv s z0 q.2.2.2.1 H locs cells slots Ls ls mem) (hdg : decode q.2.2.1 pc = .ok (.ifCond k off, 3)) : W p l e R s m args below meth c H locs cells slots Q (F0 m pc Ls (st.map (pm_v base b sa))) := by
  obtain ⟨hx, hb, hml, hown, hts, hnm, hk⟩ := F
  obtain ⟨x, r, tg, rfl, ht, h1, h2⟩ := h
  cases k
  · exact lv_if_eq hx hb hdg ht (fun hc => hK _ _ _ _ _ _ _ _ _ (h1 hc) hR) (fun hc => hK _ _ _ _ _ _ _ _ _ (h2 hc) hR)
  · exact lv_if_ne hx hb hdg ht (fun hc => hK _ _ _ _ _ _ _ _ _ (h1 hc) hR) (fun hc => hK _ _ _ _ _ _ _ _ _ (h2 (fun z => z hc)) hR)
  · exact lv_if_lt hx hb hdg ht (fun hc => hK _ _ _ _ _ _ _ _ _ (h1 hc) hR) (fun hc => hK _ _ _ _ _ _ _ _ _ (h2 hc) hR)
  · exact lv_if_ge hx hb hdg ht (fun hc => hK _ _ _ _ _ _ _ _ _ (h1 hc) hR) (fun hc => hK _ _ _ _ _ _ _ _ _ (h2 hc) hR)
  · exact lv_if_gt hx hb hdg ht (fun hc => hK _ _ _ _ _ _ _ _ _ (h1 hc) hR) (fun hc => hK _ _ _ _ _ _ _ _ _ (h2 hc) hR)
  · exact lv_if_le hx hb hdg ht (fun hc => hK _ _ _ _ _ _ _ _ _ (h1 hc) hR) (fun hc => hK _ _ _ _ _ _ _ _ _ (h2 hc) hR)
theorem sm_if_icmp {k : Jvm.ClassFile.Cond} {off : Int} (F : pm_fix q D cy sa p s m args meth c) (hK : pm_KW l D cy base b sa sv p e R s m args below meth c Q z0 q.2.2.2.1 K) (h : pm_ex g C E q K pc ls st mem (.if_icmp k off)) (hR : pm_Rel D cy base b sa sv s z0 q.2.2.2.1 H locs cells slots Ls ls mem) (hdg : decode q.2.2.1 pc = .ok (.if_icmp k off, 3)) : W p l e R s m args below meth c H locs cells slots Q (F0 m pc Ls (st.map (pm_v base b sa))) := by
  obtain ⟨hx, hb, hml, hown, hts, hnm, hk⟩ := F
  obtain ⟨x, y, r, tg, rfl, ht, h1, h2⟩ := h
  cases k
  · exact lv_icmp_eq hx hb hdg ht (fun hc => hK _ _ _ _ _ _ _ _ _ (h1 hc) hR) (fun hc => hK _ _ _ _ _ _ _ _ _ (h2 hc) hR)
  · exact lv_icmp_ne hx hb hdg ht (fun hc => hK _ _ _ _ _ _ _ _ _ (h1 hc) hR) (fun hc => hK _ _ _ _ _ _ _ _ _ (h2 (fun z => z hc)) hR)
  · exact lv_icmp_lt hx hb hdg ht (fun hc => hK _ _ _ _ _ _ _ _ _ (h1 hc) hR) (fun hc => hK _ _ _ _ _ _ _ _ _ (h2 hc) hR)
  · exact lv_icmp_ge hx hb hdg ht (fun hc => hK _ _ _ _ _ _ _ _ _ (h1 hc) hR) (fun hc => hK _ _ _ _ _ _ _ _ _ (h2 hc) hR)
  · exact lv_icmp_gt hx hb hdg ht (fun hc => hK _ _ _ _ _ _ _ _ _ (h1 hc) hR) (fun hc => hK _ _ _ _ _ _ _ _ _ (h2 hc) hR)
  · exact lv_icmp_le hx hb hdg ht (fun hc => hK _ _ _ _ _ _ _ _ _ (h1 hc) hR) (fun hc => hK _ _ _ _ _ _ _ _ _ (h2 hc) hR)
theorem sm_table {dflt lo hi : Int} {offs : Array Int} {len : Nat} (F : pm_fix q D cy sa p s m args meth c) (hK : pm_KW l D cy base b sa sv p e R s m args below meth c Q z0 q.2.2.2.1 K) (h : pm_ex g C E q K pc ls st mem (.tableswitch dflt lo hi offs)) (hR : pm_Rel D cy base b sa sv s z0 q.2.2.2.1 H locs cells slots Ls ls mem) (hdg : decode q.2.2.1 pc = .ok (.tableswitch dflt lo hi offs, len)) : W p l e R s m args below meth c H locs cells slots Q (F0 m pc Ls (st.map (pm_v base b sa))) := by
  obtain ⟨hx, hb, hml, hown, hts, hnm, hk⟩ := F
  obtain ⟨x, r, rfl, h | h⟩ := h
  · obtain ⟨tg, hc, ht, h⟩ := h
    exact lv_tableOut hx hb hdg hc ht (hK _ _ _ _ _ _ _ _ _ h hR)
  · obtain ⟨off, tg, h1, h2, ho, ht, h⟩ := h
    exact lv_tableIn hx hb hdg h1 h2 ho ht (hK _ _ _ _ _ _ _ _ _ h hR)
theorem sm_lookup {dflt : Int} {ps : Array (Int × Int)} {len : Nat} (F : pm_fix q D cy sa p s m args meth c) (hK : pm_KW l D cy base b sa sv p e R s m args below meth c Q z0 q.2.2.2.1 K) (h : pm_ex g C E q K pc ls st mem (.lookupswitch dflt ps)) (hR : pm_Rel D cy base b sa sv s z0 q.2.2.2.1 H locs cells slots Ls ls mem) (hdg : decode q.2.2.1 pc = .ok (.lookupswitch dflt ps, len)) : W p l e R s m args below meth c H locs cells slots Q (F0 m pc Ls (st.map (pm_v base b sa))) := by
  obtain ⟨hx, hb, hml, hown, hts, hnm, hk⟩ := F
  obtain ⟨x, r, tg, rfl, hs, ht, h⟩ := h
  exact lv_lookup hx hb hdg hs rfl ht (hK _ _ _ _ _ _ _ _ _ h hR)
end SIM
