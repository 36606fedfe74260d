/-! ===== isWord of a constant text ===== -/
theorem pm_ad_str {base b k : Nat} {sa : Nat → Nat} : pm_ad base b sa (1000000 + k) = sa k := by
  unfold pm_ad
  rw [if_neg (by omega), if_neg (by omega), Nat.add_sub_cancel_left]
theorem dw_53 : ∀ x ∈ q_53.2.2.2.2.2, decode q_53.2.2.1 x.1 = .ok x.2 := (k_all_ok q_53 (List.mem_of_getElem? (i := 53) rfl)).2.1
section BI
variable {l : Launch} {D : va_G} {cy : Nat → ClassId} {base b : Nat} {sa sv : Nat → Nat} {p : Program} {e : Env} {R : Room} {s : State} {m : MethodId} {args : Array Value} {below : List Frame} {meth : Method} {c : Code} {Q : State → Prop} {z0 : Nat} {mem : pm_M}
/-- the machine at pc, whatever else there is -/
def bK (l : Launch) (D : va_G) (cy : Nat → ClassId) (base b : Nat) (sa sv : Nat → Nat) (p : Program) (e : Env) (R : Room) (s : State) (m : MethodId) (args : Array Value) (below : List Frame) (meth : Method) (c : Code) (Q : State → Prop) (z0 : Nat) (pc : Nat) (ls : pm_L) (st : List Value) (mem : pm_M) : Prop :=
  ∀ (H : Heap) (locs : List Loc) (cells slots : Nat) (Ls : Array Slot), pm_Rel D cy base b sa sv s z0 q_53.2.2.2.1 H locs cells slots Ls ls mem → W p l e R s m args below meth c H locs cells slots Q (F0 m pc Ls (st.map (pm_v base b sa)))
theorem bK_KW : pm_KW l D cy base b sa sv p e R s m args below meth c Q z0 q_53.2.2.2.1 (bK l D cy base b sa sv p e R s m args below meth c Q z0) := fun _ _ _ _ H locs cells slots Ls hk hR => hk H locs cells slots Ls hR
theorem bK_len (F : pm_fix q_53 D cy sa p s m args meth c) (hf : 8 ≤ R.frames) (hlc : 8000 ≤ R.locals) (hce : base + mem.1.1 ≤ s.heap.size + R.cells) (hsl : mem.1.2.1 ≤ z0 + R.slots) {k pc : Nat} (hk : k < 5) {ls : pm_L} {r : List Value} (hr : (r.map fun v => v.category).sum ≤ 8) (hdg : decode q_53.2.2.1 pc = .ok (.invokevirtual 101, 3))
    (kk : bK l D cy base b sa sv p e R s m args below meth c Q z0 (pc + 3) ls (.int (nI (pm_wd k).length) :: r) mem) : bK l D cy base b sa sv p e R s m args below meth c Q z0 pc ls (.ref (1000000 + k) :: r) mem := by
  intro H locs cells slots Ls hR
  obtain ⟨hx, hb, hml, hown, hts, hnm, hKs⟩ := F
  have hG : jG base sa sv s H := hR.1.2.2.2.1
  obtain ⟨cell, g1, g2, g3, -⟩ := (hG.1.1 k hk).1
  have hc := hR.2.2.1.2
  have hz := hR.2.2.2.1
  have est : (Value.ref (1000000 + k) :: r).map (pm_v base b sa) = .ref (sa k) :: r.map (pm_v base b sa) := by rw [List.map_cons, pm_v_ref, pm_ad_str]
  rw [est]
  refine j_fin (base := base) (v := some (.int (nI (pm_wd k).length))) (rest := r.map (pm_v base b sa)) (va_runV (g := F0 m pc Ls (.ref (sa k) :: r.map (pm_v base b sa))) (As := []) (n := 0) (C := "java/lang/String") ⟨hx, hb, hml, hown, hts⟩ (j_len l base sa sv hk) (cwV 0 hts (pm_gi (fun w hw => ?_)) rfl rfl rfl ⟨rfl, by decide, by decide, by decide +kernel⟩ ⟨by show 1 + 1 ≤ R.frames; omega, by show 8 + (1 + 11) + 20 ≤ R.locals; omega⟩) ⟨jPc.blind, ⟨cell, g1, g2, g3⟩, hG.pre⟩ rfl rfl hR.2.2.2.2.1 rfl (lv_room (by rw [pm_v_sum]; exact hr)) hdg ⟨by omega, by omega⟩) hR.2.1 (fun locs1 hS1 => ?_)
  · rcases List.mem_append.mp hw with h | h
    · simp only [List.mem_cons, List.not_mem_nil, or_false] at h
      rcases h with rfl | rfl | rfl | rfl
      · exact kj_383
      · exact kj_384
      · exact kj_385
      · exact kj_14
    · rcases List.mem_cons.mp h with rfl | h
      · exact kj_386
      · exact h
  · exact kk H locs1 cells slots Ls ⟨hR.1, hS1, hR.2.2⟩
theorem bK_chr (F : pm_fix q_53 D cy sa p s m args meth c) (hf : 8 ≤ R.frames) (hlc : 8000 ≤ R.locals) (hce : base + mem.1.1 ≤ s.heap.size + R.cells) (hsl : mem.1.2.1 ≤ z0 + R.slots) {k pc i : Nat} (hk : k < 5) (hi : i < (pm_wd k).length) {ls : pm_L} {r : List Value} (hr : (r.map fun v => v.category).sum ≤ 8) (hdg : decode q_53.2.2.1 pc = .ok (.invokevirtual 106, 3))
    (kk : bK l D cy base b sa sv p e R s m args below meth c Q z0 (pc + 3) ls (.int ((pm_wd k).getD i 0) :: r) mem) : bK l D cy base b sa sv p e R s m args below meth c Q z0 pc ls (.int (nI i) :: .ref (1000000 + k) :: r) mem := by
  intro H locs cells slots Ls hR
  obtain ⟨hx, hb, hml, hown, hts, hnm, hKs⟩ := F
  have hG : jG base sa sv s H := hR.1.2.2.2.1
  obtain ⟨cell, g1, g2, g3, -⟩ := (hG.1.1 k hk).1
  have hc := hR.2.2.1.2
  have hz := hR.2.2.2.1
  have est : (Value.int (nI i) :: .ref (1000000 + k) :: r).map (pm_v base b sa) = .int (nI i) :: .ref (sa k) :: r.map (pm_v base b sa) := by rw [List.map_cons, List.map_cons, pm_v_ref, pm_ad_str, pm_v_int]
  rw [est]
  refine j_fin (base := base) (v := some (.int ((pm_wd k).getD i 0))) (rest := r.map (pm_v base b sa)) (va_runV (g := F0 m pc Ls (.int (nI i) :: .ref (sa k) :: r.map (pm_v base b sa))) (As := [.int (nI i)]) (n := 1) (C := "java/lang/String") ⟨hx, hb, hml, hown, hts⟩ (j_chr l base sa sv hk hi) (cwV 1 hts (pm_gi (fun w hw => ?_)) rfl rfl rfl ⟨rfl, by decide, by decide, by decide +kernel⟩ ⟨by show 3 + 1 ≤ R.frames; omega, by show 8 + (2 + 11) + 64 ≤ R.locals; omega⟩) ⟨jPc.blind, ⟨cell, g1, g2, g3⟩, hG.pre⟩ rfl rfl hR.2.2.2.2.1 rfl (lv_room (by rw [pm_v_sum]; exact hr)) hdg ⟨by omega, by omega⟩) hR.2.1 (fun locs1 hS1 => ?_)
  · rcases List.mem_append.mp hw with h | h
    · simp only [List.mem_cons, List.not_mem_nil, or_false] at h
      rcases h with rfl | rfl | rfl | rfl
      · exact kj_393
      · exact kj_394
      · exact kj_395
      · exact kj_14
    · rcases List.mem_cons.mp h with rfl | h
      · exact kj_396
      · exact h
  · exact kk H locs1 cells slots Ls ⟨hR.1, hS1, hR.2.2⟩
end BI
