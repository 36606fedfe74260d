/-! ===== the JDK's methods that isWord calls ===== -/
def yj_cod : MethodName := ⟨"java/lang/String", "coder", "()B"⟩
def yj_len : MethodName := ⟨"java/lang/String", "length", "()I"⟩
def yj_lat : MethodName := ⟨"java/lang/String", "isLatin1", "()Z"⟩
def yj_chr : MethodName := ⟨"java/lang/String", "charAt", "(I)C"⟩
def yj_chk : MethodName := ⟨"java/lang/String", "checkIndex", "(II)V"⟩
def yj_lch : MethodName := ⟨"java/lang/StringLatin1", "charAt", "([BI)C"⟩
def yj_pre : MethodName := ⟨"jdk/internal/util/Preconditions", "checkIndex", "(IILjava/util/function/BiFunction;)I"⟩
theorem kj_14 : Jvm.Cond.initialized "java/lang/String" ∈ pm_tbl := pm_mem 14 (by decide +kernel) rfl
theorem kj_15 : Jvm.Cond.initialized "java/lang/StringLatin1" ∈ pm_tbl := pm_mem 15 (by decide +kernel) rfl
theorem kj_16 : Jvm.Cond.initialized "jdk/internal/util/Preconditions" ∈ pm_tbl := pm_mem 16 (by decide +kernel) rfl
theorem kj_383 : Jvm.Cond.methodLink "StandUpBook$Text" 101 yj_len ∈ pm_tbl := pm_mem 383 (by decide +kernel) rfl
theorem kj_384 : Jvm.Cond.instanceMethod yj_len ∈ pm_tbl := pm_mem 384 (by decide +kernel) rfl
theorem kj_385 : Jvm.Cond.selects "java/lang/String" yj_len yj_len ∈ pm_tbl := pm_mem 385 (by decide +kernel) rfl
theorem kj_386 : Jvm.Cond.code yj_len prog_17_method_54_code 1 (some .int) ∈ pm_tbl := pm_mem 386 (by decide +kernel) rfl
theorem kj_387 : Jvm.Cond.methodLink "java/lang/String" 335 yj_cod ∈ pm_tbl := pm_mem 387 (by decide +kernel) rfl
theorem kj_388 : Jvm.Cond.instanceMethod yj_cod ∈ pm_tbl := pm_mem 388 (by decide +kernel) rfl
theorem kj_389 : Jvm.Cond.selects "java/lang/String" yj_cod yj_cod ∈ pm_tbl := pm_mem 389 (by decide +kernel) rfl
theorem kj_390 : Jvm.Cond.code yj_cod prog_17_method_152_code 1 (some .byte) ∈ pm_tbl := pm_mem 390 (by decide +kernel) rfl
theorem kj_391 : Jvm.Cond.fieldLink "java/lang/String" 38 "java/lang/String" "COMPACT_STRINGS" "Z" ∈ pm_tbl := pm_mem 391 (by decide +kernel) rfl
theorem kj_393 : Jvm.Cond.methodLink "StandUpBook$Text" 106 yj_chr ∈ pm_tbl := pm_mem 393 (by decide +kernel) rfl
theorem kj_394 : Jvm.Cond.instanceMethod yj_chr ∈ pm_tbl := pm_mem 394 (by decide +kernel) rfl
theorem kj_395 : Jvm.Cond.selects "java/lang/String" yj_chr yj_chr ∈ pm_tbl := pm_mem 395 (by decide +kernel) rfl
theorem kj_396 : Jvm.Cond.code yj_chr prog_17_method_56_code 2 (some .char) ∈ pm_tbl := pm_mem 396 (by decide +kernel) rfl
theorem kj_397 : Jvm.Cond.methodLink "java/lang/String" 492 yj_lat ∈ pm_tbl := pm_mem 397 (by decide +kernel) rfl
theorem kj_398 : Jvm.Cond.instanceMethod yj_lat ∈ pm_tbl := pm_mem 398 (by decide +kernel) rfl
theorem kj_399 : Jvm.Cond.selects "java/lang/String" yj_lat yj_lat ∈ pm_tbl := pm_mem 399 (by decide +kernel) rfl
theorem kj_400 : Jvm.Cond.code yj_lat prog_17_method_154_code 1 (some .boolean) ∈ pm_tbl := pm_mem 400 (by decide +kernel) rfl
theorem kj_401 : Jvm.Cond.methodLink "java/lang/String" 495 yj_lch ∈ pm_tbl := pm_mem 401 (by decide +kernel) rfl
theorem kj_402 : Jvm.Cond.static yj_lch ∈ pm_tbl := pm_mem 402 (by decide +kernel) rfl
theorem kj_403 : Jvm.Cond.code yj_lch prog_18_method_2_code 2 (some .char) ∈ pm_tbl := pm_mem 403 (by decide +kernel) rfl
theorem kj_404 : Jvm.Cond.methodLink "java/lang/StringLatin1" 9 yj_chk ∈ pm_tbl := pm_mem 404 (by decide +kernel) rfl
theorem kj_405 : Jvm.Cond.static yj_chk ∈ pm_tbl := pm_mem 405 (by decide +kernel) rfl
theorem kj_406 : Jvm.Cond.code yj_chk prog_17_method_155_code 2 none ∈ pm_tbl := pm_mem 406 (by decide +kernel) rfl
theorem kj_407 : Jvm.Cond.fieldLink "java/lang/String" 1053 "jdk/internal/util/Preconditions" "SIOOBE_FORMATTER" "Ljava/util/function/BiFunction;" ∈ pm_tbl := pm_mem 407 (by decide +kernel) rfl
theorem kj_409 : Jvm.Cond.methodLink "java/lang/String" 1059 yj_pre ∈ pm_tbl := pm_mem 409 (by decide +kernel) rfl
theorem kj_410 : Jvm.Cond.static yj_pre ∈ pm_tbl := pm_mem 410 (by decide +kernel) rfl
theorem kj_411 : Jvm.Cond.code yj_pre prog_21_method_11_code 3 (some .int) ∈ pm_tbl := pm_mem 411 (by decide +kernel) rfl
theorem kj_1372 : Jvm.Cond.fieldLink "java/lang/String" 9 "java/lang/String" "value" "[B" ∈ pm_tbl := pm_mem 1372 (by decide +kernel) rfl
theorem kj_1373 : Jvm.Cond.fieldLink "java/lang/String" 15 "java/lang/String" "coder" "B" ∈ pm_tbl := pm_mem 1373 (by decide +kernel) rfl
theorem dj_len_0 : decode prog_17_method_54_code 0 = .ok (.aload_n 0, 1) := by decide +kernel
theorem dj_len_1 : decode prog_17_method_54_code 1 = .ok (.getfield 9, 3) := by decide +kernel
theorem dj_len_4 : decode prog_17_method_54_code 4 = .ok (.arraylength, 1) := by decide +kernel
theorem dj_len_5 : decode prog_17_method_54_code 5 = .ok (.aload_n 0, 1) := by decide +kernel
theorem dj_len_6 : decode prog_17_method_54_code 6 = .ok (.invokevirtual 335, 3) := by decide +kernel
theorem dj_len_9 : decode prog_17_method_54_code 9 = .ok (.ishr, 1) := by decide +kernel
theorem dj_len_10 : decode prog_17_method_54_code 10 = .ok (.ireturn, 1) := by decide +kernel
theorem dj_chr_0 : decode prog_17_method_56_code 0 = .ok (.aload_n 0, 1) := by decide +kernel
theorem dj_chr_1 : decode prog_17_method_56_code 1 = .ok (.invokevirtual 492, 3) := by decide +kernel
theorem dj_chr_4 : decode prog_17_method_56_code 4 = .ok (.ifCond .eq 12, 3) := by decide +kernel
theorem dj_chr_7 : decode prog_17_method_56_code 7 = .ok (.aload_n 0, 1) := by decide +kernel
theorem dj_chr_8 : decode prog_17_method_56_code 8 = .ok (.getfield 9, 3) := by decide +kernel
theorem dj_chr_11 : decode prog_17_method_56_code 11 = .ok (.iload_n 1, 1) := by decide +kernel
theorem dj_chr_12 : decode prog_17_method_56_code 12 = .ok (.invokestatic 495, 3) := by decide +kernel
theorem dj_chr_15 : decode prog_17_method_56_code 15 = .ok (.ireturn, 1) := by decide +kernel
theorem dj_cod_0 : decode prog_17_method_152_code 0 = .ok (.getstatic 38, 3) := by decide +kernel
theorem dj_cod_3 : decode prog_17_method_152_code 3 = .ok (.ifCond .eq 10, 3) := by decide +kernel
theorem dj_cod_6 : decode prog_17_method_152_code 6 = .ok (.aload_n 0, 1) := by decide +kernel
theorem dj_cod_7 : decode prog_17_method_152_code 7 = .ok (.getfield 15, 3) := by decide +kernel
theorem dj_cod_10 : decode prog_17_method_152_code 10 = .ok (.goto 4, 3) := by decide +kernel
theorem dj_cod_14 : decode prog_17_method_152_code 14 = .ok (.ireturn, 1) := by decide +kernel
theorem dj_lat_0 : decode prog_17_method_154_code 0 = .ok (.getstatic 38, 3) := by decide +kernel
theorem dj_lat_3 : decode prog_17_method_154_code 3 = .ok (.ifCond .eq 14, 3) := by decide +kernel
theorem dj_lat_6 : decode prog_17_method_154_code 6 = .ok (.aload_n 0, 1) := by decide +kernel
theorem dj_lat_7 : decode prog_17_method_154_code 7 = .ok (.getfield 15, 3) := by decide +kernel
theorem dj_lat_10 : decode prog_17_method_154_code 10 = .ok (.ifCond .ne 7, 3) := by decide +kernel
theorem dj_lat_13 : decode prog_17_method_154_code 13 = .ok (.iconst 1, 1) := by decide +kernel
theorem dj_lat_14 : decode prog_17_method_154_code 14 = .ok (.goto 4, 3) := by decide +kernel
theorem dj_lat_18 : decode prog_17_method_154_code 18 = .ok (.ireturn, 1) := by decide +kernel
theorem dj_chk_0 : decode prog_17_method_155_code 0 = .ok (.iload_n 0, 1) := by decide +kernel
theorem dj_chk_1 : decode prog_17_method_155_code 1 = .ok (.iload_n 1, 1) := by decide +kernel
theorem dj_chk_2 : decode prog_17_method_155_code 2 = .ok (.getstatic 1053, 3) := by decide +kernel
theorem dj_chk_5 : decode prog_17_method_155_code 5 = .ok (.invokestatic 1059, 3) := by decide +kernel
theorem dj_chk_8 : decode prog_17_method_155_code 8 = .ok (.pop, 1) := by decide +kernel
theorem dj_chk_9 : decode prog_17_method_155_code 9 = .ok (.return_, 1) := by decide +kernel
theorem dj_lch_0 : decode prog_18_method_2_code 0 = .ok (.iload_n 1, 1) := by decide +kernel
theorem dj_lch_1 : decode prog_18_method_2_code 1 = .ok (.aload_n 0, 1) := by decide +kernel
theorem dj_lch_2 : decode prog_18_method_2_code 2 = .ok (.arraylength, 1) := by decide +kernel
theorem dj_lch_3 : decode prog_18_method_2_code 3 = .ok (.invokestatic 9, 3) := by decide +kernel
theorem dj_lch_6 : decode prog_18_method_2_code 6 = .ok (.aload_n 0, 1) := by decide +kernel
theorem dj_lch_7 : decode prog_18_method_2_code 7 = .ok (.iload_n 1, 1) := by decide +kernel
theorem dj_lch_8 : decode prog_18_method_2_code 8 = .ok (.baload, 1) := by decide +kernel
theorem dj_lch_9 : decode prog_18_method_2_code 9 = .ok (.sipush 255, 3) := by decide +kernel
theorem dj_lch_12 : decode prog_18_method_2_code 12 = .ok (.iand, 1) := by decide +kernel
theorem dj_lch_13 : decode prog_18_method_2_code 13 = .ok (.i2c, 1) := by decide +kernel
theorem dj_lch_14 : decode prog_18_method_2_code 14 = .ok (.ireturn, 1) := by decide +kernel
theorem dj_pre_0 : decode prog_21_method_11_code 0 = .ok (.iload_n 0, 1) := by decide +kernel
theorem dj_pre_1 : decode prog_21_method_11_code 1 = .ok (.ifCond .lt 8, 3) := by decide +kernel
theorem dj_pre_4 : decode prog_21_method_11_code 4 = .ok (.iload_n 0, 1) := by decide +kernel
theorem dj_pre_5 : decode prog_21_method_11_code 5 = .ok (.iload_n 1, 1) := by decide +kernel
theorem dj_pre_6 : decode prog_21_method_11_code 6 = .ok (.if_icmp .lt 10, 3) := by decide +kernel
theorem dj_pre_16 : decode prog_21_method_11_code 16 = .ok (.iload_n 0, 1) := by decide +kernel
theorem dj_pre_17 : decode prog_21_method_11_code 17 = .ok (.ireturn, 1) := by decide +kernel
/-- what holds where a JDK method is called: the texts, the statics -/
def jG (base : Nat) (sa sv : Nat → Nat) (U : State) (H : Heap) : Prop := vk_S 5 pm_lens pm_byts sa sv (pm_A base) U H ∧ pm_SX base U H
theorem jG.moved {base : Nat} {sa sv : Nat → Nat} {u U : State} {H : Heap} (hv : u.vm.Alike U.vm) (h : jG base sa sv u H) : jG base sa sv U H := ⟨h.1.moved hv, h.2.moved hv⟩
def jPc (base : Nat) (sa sv : Nat → Nat) (as : List Value) : Array Value → State → Prop := fun a U => a = as.toArray ∧ jG base sa sv U U.heap
def jQc (v : Option Value) : Array Value → State → Outcome → State → Prop := fun _ st oc t => oc = .returned v ∧ t.heap = st.heap
theorem jPc.blind {base : Nat} {sa sv : Nat → Nat} {as : List Value} : FrameBlind (jPc base sa sv as) := fun a U g mk h => ⟨h.1, h.2.moved (u := U) (U := U.calling g mk a) (Vm.Alike.refl U.vm)⟩
abbrev jRm (f n : Nat) : Room := { frames := f, cells := 0, slots := 0, locals := n }
section JDK
variable {p : Program} {l : Launch} {e : Env} {R : Room} {s : State} {m : MethodId} {args : Array Value} {below : List Frame} {meth : Method} {c : Code} {H : Heap} {locs : List Loc} {cells slots : Nat} {Q : State → Prop}
variable {pc : Nat} {ls : Array Slot} {base : Nat} {sa sv : Nat → Nat}
theorem jG.pre {as : List Value} (h : jG base sa sv s H) : ∀ U : State, U.heap = H → s.WarmedH U.vm → jPc base sa sv as as.toArray U := fun U hU hW => ⟨rfl, by rw [hU]; exact h.moved hW.alike⟩
/-- behind a call that writes nothing -/
theorem j_fin {v : Option Value} {rest st0 : List Value} {a : Array Value} (hr : va_Run p l e R s m args below meth c H locs cells slots 0 0 (F0 m pc ls st0) rest (jQc v a) (pm_A base)) (hS : va_S (pm_A base) s.heap H locs)
    (kk : ∀ locs1, va_S (pm_A base) s.heap H locs1 → W p l e R s m args below meth c H locs1 cells slots Q (F0 m (pc + 3) ls (v.toList ++ rest))) : W p l e R s m args below meth c H locs cells slots Q (F0 m pc ls st0) := by
  intro T hT X
  obtain ⟨w, st₀, t, T', L, h0, X', hL, e1, e2, ⟨hv, hh⟩, st⟩ := hr T hT X
  cases hv
  have eH : T'.heap = H := by rw [e1, hh, h0]
  have hS1 : va_S (pm_A base) s.heap H (locs ++ L) := ⟨hS.1, hS.2.1, fun x hx => by
    rcases List.mem_append.mp hx with h | h
    · exact hS.2.2 x h
    · exact hL x h⟩
  obtain ⟨t2, a1, b1⟩ := kk (locs ++ L) hS1 T' eH X'
  exact ⟨t2, st t2 a1, b1⟩
end JDK
set_option maxHeartbeats 4000000 in
theorem j_cod (l : Launch) (base : Nat) (sa sv : Nat → Nat) {k : Nat} (hk : k < 5) : Met l yj_cod (.code yj_cod prog_17_method_152_code 1 (some .byte) :: pm_tbl) (jRm 0 0) (jPc base sa sv [.ref (sa k)]) (jQc (some (.int 0))) 0 0 (pm_A base) := by
  refine Met.ofW (cc := prog_17_method_152_code) (maxL := 1) (ret := some .byte) (by decide) rfl ?_
  intro p e s m args below meth c s₁ B hml hv
  obtain ⟨rfl, hV, hX⟩ := hv
  have hx := B.exec
  have hb := B.bytes
  have hr := B.returns
  have hts0 := atoms_spec (ws := .code yj_cod prog_17_method_152_code 1 (some .byte) :: pm_tbl) B.pre
  have hts : ∀ w ∈ pm_tbl, w.before _ s = true := fun w hw => hts0 w (List.mem_cons_of_mem _ hw)
  have hown : s.vm.findClass "java/lang/String" = some m.cls := findClass_of_methodNamed B.named
  have hS : va_S (pm_A base) s.heap s.heap [] := va_S.rf
  have hl := lv_entry [.ref (sa k)] (n := 1) (Nat.le_of_ble_eq_true rfl)
  rw [lg_entry_eq]
  generalize (lg_sl [.ref (sa k)] ++ List.replicate (1 - (lg_sl [.ref (sa k)]).length) Slot.unset).toArray = ls at hl ⊢
  have hl : lv_has ls 1 [(0, .ref (sa k))] := hl
  refine va_gets hx hb hX.1 hS hown (hts _ kj_391) (fun _ h => h) dj_cod_0 ?_
  refine lv_if_eq (tgt := 13) hx hb dj_cod_3 rfl (fun h => absurd h (by decide)) (fun _ => ?_)
  refine lv_aload_n hx hb dj_cod_6 rfl (lv_at hl 0 rfl) ?_
  refine vk_getf hx hb (hV.1 k hk).2.1 hS hown (hts _ kj_1373) (fun _ h => h) dj_cod_7 ?_
  refine lv_goto (tgt := 14) hx hb dj_cod_10 rfl ?_
  exact W.zret hx hb hr rfl (fun t ht hW => ⟨rfl, ht⟩) hS.2.2 dj_cod_14
set_option maxHeartbeats 4000000 in
theorem j_lat (l : Launch) (base : Nat) (sa sv : Nat → Nat) {k : Nat} (hk : k < 5) : Met l yj_lat (.code yj_lat prog_17_method_154_code 1 (some .boolean) :: pm_tbl) (jRm 0 0) (jPc base sa sv [.ref (sa k)]) (jQc (some (.int 1))) 0 0 (pm_A base) := by
  refine Met.ofW (cc := prog_17_method_154_code) (maxL := 1) (ret := some .boolean) (by decide) rfl ?_
  intro p e s m args below meth c s₁ B hml hv
  obtain ⟨rfl, hV, hX⟩ := hv
  have hx := B.exec
  have hb := B.bytes
  have hr := B.returns
  have hts0 := atoms_spec (ws := .code yj_lat prog_17_method_154_code 1 (some .boolean) :: pm_tbl) B.pre
  have hts : ∀ w ∈ pm_tbl, w.before _ s = true := fun w hw => hts0 w (List.mem_cons_of_mem _ hw)
  have hown : s.vm.findClass "java/lang/String" = some m.cls := findClass_of_methodNamed B.named
  have hS : va_S (pm_A base) s.heap s.heap [] := va_S.rf
  have hl := lv_entry [.ref (sa k)] (n := 1) (Nat.le_of_ble_eq_true rfl)
  rw [lg_entry_eq]
  generalize (lg_sl [.ref (sa k)] ++ List.replicate (1 - (lg_sl [.ref (sa k)]).length) Slot.unset).toArray = ls at hl ⊢
  have hl : lv_has ls 1 [(0, .ref (sa k))] := hl
  refine va_gets hx hb hX.1 hS hown (hts _ kj_391) (fun _ h => h) dj_lat_0 ?_
  refine lv_if_eq (tgt := 17) hx hb dj_lat_3 rfl (fun h => absurd h (by decide)) (fun _ => ?_)
  refine lv_aload_n hx hb dj_lat_6 rfl (lv_at hl 0 rfl) ?_
  refine vk_getf hx hb (hV.1 k hk).2.1 hS hown (hts _ kj_1373) (fun _ h => h) dj_lat_7 ?_
  refine lv_if_ne (tgt := 17) hx hb dj_lat_10 rfl (fun h => absurd rfl h) (fun _ => ?_)
  refine lv_iconst (v := 1) hx hb dj_lat_13 (by decide) ?_
  refine lv_goto (tgt := 18) hx hb dj_lat_14 rfl ?_
  exact W.zret hx hb hr rfl (fun t ht hW => ⟨rfl, ht⟩) hS.2.2 dj_lat_18
set_option maxHeartbeats 4000000 in
theorem j_pre (l : Launch) (base : Nat) (sa sv : Nat → Nat) {i n : Nat} (hi : i < n) (hn : n < 2 ^ 31) (f : Value) (hf : (lg_sl [.int (nI i), .int (nI n), f]).length ≤ 3) : Met l yj_pre (.code yj_pre prog_21_method_11_code 3 (some .int) :: pm_tbl) (jRm 0 0) (jPc base sa sv [.int (nI i), .int (nI n), f]) (jQc (some (.int (nI i)))) 0 0 (pm_A base) := by
  refine Met.ofW (cc := prog_21_method_11_code) (maxL := 3) (ret := some .int) (by decide) rfl ?_
  intro p e s m args below meth c s₁ B hml hv
  obtain ⟨rfl, hV, hX⟩ := hv
  have hx := B.exec
  have hb := B.bytes
  have hr := B.returns
  have hS : va_S (pm_A base) s.heap s.heap [] := va_S.rf
  have hl := lv_entry [.int (nI i), .int (nI n), f] (n := 3) hf
  rw [lg_entry_eq]
  generalize (lg_sl [.int (nI i), .int (nI n), f] ++ List.replicate (3 - (lg_sl [.int (nI i), .int (nI n), f]).length) Slot.unset).toArray = ls at hl ⊢
  have hl : lv_has ls 3 [(0, .int (nI i)), (1, .int (nI n)), (2, f)] := hl
  refine lv_iload_n hx hb dj_pre_0 rfl (lv_at hl 0 rfl) ?_
  refine lv_if_lt (tgt := 9) hx hb dj_pre_1 rfl (fun h => absurd h (nI_pos (by omega))) (fun _ => ?_)
  refine lv_iload_n hx hb dj_pre_4 rfl (lv_at hl 0 rfl) ?_
  refine lv_iload_n hx hb dj_pre_5 rfl (lv_at hl 1 rfl) ?_
  refine lv_icmp_lt (tgt := 16) hx hb dj_pre_6 rfl (fun _ => ?_) (fun h => absurd (nI_lt hi hn) h)
  refine lv_iload_n hx hb dj_pre_16 rfl (lv_at hl 0 rfl) ?_
  exact W.zret hx hb hr rfl (fun t ht hW => ⟨rfl, ht⟩) hS.2.2 dj_pre_17
set_option maxHeartbeats 4000000 in
theorem j_chk (l : Launch) (base : Nat) (sa sv : Nat → Nat) {i n : Nat} (hi : i < n) (hn : n < 2 ^ 31) : Met l yj_chk (.code yj_chk prog_17_method_155_code 2 none :: pm_tbl) (jRm 1 22) (jPc base sa sv [.int (nI i), .int (nI n)]) (jQc none) 0 0 (pm_A base) := by
  refine Met.ofW (cc := prog_17_method_155_code) (maxL := 2) (ret := none) (by decide) rfl ?_
  intro p e s m args below meth c s₁ B hml hv
  obtain ⟨rfl, hG⟩ := hv
  have hx := B.exec
  have hb := B.bytes
  have hr := B.returns
  have hts0 := atoms_spec (ws := .code yj_chk prog_17_method_155_code 2 none :: pm_tbl) B.pre
  have hts : ∀ w ∈ pm_tbl, w.before _ s = true := fun w hw => hts0 w (List.mem_cons_of_mem _ hw)
  have hown : s.vm.findClass "java/lang/String" = some m.cls := findClass_of_methodNamed B.named
  have hS : va_S (pm_A base) s.heap s.heap [] := va_S.rf
  have hl := lv_entry [.int (nI i), .int (nI n)] (n := 2) (Nat.le_of_ble_eq_true rfl)
  rw [lg_entry_eq]
  generalize (lg_sl [.int (nI i), .int (nI n)] ++ List.replicate (2 - (lg_sl [.int (nI i), .int (nI n)]).length) Slot.unset).toArray = ls at hl ⊢
  have hl : lv_has ls 2 [(0, .int (nI i)), (1, .int (nI n))] := hl
  refine lv_iload_n hx hb dj_chk_0 rfl (lv_at hl 0 rfl) ?_
  refine lv_iload_n hx hb dj_chk_1 rfl (lv_at hl 1 rfl) ?_
  obtain ⟨f, hf, hZ⟩ : ∃ f : Value, (lg_sl [.int (nI i), .int (nI n), f]).length ≤ 3 ∧ va_Z "jdk/internal/util/Preconditions" "SIOOBE_FORMATTER" "Ljava/util/function/BiFunction;" f (pm_A base) s s.heap := by
    rcases hG.2.2 with hZ | ⟨t, hZ⟩
    · exact ⟨.null, Nat.le_of_ble_eq_true rfl, hZ⟩
    · exact ⟨.ref t, Nat.le_of_ble_eq_true rfl, hZ⟩
  refine va_gets hx hb hZ hS hown (hts _ kj_407) (fun _ h => h) dj_chk_2 ?_
  refine j_fin (base := base) (v := some (.int (nI i))) (rest := []) (va_runS (g := F0 m 5 ls [f, .int (nI n), .int (nI i)]) (As := [.int (nI i), .int (nI n), f]) (n := 3) ⟨hx, hb, hml, hown, hts⟩ (j_pre l base sa sv hi hn f hf) (va_cwS 3 hts (pm_gi (fun w hw => ?_)) rfl rfl rfl ⟨by decide, by decide, by decide +kernel⟩ ⟨Nat.le_of_ble_eq_true rfl, Nat.le_of_ble_eq_true rfl⟩) ⟨jPc.blind, hG.pre⟩ rfl rfl hl.1 rfl (lv_room (Nat.le_of_ble_eq_true rfl)) dj_chk_5 ⟨Nat.zero_le _, Nat.zero_le _⟩) hS (fun locs1 hS1 => ?_)
  · rcases List.mem_append.mp hw with h | h
    · simp only [List.mem_cons, List.not_mem_nil, or_false] at h
      rcases h with rfl | rfl | rfl
      · exact kj_409
      · exact kj_410
      · exact kj_16
    · rcases List.mem_cons.mp h with rfl | h
      · exact kj_411
      · exact h
  · refine lv_pop hx hb dj_chk_8 rfl ?_
    exact W.vret hx hb hr (fun t ht hW => ⟨rfl, ht⟩) hS1.2.2 dj_chk_9
theorem j_byt : ∀ k, k < 5 → ∀ i, i < pm_lens.getD k 0 → ((((pm_byts.getD k []).getD i 0) &&& 255).toUInt32 % 65536).toInt32 = (pm_wd k).getD i 0 ∧ narrow .char (.int ((pm_wd k).getD i 0)) = .int ((pm_wd k).getD i 0) := by decide +kernel
theorem j_lens : ∀ k, k < 5 → pm_lens.getD k 0 = (pm_wd k).length ∧ pm_lens.getD k 0 < 2 ^ 31 := by decide +kernel
set_option maxHeartbeats 4000000 in
theorem j_lch (l : Launch) (base : Nat) (sa sv : Nat → Nat) {k i : Nat} (hk : k < 5) (hi : i < pm_lens.getD k 0) : Met l yj_lch (.code yj_lch prog_18_method_2_code 2 (some .char) :: pm_tbl) (jRm 2 43) (jPc base sa sv [.ref (sv k), .int (nI i)]) (jQc (some (.int ((pm_wd k).getD i 0)))) 0 0 (pm_A base) := by
  have hn := (j_lens k hk).2
  refine Met.ofW (cc := prog_18_method_2_code) (maxL := 2) (ret := some .char) (by decide) rfl ?_
  intro p e s m args below meth c s₁ B hml hv
  obtain ⟨rfl, hG⟩ := hv
  have hx := B.exec
  have hb := B.bytes
  have hr := B.returns
  have hts0 := atoms_spec (ws := .code yj_lch prog_18_method_2_code 2 (some .char) :: pm_tbl) B.pre
  have hts : ∀ w ∈ pm_tbl, w.before _ s = true := fun w hw => hts0 w (List.mem_cons_of_mem _ hw)
  have hown : s.vm.findClass "java/lang/StringLatin1" = some m.cls := findClass_of_methodNamed B.named
  have hS : va_S (pm_A base) s.heap s.heap [] := va_S.rf
  have hT := (hG.1.1 k hk).2.2.2
  have hl := lv_entry [.ref (sv k), .int (nI i)] (n := 2) (Nat.le_of_ble_eq_true rfl)
  rw [lg_entry_eq]
  generalize (lg_sl [.ref (sv k), .int (nI i)] ++ List.replicate (2 - (lg_sl [.ref (sv k), .int (nI i)]).length) Slot.unset).toArray = ls at hl ⊢
  have hl : lv_has ls 2 [(0, .ref (sv k)), (1, .int (nI i))] := hl
  refine lv_iload_n hx hb dj_lch_0 rfl (lv_at hl 1 rfl) ?_
  refine lv_aload_n hx hb dj_lch_1 rfl (lv_at hl 0 rfl) ?_
  refine va_tlen hx hb hT hS (v := nI (pm_lens.getD k 0)) rfl dj_lch_2 ?_
  refine j_fin (base := base) (v := none) (rest := []) (va_runS (g := F0 m 3 ls [.int (nI (pm_lens.getD k 0)), .int (nI i)]) (As := [.int (nI i), .int (nI (pm_lens.getD k 0))]) (n := 2) ⟨hx, hb, hml, hown, hts⟩ (j_chk l base sa sv hi hn) (va_cwS 2 hts (pm_gi (fun w hw => ?_)) rfl rfl rfl ⟨by decide, by decide, by decide +kernel⟩ ⟨Nat.le_of_ble_eq_true rfl, Nat.le_of_ble_eq_true rfl⟩) ⟨jPc.blind, hG.pre⟩ rfl rfl hl.1 rfl (lv_room (Nat.le_of_ble_eq_true rfl)) dj_lch_3 ⟨Nat.zero_le _, Nat.zero_le _⟩) hS (fun locs1 hS1 => ?_)
  · rcases List.mem_append.mp hw with h | h
    · simp only [List.mem_cons, List.not_mem_nil, or_false] at h
      rcases h with rfl | rfl | rfl
      · exact kj_404
      · exact kj_405
      · exact kj_14
    · rcases List.mem_cons.mp h with rfl | h
      · exact kj_406
      · exact h
  · refine lv_aload_n hx hb dj_lch_6 rfl (lv_at hl 0 rfl) ?_
    refine lv_iload_n hx hb dj_lch_7 rfl (lv_at hl 1 rfl) ?_
    refine va_tb hx hb hT hS1 (vp_in_nI hi hn) (v := .int ((pm_byts.getD k []).getD i 0)) (by rw [nI_clamp (by omega)]) dj_lch_8 ?_
    refine lv_sipush (v := 255) hx hb dj_lch_9 (by decide) ?_
    refine lv_iand hx hb dj_lch_12 ?_
    refine lv_i2c hx hb dj_lch_13 (j_byt k hk i hi).1 ?_
    exact W.zret hx hb hr (j_byt k hk i hi).2 (fun t ht hW => ⟨rfl, ht⟩) hS1.2.2 dj_lch_14
set_option maxHeartbeats 4000000 in
theorem j_len (l : Launch) (base : Nat) (sa sv : Nat → Nat) {k : Nat} (hk : k < 5) : Met l yj_len (.code yj_len prog_17_method_54_code 1 (some .int) :: pm_tbl) (jRm 1 20) (jPc base sa sv [.ref (sa k)]) (jQc (some (.int (nI (pm_wd k).length)))) 0 0 (pm_A base) := by
  have hn := j_lens k hk
  refine Met.ofW (cc := prog_17_method_54_code) (maxL := 1) (ret := some .int) (by decide) rfl ?_
  intro p e s m args below meth c s₁ B hml hv
  obtain ⟨rfl, hG⟩ := hv
  have hx := B.exec
  have hb := B.bytes
  have hr := B.returns
  have hts0 := atoms_spec (ws := .code yj_len prog_17_method_54_code 1 (some .int) :: pm_tbl) B.pre
  have hts : ∀ w ∈ pm_tbl, w.before _ s = true := fun w hw => hts0 w (List.mem_cons_of_mem _ hw)
  have hown : s.vm.findClass "java/lang/String" = some m.cls := findClass_of_methodNamed B.named
  have hS : va_S (pm_A base) s.heap s.heap [] := va_S.rf
  have hl := lv_entry [.ref (sa k)] (n := 1) (Nat.le_of_ble_eq_true rfl)
  rw [lg_entry_eq]
  generalize (lg_sl [.ref (sa k)] ++ List.replicate (1 - (lg_sl [.ref (sa k)]).length) Slot.unset).toArray = ls at hl ⊢
  have hl : lv_has ls 1 [(0, .ref (sa k))] := hl
  refine lv_aload_n hx hb dj_len_0 rfl (lv_at hl 0 rfl) ?_
  refine vk_getf hx hb (hG.1.1 k hk).2.2.1 hS hown (hts _ kj_1372) (fun _ h => h) dj_len_1 ?_
  refine va_tlen hx hb (hG.1.1 k hk).2.2.2 hS (v := nI (pm_lens.getD k 0)) rfl dj_len_4 ?_
  refine lv_aload_n hx hb dj_len_5 rfl (lv_at hl 0 rfl) ?_
  refine j_fin (base := base) (v := some (.int 0)) (rest := [.int (nI (pm_lens.getD k 0))]) (va_runV (g := F0 m 6 ls [.ref (sa k), .int (nI (pm_lens.getD k 0))]) (As := []) (n := 0) (C := "java/lang/String") ⟨hx, hb, hml, hown, hts⟩ (j_cod l base sa sv hk) (cwV 0 hts (pm_gi (fun w hw => ?_)) rfl rfl rfl ⟨rfl, by decide, by decide, by decide +kernel⟩ ⟨Nat.le_of_ble_eq_true rfl, Nat.le_of_ble_eq_true rfl⟩) ⟨jPc.blind, vk_recv hG.1 hk hS, hG.pre⟩ rfl rfl hl.1 rfl (lv_room (Nat.le_of_ble_eq_true rfl)) dj_len_6 ⟨Nat.zero_le _, Nat.zero_le _⟩) hS (fun locs1 hS1 => ?_)
  · rcases List.mem_append.mp hw with h | h
    · simp only [List.mem_cons, List.not_mem_nil, or_false] at h
      rcases h with rfl | rfl | rfl | rfl
      · exact kj_387
      · exact kj_388
      · exact kj_389
      · exact kj_14
    · rcases List.mem_cons.mp h with rfl | h
      · exact kj_390
      · exact h
  · refine lv_ishr hx hb dj_len_9 ?_
    rw [sc_shr0 hn.2, hn.1]
    exact W.zret hx hb hr rfl (fun t ht hW => ⟨rfl, ht⟩) hS1.2.2 dj_len_10
set_option maxHeartbeats 4000000 in
theorem j_chr (l : Launch) (base : Nat) (sa sv : Nat → Nat) {k i : Nat} (hk : k < 5) (hi : i < (pm_wd k).length) : Met l yj_chr (.code yj_chr prog_17_method_56_code 2 (some .char) :: pm_tbl) (jRm 3 64) (jPc base sa sv [.ref (sa k), .int (nI i)]) (jQc (some (.int ((pm_wd k).getD i 0)))) 0 0 (pm_A base) := by
  have hn := j_lens k hk
  have hi' : i < pm_lens.getD k 0 := by rw [hn.1]; exact hi
  refine Met.ofW (cc := prog_17_method_56_code) (maxL := 2) (ret := some .char) (by decide) rfl ?_
  intro p e s m args below meth c s₁ B hml hv
  obtain ⟨rfl, hG⟩ := hv
  have hx := B.exec
  have hb := B.bytes
  have hr := B.returns
  have hts0 := atoms_spec (ws := .code yj_chr prog_17_method_56_code 2 (some .char) :: pm_tbl) B.pre
  have hts : ∀ w ∈ pm_tbl, w.before _ s = true := fun w hw => hts0 w (List.mem_cons_of_mem _ hw)
  have hown : s.vm.findClass "java/lang/String" = some m.cls := findClass_of_methodNamed B.named
  have hS : va_S (pm_A base) s.heap s.heap [] := va_S.rf
  have hl := lv_entry [.ref (sa k), .int (nI i)] (n := 2) (Nat.le_of_ble_eq_true rfl)
  rw [lg_entry_eq]
  generalize (lg_sl [.ref (sa k), .int (nI i)] ++ List.replicate (2 - (lg_sl [.ref (sa k), .int (nI i)]).length) Slot.unset).toArray = ls at hl ⊢
  have hl : lv_has ls 2 [(0, .ref (sa k)), (1, .int (nI i))] := hl
  refine lv_aload_n hx hb dj_chr_0 rfl (lv_at hl 0 rfl) ?_
  refine j_fin (base := base) (v := some (.int 1)) (rest := []) (va_runV (g := F0 m 1 ls [.ref (sa k)]) (As := []) (n := 0) (C := "java/lang/String") ⟨hx, hb, hml, hown, hts⟩ (j_lat l base sa sv hk) (cwV 0 hts (pm_gi (fun w hw => ?_)) rfl rfl rfl ⟨rfl, by decide, by decide, by decide +kernel⟩ ⟨Nat.le_of_ble_eq_true rfl, Nat.le_of_ble_eq_true rfl⟩) ⟨jPc.blind, vk_recv hG.1 hk hS, hG.pre⟩ rfl rfl hl.1 rfl (lv_room (Nat.le_of_ble_eq_true rfl)) dj_chr_1 ⟨Nat.zero_le _, Nat.zero_le _⟩) hS (fun locs1 hS1 => ?_)
  · rcases List.mem_append.mp hw with h | h
    · simp only [List.mem_cons, List.not_mem_nil, or_false] at h
      rcases h with rfl | rfl | rfl | rfl
      · exact kj_397
      · exact kj_398
      · exact kj_399
      · exact kj_14
    · rcases List.mem_cons.mp h with rfl | h
      · exact kj_400
      · exact h
  · refine lv_if_eq (tgt := 16) hx hb dj_chr_4 rfl (fun h => absurd h (by decide)) (fun _ => ?_)
    refine lv_aload_n hx hb dj_chr_7 rfl (lv_at hl 0 rfl) ?_
    refine vk_getf hx hb (hG.1.1 k hk).2.2.1 hS1 hown (hts _ kj_1372) (fun _ h => h) dj_chr_8 ?_
    refine lv_iload_n hx hb dj_chr_11 rfl (lv_at hl 1 rfl) ?_
    refine j_fin (base := base) (v := some (.int ((pm_wd k).getD i 0))) (rest := []) (va_runS (g := F0 m 12 ls [.int (nI i), .ref (sv k)]) (As := [.ref (sv k), .int (nI i)]) (n := 2) ⟨hx, hb, hml, hown, hts⟩ (j_lch l base sa sv hk hi') (va_cwS 2 hts (pm_gi (fun w hw => ?_)) rfl rfl rfl ⟨by decide, by decide, by decide +kernel⟩ ⟨Nat.le_of_ble_eq_true rfl, Nat.le_of_ble_eq_true rfl⟩) ⟨jPc.blind, hG.pre⟩ rfl rfl hl.1 rfl (lv_room (Nat.le_of_ble_eq_true rfl)) dj_chr_12 ⟨Nat.zero_le _, Nat.zero_le _⟩) hS1 (fun locs2 hS2 => ?_)
    · rcases List.mem_append.mp hw with h | h
      · simp only [List.mem_cons, List.not_mem_nil, or_false] at h
        rcases h with rfl | rfl | rfl
        · exact kj_401
        · exact kj_402
        · exact kj_15
      · rcases List.mem_cons.mp h with rfl | h
        · exact kj_403
        · exact h
    · exact W.zret hx hb hr (j_byt k hk i hi').2 (fun t ht hW => ⟨rfl, ht⟩) hS2.2.2 dj_chr_15
