/-! ===== new cells ===== -/
theorem k_acI : Jvm.Cond.arrayClass .int ∈ pm_tbl := pm_mem 77 (by decide +kernel) rfl
theorem k_acB : Jvm.Cond.arrayClass .byte ∈ pm_tbl := pm_mem 61 (by decide +kernel) rfl
theorem k_acZ : Jvm.Cond.arrayClass .boolean ∈ pm_tbl := pm_mem 60 (by decide +kernel) rfl
theorem k_ini_of : ∀ c, c < 13 → Jvm.Cond.initialized (k_cn c) ∈ pm_tbl := by
  intro c h
  match c, h with
  | 0, _ => exact k_ini0
  | 1, _ => exact k_ini1
  | 2, _ => exact k_ini2
  | 3, _ => exact k_ini3
  | 4, _ => exact k_ini4
  | 5, _ => exact k_ini5
  | 6, _ => exact k_ini6
  | 7, _ => exact k_ini7
  | 8, _ => exact k_ini8
  | 9, _ => exact k_ini9
  | 10, _ => exact k_ini10
  | 11, _ => exact k_ini11
  | 12, _ => exact k_ini12
  | c + 13, h => omega
section SIM4
variable {l : Launch} {D : va_G} {cy : Nat → ClassId} {base b : Nat} {sa sv : Nat → Nat} {p : Program} {e : Env} {R : Room} {s : State} {m : MethodId} {args : Array Value} {below : List Frame} {meth : Method} {c : Code} {Q : State → Prop} {z0 nE zE d : Nat}
variable {g : Nat → Prop} {C : Nat → List Value → pm_M → Option Value → pm_M → Prop} {E : Option Value → pm_M → Prop} {q : pm_D} {K : Nat → pm_L → List Value → pm_M → Prop}
variable {pc : Nat} {ls : pm_L} {st : List Value} {mem mem' : pm_M} {H H1 : Heap} {locs locs1 : List Loc} {cells slots : Nat} {Ls : Array Slot}
theorem pm_ws_more {n : Nat} (hn : mem'.1.1 = mem.1.1 + n) (ho : ∀ j, 1 ≤ j → j ≤ mem.1.1 → pm_e base b sa cy mem' j = pm_e base b sa cy mem j) : pm_ws base b sa cy mem' = pm_ws base b sa cy mem ++ (List.range n).map (fun i => (pm_ad base b sa (mem.1.1 + i + 1), pm_e base b sa cy mem' (mem.1.1 + i + 1))) := by
  unfold pm_ws
  rw [hn, List.range_add, List.map_append, List.map_map]
  congr 1
  apply List.map_congr_left
  intro k hk
  rw [ho (k + 1) (by omega) (by have := List.mem_range.mp hk; omega)]
theorem pm_new_old {t len j : Nat} (h2 : j ≤ mem.1.1) : pm_e base b sa cy (pm_new mem t len) j = pm_e base b sa cy mem j := by
  have hP : pm_P (fun _ => False) mem (pm_new mem t len) := pm_P.new
  have h3 := hP.2.2.2.2 j h2 id
  exact pm_e_congr (hP.2.2.1 j h2) h3.1 h3.2.1 h3.2.2
theorem pm_new_tag {t len : Nat} : (pm_new mem t len).1.2.2 (mem.1.1 + 1) = (t, len) := if_pos rfl
theorem pm_new_i {t len i : Nat} : (pm_new mem t len).2.1 (mem.1.1 + 1) i = 0 := pm_z_in ⟨Nat.le_refl _, by omega⟩
theorem pm_new_l {t len i : Nat} : (pm_new mem t len).2.2.1 (mem.1.1 + 1) i = 0 := pm_z_in ⟨Nat.le_refl _, by omega⟩
theorem pm_new_r {t len i : Nat} : (pm_new mem t len).2.2.2 (mem.1.1 + 1) i = none := pm_z_in ⟨Nat.le_refl _, by omega⟩
theorem pm_new_0 {t len : Nat} : (pm_new mem t len).1.2.2 0 = mem.1.2.2 0 ∧ (pm_new mem t len).2.1 0 = mem.2.1 0 := by
  have hP : pm_P (fun _ => False) mem (pm_new mem t len) := pm_P.new
  exact ⟨hP.2.2.1 0 (Nat.zero_le _), hP.2.2.2.1⟩
/-- behind a new cell -/
theorem pm_new_go {t len : Nat} {r : List Value} {pc' : Nat} (hK : pm_KW l D cy base b sa sv p e R s m args below meth c Q z0 q.2.2.2.1 K) (hR : pm_Rel D cy base b sa sv s z0 q.2.2.2.1 H locs cells slots Ls ls mem) (hz : H.size = base + mem.1.1) (hn : mem.1.1 + 2 < 1000000) (h : K pc' ls (.ref (mem.1.1 + 1) :: r) (pm_new mem t len))
    (he : va_at D k_cl (H.size, pm_e base b sa cy (pm_new mem t len) (mem.1.1 + 1)) H1) (hz1 : H1.size = H.size + 1) (ho : ∀ x, x < H.size → H1[x]? = H[x]?) : W p l e R s m args below meth c H1 locs (cells + 1) (slots + len) Q (F0 m pc' Ls (.ref H.size :: r.map (pm_v base b sa))) := by
  have had : pm_ad base b sa (mem.1.1 + 1) = H.size := by rw [pm_ad_in (by omega) (by omega), hz]; rfl
  have hP1 : va_P D k_cl (pm_ws base b sa cy (pm_new mem t len)) H1 := by
    rw [pm_ws_more (mem := mem) (n := 1) rfl (fun j _ hj => pm_new_old hj)]
    refine (hR.1.2.1.kept (fun k x hx => ho x.1 (hR.1.2.1 k x hx).lt)).app (fun k x hx => ?_)
    have hk0 : k < 1 := (List.getElem?_eq_some_iff.mp hx).1
    rw [show k = 0 by omega] at hx
    cases hx
    show va_at D k_cl (pm_ad base b sa (mem.1.1 + 0 + 1), pm_e base b sa cy (pm_new mem t len) (mem.1.1 + 0 + 1)) H1
    rw [Nat.add_zero, had]
    exact he
  have hS1 : va_S (pm_A base) s.heap H1 locs := ⟨Nat.le_trans hR.2.1.1 (by omega), fun x h1 h2 => (ho x (Nat.lt_of_lt_of_le h1 hR.2.1.1)).trans (hR.2.1.2.1 x h1 h2), hR.2.1.2.2⟩
  have h3 := hK _ _ _ _ H1 locs (cells + 1) (slots + len) Ls h ⟨hR.1.put hR.2.1 hS1 hR.2.2.1.1 hP1 (show mem.1.1 + 1 < 999999 by omega) pm_new_0.1 pm_new_0.2, hS1, ⟨hR.2.2.1.1, ?_⟩, ?_, hR.2.2.2.2⟩
  · simp only [List.map_cons, pm_v_ref, had] at h3
    exact h3
  · have := hR.2.2.1.2
    show base + (mem.1.1 + 1) = _
    omega
  · have := hR.2.2.2.1
    show z0 + (slots + len) = mem.1.2.1 + len
    omega
theorem pm_def (t j : Nat) (ht : t < 13) (hj : j < k_nf t) (mem1 : pm_M) (k : Nat) (h1 : mem1.2.1 k j = 0) (h2 : mem1.2.2.1 k j = 0) (h3 : mem1.2.2.2 k j = none) : defaultValue (k_ty t j) = pm_v base b sa (pm_fv mem1 k (k_fc t j) j) := by
  have key := k_fc2 t ht j hj
  unfold pm_fv
  split
  · rename_i hc
    have hty : k_ty t j = .int := by
      unfold k_fc at hc
      split at hc <;> first | assumption | cases hc
    rw [hty, h1]
    rfl
  · rename_i hc
    have hty : k_ty t j = .long := by
      unfold k_fc at hc
      split at hc <;> first | assumption | cases hc
    rw [hty, h2]
    rfl
  · rename_i hc0 hc1
    have hc : k_fc t j = 2 := by
      unfold k_fc at hc0 hc1 ⊢
      split <;> first | rfl | (exfalso; simp_all)
    have := key hc
    rw [h3]
    unfold k_isr at this
    split at this
    · rename_i h9; rw [h9]; rfl
    · rename_i h9; rw [h9]; rfl
    · cases this
theorem pm_more (hRm : pm_Rm base nE zE z0 d s R) (hR : pm_Rel D cy base b sa sv s z0 q.2.2.2.1 H locs cells slots Ls ls mem) (hb : mem'.1.1 ≤ nE ∧ mem'.1.2.1 ≤ zE) (h1 : mem.1.1 ≤ mem'.1.1) (h2 : mem.1.2.1 ≤ mem'.1.2.1) : cells + (mem'.1.1 - mem.1.1) ≤ R.cells ∧ slots + (mem'.1.2.1 - mem.1.2.1) ≤ R.slots := by
  have h3 := hR.2.2.1.2
  have h4 := hR.2.2.2.1
  obtain ⟨-, -, h5, h6⟩ := hRm
  omega
theorem sm_new {i : Nat} (F : pm_fix q D cy sa p s m args meth c) (hK : pm_KW l D cy base b sa sv p e R s m args below meth c Q z0 q.2.2.2.1 K) (hKb : ∀ pc ls st mem, K pc ls st mem → mem.1.1 ≤ nE ∧ mem.1.2.1 ≤ zE) (hRm : pm_Rm base nE zE z0 d s R) (h : pm_ex g C E q K pc ls st mem (.new i)) (hR : pm_Rel D cy base b sa sv s z0 q.2.2.2.1 H locs cells slots Ls ls mem) (hdg : decode q.2.2.1 pc = .ok (.new i, 3)) : W p l e R s m args below meth c H locs cells slots Q (F0 m pc Ls (st.map (pm_v base b sa))) := by
  obtain ⟨hx, hb, hml, hown, hts, hnm, hk⟩ := F
  obtain ⟨t, hw, ht, hn, h⟩ := h
  obtain ⟨r, hcl⟩ : ∃ r, k_cl[t]? = some r := ⟨_, List.getElem?_eq_getElem (by simpa [k_cl] using ht)⟩
  obtain ⟨o1, o2, o3, o4, o5, o6, o7, o8, o9⟩ := k_cl_ok _ _ hcl
  have hlk := k_nw_ok _ hw
  have hkan : k_an t = r.1 := by
    rw [o6]
    match t, ht with
    | 0, _ => rfl
    | 1, _ => rfl
    | 2, _ => rfl
    | 3, _ => rfl
    | 4, _ => rfl
    | 5, _ => rfl
    | 6, _ => rfl
    | 7, _ => rfl
    | 8, _ => rfl
    | 9, _ => rfl
    | 10, _ => rfl
    | 11, _ => rfl
    | 12, _ => rfl
    | t + 13, h => omega
  dsimp only at hlk
  rw [hkan] at hlk
  have hKn := hk.1.1 t r hcl
  have hini : Jvm.Cond.initialized r.1 ∈ pm_tbl := by rw [o6]; exact k_ini_of t ht
  have hbd := pm_more hRm hR (hKb _ _ _ _ h) (Nat.le_succ _) (Nat.le_add_right _ _)
  have e1 : (pm_new mem t (k_nf t)).1.1 - mem.1.1 = 1 := by show mem.1.1 + 1 - mem.1.1 = 1; omega
  have e2 : (pm_new mem t (k_nf t)).1.2.1 - mem.1.2.1 = k_nf t := by show mem.1.2.1 + k_nf t - mem.1.2.1 = _; omega
  rw [e1, e2] at hbd
  refine W.sized (fun hsz => ?_)
  have hz := hR.size hsz
  refine W.newcK (g := F0 m pc Ls (st.map (pm_v base b sa))) (n := k_nf t) hx hb hown (hts _ hlk) (hts _ (by rw [← o4]; exact o9)) (hts _ hini) rfl hdg hbd.1 hbd.2 hKn.2.1 rfl fun H1 kC hkC e1 z1 o1' => ?_
  refine pm_new_go hK hR hz hn h ?_ z1 o1'
  rw [pm_e_obj (mem := pm_new mem t (k_nf t)) (t := t) (by rw [pm_new_tag]) (by omega)]
  refine ⟨r, hcl, (u_born (k_ty t) hts o1 hKn hkC e1 o2).to (fun j hj => ?_)⟩
  have hj2 : j < k_nf t := by rw [← o4]; exact hj
  show _ = vp_V (pm_fs base b sa (pm_new mem t (k_nf t)) (mem.1.1 + 1) t) j
  unfold vp_V
  rw [List.getD_eq_getElem?_getD, pm_fs_get hj2]
  exact pm_def t j ht hj2 _ _ pm_new_i pm_new_l pm_new_r
theorem pm_atag_ok {t : ArrayType} {tg : Nat} (h : pm_atag t = some tg) : 20 ≤ tg ∧ tg < 23 ∧ Jvm.Cond.arrayClass (newarray.typeOf t) ∈ pm_tbl ∧ (pm_T cy)[tg - 20]? = some (cy (tg - 20), newarray.typeOf t) ∧ defaultValue (newarray.typeOf t) = .int 0 ∧ componentBytes (newarray.typeOf t) ≤ 4 ∧ ∀ (U : State) (cA : ClassId), va_RA U cA (newarray.typeOf t) → U.vm.findClass ("[" ++ (newarray.typeOf t).toString) = some cA := by
  cases t <;> first | (cases h; done) | skip
  · cases h
    exact ⟨by decide, by decide, k_acZ, rfl, rfl, by decide, fun U cA h => h⟩
  · cases h
    exact ⟨by decide, by decide, k_acB, rfl, rfl, by decide, fun U cA h => h⟩
  · cases h
    exact ⟨by decide, by decide, k_acI, rfl, rfl, by decide, fun U cA h => h⟩
theorem sm_newarray {t : ArrayType} (F : pm_fix q D cy sa p s m args meth c) (hK : pm_KW l D cy base b sa sv p e R s m args below meth c Q z0 q.2.2.2.1 K) (hKb : ∀ pc ls st mem, K pc ls st mem → mem.1.1 ≤ nE ∧ mem.1.2.1 ≤ zE) (hRm : pm_Rm base nE zE z0 d s R) (h : pm_ex g C E q K pc ls st mem (.newarray t)) (hR : pm_Rel D cy base b sa sv s z0 q.2.2.2.1 H locs cells slots Ls ls mem) (hdg : decode q.2.2.1 pc = .ok (.newarray t, 2)) : W p l e R s m args below meth c H locs cells slots Q (F0 m pc Ls (st.map (pm_v base b sa))) := by
  obtain ⟨hx, hb, hml, hown, hts, hnm, hk⟩ := F
  obtain ⟨x, r, tg, rfl, hx0, hxm, ht, hn, h⟩ := h
  obtain ⟨t1, t2, t3, t4, t5, t6, t7⟩ := pm_atag_ok (cy := cy) ht
  have hbd := pm_more hRm hR (hKb _ _ _ _ h) (Nat.le_succ _) (Nat.le_add_right _ _)
  have e1 : (pm_new mem tg x.toNatClampNeg).1.1 - mem.1.1 = 1 := by show mem.1.1 + 1 - mem.1.1 = 1; omega
  have e2 : (pm_new mem tg x.toNatClampNeg).1.2.1 - mem.1.2.1 = x.toNatClampNeg := by show mem.1.2.1 + x.toNatClampNeg - mem.1.2.1 = _; omega
  rw [e1, e2] at hbd
  refine W.sized (fun hsz => ?_)
  have hz := hR.size hsz
  refine va_newaK (g := F0 m pc Ls _) hx hb (hts _ t3) rfl hdg rfl hx0 rfl (Nat.le_trans (Nat.mul_le_mul hxm t6) (by decide)) hbd.1 hbd.2 rfl fun H1 cA e1 z1 o1 hAr hNm => ?_
  have hcA : cA = cy (tg - 20) := Option.some.inj (hNm.symm.trans (t7 _ _ (hk.1.2 _ _ t4).2))
  refine pm_new_go hK hR hz hn h ?_ z1 o1
  rw [pm_e_int (mem := pm_new mem tg x.toNatClampNeg) (t := tg) (by rw [pm_new_tag]) t1 t2]
  show H1[H.size]? = some (vp_cell (cy (tg - 20)) (_, Sum.inl _))
  rw [vp_cell_i, e1, hcA, pm_new_tag, t5]
  congr 2
  funext j
  rw [pm_new_i]
theorem sm_anewarray {i : Nat} (F : pm_fix q D cy sa p s m args meth c) (hK : pm_KW l D cy base b sa sv p e R s m args below meth c Q z0 q.2.2.2.1 K) (hKb : ∀ pc ls st mem, K pc ls st mem → mem.1.1 ≤ nE ∧ mem.1.2.1 ≤ zE) (hRm : pm_Rm base nE zE z0 d s R) (h : pm_ex g C E q K pc ls st mem (.anewarray i)) (hR : pm_Rel D cy base b sa sv s z0 q.2.2.2.1 H locs cells slots Ls ls mem) (hdg : decode q.2.2.1 pc = .ok (.anewarray i, 3)) : W p l e R s m args below meth c H locs cells slots Q (F0 m pc Ls (st.map (pm_v base b sa))) := by
  obtain ⟨hx, hb, hml, hown, hts, hnm, hk⟩ := F
  obtain ⟨x, r, tg, rfl, hx0, hxm, hw, t1, t2, hn, h⟩ := h
  obtain ⟨ty, y1, y2, y3⟩ := pm_T_ref (cy := cy) t1 (show tg ≤ 27 by omega)
  have y3 := y3 t2
  subst y3
  have hlk := k_nw_ok _ hw
  have hbd := pm_more hRm hR (hKb _ _ _ _ h) (Nat.le_succ _) (Nat.le_add_right _ _)
  have e1 : (pm_new mem tg x.toNatClampNeg).1.1 - mem.1.1 = 1 := by show mem.1.1 + 1 - mem.1.1 = 1; omega
  have e2 : (pm_new mem tg x.toNatClampNeg).1.2.1 - mem.1.2.1 = x.toNatClampNeg := by show mem.1.2.1 + x.toNatClampNeg - mem.1.2.1 = _; omega
  rw [e1, e2] at hbd
  refine W.sized (fun hsz => ?_)
  have hz := hR.size hsz
  refine W.anew (g := F0 m pc Ls _) hx hb hown (hts _ hlk) (va_AO.use (hk.2.2.2.1 tg t1 t2)) rfl hdg rfl hx0 (Nat.le_trans (Nat.mul_le_mul_right 4 hxm) (by decide)) hbd.1 hbd.2 fun cA kA comp f1 f2 f3 f4 => ?_
  generalize hH1 : H.push ({ cls := cA, slots := Array.replicate x.toNatClampNeg .null, vm := .none } : Cell) = H1
  have z1 : H1.size = H.size + 1 := by rw [← hH1, Array.size_push]
  have e1 : H1[H.size]? = some (arrV cA x.toNatClampNeg (fun _ => .null)) := by rw [← hH1, Array.getElem?_push_size, ← arrV_new]
  have o1 : ∀ q : Nat, q < H.size → H1[q]? = H[q]? := fun q hq => by rw [← hH1, Array.getElem?_push, if_neg (Nat.ne_of_lt hq)]
  obtain ⟨kA2, comp2, g1, g2, g3, g4⟩ := (hk.1.2 _ _ y1).2
  have hcA : cA = cy (tg - 20) := Option.some.inj (f1.symm.trans g4)
  refine pm_new_go hK hR hz hn h ?_ z1 o1
  rw [pm_e_ref (mem := pm_new mem tg x.toNatClampNeg) (t := tg) (by rw [pm_new_tag]) t1]
  show H1[H.size]? = some (vp_cell (cy (tg - 20)) (_, Sum.inr (Sum.inr (Sum.inr (Sum.inr _)))))
  rw [vp_cell_q, e1, hcA, pm_new_tag]
  congr 2
  funext j
  rw [pm_new_r]
  rfl
end SIM4
