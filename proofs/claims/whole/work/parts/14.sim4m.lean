/-! ===== new int[m][n] ===== -/
theorem pm_s27 : k_an 27 = "[" ++ (FieldType.array .int).toString := by decide +kernel
theorem pm_s0 : (FieldType.array .int).toString = "[" ++ FieldType.int.toString := by decide +kernel
section SIM4M
variable {l : Launch} {D : va_G} {cy : Nat → ClassId} {base b : Nat} {sa sv : Nat → Nat} {p : Program} {e : Env} {R : Room} {s : State} {m : MethodId} {args : Array Value} {below : List Frame} {meth : Method} {c : Code} {Q : State → Prop} {z0 nE zE d : Nat}
variable {g : Nat → Prop} {C : Nat → List Value → pm_M → Option Value → pm_M → Prop} {E : Option Value → pm_M → Prop} {q : pm_D} {K : Nat → pm_L → List Value → pm_M → Prop}
variable {pc : Nat} {ls : pm_L} {st : List Value} {mem mem' : pm_M} {H H1 : Heap} {locs locs1 : List Loc} {cells slots : Nat} {Ls : Array Slot}
theorem pm_new2_old {x y j : Nat} (h2 : j ≤ mem.1.1) : pm_e base b sa cy (pm_new2 mem x y) j = pm_e base b sa cy mem j := by
  have hP : pm_P (fun _ => False) mem (pm_new2 mem x y) := pm_P.new2
  have h3 := hP.2.2.2.2 j h2 id
  exact pm_e_congr (hP.2.2.1 j h2) h3.1 h3.2.1 h3.2.2
theorem sm_mnew {i dd : Nat} (F : pm_fix q D cy sa p s m args meth c) (hK : pm_KW l D cy base b sa sv p e R s m args below meth c Q z0 q.2.2.2.1 K) (hKb : ∀ pc ls st mem, K pc ls st mem → mem.1.1 ≤ nE ∧ mem.1.2.1 ≤ zE) (hRm : pm_Rm base nE zE z0 d s R) (h : pm_ex g C E q K pc ls st mem (.multianewarray i dd)) (hR : pm_Rel D cy base b sa sv s z0 q.2.2.2.1 H locs cells slots Ls ls mem) (hdg : decode q.2.2.1 pc = .ok (.multianewarray i dd, 4)) : W p l e R s m args below meth c H locs cells slots Q (F0 m pc Ls (st.map (pm_v base b sa))) := by
  obtain ⟨hx, hb, hml, hown, hts, hnm, hk⟩ := F
  obtain ⟨x, y, r, rfl, rfl, hx0, hy0, hxm, hym, hw, hn, h⟩ := h
  have hlk : Jvm.Cond.classLink (k_cn q.2.1) i (k_an 27) ∈ pm_tbl := k_nw_ok _ hw
  rw [pm_s27] at hlk
  have hbd := pm_more hRm hR (hKb _ _ _ _ h) (Nat.le_add_right _ _) (Nat.le_add_right _ _)
  have e1 : (pm_new2 mem x.toNatClampNeg y.toNatClampNeg).1.1 - mem.1.1 = 1 + x.toNatClampNeg := by show mem.1.1 + (1 + x.toNatClampNeg) - mem.1.1 = _; omega
  have e2 : (pm_new2 mem x.toNatClampNeg y.toNatClampNeg).1.2.1 - mem.1.2.1 = x.toNatClampNeg + x.toNatClampNeg * y.toNatClampNeg := by show mem.1.2.1 + (x.toNatClampNeg + x.toNatClampNeg * y.toNatClampNeg) - mem.1.2.1 = _; omega
  rw [e1, e2] at hbd
  refine W.sized (fun hsz => ?_)
  have hz := hR.size hsz
  intro T hT Xs
  obtain ⟨vm₁, cA, comp, fA, fC, X', step⟩ := mw_instr Xs hx hown (hts _ hlk) (show (Jvm.Cond.arrayOver (.array .int)).before args s = true from hk.2.2.2.2.1) (hts _ k_acI) (g := F0 m pc Ls (.int y :: .int x :: r.map (pm_v base b sa))) rfl (by rw [hb]; exact hdg) rfl hx0 hy0 hxm hym hbd.1 hbd.2
  have hcA : cA = cy 7 := Option.some.inj (fA.symm.trans (hk.1.2 7 (cy 7, .array .int) rfl).2)
  rw [pm_s0] at fC
  have hcC : comp = cy 0 := Option.some.inj (fC.symm.trans (hk.1.2 0 (cy 0, .int) rfl).2)
  subst hcA
  subst hcC
  generalize hF : mw_st (T.setVm vm₁) (cy 7) (cy 0) x.toNatClampNeg y.toNatClampNeg x.toNatClampNeg = G at X' step
  have hTh : (T.setVm vm₁).heap = H := hT
  have f1 := mw_size (U := T.setVm vm₁) (c := cy 7) (q := cy 0) (N := x.toNatClampNeg) (M := y.toNatClampNeg) (i := x.toNatClampNeg)
  have f2 := mw_out (U := T.setVm vm₁) (c := cy 7) (q := cy 0) (N := x.toNatClampNeg) (M := y.toNatClampNeg) (i := x.toNatClampNeg)
  rw [hF, hTh] at f1 f2
  have hold : ∀ a : Nat, a < H.size → G.heap[a]? = H[a]? := fun a ha => by
    have := mw_old (U := T.setVm vm₁) (c := cy 7) (q := cy 0) (N := x.toNatClampNeg) (M := y.toNatClampNeg) (i := x.toNatClampNeg) (a := a) (by rw [hTh]; exact ha)
    rw [hF, hTh] at this
    exact this
  have hrow : ∀ j : Nat, j < x.toNatClampNeg → G.heap[H.size + 1 + j]? = some (mw_r (cy 0) y.toNatClampNeg) := fun j hj => by
    have := mw_in (U := T.setVm vm₁) (c := cy 7) (q := cy 0) (N := x.toNatClampNeg) (M := y.toNatClampNeg) hj
    rw [hF, hTh] at this
    exact this
  have hadj : ∀ j : Nat, j ≤ x.toNatClampNeg → pm_ad base b sa (mem.1.1 + 1 + j) = H.size + j := fun j hj => by
    rw [pm_ad_in (by omega) (by omega), hz]
    omega
  have hP1 : va_P D k_cl (pm_ws base b sa cy (pm_new2 mem x.toNatClampNeg y.toNatClampNeg)) G.heap := by
    rw [pm_ws_more (mem := mem) (n := 1 + x.toNatClampNeg) rfl (fun j _ hj => pm_new2_old hj)]
    refine (hR.1.2.1.kept (fun k a ha => hold a.1 (hR.1.2.1 k a ha).lt)).app (fun k a ha => ?_)
    rw [List.getElem?_map] at ha
    have hk1 : k < 1 + x.toNatClampNeg := by
      rcases Nat.lt_or_ge k (1 + x.toNatClampNeg) with z | z
      · exact z
      · rw [List.getElem?_eq_none (by rw [List.length_range]; exact z)] at ha
        cases ha
    rw [List.getElem?_range hk1] at ha
    cases ha
    show va_at D k_cl (pm_ad base b sa (mem.1.1 + k + 1), pm_e base b sa cy (pm_new2 mem x.toNatClampNeg y.toNatClampNeg) (mem.1.1 + k + 1)) G.heap
    rw [Nat.add_right_comm, hadj k (by omega)]
    rcases Nat.eq_zero_or_pos k with h0 | h0
    · subst h0
      have htg : (pm_new2 mem x.toNatClampNeg y.toNatClampNeg).1.2.2 (mem.1.1 + 1 + 0) = (27, x.toNatClampNeg) := if_pos rfl
      rw [pm_e_ref (t := 27) (by rw [htg]) (by decide), htg]
      show G.heap[H.size]? = some (vp_cell (cy 7) (_, Sum.inr (Sum.inr (Sum.inr (Sum.inr _)))))
      rw [vp_cell_q, f2, mw_o]
      congr 2
      funext j
      by_cases hj : j < x.toNatClampNeg
      · have e3 : (pm_new2 mem x.toNatClampNeg y.toNatClampNeg).2.2.2 (mem.1.1 + 1 + 0) j = some (mem.1.1 + 1 + 1 + j) := if_pos ⟨rfl, hj⟩
        rw [if_pos hj, e3]
        show _ = va_rf (some (pm_ad base b sa (mem.1.1 + 1 + 1 + j)))
        rw [Nat.add_assoc (mem.1.1 + 1) 1 j, hadj (1 + j) (by omega), Nat.add_assoc]
      · have e3 : (pm_new2 mem x.toNatClampNeg y.toNatClampNeg).2.2.2 (mem.1.1 + 1 + 0) j = none := by
          show pm_zr _ _ _ _ _ _ _ = _
          unfold pm_zr
          rw [if_neg (fun z => hj z.2), if_pos (by omega)]
        rw [if_neg hj, e3]
        rfl
    · have htg : (pm_new2 mem x.toNatClampNeg y.toNatClampNeg).1.2.2 (mem.1.1 + 1 + k) = (20, y.toNatClampNeg) := by
        show (if _ then _ else if _ then _ else _) = _
        rw [if_neg (by omega), if_pos (by omega)]
      rw [pm_e_int (t := 20) (by rw [htg]) (by decide) (by decide), htg]
      show G.heap[H.size + k]? = some (vp_cell (cy 0) (_, Sum.inl _))
      have h7 := hrow (k - 1) (by omega)
      rw [show H.size + 1 + (k - 1) = H.size + k by omega] at h7
      rw [vp_cell_i, h7]
      show some ({ cls := cy 0, slots := Array.replicate y.toNatClampNeg (.int 0), vm := .none } : Cell) = _
      rw [arrV_new]
      congr 2
      funext j
      have e3 : (pm_new2 mem x.toNatClampNeg y.toNatClampNeg).2.1 (mem.1.1 + 1 + k) j = 0 := pm_z_in (f := mem.2.1) ⟨by omega, by omega⟩
      rw [e3]
  have hS1 : va_S (pm_A base) s.heap G.heap locs := ⟨Nat.le_trans hR.2.1.1 (by omega), fun a h1 h2 => (hold a (Nat.lt_of_lt_of_le h1 hR.2.1.1)).trans (hR.2.1.2.1 a h1 h2), hR.2.1.2.2⟩
  have hP0 : pm_P (fun _ => False) mem (pm_new2 mem x.toNatClampNeg y.toNatClampNeg) := pm_P.new2
  have h3 := hK _ _ _ _ G.heap locs (cells + 1 + x.toNatClampNeg) (slots + x.toNatClampNeg + x.toNatClampNeg * y.toNatClampNeg) Ls h ⟨hR.1.put hR.2.1 hS1 hR.2.2.1.1 hP1 (show mem.1.1 + (1 + x.toNatClampNeg) < 999999 by omega) (hP0.2.2.1 0 (Nat.zero_le _)) hP0.2.2.2.1, hS1, ⟨hR.2.2.1.1, by
    have := hR.2.2.1.2
    show base + (mem.1.1 + (1 + x.toNatClampNeg)) = _
    omega⟩, by
    have := hR.2.2.2.1
    show z0 + _ = mem.1.2.1 + (x.toNatClampNeg + x.toNatClampNeg * y.toNatClampNeg)
    omega, hR.2.2.2.2⟩
  simp only [List.map_cons, pm_v_ref] at h3
  have hadn : pm_ad base b sa (mem.1.1 + 1) = T.heap.size := by
    have := hadj 0 (Nat.zero_le _)
    rw [hT]
    exact this
  rw [hadn] at h3
  obtain ⟨t2, a1, b1⟩ := h3 G rfl X'
  exact ⟨t2, step t2 a1, b1⟩
end SIM4M
