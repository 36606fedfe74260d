/-! ===== stores of references, copies, Math, Object's own constructor, new cells ===== -/
def pm_Rm (base nE zE z0 d : Nat) (s : State) (R : Room) : Prop := d + 1 ≤ R.frames ∧ 1000 * d + 1000 ≤ R.locals ∧ base + nE ≤ s.heap.size + R.cells ∧ zE ≤ z0 + R.slots
section SIM3
variable {l : Launch} {D : va_G} {cy : Nat → ClassId} {base b : Nat} {sa sv : Nat → Nat} {p : Program} {e : Env} {R : Room} {s : State} {m : MethodId} {args : Array Value} {below : List Frame} {meth : Method} {c : Code} {Q : State → Prop} {z0 nE zE d : Nat}
variable {g : Nat → Prop} {C : Nat → List Value → pm_M → Option Value → pm_M → Prop} {E : Option Value → pm_M → Prop} {q : pm_D} {K : Nat → pm_L → List Value → pm_M → Prop}
variable {pc : Nat} {ls : pm_L} {st : List Value} {mem mem' : pm_M} {H H1 : Heap} {locs locs1 : List Loc} {cells slots : Nat} {Ls : Array Slot}
theorem W.sized {gf : JFrame} (kk : H.size ≤ s.heap.size + cells → W p l e R s m args below meth c H locs cells slots Q gf) : W p l e R s m args below meth c H locs cells slots Q gf := fun T hT X => kk (by rw [← hT]; exact X.heapSize) T hT X
/-- the heap is just as large as the memory says -/
theorem pm_Rel.size (hR : pm_Rel D cy base b sa sv s z0 q.2.2.2.1 H locs cells slots Ls ls mem) (h : H.size ≤ s.heap.size + cells) : H.size = base + mem.1.1 := by
  have hn := hR.1.1
  have h3 := hR.2.2.1.2
  rcases Nat.eq_zero_or_pos mem.1.1 with h0 | h0
  · have := hR.2.1.1
    have := hR.2.2.1.1
    omega
  · have h4 := (hR.1.2.1 _ _ (pm_ws_get (base := base) (b := b) (sa := sa) (cy := cy) h0 (Nat.le_refl _))).lt
    simp only [pm_ad_in (base := base) (b := b) (sa := sa) h0 (show mem.1.1 < 1000000 by omega)] at h4
    omega
theorem sm_objInit {i : Nat} (F : pm_fix q D cy sa p s m args meth c) (hK : pm_KW l D cy base b sa sv p e R s m args below meth c Q z0 q.2.2.2.1 K) (hRm : pm_Rm base nE zE z0 d s R) (hR : pm_Rel D cy base b sa sv s z0 q.2.2.2.1 H locs cells slots Ls ls mem) (hdg : decode q.2.2.1 pc = .ok (.invokespecial i, 3))
    (h : ∃ b r, st = .ref b :: r ∧ (q.2.1, i, 9, 0, 0, 0) ∈ k_cs ∧ (r.map fun v => v.category).sum ≤ 8 ∧ K (pc + 3) ls r mem) : W p l e R s m args below meth c H locs cells slots Q (F0 m pc Ls (st.map (pm_v base b sa))) := by
  obtain ⟨hx, hb, hml, hown, hts, hnm, hk⟩ := F
  obtain ⟨k, r, rfl, hc, hr, h⟩ := h
  obtain ⟨q0, -, -, hlk⟩ := k_cs_ok _ hc
  refine W.objInit (g := F0 m pc Ls _) (a := pm_ad base b sa k) (rest := r.map (pm_v base b sa)) hx hb hown (hts _ hlk) (hts _ kg_oi) (hts _ kg_ocode) rfl (by rw [hml]; exact hR.2.2.2.2.1) rfl hdg (Nat.le_trans (by omega) hRm.1) ?_ ?_
  · have := lv_room (m := m) (pc := pc) (ls := Ls) (rest := .ref (pm_ad base b sa k) :: r.map (pm_v base b sa)) (st := r.map (pm_v base b sa)) (by rw [pm_v_sum]; exact hr)
    have h2 := hRm.2.1
    exact Nat.le_trans (Nat.add_le_add_right this 12) (by omega)
  · exact hK _ _ _ _ _ _ _ _ _ h hR
theorem pm_cells (hRm : pm_Rm base nE zE z0 d s R) (hR : pm_Rel D cy base b sa sv s z0 q.2.2.2.1 H locs cells slots Ls ls mem) (hb : mem.1.1 ≤ nE ∧ mem.1.2.1 ≤ zE) : cells ≤ R.cells ∧ slots ≤ R.slots := by
  have h1 := hR.2.2.1.2
  have h2 := hR.2.2.2.1
  obtain ⟨-, -, h3, h4⟩ := hRm
  omega
theorem sm_math {i : Nat} (F : pm_fix q D cy sa p s m args meth c) (hK : pm_KW l D cy base b sa sv p e R s m args below meth c Q z0 q.2.2.2.1 K) (hKb : ∀ pc ls st mem, K pc ls st mem → mem.1.1 ≤ nE ∧ mem.1.2.1 ≤ zE) (hRm : pm_Rm base nE zE z0 d s R) (hR : pm_Rel D cy base b sa sv s z0 q.2.2.2.1 H locs cells slots Ls ls mem) (hdg : decode q.2.2.1 pc = .ok (.invokestatic i, 3))
    (h : (∃ x y r, st = .int y :: .int x :: r ∧ (q.2.1, i, 10, 0, 0, 0) ∈ k_cs ∧ (r.map fun v => v.category).sum ≤ 8 ∧ K (pc + 3) ls (.int (if x < y then y else x) :: r) mem) ∨
      (∃ x y r, st = .int y :: .int x :: r ∧ (q.2.1, i, 11, 0, 0, 0) ∈ k_cs ∧ (r.map fun v => v.category).sum ≤ 8 ∧ K (pc + 3) ls (.int (if y < x then y else x) :: r) mem) ∨
      ∃ x r, st = .int x :: r ∧ (q.2.1, i, 12, 0, 0, 0) ∈ k_cs ∧ (r.map fun v => v.category).sum ≤ 8 ∧ K (pc + 3) ls (.int (if 0 ≤ x then x else 0 - x) :: r) mem) : W p l e R s m args below meth c H locs cells slots Q (F0 m pc Ls (st.map (pm_v base b sa))) := by
  obtain ⟨hx, hb, hml, hown, hts, hnm, hk⟩ := F
  have hms : c.maxLocals = Ls.size := by rw [hml, hR.2.2.2.2.1]
  have hf : 1 ≤ R.frames := Nat.le_trans (by omega) hRm.1
  have hl := hRm.2.1
  rcases h with ⟨x, y, r, rfl, hc, hr, h⟩ | ⟨x, y, r, rfl, hc, hr, h⟩ | ⟨x, r, rfl, hc, hr, h⟩
  · obtain ⟨q0, -, -, hlk⟩ := k_cs_ok _ hc
    have hcl := pm_cells hRm hR (hKb _ _ _ _ h)
    exact va_mmax hx hb hms hown (hts _ hlk) (hts _ kg_smax) (hts _ kg_im) (hts _ kg_cmax) hf (by rw [pm_v_sum]; omega) hcl.1 hcl.2 hdg (hK _ _ _ _ _ _ _ _ _ h hR)
  · obtain ⟨q0, -, -, hlk⟩ := k_cs_ok _ hc
    have hcl := pm_cells hRm hR (hKb _ _ _ _ h)
    exact va_mmin hx hb hms hown (hts _ hlk) (hts _ kg_smin) (hts _ kg_im) (hts _ kg_cmin) hf (by rw [pm_v_sum]; omega) hcl.1 hcl.2 hdg (hK _ _ _ _ _ _ _ _ _ h hR)
  · obtain ⟨q0, -, -, hlk⟩ := k_cs_ok _ hc
    have hcl := pm_cells hRm hR (hKb _ _ _ _ h)
    exact va_mabs hx hb hms hown (hts _ hlk) (hts _ kg_sabs) (hts _ kg_im) (hts _ kg_cabs) hf (by rw [pm_v_sum]; omega) hcl.1 hcl.2 hdg (hK _ _ _ _ _ _ _ _ _ h hR)
theorem sm_acopy {i : Nat} (F : pm_fix q D cy sa p s m args meth c) (hK : pm_KW l D cy base b sa sv p e R s m args below meth c Q z0 q.2.2.2.1 K) (hRm : pm_Rm base nE zE z0 d s R) (hR : pm_Rel D cy base b sa sv s z0 q.2.2.2.1 H locs cells slots Ls ls mem) (hdg : decode q.2.2.1 pc = .ok (.invokestatic i, 3))
    (h : ∃ a sp b dp n r, st = .int n :: .int dp :: .ref b :: .int sp :: .ref a :: r ∧ (q.2.1, i, 8, 0, 0, 5) ∈ k_cs ∧ pm_is mem a 20 ∧ pm_is mem b 20 ∧ g b ∧ ¬ sp < 0 ∧ ¬ dp < 0 ∧ ¬ n < 0 ∧ sp.toNatClampNeg + n.toNatClampNeg ≤ (mem.1.2.2 a).2 ∧ dp.toNatClampNeg + n.toNatClampNeg ≤ (mem.1.2.2 b).2 ∧ (r.map fun v => v.category).sum ≤ 8 ∧
        K (pc + 3) ls r (mem.1, pm_cpy mem.2.1 a sp.toNatClampNeg b dp.toNatClampNeg n.toNatClampNeg, mem.2.2)) : W p l e R s m args below meth c H locs cells slots Q (F0 m pc Ls (st.map (pm_v base b sa))) := by
  obtain ⟨hx, hb, hml, hown, hts, hnm, hk⟩ := F
  obtain ⟨a, sp, k, dp, n, r, rfl, hc, ⟨a1, a2, ta⟩, ⟨h1, h2, ht⟩, hg, n1, n2, n3, n4, n5, hr, h⟩ := h
  have hms : c.maxLocals = Ls.size := by rw [hml, hR.2.2.2.2.1]
  have hf : 1 ≤ R.frames := Nat.le_trans (by omega) hRm.1
  have hl := hRm.2.1
  obtain ⟨q0, -, -, hlk⟩ := k_cs_ok _ hc
  have he := pm_ws_get (base := base) (b := b) (sa := sa) (cy := cy) h1 h2
  rw [pm_e_int ht (by omega) (by omega)] at he
  have he0 := pm_ws_get (base := base) (b := b) (sa := sa) (cy := cy) a1 a2
  rw [pm_e_int ta (by omega) (by omega)] at he0
  have hw : nativeFrameWords "java/lang/System" "arraycopy" 5 ≤ 900 := by decide
  refine va_copyi hx hb hms hown (hts _ hlk) (hts _ kg_native) (hts _ kg_static) (hts _ kg_ini) hk.1 hR.1.2.1 (pm_D_ok hR.1.1) hR.2.1 _ _ 0 0 he0 he rfl rfl rfl n1 n2 n3 n4 n5 (fun _ _ => rfl) hf (by rw [pm_v_sum]; omega) hdg (fun H1 locs1 hP1 _ hS1 => ?_)
  refine pm_row_put (mem' := (mem.1, pm_cpy mem.2.1 a sp.toNatClampNeg k dp.toNatClampNeg n.toNatClampNeg, mem.2.2)) hK hR h1 h2 rfl ?_ (fun a ha => ⟨?_, rfl, rfl⟩) ?_ h H1 locs1 hP1 hS1
  · funext j
    show (if 0 = k ∧ _ ∧ _ then _ else _) = _
    exact if_neg (fun z => (Nat.ne_of_lt h1) z.1)
  · funext j
    show (if a = k ∧ _ ∧ _ then _ else _) = _
    rw [if_neg (fun z => ha z.1)]
  · refine (pm_e_int (mem := (mem.1, pm_cpy mem.2.1 a sp.toNatClampNeg k dp.toNatClampNeg n.toNatClampNeg, mem.2.2)) (t := 20) ht (by omega) (by omega)).trans ?_
    show Sum.inl (_, _, Sum.inl (pm_cpy mem.2.1 a sp.toNatClampNeg k dp.toNatClampNeg n.toNatClampNeg k)) = Sum.inl (_, _, Sum.inl (va_cpy (mem.2.1 a) (mem.2.1 k) _ _ _))
    congr 4
    funext j
    simp [pm_cpy, va_cpy]
theorem pm_e_refput {k a j : Nat} {t : Nat} (ht : (mem.1.2.2 k).1 = t) (h : 23 ≤ t) : pm_e base b sa cy (mem.1, mem.2.1, mem.2.2.1, pm_u mem.2.2.2 k j (some a)) k = .inl (cy (t - 20), (mem.1.2.2 k).2, .inr (.inr (.inr (.inr (va_up (fun i => (mem.2.2.2 k i).map (pm_ad base b sa)) j (some (pm_ad base b sa a))))))) := by
  refine (pm_e_ref (mem := (mem.1, mem.2.1, mem.2.2.1, pm_u mem.2.2.2 k j (some a))) ht h).trans ?_
  congr 7
  funext i
  unfold va_up
  by_cases hi : i = j
  · subst hi
    rw [if_pos rfl]
    show Option.map _ (pm_u mem.2.2.2 k i (some a) k i) = _
    rw [pm_u_self]
    rfl
  · rw [if_neg hi]
    show Option.map _ (pm_u mem.2.2.2 k j (some a) k i) = _
    rw [pm_u_oth hi]
theorem sm_aastore (F : pm_fix q D cy sa p s m args meth c) (hK : pm_KW l D cy base b sa sv p e R s m args below meth c Q z0 q.2.2.2.1 K) (h : pm_ex g C E q K pc ls st mem .aastore) (hR : pm_Rel D cy base b sa sv s z0 q.2.2.2.1 H locs cells slots Ls ls mem) (hdg : decode q.2.2.1 pc = .ok (.aastore, 1)) : W p l e R s m args below meth c H locs cells slots Q (F0 m pc Ls (st.map (pm_v base b sa))) := by
  obtain ⟨hx, hb, hml, hown, hts, hnm, hk⟩ := F
  obtain ⟨a, i, k, r, t, c', rfl, hin, ⟨h1, h2, ht⟩, ⟨a1, a2, ta⟩, htc, hg, h⟩ := h
  have he := pm_ws_get (base := base) (b := b) (sa := sa) (cy := cy) h1 h2
  have hv := pm_ws_get (base := base) (b := b) (sa := sa) (cy := cy) a1 a2
  simp only [List.mem_cons, Prod.mk.injEq, List.not_mem_nil, or_false] at htc
  have hcst := hk.2.2.2.2.2
  rcases htc with ⟨rfl, rfl⟩ | ⟨rfl, rfl⟩ | ⟨rfl, rfl⟩ | ⟨rfl, rfl⟩ | ⟨rfl, rfl⟩ | ⟨rfl, rfl⟩ | ⟨rfl, rfl⟩ | ⟨rfl, rfl⟩ | ⟨rfl, rfl⟩
  all_goals
    rw [pm_e_ref ht (by omega)] at he
    rw [pm_e_obj ta (by omega)] at hv
  · exact va_astq hx hb hk.1 hR.1.2.1 (pm_D_ok hR.1.1) hR.2.1 _ 3 _ 4 he rfl hv rfl hin hdg (fun H1 locs1 hP1 _ hS1 => pm_row_put (mem' := (mem.1, mem.2.1, mem.2.2.1, pm_u mem.2.2.2 k i.toNatClampNeg (some a))) hK hR h1 h2 rfl rfl (fun a ha => ⟨rfl, rfl, pm_u_ne ha⟩) (pm_e_refput ht (by omega)) h H1 locs1 hP1 hS1)
  · exact va_astq hx hb hk.1 hR.1.2.1 (pm_D_ok hR.1.1) hR.2.1 _ 4 _ 2 he rfl hv rfl hin hdg (fun H1 locs1 hP1 _ hS1 => pm_row_put (mem' := (mem.1, mem.2.1, mem.2.2.1, pm_u mem.2.2.2 k i.toNatClampNeg (some a))) hK hR h1 h2 rfl rfl (fun a ha => ⟨rfl, rfl, pm_u_ne ha⟩) (pm_e_refput ht (by omega)) h H1 locs1 hP1 hS1)
  · exact va_astq hx hb hk.1 hR.1.2.1 (pm_D_ok hR.1.1) hR.2.1 _ 5 _ 3 he rfl hv rfl hin hdg (fun H1 locs1 hP1 _ hS1 => pm_row_put (mem' := (mem.1, mem.2.1, mem.2.2.1, pm_u mem.2.2.2 k i.toNatClampNeg (some a))) hK hR h1 h2 rfl rfl (fun a ha => ⟨rfl, rfl, pm_u_ne ha⟩) (pm_e_refput ht (by omega)) h H1 locs1 hP1 hS1)
  · exact va_astq hx hb hk.1 hR.1.2.1 (pm_D_ok hR.1.1) hR.2.1 _ 6 _ 8 he rfl hv rfl hin hdg (fun H1 locs1 hP1 _ hS1 => pm_row_put (mem' := (mem.1, mem.2.1, mem.2.2.1, pm_u mem.2.2.2 k i.toNatClampNeg (some a))) hK hR h1 h2 rfl rfl (fun a ha => ⟨rfl, rfl, pm_u_ne ha⟩) (pm_e_refput ht (by omega)) h H1 locs1 hP1 hS1)
  · exact va_astqO hx hb hk.1 hR.1.2.1 (pm_D_ok hR.1.1) hR.2.1 _ 6 _ 6 he rfl (hcst _ (List.mem_of_getElem? (i := 0) rfl)) hv rfl hin hdg (fun H1 locs1 hP1 _ hS1 => pm_row_put (mem' := (mem.1, mem.2.1, mem.2.2.1, pm_u mem.2.2.2 k i.toNatClampNeg (some a))) hK hR h1 h2 rfl rfl (fun a ha => ⟨rfl, rfl, pm_u_ne ha⟩) (pm_e_refput ht (by omega)) h H1 locs1 hP1 hS1)
  · exact va_astqO hx hb hk.1 hR.1.2.1 (pm_D_ok hR.1.1) hR.2.1 _ 6 _ 0 he rfl (hcst _ (List.mem_of_getElem? (i := 1) rfl)) hv rfl hin hdg (fun H1 locs1 hP1 _ hS1 => pm_row_put (mem' := (mem.1, mem.2.1, mem.2.2.1, pm_u mem.2.2.2 k i.toNatClampNeg (some a))) hK hR h1 h2 rfl rfl (fun a ha => ⟨rfl, rfl, pm_u_ne ha⟩) (pm_e_refput ht (by omega)) h H1 locs1 hP1 hS1)
  · exact va_astqO hx hb hk.1 hR.1.2.1 (pm_D_ok hR.1.1) hR.2.1 _ 6 _ 1 he rfl (hcst _ (List.mem_of_getElem? (i := 2) rfl)) hv rfl hin hdg (fun H1 locs1 hP1 _ hS1 => pm_row_put (mem' := (mem.1, mem.2.1, mem.2.2.1, pm_u mem.2.2.2 k i.toNatClampNeg (some a))) hK hR h1 h2 rfl rfl (fun a ha => ⟨rfl, rfl, pm_u_ne ha⟩) (pm_e_refput ht (by omega)) h H1 locs1 hP1 hS1)
  · exact va_astqO hx hb hk.1 hR.1.2.1 (pm_D_ok hR.1.1) hR.2.1 _ 6 _ 5 he rfl (hcst _ (List.mem_of_getElem? (i := 3) rfl)) hv rfl hin hdg (fun H1 locs1 hP1 _ hS1 => pm_row_put (mem' := (mem.1, mem.2.1, mem.2.2.1, pm_u mem.2.2.2 k i.toNatClampNeg (some a))) hK hR h1 h2 rfl rfl (fun a ha => ⟨rfl, rfl, pm_u_ne ha⟩) (pm_e_refput ht (by omega)) h H1 locs1 hP1 hS1)
  · exact va_astqO hx hb hk.1 hR.1.2.1 (pm_D_ok hR.1.1) hR.2.1 _ 6 _ 10 he rfl (hcst _ (List.mem_of_getElem? (i := 4) rfl)) hv rfl hin hdg (fun H1 locs1 hP1 _ hS1 => pm_row_put (mem' := (mem.1, mem.2.1, mem.2.2.1, pm_u mem.2.2.2 k i.toNatClampNeg (some a))) hK hR h1 h2 rfl rfl (fun a ha => ⟨rfl, rfl, pm_u_ne ha⟩) (pm_e_refput ht (by omega)) h H1 locs1 hP1 hS1)
end SIM3
