set_option maxHeartbeats 4000000 in
theorem pm_BI_ok (l : Launch) (D : va_G) (cy : Nat → ClassId) (base b : Nat) (sa sv : Nat → Nat) : pm_BI l D cy base b sa sv := by
  intro d M as mem0 v mem hd h q hq hpl
  obtain ⟨rfl, t, bb, k, hk, rfl, ht, hbb, hib, hin, rfl, rfl⟩ := h
  have e53 : pm_all[53]? = some q_53 := rfl
  cases e53.symm.trans hq
  refine Met.ofW (cc := q_53.2.2.1) (maxL := q_53.2.2.2.1) (ret := q_53.2.2.2.2.1) hpl rfl ?_
  intro p e s m args below meth c s₁ B hml hv
  obtain ⟨rfl, hG, hKs, hsz⟩ := hv
  have hx := B.exec
  have hb := B.bytes
  have hr := B.returns
  have hts0 := atoms_spec (ws := pm_wsM q_53) B.pre
  have hts : ∀ w ∈ pm_tbl, w.before _ s = true := fun w hw => hts0 w (List.mem_cons_of_mem _ hw)
  have hown : s.vm.findClass (k_cn q_53.2.1) = some m.cls := findClass_of_methodNamed B.named
  have hnm : meth.name = q_53.1.name := (name_of_methodNamed B.named B.method).1
  have hl := lv_entry ([.ref t, .ref (1000000 + k)].map (pm_v base b sa)) (n := q_53.2.2.2.1) (by rw [pm_sl_len]; exact Nat.le_of_ble_eq_true rfl)
  rw [lg_entry_eq]
  generalize (lg_sl ([.ref t, .ref (1000000 + k)].map (pm_v base b sa)) ++ List.replicate (q_53.2.2.2.1 - (lg_sl ([.ref t, .ref (1000000 + k)].map (pm_v base b sa))).length) Slot.unset).toArray = Ls at hl ⊢
  have F : pm_fix q_53 D cy sa p s m ([.ref t, .ref (1000000 + k)].map (pm_v base b sa)).toArray meth c := ⟨hx, hb, hml, hown, hts, hnm, hKs⟩
  refine bk_main (mem := mem) (z0 := mem.1.2.1) F (by show 8 ≤ d + 1; omega) (by show 8000 ≤ 1000 * (d + 1); omega) (by rw [hsz]; exact Nat.le_add_right _ _) (Nat.le_add_right _ _) hk ht hbb hib hin ?_ s.heap [] 0 0 Ls ⟨hG, va_S.rf, ⟨by omega, by omega⟩, rfl, pm_en_lh hl⟩
  intro pc v ls hat hn hv H locs cells slots Ls hR
  have h1 := hR.2.2.1.2
  have h2 := hR.2.2.2.1
  refine W.widen (k := mem.1.1 - mem.1.1) (n := mem.1.2.1 - mem.1.2.1) (by omega) (by omega) ?_
  subst hv
  exact W.zret hx hb hr hn (fun t ht hW => ⟨rfl, by rw [ht]; exact hR.1.moved hW.alike, hR.2.1.F ht⟩) hR.2.1.2.2 hat
