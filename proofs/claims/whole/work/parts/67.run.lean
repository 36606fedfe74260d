/-! ===== the run of the law ===== -/
theorem PGF.w {p K : Nat} {mi : Nat → Nat → Int32} {mr : Nat → Nat → Option Nat} (h : PGF p K mi mr 7) : mr (p + 1) 0 = some K ∧ mr (p + 1) 1 = some (p + 1 + 1) ∧ mr (p + 1) 2 = some (p + 1 + 2) ∧ ∀ i, i < 7 → mr (p + 1 + 1) i = some (p + 1 + 3 + i) := ⟨h.1, h.2.1, h.2.2.1, fun i hi => (h.2.2.2.1 i hi).trans (congrArg some (by omega))⟩
theorem SPF.w {p K : Nat} {mi : Nat → Nat → Int32} {mr : Nat → Nat → Option Nat} (h : SPF p K mi mr 6) : mr (p + 1) 0 = some (p + 1 + 16) ∧ mr (p + 1) 1 = some (p + 1 + 1) ∧ mr (p + 1) 2 = some (p + 1 + 2) ∧ mr (p + 1) 3 = some (p + 1 + 9) ∧ (∀ i, i < 6 → mr (p + 1 + 2) i = some (p + 1 + 3 + i)) ∧ (∀ i, i < 6 → mr (p + 1 + 9) i = some (p + 1 + 10 + i)) ∧ (∀ i, i < 6 → i < 6 ∧ mr (p + 1 + 1) i = some (p + 1 + 26 + 10 * i)) ∧ ∀ i j : Nat, i < 6 → j < 6 → i = j → i = j :=
  ⟨h.1.1, h.1.2.1, h.1.2.2.1, h.1.2.2.2, fun i hi => (h.2.1 i hi).trans (congrArg some (by omega)), fun i hi => (h.2.2.1 i hi).trans (congrArg some (by omega)), fun i hi => ⟨hi, (h.2.2.2.1 i hi).trans (congrArg some (by omega))⟩, fun i j _ _ z => z⟩
def π0 : Nat → Nat → Nat := fun _ i => i
def P0 : PV := (0, 20, 0, fun _ _ => 0)
def S0 : SV := (P0, (0, fun _ => P0), (0, fun _ _ => 0), (0, fun _ _ => 0))
def A0 : AV := (S0, (fun _ => false, fun _ => S0), (0, fun _ => 0), (0, 1), (0, 0, 0))
theorem okA0 : okA A0 := ⟨⟨⟨Nat.zero_le _, ⟨20, by decide, by decide, rfl⟩, ⟨0, by decide, rfl⟩, fun i hi => absurd hi (Nat.not_lt_zero i)⟩, ⟨Nat.zero_le _, fun i hi => absurd hi (Nat.not_lt_zero i)⟩, ⟨Nat.zero_le _, fun i hi => absurd hi (Nat.not_lt_zero i)⟩, Nat.zero_le _, fun i hi => absurd hi (Nat.not_lt_zero i)⟩, fun i _ h => absurd h Bool.false_ne_true, Nat.zero_le _, fun i hi => absurd hi (Nat.not_lt_zero i)⟩
theorem WR0 {mi : Nat → Nat → Int32} {ml : Nat → Nat → Int64} {mr : Nat → Nat → Option Nat} (hB : BKF mi ml mr) (hM : MDF mi ml mr) : WR π0 mr := by
  obtain ⟨h1, h2, h3, h4, h5, h6⟩ := hB
  refine ⟨?_, ?_, ?_⟩
  · intro x hx
    simp only [k_rf, List.mem_cons, List.not_mem_nil, or_false] at hx
    rcases hx with rfl | rfl | rfl | rfl | rfl | rfl | rfl | rfl | rfl | rfl | rfl | rfl | rfl | rfl | rfl | rfl | rfl | rfl | rfl | rfl | rfl | rfl | rfl | rfl | rfl | rfl | rfl | rfl | rfl | rfl | rfl | rfl | rfl | rfl | rfl | rfl | rfl | rfl | rfl | rfl | rfl | rfl | rfl | rfl
    · exact h2.1
    · exact h1.1.1
    · exact h1.1.2.1
    · exact h1.1.2.2.1
    · exact h2.2.1
    · exact h1.1.2.2.2.1
    · exact h1.1.2.2.2.2.1
    · exact h1.1.2.2.2.2.2.1
    · exact h2.2.2.1
    · exact h2.2.2.2
    · exact h1.1.2.2.2.2.2.2.1
    · exact h1.1.2.2.2.2.2.2.2.1
    · exact h1.1.2.2.2.2.2.2.2.2.1
    · exact h1.1.2.2.2.2.2.2.2.2.2.1
    · exact h1.1.2.2.2.2.2.2.2.2.2.2.1
    · exact h1.1.2.2.2.2.2.2.2.2.2.2.2.1
    · exact h1.1.2.2.2.2.2.2.2.2.2.2.2.2.1
    · exact h1.1.2.2.2.2.2.2.2.2.2.2.2.2.2
    · exact hM.1.1
    · exact hM.1.2.1
    · exact hM.1.2.2.1
    · exact hM.1.2.2.2.1
    · exact hM.1.2.2.2.2.1
    · exact hM.1.2.2.2.2.2.1
    · exact hM.1.2.2.2.2.2.2.1
    · exact hM.1.2.2.2.2.2.2.2.1
    · exact hM.1.2.2.2.2.2.2.2.2.1
    · exact hM.1.2.2.2.2.2.2.2.2.2.1
    · exact hM.1.2.2.2.2.2.2.2.2.2.2.1
    · exact hM.1.2.2.2.2.2.2.2.2.2.2.2.1
    · exact hM.1.2.2.2.2.2.2.2.2.2.2.2.2.1
    · exact hM.1.2.2.2.2.2.2.2.2.2.2.2.2.2.1
    · exact hM.1.2.2.2.2.2.2.2.2.2.2.2.2.2.2.1
    · exact hM.1.2.2.2.2.2.2.2.2.2.2.2.2.2.2.2.1
    · exact hM.1.2.2.2.2.2.2.2.2.2.2.2.2.2.2.2.2.1
    · exact hM.1.2.2.2.2.2.2.2.2.2.2.2.2.2.2.2.2.2.1
    · exact hM.1.2.2.2.2.2.2.2.2.2.2.2.2.2.2.2.2.2.2.1
    · exact hM.1.2.2.2.2.2.2.2.2.2.2.2.2.2.2.2.2.2.2.2.1
    · exact hM.1.2.2.2.2.2.2.2.2.2.2.2.2.2.2.2.2.2.2.2.2.1
    · exact hM.1.2.2.2.2.2.2.2.2.2.2.2.2.2.2.2.2.2.2.2.2.2.1
    · exact hM.1.2.2.2.2.2.2.2.2.2.2.2.2.2.2.2.2.2.2.2.2.2.2.1
    · exact hM.1.2.2.2.2.2.2.2.2.2.2.2.2.2.2.2.2.2.2.2.2.2.2.2.1
    · exact hM.1.2.2.2.2.2.2.2.2.2.2.2.2.2.2.2.2.2.2.2.2.2.2.2.2.1
    · exact hM.1.2.2.2.2.2.2.2.2.2.2.2.2.2.2.2.2.2.2.2.2.2.2.2.2.2
  · intro P hP
    simp only [k_pg, List.mem_cons, List.not_mem_nil, or_false] at hP
    rcases hP with rfl | rfl | rfl | rfl | rfl | rfl | rfl | rfl | rfl | rfl | rfl | rfl | rfl | rfl | rfl | rfl | rfl | rfl | rfl | rfl | rfl | rfl
    · exact h3.2.2.2.2.2.1.w
    · exact (h3.2.2.2.2.2.2 0 (by decide)).w
    · exact (h3.2.2.2.2.2.2 1 (by decide)).w
    · exact (h3.2.2.2.2.2.2 2 (by decide)).w
    · exact (h3.2.2.2.2.2.2 3 (by decide)).w
    · exact (h3.2.2.2.2.2.2 4 (by decide)).w
    · exact (h3.2.2.2.2.2.2 5 (by decide)).w
    · exact h4.2.2.2.2.2.1.w
    · exact (h4.2.2.2.2.2.2 0 (by decide)).w
    · exact (h4.2.2.2.2.2.2 1 (by decide)).w
    · exact (h4.2.2.2.2.2.2 2 (by decide)).w
    · exact (h4.2.2.2.2.2.2 3 (by decide)).w
    · exact (h4.2.2.2.2.2.2 4 (by decide)).w
    · exact (h4.2.2.2.2.2.2 5 (by decide)).w
    · exact h5.2.2.2.2.2.1.w
    · exact (h5.2.2.2.2.2.2 0 (by decide)).w
    · exact (h5.2.2.2.2.2.2 1 (by decide)).w
    · exact (h5.2.2.2.2.2.2 2 (by decide)).w
    · exact (h5.2.2.2.2.2.2 3 (by decide)).w
    · exact (h5.2.2.2.2.2.2 4 (by decide)).w
    · exact (h5.2.2.2.2.2.2 5 (by decide)).w
    · exact h6.w
  · intro S hS
    simp only [k_sp, List.mem_cons, List.not_mem_nil, or_false] at hS
    rcases hS with rfl | rfl | rfl
    · exact h3.w
    · exact h4.w
    · exact h5.w
theorem ST0 {mi : Nat → Nat → Int32} {ml : Nat → Nat → Int64} {mr : Nat → Nat → Option Nat} (hB : BKF mi ml mr) (hM : MDF mi ml mr) : ST2 π0 mi ml mr A0 := by
  refine ⟨okA0, WR0 hB hM, ?_, ?_⟩
  · obtain ⟨h1, h2, h3, h4, h5, h6⟩ := hB
    have hp := h3.2.2.2.2.2.1
    have hs := h3.2.2.2.2.1
    refine ⟨⟨⟨Nat.zero_le _, hp.2.2.2.2.2.2, hp.2.2.2.2.1, hp.2.2.2.2.2.1, fun i hi => absurd hi (Nat.not_lt_zero i)⟩, ⟨Nat.zero_le _, hs.1, fun i hi => absurd hi (Nat.not_lt_zero i)⟩, ⟨Nat.zero_le _, hs.2.1, fun i hi => absurd hi (Nat.not_lt_zero i)⟩, Nat.zero_le _, hs.2.2, fun i hi => absurd hi (Nat.not_lt_zero i)⟩, fun i hi => ⟨(h1.2.1.2.2.2.2 i).trans rfl, fun z => absurd z Bool.false_ne_true⟩, ⟨Nat.zero_le _, h1.2.1.2.2.2.1, fun i hi => absurd hi (Nat.not_lt_zero i)⟩, h1.2.2, h1.2.1.1, h1.2.1.2.1, h1.2.1.2.2.1⟩
  · obtain ⟨m1, m2, m3, m4⟩ := hM
    refine ⟨⟨⟨m2.1, m2.2.1, m2.2.2.1, fun i hi => absurd hi (Nat.not_lt_zero i)⟩, ⟨m2.2.2.2.2.2.1, fun i hi => absurd hi (Nat.not_lt_zero i)⟩, ⟨m2.2.2.2.1, fun i hi => absurd hi (Nat.not_lt_zero i)⟩, m2.2.2.2.2.1, fun i hi => absurd hi (Nat.not_lt_zero i)⟩, fun i hi => ⟨(m3 i).1.trans rfl, fun z => absurd z Bool.false_ne_true⟩, ⟨m2.2.2.2.2.2.2.1, fun i hi => absurd hi (Nat.not_lt_zero i)⟩, m4, ⟨(m3 0).2, (m3 1).2, (m3 2).2⟩, m2.2.2.2.2.2.2.2⟩
theorem BKF.fr {mi mi' : Nat → Nat → Int32} {ml ml' : Nat → Nat → Int64} {mr mr' : Nat → Nat → Option Nat} (h : BKF mi ml mr) (he : ∀ a, a ≤ 284 → mi' a = mi a ∧ ml' a = ml a ∧ mr' a = mr a) : BKF mi' ml' mr' := by
  obtain ⟨h1, h2, h3, h4, h5, h6⟩ := h
  exact ⟨h1.fr (fun a ha => ⟨(he a (by omega)).1, (he a (by omega)).2.1⟩) (fun a ha _ _ => (he a (by omega)).2.2) (fun j _ _ => by rw [(he 1 (by omega)).2.2]), by rw [(he 1 (by omega)).2.2, (he 2 (by omega)).2.2]; exact h2, h3.fr (fun a z1 z2 => ⟨(he a (by omega)).1, (he a (by omega)).2.2⟩), h4.fr (fun a z1 z2 => ⟨(he a (by omega)).1, (he a (by omega)).2.2⟩), h5.fr (fun a z1 z2 => ⟨(he a (by omega)).1, (he a (by omega)).2.2⟩), h6.fr (he _ (by omega)).1 (he _ (by omega)).2.2 (he _ (by omega)).2.2⟩
theorem s_iBookL {L : Nat} {mi : Nat → Nat → Int32} {ml : Nat → Nat → Int64} {mr : Nat → Nat → Option Nat} : ∃ mi' ml' mr', CL 70 [.ref 1] (W0 L ([] ++ [(11, 13)]), mi, ml, mr) none (W0 L bkS, mi', ml', mr') ∧ (BKF mi' ml' mr' ∧ UP 0 mi mi' ml ml' mr mr') := by
  obtain ⟨mi', ml', mr', h, k⟩ := s_iBook (L := L) (mi := mi) (ml := ml) (mr := mr) 20
  exact ⟨mi', ml', mr', ⟨gT, h⟩, k⟩
theorem s_iModelL {L : Nat} {mi : Nat → Nat → Int32} {ml : Nat → Nat → Int64} {mr : Nat → Nat → Option Nat} (h17 : mi 285 17 = 0) (h22 : mi 285 22 = 0) (h35 : ml 285 35 = 0) : ∃ mi' ml' mr', CL 139 [.ref 285] (W0 L (bkS ++ [(12, 40)]), mi, ml, mr) none (W0 L (bkS ++ [(12, 40)] ++ mdS), mi', ml', mr') ∧ (MDF mi' ml' mr' ∧ UP 284 mi mi' ml ml' mr mr') := by
  obtain ⟨mi', ml', mr', h, k⟩ := s_iModel (L := L) (shl := bkS ++ [(12, 40)]) (mi := mi) (ml := ml) (mr := mr) 22 (by decide +kernel) (by decide +kernel) h17 h22 h35
  exact ⟨mi', ml', mr', ⟨gT, h⟩, k⟩
theorem sh_all : bkS ++ [(12, 40)] ++ mdS = k_sh.tail := by decide +kernel
theorem W0_end {L : Nat} : W0 L (bkS ++ [(12, 40)] ++ mdS) = WW L := by
  rw [sh_all]
  have h1 : k_sh.tail.length = 311 := by decide +kernel
  have h2 : (k_sh.tail.map Prod.snd).sum = 12334 := by decide +kernel
  have h3 : (fun k => if k = 0 then (99, L) else k_sh.tail.getD (k - 1) (0, 0)) = SH L := by
    funext k
    unfold SH
    by_cases h : k = 0
    · rw [if_pos h, if_pos h]
    · rw [if_neg h, if_neg h]
      obtain ⟨j, rfl⟩ : ∃ j, k = j + 1 := ⟨k - 1, by omega⟩
      have e : ∀ (l : List (Nat × Nat)), l.tail.getD j (0, 0) = l.getD (j + 1) (0, 0) := fun l => by cases l <;> rfl
      rw [Nat.add_sub_cancel, e]
  show (k_sh.tail.length, (k_sh.tail.map Prod.snd).sum, fun k => if k = 0 then (99, L) else k_sh.tail.getD (k - 1) (0, 0)) = _
  rw [h1, h2, h3]
set_option maxHeartbeats 4000000 in
theorem law_ev {L : Nat} {E : Option Value → pm_M → Prop} (hL : L ≤ 384) (hE : ∀ mi ml mr, E (some (.int 1)) (WW L, mi, ml, mr)) (mi : Nat → Nat → Int32) (ml : Nat → Nat → Int64) (mr : Nat → Nat → Option Nat) : Ev gT CL E q_law 0 [some (.ref 0), none, none, none] [] (W0 L [], mi, ml, mr) := by
  refine ev_newW (p' := 3) 11 13 (k := 1) i_law_0 rfl (by decide +kernel) (by decide) rfl rfl rfl (by decide) ?_
  refine ev_dup (p' := 4) i_law_3 rfl rfl ?_
  refine ev_mk0 (p' := 7) i_law_4 rfl cl_13_9_11 (by decide) (isW (i := 0) rfl (isN rfl)) (Nat.le_of_ble_eq_true rfl) s_iBookL (fun mi1 ml1 mr1 z1 => ?_)
  refine ev_astore_n (p' := 8) (ls' := [_, _, _, _]) i_law_7 rfl rfl (by decide) rfl ?_
  refine ev_newW (p' := 11) 12 40 (k := 285) i_law_8 rfl (by decide +kernel) (by decide) rfl (show bkS.length = 284 by decide +kernel) rfl (by decide) ?_
  refine ev_dup (p' := 12) i_law_11 rfl rfl ?_
  refine ev_mk0 (p' := 15) i_law_12 rfl cl_13_12_12 (by decide) (isW (i := 284) rfl (isN (by decide +kernel))) (Nat.le_of_ble_eq_true rfl) (s_iModelL (pm_zin (by decide)) (pm_zin (by decide)) (pm_zin (by decide))) (fun mi2 ml2 mr2 z2 => ?_)
  refine ev_astore_n (p' := 16) (ls' := [_, _, _, _]) i_law_15 rfl rfl (by decide) rfl ?_
  refine ev_iconst (p' := 17) (v := nI 0) i_law_16 rfl (by decide) ?_
  refine ev_istore_n (p' := 18) (ls' := [_, _, _, _]) i_law_17 rfl rfl (by decide) rfl ?_
  rw [W0_end]
  have hB : BKF mi2 ml2 mr2 := z1.1.fr (fun a ha => by
    obtain ⟨q1, q2, q3⟩ := z2.2 a ha
    exact ⟨by rw [q1, pm_z_lo (by omega)], by rw [q2, pm_z_lo (by omega)], by rw [q3, pm_z_lo (by omega)]⟩)
  exact law_loop hL hE 64 0 A0 π0 mi2 ml2 mr2 (by omega) (by omega) (ST0 hB z2.1)
theorem law_run {L : Nat} (hL : L ≤ 384) (mi : Nat → Nat → Int32) (ml : Nat → Nat → Int64) (mr : Nat → Nat → Option Nat) : ∃ (f : Nat) (m0 : pm_M), m0.1 = WW L ∧ pm_run gT CL (fun r1 m1 => r1 = some (.int 1) ∧ m1 = m0) q_law f 0 [some (.ref 0), none, none, none] [] (W0 L [], mi, ml, mr) := by
  obtain ⟨f, h⟩ := law_ev (E := fun r m => r = some (.int 1) ∧ m.1 = WW L) hL (fun _ _ _ => ⟨rfl, rfl⟩) mi ml mr
  obtain ⟨r, m, ⟨h1, h2⟩, h3⟩ := pm_exact f _ _ _ _ h
  subst h1
  exact ⟨f, m, h2, h3⟩
