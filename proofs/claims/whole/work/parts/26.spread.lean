/-! ===== what pages and spreads hold ===== -/
/-- a page's value: how many, how wide, by how much open, field j of piece i -/
abbrev PV : Type := Nat × Int32 × Int32 × (Nat → Nat → Int32)
def fx (f : Nat → Nat → Int32) : Nat → Nat → Int32 := fun j i => if j = 7 then brN (f 0 i).toNatClampNeg else f j i
def CPg (mi : Nat → Nat → Int32) (P : Nat) (v : PV) : Prop := v.1 ≤ 7 ∧ mi P 5 = nI v.1 ∧ mi P 3 = v.2.1 ∧ mi P 4 = v.2.2.1 ∧ ∀ i, i < v.1 → ∀ j, j < 8 → mi (P + 3 + i) j = fx v.2.2.2 j i
theorem CPg.fr {mi mi' : Nat → Nat → Int32} {P : Nat} {v : PV} (h : CPg mi P v) (h0 : mi' P = mi P) (h1 : ∀ i, i < 7 → mi' (P + 3 + i) = mi (P + 3 + i)) : CPg mi' P v := by
  obtain ⟨a1, a2, a3, a4, a5⟩ := h
  refine ⟨a1, by rw [h0]; exact a2, by rw [h0]; exact a3, by rw [h0]; exact a4, fun i hi j hj => ?_⟩
  rw [h1 i (by omega)]
  exact a5 i hi j hj
theorem cg_fr {mi : Nat → Nat → Int32} {P Q n a : Nat} (hn : n ≤ 7) (h : a < P ∨ P + 9 < a) : cg mi P Q n a = mi a := by
  funext j
  unfold cg
  rw [if_neg (by omega), if_neg (by omega)]
theorem CPg.copied {mi : Nat → Nat → Int32} {P Q : Nat} {v : PV} (h : CPg mi Q v) : CPg (cg mi P Q v.1) P v := by
  obtain ⟨a1, a2, a3, a4, a5⟩ := h
  refine ⟨a1, ?_, ?_, ?_, fun i hi j hj => ?_⟩
  · unfold cg; rw [if_pos (by omega)]; exact a2
  · unfold cg; rw [if_pos (by omega)]; exact a3
  · unfold cg; rw [if_pos (by omega)]; exact a4
  · unfold cg
    rw [if_neg (by omega), if_pos (by omega), show Q + (P + 3 + i - P) = Q + 3 + i by omega]
    exact a5 i hi j hj
theorem CPg.hn {mi : Nat → Nat → Int32} {P : Nat} {v : PV} (h : CPg mi P v) : mi P 5 = nI v.1 := h.2.1
/-- a spread's value: the page; how many pages to go back to, which; notes; stood ones -/
abbrev SV : Type := PV × (Nat × (Nat → PV)) × (Nat × (Nat → Nat → Int32)) × (Nat × (Nat → Nat → Int32))
def CSp (π : Nat → Nat → Nat) (mi : Nat → Nat → Int32) (S : Nat) (v : SV) : Prop := CPg mi (S + 16) v.1 ∧ (v.2.1.1 ≤ 6 ∧ mi S 4 = nI v.2.1.1 ∧ ∀ i, i < v.2.1.1 → CPg mi (S + 26 + 10 * π S i) (v.2.1.2 i)) ∧
  (v.2.2.1.1 ≤ 6 ∧ mi S 5 = nI v.2.2.1.1 ∧ ∀ i, i < v.2.2.1.1 → ∀ j, j < 5 → mi (S + 3 + i) j = v.2.2.1.2 i j) ∧ (v.2.2.2.1 ≤ 6 ∧ mi S 6 = nI v.2.2.2.1 ∧ ∀ i, i < v.2.2.2.1 → ∀ j, j < 2 → mi (S + 10 + i) j = v.2.2.2.2 i j)
theorem pg_sp {S : Nat} (hS : S ∈ k_sp) : S + 16 ∈ k_pg := (sh_sp _ hS).2.2.2.2.2.2.1
theorem pg_old {S i : Nat} (hS : S ∈ k_sp) (hi : i < 6) : S + 26 + 10 * i ∈ k_pg := (sh_sp _ hS).2.2.2.2.2.2.2.1 i hi
/-- the references behind dropOldest, t + 1 of them moved -/
def dr (mr : Nat → Nat → Option Nat) (S t : Nat) : Nat → Nat → Option Nat := fun a j => if a = S + 1 ∧ j < t then mr (S + 1) (j + 1) else mr a j
theorem dr_0 {mr : Nat → Nat → Option Nat} {S : Nat} : dr mr S 0 = mr := by
  funext a j
  exact if_neg (by omega)
theorem dr_ge {mr : Nat → Nat → Option Nat} {S t j : Nat} (h : t ≤ j) : dr mr S t (S + 1) j = mr (S + 1) j := if_neg (by omega)
theorem dr_ne {mr : Nat → Nat → Option Nat} {S t a j : Nat} (h : a ≠ S + 1) : dr mr S t a j = mr a j := if_neg (fun z => h z.1)
theorem dr_up {mr : Nat → Nat → Option Nat} {S t x : Nat} (h : mr (S + 1) (t + 1) = some x) : pm_u (dr mr S t) (S + 1) t (some x) = dr mr S (t + 1) := by
  funext a j
  unfold pm_u dr
  by_cases h1 : a = S + 1 ∧ j = t
  · rw [if_pos h1, if_pos ⟨h1.1, by omega⟩, h1.2, h]
  · rw [if_neg h1]
    by_cases h2 : a = S + 1 ∧ j < t
    · rw [if_pos h2, if_pos ⟨h2.1, by omega⟩]
    · rw [if_neg h2, if_neg (fun h3 => h2 ⟨h3.1, by have : j ≠ t := fun z => h1 ⟨h3.1, z⟩; omega⟩)]
def piRot (π : Nat → Nat → Nat) (S : Nat) : Nat → Nat → Nat := fun T i => if T = S then (if i < 5 then π S (i + 1) else π S 0) else π T i
theorem sp_far : ∀ S ∈ k_sp, ∀ T ∈ k_sp, S ≠ T → S + 86 ≤ T ∨ T + 86 ≤ S := by decide +kernel
theorem sp_pg : ∀ S ∈ k_sp, ∀ P ∈ k_pg, P + 10 ≤ S ∨ P = S + 16 ∨ S + 26 ≤ P := by decide +kernel
theorem sp_rf : ∀ S ∈ k_sp, ∀ x ∈ k_rf, x.1 ≠ S + 1 := by decide +kernel
theorem WR.rotated {π : Nat → Nat → Nat} {mr : Nat → Nat → Option Nat} {S : Nat} (h : WR π mr) (hS : S ∈ k_sp) : WR (piRot π S) (pm_u (dr mr S 5) (S + 1) 5 (some (S + 26 + 10 * π S 0))) := by
  have hne : ∀ a j, a ≠ S + 1 → pm_u (dr mr S 5) (S + 1) 5 (some (S + 26 + 10 * π S 0)) a j = mr a j := fun a j ha => by rw [pm_u_ne ha, dr_ne ha]
  obtain ⟨h1, h2, h3⟩ := h
  refine ⟨fun x hx => ?_, fun P hP => ?_, fun T hT => ?_⟩
  · rw [hne _ _ (sp_rf S hS x hx)]
    exact h1 x hx
  · have := sp_pg S hS P hP
    obtain ⟨g1, g2, g3, g4⟩ := h2 P hP
    refine ⟨?_, ?_, ?_, fun i hi => ?_⟩
    · rw [hne _ _ (by omega)]; exact g1
    · rw [hne _ _ (by omega)]; exact g2
    · rw [hne _ _ (by omega)]; exact g3
    · rw [hne _ _ (by omega)]; exact g4 i hi
  · obtain ⟨g1, g2, g3, g4, g5, g6, g7, g8⟩ := h3 T hT
    by_cases hTS : T = S
    · subst hTS
      refine ⟨?_, ?_, ?_, ?_, fun i hi => ?_, fun i hi => ?_, fun i hi => ?_, fun i j hi hj he => ?_⟩
      · rw [hne _ _ (by omega)]; exact g1
      · rw [hne _ _ (by omega)]; exact g2
      · rw [hne _ _ (by omega)]; exact g3
      · rw [hne _ _ (by omega)]; exact g4
      · rw [hne _ _ (by omega)]; exact g5 i hi
      · rw [hne _ _ (by omega)]; exact g6 i hi
      · unfold piRot
        rw [if_pos rfl]
        by_cases h5 : i < 5
        · rw [if_pos h5]
          obtain ⟨q1, q2⟩ := g7 (i + 1) (by omega)
          refine ⟨q1, ?_⟩
          rw [pm_u_oth (by omega)]
          unfold dr
          rw [if_pos ⟨rfl, h5⟩]
          exact q2
        · rw [if_neg h5, show i = 5 by omega, pm_u_self]
          exact ⟨(g7 0 (by omega)).1, rfl⟩
      · unfold piRot at he
        rw [if_pos rfl, if_pos rfl] at he
        by_cases hi5 : i < 5 <;> by_cases hj5 : j < 5
        · rw [if_pos hi5, if_pos hj5] at he
          have := g8 _ _ (by omega) (by omega) he
          omega
        · rw [if_pos hi5, if_neg hj5] at he
          have := g8 _ _ (by omega) (by omega) he
          omega
        · rw [if_neg hi5, if_pos hj5] at he
          have := g8 _ _ (by omega) (by omega) he
          omega
        · omega
    · have hf := sp_far S hS T hT (fun z => hTS z.symm)
      unfold piRot
      refine ⟨?_, ?_, ?_, ?_, fun i hi => ?_, fun i hi => ?_, fun i hi => ?_, fun i j hi hj he => ?_⟩
      · rw [hne _ _ (by omega)]; exact g1
      · rw [hne _ _ (by omega)]; exact g2
      · rw [hne _ _ (by omega)]; exact g3
      · rw [hne _ _ (by omega)]; exact g4
      · rw [hne _ _ (by omega)]; exact g5 i hi
      · rw [hne _ _ (by omega)]; exact g6 i hi
      · rw [if_neg hTS, hne _ _ (by omega)]; exact g7 i hi
      · rw [if_neg hTS, if_neg hTS] at he; exact g8 i j hi hj he
theorem l_drop {L : Nat} {π : Nat → Nat → Nat} {mi : Nat → Nat → Int32} {ml : Nat → Nat → Int64} {mr : Nat → Nat → Option Nat} (hw : WR π mr) {S : Nat} (hS : S ∈ k_sp) {C : Nat → List Value → pm_M → Option Value → pm_M → Prop} {E : Option Value → pm_M → Prop} (kk : Ev gC C E q_36 35 [some (.ref S), some (.ref (S + 26 + 10 * π S 0)), some (.int (nI 6))] [] (WW L, mi, ml, dr mr S 5)) : ∀ k t, t + k = 5 → Ev gC C E q_36 9 [some (.ref S), some (.ref (S + 26 + 10 * π S 0)), some (.int (nI (t + 1)))] [] (WW L, mi, ml, dr mr S t) := by
  intro k
  induction k with
  | zero =>
    intro t hi
    have hi : t = 5 := by omega
    subst hi
    refine ev_iload_n (p' := 10) i_36_9 rfl rfl ?_
    refine ev_bipush (p' := 12) (v := 6) i_36_10 rfl (by decide) ?_
    refine ev_icmp_ge (p' := 15) (tg := 35) i_36_12 rfl rfl (fun c12 => ?_) (fun c12 => absurd ((by decide)) c12)
    exact kk
  | succ k ih =>
    intro t hi
    refine ev_iload_n (p' := 10) i_36_9 rfl rfl ?_
    refine ev_bipush (p' := 12) (v := 6) i_36_10 rfl (by decide) ?_
    refine ev_icmp_ge (p' := 15) (tg := 35) i_36_12 rfl rfl (fun c12 => absurd c12 ((by have := nI_ge (a := t + 1) (b := 6) (by omega) (by omega); exact this))) (fun c12 => ?_)
    refine ev_aload_n (p' := 16) i_36_15 rfl rfl ?_
    refine ev_getr (p' := 19) i_36_16 rfl fl_4_11 rfl (is_sp hS) (by rw [dr_ne (by omega)]; exact (hw.past hS)) ?_
    refine ev_iload_n (p' := 20) i_36_19 rfl rfl ?_
    refine ev_iconst (p' := 21) (v := 1) i_36_20 rfl (by decide) ?_
    refine ev_isub (p' := 22) i_36_21 rfl ?_
    rw [nI_pred]
    refine ev_aload_n (p' := 23) i_36_22 rfl rfl ?_
    refine ev_getr (p' := 26) i_36_23 rfl fl_4_11 rfl (is_sp hS) (by rw [dr_ne (by omega)]; exact (hw.past hS)) ?_
    refine ev_iload_n (p' := 27) i_36_26 rfl rfl ?_
    refine ev_aaldN (p' := 28) 24 i_36_27 rfl (is_past hS) (by decide) (len_past hS) (show t + 1 < 6 by omega) (by decide) (by rw [dr_ge (by omega)]; exact hw.old hS (by omega)) ?_
    refine ev_aast (p' := 29) 24 2 i_36_28 rfl (by rw [len_past hS]; exact vp_in_nI (by omega) (by omega)) (is_past hS) (is_pg (pg_old hS (hw.pi hS (by omega)))) (by decide) (by have := (sh_sp S hS).2.2.2.2.2.2.2.2.2; show S + 1 ≤ 284; omega) ?_
    rw [nI_clamp (by omega), dr_up (hw.old hS (by omega))]
    refine ev_iinc (p' := 32) (ls' := [_, _, _]) i_36_29 rfl rfl rfl (by decide) (nI_inc _) rfl ?_
    refine ev_goto (tg := 9) i_36_32 rfl ?_
    exact ih (t + 1) (by omega)
theorem s_drop {L : Nat} {π : Nat → Nat → Nat} {mi : Nat → Nat → Int32} {ml : Nat → Nat → Int64} {mr : Nat → Nat → Option Nat} (d : Nat) (hw : WR π mr) {S : Nat} (hS : S ∈ k_sp) : pm_ev gC (d + 1) 36 [.ref S] (WW L, mi, ml, mr) none (WW L, pm_u mi S 4 5, ml, pm_u (dr mr S 5) (S + 1) 5 (some (S + 26 + 10 * π S 0))) := by
  refine ev_enter (q := q_36) rfl (Nat.le_of_ble_eq_true rfl) rfl ?_
  refine ev_aload_n (p' := 1) i_36_0 rfl rfl ?_
  refine ev_getr (p' := 4) i_36_1 rfl fl_4_11 rfl (is_sp hS) (hw.past hS) ?_
  refine ev_iconst (p' := 5) (v := nI 0) i_36_4 rfl (by decide) ?_
  refine ev_aaldN (p' := 6) 24 i_36_5 rfl (is_past hS) (by decide) (len_past hS) (by omega) (by decide) (hw.old hS (by omega)) ?_
  refine ev_astore_n (p' := 7) (ls' := [_, _, _]) i_36_6 rfl rfl (by decide) rfl ?_
  refine ev_iconst (p' := 8) (v := nI 1) i_36_7 rfl (by decide) ?_
  refine ev_istore_n (p' := 9) (ls' := [_, _, _]) i_36_8 rfl rfl (by decide) rfl ?_
  refine ev_cast (mem2 := (WW L, mi, ml, dr mr S 0)) rfl rfl (by rw [dr_0]) (l_drop hw hS ?_ 5 0 (by omega))
  refine ev_aload_n (p' := 36) i_36_35 rfl rfl ?_
  refine ev_getr (p' := 39) i_36_36 rfl fl_4_11 rfl (is_sp hS) (by rw [dr_ne (by omega)]; exact (hw.past hS)) ?_
  refine ev_iconst (p' := 40) (v := 5) i_36_39 rfl (by decide) ?_
  refine ev_aload_n (p' := 41) i_36_40 rfl rfl ?_
  refine ev_aast (p' := 42) 24 2 i_36_41 rfl (by rw [len_past hS]; unfold vp_in; decide) (is_past hS) (is_pg (pg_old hS (hw.pi hS (by omega)))) (by decide) (by have := (sh_sp S hS).2.2.2.2.2.2.2.2.2; show S + 1 ≤ 284; omega) ?_
  refine ev_aload_n (p' := 43) i_36_42 rfl rfl ?_
  refine ev_iconst (p' := 44) (v := 5) i_36_43 rfl (by decide) ?_
  refine ev_puti (p' := 47) i_36_44 rfl fl_4_25 rfl (is_sp hS) (gc_sp hS) rfl ?_
  exact ev_ret i_36_47 rfl ⟨rfl, rfl⟩
