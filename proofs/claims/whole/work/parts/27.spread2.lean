/-! ===== spreads: remember, stepBack, copyFrom ===== -/
theorem old_far {π : Nat → Nat → Nat} {mr : Nat → Nat → Option Nat} {S i j : Nat} (hw : WR π mr) (hS : S ∈ k_sp) (hi : i < 6) (hj : j < 6) (hij : i ≠ j) : S + 26 + 10 * π S i + 10 ≤ S + 26 + 10 * π S j ∨ S + 26 + 10 * π S j + 10 ≤ S + 26 + 10 * π S i := by
  have h1 : π S i ≠ π S j := fun z => hij ((hw.2.2 S hS).2.2.2.2.2.2.2 i j hi hj z)
  omega
theorem CPg.cgo {mi : Nat → Nat → Int32} {P Q R n : Nat} {v : PV} (h : CPg mi R v) (hn : n ≤ 7) (hf : R + 10 ≤ P ∨ P + 10 ≤ R) : CPg (cg mi P Q n) R v :=
  h.fr (cg_fr hn (by omega)) (fun i hi => cg_fr hn (by omega))
theorem CPg.uo {mi : Nat → Nat → Int32} {R S j : Nat} {x : Int32} {v : PV} (h : CPg mi R v) (hf : S < R ∨ R + 10 ≤ S) : CPg (pm_u mi S j x) R v :=
  h.fr (pm_u_ne (by omega)) (fun i hi => pm_u_ne (by omega))
theorem e_rem13 {L : Nat} {π : Nat → Nat → Nat} {mi : Nat → Nat → Int32} {ml : Nat → Nat → Int64} {mr : Nat → Nat → Option Nat} {d : Nat} {E : Option Value → pm_M → Prop} (hw : WR π mr) {S : Nat} (hS : S ∈ k_sp) {u n : Nat} (hu6 : u < 6) (hu : mi S 4 = nI u) (hn7 : n ≤ 7) (hn : mi (S + 16) 5 = nI n) (hE : E none (WW L, pm_u (cg mi (S + 26 + 10 * π S u) (S + 16) n) S 4 (nI (u + 1)), ml, mr)) : Ev gC (pm_ev gC (d + 2)) E q_35 13 [some (.ref S)] [] (WW L, mi, ml, mr) := by
  refine ev_aload_n (p' := 14) i_35_13 rfl rfl ?_
  refine ev_getr (p' := 17) i_35_14 rfl fl_4_11 rfl (is_sp hS) (hw.past hS) ?_
  refine ev_aload_n (p' := 18) i_35_17 rfl rfl ?_
  refine ev_geti (p' := 21) i_35_18 rfl fl_4_25 rfl (is_sp hS) ?_
  rw [hu]
  refine ev_aaldN (p' := 22) 24 i_35_21 rfl (is_past hS) (by decide) (len_past hS) (show u < 6 by omega) (by decide) (hw.old hS (show u < 6 by omega)) ?_
  refine ev_aload_n (p' := 23) i_35_22 rfl rfl ?_
  refine ev_getr (p' := 26) i_35_23 rfl fl_4_38 rfl (is_sp hS) (hw.page hS) ?_
  refine ev_v1V (p' := 29) i_35_26 rfl cl_4_49_2 (by decide) (is_pg ((sh_sp _ hS).2.2.2.2.2.2.2.1 _ (hw.pi hS (show u < 6 by omega)))) (Nat.le_of_ble_eq_true rfl) (s_pgc _ hw (pg_old hS (hw.pi hS (show u < 6 by omega))) (pg_sp hS) (by have := hw.pi hS (show u < 6 by omega); omega) hn7 hn) ?_
  refine ev_aload_n (p' := 30) i_35_29 rfl rfl ?_
  refine ev_dup (p' := 31) i_35_30 rfl rfl ?_
  refine ev_geti (p' := 34) i_35_31 rfl fl_4_25 rfl (is_sp hS) ?_
  rw [cg_fr hn7 (by have := hw.pi hS (show u < 6 by omega); omega), hu]
  refine ev_iconst (p' := 35) (v := 1) i_35_34 rfl (by decide) ?_
  refine ev_iadd (p' := 36) i_35_35 rfl ?_
  rw [nI_1]
  refine ev_puti (p' := 39) i_35_36 rfl fl_4_25 rfl (is_sp hS) (gc_sp hS) rfl ?_
  exact ev_ret i_35_39 rfl hE
theorem s_remA {L : Nat} {π : Nat → Nat → Nat} {mi : Nat → Nat → Int32} {ml : Nat → Nat → Int64} {mr : Nat → Nat → Option Nat} (d : Nat) (hw : WR π mr) {S : Nat} (hS : S ∈ k_sp) {u n : Nat} (hu6 : u < 6) (hu : mi S 4 = nI u) (hn7 : n ≤ 7) (hn : mi (S + 16) 5 = nI n) : pm_ev gC (d + 3) 35 [.ref S] (WW L, mi, ml, mr) none (WW L, pm_u (cg mi (S + 26 + 10 * π S u) (S + 16) n) S 4 (nI (u + 1)), ml, mr) := by
  refine ev_enter (q := q_35) rfl (Nat.le_of_ble_eq_true rfl) rfl ?_
  refine ev_aload_n (p' := 1) i_35_0 rfl rfl ?_
  refine ev_geti (p' := 4) i_35_1 rfl fl_4_25 rfl (is_sp hS) ?_
  refine ev_bipush (p' := 6) (v := 6) i_35_4 rfl (by decide) ?_
  refine ev_icmp_lt (p' := 9) (tg := 13) i_35_6 rfl rfl (fun c6 => ?_) (fun c6 => absurd ((by rw [hu]; have := nI_lt (a := u) (b := 6) (by omega) (by omega); exact this)) c6)
  exact e_rem13 hw hS hu6 hu hn7 hn ⟨rfl, rfl⟩
theorem s_remB {L : Nat} {π : Nat → Nat → Nat} {mi : Nat → Nat → Int32} {ml : Nat → Nat → Int64} {mr : Nat → Nat → Option Nat} (d : Nat) (hw : WR π mr) {S : Nat} (hS : S ∈ k_sp) {n : Nat} (hu : mi S 4 = nI 6) (hn7 : n ≤ 7) (hn : mi (S + 16) 5 = nI n) : pm_ev gC (d + 3) 35 [.ref S] (WW L, mi, ml, mr) none (WW L, pm_u (cg (pm_u mi S 4 5) (S + 26 + 10 * π S 0) (S + 16) n) S 4 (nI 6), ml, pm_u (dr mr S 5) (S + 1) 5 (some (S + 26 + 10 * π S 0))) := by
  refine ev_enter (q := q_35) rfl (Nat.le_of_ble_eq_true rfl) rfl ?_
  refine ev_aload_n (p' := 1) i_35_0 rfl rfl ?_
  refine ev_geti (p' := 4) i_35_1 rfl fl_4_25 rfl (is_sp hS) ?_
  refine ev_bipush (p' := 6) (v := 6) i_35_4 rfl (by decide) ?_
  refine ev_icmp_lt (p' := 9) (tg := 13) i_35_6 rfl rfl (fun c6 => absurd c6 ((by rw [hu]; decide))) (fun c6 => ?_)
  refine ev_aload_n (p' := 10) i_35_9 rfl rfl ?_
  refine ev_v0V (p' := 13) i_35_10 rfl cl_4_46_4 (by decide) (is_sp hS) (Nat.le_of_ble_eq_true rfl) (s_drop _ hw hS) ?_
  have hp5 : piRot π S S 5 = π S 0 := by unfold piRot; rw [if_pos rfl, if_neg (by omega)]
  refine e_rem13 (π := piRot π S) (u := 5) (hw.rotated hS) hS (by omega) (by rw [pm_u_self]; rfl) hn7 (by rw [pm_u_ne (by omega)]; exact hn) ?_
  rw [hp5]
  exact ⟨rfl, rfl⟩
/-- what is remembered -/
def remV (v : SV) : SV := if v.2.1.1 < 6 then (v.1, (v.2.1.1 + 1, fun i => if i = v.2.1.1 then v.1 else v.2.1.2 i), v.2.2) else (v.1, (6, fun i => if i = 5 then v.1 else v.2.1.2 (i + 1)), v.2.2)
theorem rem_rep {π : Nat → Nat → Nat} {mi : Nat → Nat → Int32} {mr : Nat → Nat → Option Nat} {S u : Nat} {v : SV} (hw : WR π mr) (hS : S ∈ k_sp) (h : CSp π mi S v) (hu : v.2.1.1 = u) (hu6 : u < 6) :
    CSp π (pm_u (cg mi (S + 26 + 10 * π S u) (S + 16) v.1.1) S 4 (nI (u + 1))) S (v.1, (u + 1, fun i => if i = u then v.1 else v.2.1.2 i), v.2.2) := by
  obtain ⟨h1, ⟨h2, h3, h4⟩, ⟨h5, h6, h7⟩, ⟨h8, h9, h10⟩⟩ := h
  have hpu := hw.pi hS hu6
  have hn7 := h1.1
  refine ⟨(h1.cgo hn7 (by omega)).uo (by omega), ⟨by show u + 1 ≤ 6; omega, pm_u_self, fun i hi => ?_⟩, ⟨h5, ?_, fun i hi j hj => ?_⟩, ⟨h8, ?_, fun i hi j hj => ?_⟩⟩
  · have hi : i < u + 1 := hi
    show CPg _ _ (if i = u then v.1 else v.2.1.2 i)
    by_cases hiu : i = u
    · subst hiu
      rw [if_pos rfl]
      exact (h1.copied).uo (by omega)
    · rw [if_neg hiu]
      have hf := old_far hw hS (i := i) (j := u) (by omega) hu6 hiu
      exact ((h4 i (by omega)).cgo hn7 (by omega)).uo (by omega)
  · rw [pm_u_oth (by omega), cg_fr hn7 (by omega)]; exact h6
  · have hi : i < v.2.2.1.1 := hi
    rw [pm_u_ne (by omega), cg_fr hn7 (by omega)]; exact h7 i hi j hj
  · rw [pm_u_oth (by omega), cg_fr hn7 (by omega)]; exact h9
  · have hi : i < v.2.2.2.1 := hi
    rw [pm_u_ne (by omega), cg_fr hn7 (by omega)]; exact h10 i hi j hj
theorem rot_rep {π : Nat → Nat → Nat} {mi : Nat → Nat → Int32} {S : Nat} {v : SV} (hS : S ∈ k_sp) (h : CSp π mi S v) (hu : v.2.1.1 = 6) : CSp (piRot π S) (pm_u mi S 4 5) S (v.1, (5, fun i => v.2.1.2 (i + 1)), v.2.2) := by
  obtain ⟨h1, ⟨h2, h3, h4⟩, ⟨h5, h6, h7⟩, ⟨h8, h9, h10⟩⟩ := h
  refine ⟨h1.uo (by omega), ⟨by show 5 ≤ 6; omega, pm_u_self, fun i hi => ?_⟩, ⟨h5, ?_, fun i hi j hj => ?_⟩, ⟨h8, ?_, fun i hi j hj => ?_⟩⟩
  · have hi : i < 5 := hi
    have hp : piRot π S S i = π S (i + 1) := by unfold piRot; rw [if_pos rfl, if_pos hi]
    rw [hp]
    exact (h4 (i + 1) (by omega)).uo (by omega)
  · rw [pm_u_oth (by omega)]; exact h6
  · have hi : i < v.2.2.1.1 := hi
    rw [pm_u_ne (by omega)]; exact h7 i hi j hj
  · rw [pm_u_oth (by omega)]; exact h9
  · have hi : i < v.2.2.2.1 := hi
    rw [pm_u_ne (by omega)]; exact h10 i hi j hj
/-- remember: what the spread holds then; nothing else changes but the pages to go back to -/
theorem s_rem {L : Nat} {π : Nat → Nat → Nat} {mi : Nat → Nat → Int32} {ml : Nat → Nat → Int64} {mr : Nat → Nat → Option Nat} (d : Nat) (hw : WR π mr) {S : Nat} (hS : S ∈ k_sp) {v : SV} (h : CSp π mi S v) : ∃ π' mi' mr', pm_ev gC (d + 3) 35 [.ref S] (WW L, mi, ml, mr) none (WW L, mi', ml, mr') ∧ WR π' mr' ∧ CSp π' mi' S (remV v) ∧ (∀ T, T ≠ S → π' T = π T) ∧ ∀ a, a ≠ S → (a < S + 26 ∨ S + 86 ≤ a) → mi' a = mi a := by
  have hh := h
  obtain ⟨h1, ⟨h2, h3, h4⟩, -, -⟩ := hh
  by_cases hu : v.2.1.1 < 6
  · refine ⟨π, _, mr, s_remA d hw hS hu h3 h1.1 h1.2.1, hw, ?_, fun _ _ => rfl, fun a ha hf => ?_⟩
    · unfold remV
      rw [if_pos hu]
      exact rem_rep hw hS h rfl hu
    · have := hw.pi hS hu
      rw [pm_u_ne ha, cg_fr h1.1 (by omega)]
  · have hu6 : v.2.1.1 = 6 := by omega
    rw [hu6] at h3
    have hp5 : piRot π S S 5 = π S 0 := by unfold piRot; rw [if_pos rfl, if_neg (by omega)]
    have hr := rem_rep (u := 5) (hw.rotated hS) hS (rot_rep hS h hu6) rfl (by omega)
    rw [hp5] at hr
    refine ⟨piRot π S, _, _, s_remB d hw hS h3 h1.1 h1.2.1, hw.rotated hS, ?_, fun T hT => ?_, fun a ha hf => ?_⟩
    · unfold remV
      rw [if_neg hu]
      exact hr
    · funext i
      unfold piRot
      rw [if_neg hT]
    · have := hw.pi hS (show 0 < 6 by omega)
      rw [pm_u_ne ha, cg_fr h1.1 (by omega), pm_u_ne ha]
theorem s_back0 {L : Nat} {π : Nat → Nat → Nat} {mi : Nat → Nat → Int32} {ml : Nat → Nat → Int64} {mr : Nat → Nat → Option Nat} (d : Nat) (hw : WR π mr) {S : Nat} (hS : S ∈ k_sp) {u n : Nat} (hu6 : u < 6) (hu : mi S 4 = nI (u + 1)) (hn7 : n ≤ 7) (hn : mi (S + 26 + 10 * π S u) 5 = nI n) : pm_ev gC (d + 3) 37 [.ref S] (WW L, mi, ml, mr) none (WW L, cg (pm_u mi S 4 (nI u)) (S + 16) (S + 26 + 10 * π S u) n, ml, mr) := by
  refine ev_enter (q := q_37) rfl (Nat.le_of_ble_eq_true rfl) rfl ?_
  refine ev_aload_n (p' := 1) i_37_0 rfl rfl ?_
  refine ev_geti (p' := 4) i_37_1 rfl fl_4_25 rfl (is_sp hS) ?_
  refine ev_if_le (p' := 7) (tg := 33) i_37_4 rfl rfl (fun c4 => absurd c4 ((by rw [hu]; exact nI_nle (by omega) (by omega)))) (fun c4 => ?_)
  refine ev_aload_n (p' := 8) i_37_7 rfl rfl ?_
  refine ev_dup (p' := 9) i_37_8 rfl rfl ?_
  refine ev_geti (p' := 12) i_37_9 rfl fl_4_25 rfl (is_sp hS) ?_
  rw [hu]
  refine ev_iconst (p' := 13) (v := 1) i_37_12 rfl (by decide) ?_
  refine ev_isub (p' := 14) i_37_13 rfl ?_
  rw [nI_pred]
  refine ev_puti (p' := 17) i_37_14 rfl fl_4_25 rfl (is_sp hS) (gc_sp hS) rfl ?_
  refine ev_aload_n (p' := 18) i_37_17 rfl rfl ?_
  refine ev_getr (p' := 21) i_37_18 rfl fl_4_38 rfl (is_sp hS) (hw.page hS) ?_
  refine ev_aload_n (p' := 22) i_37_21 rfl rfl ?_
  refine ev_getr (p' := 25) i_37_22 rfl fl_4_11 rfl (is_sp hS) (hw.past hS) ?_
  refine ev_aload_n (p' := 26) i_37_25 rfl rfl ?_
  refine ev_geti (p' := 29) i_37_26 rfl fl_4_25 rfl (is_sp hS) ?_
  rw [u_eq ⟨rfl, rfl⟩]
  refine ev_aaldN (p' := 30) 24 i_37_29 rfl (is_past hS) (by decide) (len_past hS) (show u < 6 by omega) (by decide) (hw.old hS (show u < 6 by omega)) ?_
  refine ev_v1V (p' := 33) i_37_30 rfl cl_4_49_2 (by decide) (is_pg (sh_sp _ hS).2.2.2.2.2.2.1) (Nat.le_of_ble_eq_true rfl) (s_pgc _ hw (pg_sp hS) (pg_old hS (hw.pi hS (show u < 6 by omega))) (by have := hw.pi hS (show u < 6 by omega); omega) hn7 (by rw [pm_u_ne (by omega)]; exact hn)) ?_
  exact ev_ret i_37_33 rfl ⟨rfl, rfl⟩
def backV (v : SV) : SV := (v.2.1.2 (v.2.1.1 - 1), (v.2.1.1 - 1, v.2.1.2), v.2.2)
theorem s_back {L : Nat} {π : Nat → Nat → Nat} {mi : Nat → Nat → Int32} {ml : Nat → Nat → Int64} {mr : Nat → Nat → Option Nat} (d : Nat) (hw : WR π mr) {S : Nat} (hS : S ∈ k_sp) {v : SV} (h : CSp π mi S v) (hu : v.2.1.1 ≠ 0) : ∃ mi', pm_ev gC (d + 3) 37 [.ref S] (WW L, mi, ml, mr) none (WW L, mi', ml, mr) ∧ CSp π mi' S (backV v) ∧ ∀ a, a ≠ S → (a < S + 16 ∨ S + 26 ≤ a) → mi' a = mi a := by
  obtain ⟨h1, ⟨h2, h3, h4⟩, ⟨h5, h6, h7⟩, ⟨h8, h9, h10⟩⟩ := h
  obtain ⟨u, hu1⟩ : ∃ u, v.2.1.1 = u + 1 := ⟨v.2.1.1 - 1, by omega⟩
  rw [hu1] at h3
  have hp := h4 u (by omega)
  have hpu := hw.pi hS (show u < 6 by omega)
  have hp' : CPg (pm_u mi S 4 (nI u)) (S + 26 + 10 * π S u) (v.2.1.2 u) := hp.uo (by omega)
  refine ⟨_, s_back0 d hw hS (u := u) (by omega) h3 hp.1 hp.2.1, ?_, fun a ha hf => ?_⟩
  · unfold backV
    rw [hu1, Nat.add_sub_cancel]
    refine ⟨hp'.copied, ⟨by show u ≤ 6; omega, ?_, fun i hi => ?_⟩, ⟨h5, ?_, fun i hi j hj => ?_⟩, ⟨h8, ?_, fun i hi j hj => ?_⟩⟩
    · rw [cg_fr hp.1 (by omega), pm_u_self]
    · have hi : i < u := hi
      have := hw.pi hS (show i < 6 by omega)
      exact ((h4 i (by omega)).uo (by omega)).cgo hp.1 (by omega)
    · rw [cg_fr hp.1 (by omega), pm_u_oth (by omega)]; exact h6
    · have hi : i < v.2.2.1.1 := hi
      rw [cg_fr hp.1 (by omega), pm_u_ne (by omega)]; exact h7 i hi j hj
    · rw [cg_fr hp.1 (by omega), pm_u_oth (by omega)]; exact h9
    · have hi : i < v.2.2.2.1 := hi
      rw [cg_fr hp.1 (by omega), pm_u_ne (by omega)]; exact h10 i hi j hj
  · rw [cg_fr hp.1 (by omega), pm_u_ne ha]
theorem s_spNew {L : Nat} {π : Nat → Nat → Nat} {mi : Nat → Nat → Int32} {ml : Nat → Nat → Int64} {mr : Nat → Nat → Option Nat} (d : Nat) (hw : WR π mr) {S : Nat} (hS : S ∈ k_sp) (w : Int32) : pm_ev gC (d + 2) 34 [.ref S, .int w] (WW L, mi, ml, mr) none (WW L, pm_u (pm_u (pm_u (pm_u (pm_u (pm_u mi (S + 16) 3 w) (S + 16) 4 0) (S + 16) 5 0) S 4 0) S 5 0) S 6 0, ml, mr) := by
  refine ev_enter (q := q_34) rfl (Nat.le_of_ble_eq_true rfl) rfl ?_
  refine ev_aload_n (p' := 1) i_34_0 rfl rfl ?_
  refine ev_getr (p' := 4) i_34_1 rfl fl_4_38 rfl (is_sp hS) (hw.page hS) ?_
  refine ev_iload_n (p' := 5) i_34_4 rfl rfl ?_
  refine ev_v1V (p' := 8) i_34_5 rfl cl_4_42_2 (by decide) (is_pg (sh_sp _ hS).2.2.2.2.2.2.1) (Nat.le_of_ble_eq_true rfl) (s_pgNew (π := π) _ (pg_sp hS) _) ?_
  refine ev_aload_n (p' := 9) i_34_8 rfl rfl ?_
  refine ev_iconst (p' := 10) (v := 0) i_34_9 rfl (by decide) ?_
  refine ev_puti (p' := 13) i_34_10 rfl fl_4_25 rfl (is_sp hS) (gc_sp hS) rfl ?_
  refine ev_aload_n (p' := 14) i_34_13 rfl rfl ?_
  refine ev_iconst (p' := 15) (v := 0) i_34_14 rfl (by decide) ?_
  refine ev_puti (p' := 18) i_34_15 rfl fl_4_29 rfl (is_sp hS) (gc_sp hS) rfl ?_
  refine ev_aload_n (p' := 19) i_34_18 rfl rfl ?_
  refine ev_iconst (p' := 20) (v := 0) i_34_19 rfl (by decide) ?_
  refine ev_puti (p' := 23) i_34_20 rfl fl_4_32 rfl (is_sp hS) (gc_sp hS) rfl ?_
  exact ev_ret i_34_23 rfl ⟨rfl, rfl⟩
