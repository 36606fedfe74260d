/-! ===== pages to go back to ===== -/
theorem RPg.cong2 {mi mi' : Nat → Nat → Int32} {r r' off off' : Nat} {v : PV} (h : RPg mi r off v) (h7 : v.1 ≤ 7) (he : ∀ j, j < 52 → mi' r' (off' + j) = mi r (off + j)) : RPg mi' r' off' v := by
  obtain ⟨h1, h2, h3, h4⟩ := h
  refine ⟨(he 0 (by decide)).trans h1, (he 1 (by decide)).trans h2, (he 2 (by decide)).trans h3, fun i hi j hj => ?_⟩
  have := he (3 + 7 * j + i) (by omega)
  rw [show off' + 3 + 7 * j + i = off' + (3 + 7 * j + i) by omega, this, show off + (3 + 7 * j + i) = off + 3 + 7 * j + i by omega]
  exact h4 i hi j hj
theorem RP0.cong {mi mi' : Nat → Nat → Int32} {v : PV} (h : RP0 mi v) (h1 : mi' 285 1 = mi 285 1) (h2 : mi' 285 2 = mi 285 2) (h3 : mi' 285 3 = mi 285 3) (he : ∀ a, 287 ≤ a → a ≤ 293 → mi' a = mi a) : RP0 mi' v :=
  ⟨h1.trans h.1, h2.trans h.2.1, h3.trans h.2.2.1, fun i hi j hj => by rw [he _ (by omega) (by omega)]; exact h.2.2.2 i hi j hj⟩
/-- another page and other old ones -/
theorem RR.pu {mi mi' : Nat → Nat → Int32} {ml : Nat → Nat → Int64} {A : AV} {w : PV} {u : Nat} {ps : Nat → PV} (h : RR mi ml A) (hp : RP0 mi' w) (hu : mi' 285 25 = nI u) (hps : ∀ k, k < u → RPg mi' 301 (52 * k) (ps k)) (he : ∀ a, a = 286 ∨ (294 ≤ a ∧ a ≤ 297) ∨ a = 310 ∨ a = 311 → mi' a = mi a) (hj : ∀ j, j = 4 ∨ j = 5 ∨ j = 17 ∨ j = 22 → mi' 285 j = mi 285 j) : RR mi' ml ((w, (u, ps), A.1.2.2), A.2) :=
  h.up ⟨hp, ⟨hu, hps⟩, ⟨(hj 4 (by omega)).trans h.1.2.2.1.1, fun i hi j hj' => by rw [he 294 (by omega)]; exact h.1.2.2.1.2 i hi j hj'⟩, (hj 5 (by omega)).trans h.1.2.2.2.1, fun i hi => by rw [he 295 (by omega), he 296 (by omega)]; exact h.1.2.2.2.2 i hi⟩ (fun a ha => he a (by omega)) (hj 17 (by omega)) (hj 22 (by omega))
theorem okSV.rem {v : SV} (h : okSV v) : okSV (remV v) := by
  unfold remV
  split
  · rename_i hu
    refine ⟨h.1, ⟨hu, fun k hk => ?_⟩, h.2.2⟩
    show okPV (if k = v.2.1.1 then v.1 else v.2.1.2 k)
    split
    · exact h.1
    · exact h.2.1.2 k (by have hk' : k < v.2.1.1 + 1 := hk; omega)
  · rename_i hu
    refine ⟨h.1, ⟨Nat.le_refl 6, fun k hk => ?_⟩, h.2.2⟩
    show okPV (if k = 5 then v.1 else v.2.1.2 (k + 1))
    split
    · exact h.1
    · exact h.2.1.2 (k + 1) (by have hk' : k < 6 := hk; have := h.2.1.1; omega)
theorem c_rem {L : Nat} {π : Nat → Nat → Nat} {mi : Nat → Nat → Int32} {ml : Nat → Nat → Int64} {mr : Nat → Nat → Option Nat} (d : Nat) (hw : WR π mr) {A : AV} (hc : CR π mi ml A) : ∃ π' mi' mr', pm_ev gC (d + 3) 35 [.ref 17] (WW L, mi, ml, mr) none (WW L, mi', ml, mr') ∧ WR π' mr' ∧ CR π' mi' ml (remV A.1, A.2) := by
  obtain ⟨π', mi', mr', h1, h2, h3, h4, h5⟩ := s_rem (L := L) (ml := ml) d hw sp_17 hc.1
  exact ⟨π', mi', mr', h1, h2, hc.up hw h3 h4 (fun a ha => h5 a (by omega) (by omega))⟩
theorem RR.notes1 {mi mi1 : Nat → Nat → Int32} {ml : Nat → Nat → Int64} {A : AV} {u : Nat} (hc : RR mi ml A) (hL : LY mi mi1 301 (52 * u) 7) (h7 : A.1.1.1 ≤ 7) (hok : A.1.2.1.1 = u ∧ ∀ k, k < u → (A.1.2.1.2 k).1 ≤ 7) (hu6 : u < 6) : RR (pm_u mi1 285 25 (nI (u + 1))) ml ((A.1.1, (u + 1, fun i => if i = u then A.1.1 else A.1.2.1.2 i), A.1.2.2), A.2) := by
  have e285 : ∀ j, j ≠ 25 → pm_u mi1 285 25 (nI (u + 1)) 285 j = mi 285 j := fun j hj => by rw [pm_u_oth hj, hL.1 285 (by decide)]
  refine hc.pu (hc.1.1.cong (e285 1 (by decide)) (e285 2 (by decide)) (e285 3 (by decide)) (fun a h1 h2 => by rw [pm_u_ne (by omega), hL.1 a (by omega)])) pm_u_self (fun k hk => ?_) (fun a ha => by rw [pm_u_ne (by omega), hL.1 a (by omega)]) (fun j hj => e285 j (by omega))
  show RPg _ 301 (52 * k) (if k = u then A.1.1 else A.1.2.1.2 k)
  by_cases hh : k = u
  · rw [if_pos hh, hh]
    exact (hL.end hc.1.1 h7).cong (pm_u_ne (by decide))
  · rw [if_neg hh]
    exact (hc.1.2.1.2 k (by rw [hok.1]; omega)).cong2 (hok.2 k (by omega)) (fun j hj => by rw [pm_u_ne (by decide)]; exact hL.2.1 _ (by omega))
theorem e_notes49 {L : Nat} {π : Nat → Nat → Nat} {mi : Nat → Nat → Int32} {ml : Nat → Nat → Int64} {mr : Nat → Nat → Option Nat} {d : Nat} {x1 : Option Value} (hw : WR π mr) {A : AV} (hc : RR mi ml A) {u : Nat} (h7 : A.1.1.1 ≤ 7) (hok : A.1.2.1.1 = u ∧ ∀ k, k < u → (A.1.2.1.2 k).1 ≤ 7) (hu6 : u < 6) (hu : mi 285 25 = nI u) : Ev gR (pm_ev gR (d + 1)) (fun x m => x = none ∧ ∃ mi1, m = (WW L, mi1, ml, mr) ∧ RR mi1 ml (((A.1.1, (u + 1, fun i => if i = u then A.1.1 else A.1.2.1.2 i), A.1.2.2), A.2))) q_174 49 [some (.ref 285), x1] [] (WW L, mi, ml, mr) := by
  refine ev_aload_n (p' := 50) i_174_49 rfl rfl ?_
  refine ev_aload_n (p' := 51) i_174_50 rfl rfl ?_
  refine ev_getr (p' := 54) i_174_51 rfl fl_12_55 rfl is_285 (rf_285_24 hw) ?_
  refine ev_bipush (p' := 56) (v := nI 52) i_174_54 rfl (by decide) ?_
  refine ev_aload_n (p' := 57) i_174_56 rfl rfl ?_
  refine ev_geti (p' := 60) i_174_57 rfl fl_12_112 rfl is_285 ?_
  rw [hu]
  refine ev_imulN (p' := 61) i_174_60 rfl ?_
  obtain ⟨mi1, e1, hL⟩ := s_lays (L := L) (mi := mi) (ml := ml) d hw (R := 301) (b := 52 * u) (by decide) (gr (by decide)) (fun _ => is_301) len_301 (by decide) (by omega)
  refine ev_v2V (p' := 64) i_174_61 rfl cl_12_222_12 (by decide) is_285 (Nat.le_of_ble_eq_true rfl) (e1) ?_
  refine ev_aload_n (p' := 65) i_174_64 rfl rfl ?_
  refine ev_dup (p' := 66) i_174_65 rfl rfl ?_
  refine ev_geti (p' := 69) i_174_66 rfl fl_12_112 rfl is_285 ?_
  refine ev_iconst (p' := 70) (v := 1) i_174_69 rfl (by decide) ?_
  refine ev_iadd (p' := 71) i_174_70 rfl ?_
  rw [hL.1 285 (by decide), hu, nI_1]
  refine ev_puti (p' := 74) i_174_71 rfl fl_12_112 rfl is_285 (gr (by decide)) rfl ?_
  exact ev_ret i_174_74 rfl ⟨rfl, _, rfl, RR.notes1 hc hL h7 hok hu6⟩
def SHF (mi0 mi : Nat → Nat → Int32) (i : Nat) : Prop := (∀ a, a ≠ 301 → mi a = mi0 a) ∧ (∀ j, j < i → mi 301 j = mi0 301 (j + 52)) ∧ ∀ j, i ≤ j → mi 301 j = mi0 301 j
theorem SHF.step {mi0 mi : Nat → Nat → Int32} {i : Nat} (h : SHF mi0 mi i) : SHF mi0 (pm_u mi 301 i (mi 301 (i + 52))) (i + 1) := by
  obtain ⟨h1, h2, h3⟩ := h
  refine ⟨fun a ha => by rw [pm_u_ne ha, h1 a ha], fun j hj => ?_, fun j hj => by rw [pm_u_oth (by omega), h3 j (by omega)]⟩
  by_cases hh : j = i
  · rw [hh, pm_u_self, h3 _ (by omega)]
  · rw [pm_u_oth hh, h2 j (by omega)]
theorem l_notes {L : Nat} {π : Nat → Nat → Nat} {ml : Nat → Nat → Int64} {mr : Nat → Nat → Option Nat} {mi0 : Nat → Nat → Int32} {C : Nat → List Value → pm_M → Option Value → pm_M → Prop} {E : Option Value → pm_M → Prop} (hw : WR π mr) (hE : ∀ mi, SHF mi0 mi 260 → Ev gR C E q_174 39 [some (.ref 285), some (.int (nI 260))] [] (WW L, mi, ml, mr)) : ∀ k i mi, i + k = 260 → SHF mi0 mi i → Ev gR C E q_174 11 [some (.ref 285), some (.int (nI i))] [] (WW L, mi, ml, mr) := by
  intro k
  induction k with
  | zero =>
    intro i mi hi hL
    have hi : i = 260 := by omega
    subst hi
    refine ev_iload_n (p' := 12) i_174_11 rfl rfl ?_
    refine ev_sipush (p' := 15) (v := 260) i_174_12 rfl (by decide) ?_
    refine ev_icmp_ge (p' := 18) (tg := 39) i_174_15 rfl rfl (fun c15 => ?_) (fun c15 => absurd (by decide) c15)
    exact hE _ hL
  | succ k ih =>
    intro i mi hi hL
    refine ev_iload_n (p' := 12) i_174_11 rfl rfl ?_
    refine ev_sipush (p' := 15) (v := 260) i_174_12 rfl (by decide) ?_
    refine ev_icmp_ge (p' := 18) (tg := 39) i_174_15 rfl rfl (fun c15 => absurd c15 (nI_ge (b := 260) (by omega) (by decide))) (fun c15 => ?_)
    refine ev_aload_n (p' := 19) i_174_18 rfl rfl ?_
    refine ev_getr (p' := 22) i_174_19 rfl fl_12_55 rfl is_285 (rf_285_24 hw) ?_
    refine ev_iload_n (p' := 23) i_174_22 rfl rfl ?_
    refine ev_aload_n (p' := 24) i_174_23 rfl rfl ?_
    refine ev_getr (p' := 27) i_174_24 rfl fl_12_55 rfl is_285 (rf_285_24 hw) ?_
    refine ev_iload_n (p' := 28) i_174_27 rfl rfl ?_
    refine ev_bipush (p' := 30) (v := nI 52) i_174_28 rfl (by decide) ?_
    refine ev_iaddN (p' := 31) i_174_30 rfl ?_
    refine ev_ialdN (p' := 32) i_174_31 rfl is_301 len_301 (by omega) (by decide) ?_
    refine ev_iastN (p' := 33) i_174_32 rfl is_301 len_301 (by omega) (by decide) (gr (by decide)) ?_
    refine ev_iinc (p' := 36) (ls' := [_, _]) i_174_33 rfl rfl rfl (by decide) (nI_inc _) rfl ?_
    refine ev_goto (tg := 11) i_174_36 rfl ?_
    exact ih (i + 1) _ (by omega) hL.step
theorem RR.shift {mi mi2 : Nat → Nat → Int32} {ml : Nat → Nat → Int64} {A : AV} (hc : RR mi ml A) (hA : okA A) (hL : SHF mi mi2 260) (h6 : A.1.2.1.1 = 6) : RR (pm_u mi2 285 25 (nI 6 - 1)) ml ((A.1.1, (5, fun i => A.1.2.1.2 (i + 1)), A.1.2.2), A.2) := by
  have e285 : ∀ j, j ≠ 25 → pm_u mi2 285 25 (nI 6 - 1) 285 j = mi 285 j := fun j hj => by rw [pm_u_oth hj, hL.1 285 (by decide)]
  refine hc.pu (hc.1.1.cong (e285 1 (by decide)) (e285 2 (by decide)) (e285 3 (by decide)) (fun a h1 h2 => by rw [pm_u_ne (by omega), hL.1 a (by omega)])) pm_u_self (fun k hk => ?_) (fun a ha => by rw [pm_u_ne (by omega), hL.1 a (by omega)]) (fun j hj => e285 j (by omega))
  exact (hc.1.2.1.2 (k + 1) (by omega)).cong2 (hA.1.2.1.2 (k + 1) (by omega)).1 (fun j hj => by rw [pm_u_ne (by decide), hL.2.1 _ (by omega)]; exact congrArg _ (by omega))
theorem s_notes {L : Nat} {π : Nat → Nat → Nat} {mi : Nat → Nat → Int32} {ml : Nat → Nat → Int64} {mr : Nat → Nat → Option Nat} (d : Nat) (hw : WR π mr) {A : AV} (hc : RR mi ml A) (hA : okA A) : ∃ mi', pm_ev gR (d + 2) 174 [.ref 285] (WW L, mi, ml, mr) none (WW L, mi', ml, mr) ∧ RR mi' ml (remV A.1, A.2) := by
  obtain ⟨x, m', ⟨h1, mi1, h2, h3⟩, h5⟩ := ev_some (E := (fun x m => x = none ∧ ∃ mi1, m = (WW L, mi1, ml, mr) ∧ RR mi1 ml (remV A.1, A.2))) (g := gR) (d := d + 1) (M := 174) (args := [.ref 285]) (mem := (WW L, mi, ml, mr)) (q := q_174) rfl (Nat.le_of_ble_eq_true rfl) rfl (by
    by_cases h6 : A.1.2.1.1 < 6
    · unfold remV
      rw [if_pos h6]
      refine ev_aload_n (p' := 1) i_174_0 rfl rfl ?_
      refine ev_geti (p' := 4) i_174_1 rfl fl_12_112 rfl is_285 ?_
      refine ev_bipush (p' := 6) (v := 6) i_174_4 rfl (by decide) ?_
      refine ev_icmp_ne (p' := 9) (tg := 49) i_174_6 rfl rfl (fun c6 => ?_) (fun c6 => absurd (by rw [hc.1.2.1.1]; exact fun z => absurd ((nI_eq (b := 6) (by omega) (by decide)).mp z) (by omega)) c6)
      exact e_notes49 (A := A) hw hc hA.n7 ⟨rfl, fun k hk => (hA.1.2.1.2 k hk).1⟩ h6 hc.1.2.1.1
    · unfold remV
      rw [if_neg h6]
      replace h6 : A.1.2.1.1 = 6 := by have := hA.1.2.1.1; omega
      refine ev_aload_n (p' := 1) i_174_0 rfl rfl ?_
      refine ev_geti (p' := 4) i_174_1 rfl fl_12_112 rfl is_285 ?_
      refine ev_bipush (p' := 6) (v := 6) i_174_4 rfl (by decide) ?_
      refine ev_icmp_ne (p' := 9) (tg := 49) i_174_6 rfl rfl (fun c6 => absurd c6 (by rw [hc.1.2.1.1, h6]; decide)) (fun c6 => ?_)
      refine ev_iconst (p' := 10) (v := nI 0) i_174_9 rfl (by decide) ?_
      refine ev_istore_n (p' := 11) (ls' := [_, _]) i_174_10 rfl rfl (by decide) rfl ?_
      refine l_notes hw (mi0 := mi) (fun mi2 hL => ?_) 260 0 mi (by decide) ⟨fun _ _ => rfl, fun j hj => absurd hj (Nat.not_lt_zero j), fun _ _ => rfl⟩
      refine ev_aload_n (p' := 40) i_174_39 rfl rfl ?_
      refine ev_dup (p' := 41) i_174_40 rfl rfl ?_
      refine ev_geti (p' := 44) i_174_41 rfl fl_12_112 rfl is_285 ?_
      refine ev_iconst (p' := 45) (v := 1) i_174_44 rfl (by decide) ?_
      refine ev_isub (p' := 46) i_174_45 rfl ?_
      rw [hL.1 285 (by decide), hc.1.2.1.1, h6]
      refine ev_puti (p' := 49) i_174_46 rfl fl_12_112 rfl is_285 (gr (by decide)) rfl ?_
      exact e_notes49 (A := ((A.1.1, (5, fun i => A.1.2.1.2 (i + 1)), A.1.2.2), A.2)) hw (RR.shift hc hA hL h6) hA.n7 ⟨rfl, fun k hk => (hA.1.2.1.2 (k + 1) (by omega)).1⟩ (by decide) pm_u_self)
  subst h1 h2
  exact ⟨mi1, h5, h3⟩
theorem C_undo_no (L d : Nat) (A : AV) (hA : okA A) (h0 : A.1.2.1.1 = 0) : Cst L (d + 24) 79 [] A (.int (-3)) (noA A) := by
  refine C_of (q := q_79) rfl (Nat.le_of_ble_eq_true rfl) rfl (fun π mi ml mr hw hc => ?_)
  have hn := hc.hn
  have h7 := hA.n7
  refine ev_aload_n (p' := 1) i_79_0 rfl rfl ?_
  refine ev_getr (p' := 4) i_79_1 rfl fl_11_78 rfl is_1 (rf_1_0 hw) ?_
  refine ev_geti (p' := 7) i_79_4 rfl fl_11_114 rfl (is_sp sp_17) ?_
  refine ev_if_ne (p' := 10) (tg := 15) i_79_7 rfl rfl (fun c7 => absurd c7 (by show ¬ ¬ mi 17 4 = 0; rw [hc.1.2.1.2.1, h0]; decide)) (fun c7 => ?_)
  refine ev_aload_n (p' := 11) i_79_10 rfl rfl ?_
  refine ev_v0I (p' := 14) i_79_11 rfl cl_11_145_11 (by decide) is_1 (Nat.le_of_ble_eq_true rfl) (s_no _) ?_
  exact ev_iretI i_79_14 rfl (EC.mk rfl hw (hc.no hw))
theorem R_undo_no (L d : Nat) (A : AV) (hA : okA A) (h0 : A.1.2.1.1 = 0) : Rst L (d + 24) 179 [] A (.int (-3)) (noA A) := by
  refine R_of (q := q_179) rfl (Nat.le_of_ble_eq_true rfl) rfl (fun π mi ml mr hw hc => ?_)
  have hn := hc.hn
  have h7 := hA.n7
  refine ev_aload_n (p' := 1) i_179_0 rfl rfl ?_
  refine ev_geti (p' := 4) i_179_1 rfl fl_12_112 rfl is_285 ?_
  refine ev_if_ne (p' := 7) (tg := 12) i_179_4 rfl rfl (fun c4 => absurd c4 (by rw [hc.1.2.1.1, h0]; decide)) (fun c4 => ?_)
  refine ev_aload_n (p' := 8) i_179_7 rfl rfl ?_
  refine ev_v0I (p' := 11) i_179_8 rfl cl_12_231_12 (by decide) is_285 (Nat.le_of_ble_eq_true rfl) (s_mno _ hw) ?_
  exact ev_iretI i_179_11 rfl (ER.mk rfl (hc.no h7))
theorem C_undo (L d : Nat) (A : AV) (hA : okA A) (h0 : A.1.2.1.1 ≠ 0) : Cst L (d + 24) 79 [] A (.int (backV A.1).1.2.2.1) ((backV A.1, A.2)) := by
  refine C_of (q := q_79) rfl (Nat.le_of_ble_eq_true rfl) rfl (fun π mi ml mr hw hc => ?_)
  have hn := hc.hn
  have h7 := hA.n7
  refine ev_aload_n (p' := 1) i_79_0 rfl rfl ?_
  refine ev_getr (p' := 4) i_79_1 rfl fl_11_78 rfl is_1 (rf_1_0 hw) ?_
  refine ev_geti (p' := 7) i_79_4 rfl fl_11_114 rfl (is_sp sp_17) ?_
  refine ev_if_ne (p' := 10) (tg := 15) i_79_7 rfl rfl (fun c7 => ?_) (fun c7 => absurd (by show ¬ mi 17 4 = 0; rw [hc.1.2.1.2.1]; exact nI_ne0 (by omega) (by have := hA.1.2.1.1; omega)) c7)
  refine ev_aload_n (p' := 16) i_79_15 rfl rfl ?_
  refine ev_getr (p' := 19) i_79_16 rfl fl_11_78 rfl is_1 (rf_1_0 hw) ?_
  obtain ⟨mi1, e1, hS, he⟩ := s_back (L := L) (ml := ml) (d + 20) hw sp_17 hc.1 h0
  refine ev_v0V (p' := 22) i_79_19 rfl cl_11_180_4 (by decide) (is_sp sp_17) (Nat.le_of_ble_eq_true rfl) (e1) ?_
  refine ev_aload_n (p' := 23) i_79_22 rfl rfl ?_
  refine ev_getr (p' := 26) i_79_23 rfl fl_11_78 rfl is_1 (rf_1_0 hw) ?_
  refine ev_getr (p' := 29) i_79_26 rfl fl_11_97 rfl (is_sp sp_17) (hw.page sp_17) ?_
  refine ev_geti (p' := 32) i_79_29 rfl fl_11_142 rfl (is_pg pg_33) ?_
  exact ev_iretI i_79_32 rfl (EC.mk (congrArg Value.int hS.1.2.2.2.1) hw (hc.up hw hS (fun _ _ => rfl) (fun a ha => he a (by omega) (by omega))))
theorem R_undo (L d : Nat) (A : AV) (hA : okA A) (h0 : A.1.2.1.1 ≠ 0) {u : Nat} (hu : A.1.2.1.1 = u + 1) : Rst L (d + 24) 179 [] A (.int (backV A.1).1.2.2.1) ((backV A.1, A.2)) := by
  refine R_of (q := q_179) rfl (Nat.le_of_ble_eq_true rfl) rfl (fun π mi ml mr hw hc => ?_)
  have hn := hc.hn
  have h7 := hA.n7
  refine ev_aload_n (p' := 1) i_179_0 rfl rfl ?_
  refine ev_geti (p' := 4) i_179_1 rfl fl_12_112 rfl is_285 ?_
  refine ev_if_ne (p' := 7) (tg := 12) i_179_4 rfl rfl (fun c4 => ?_) (fun c4 => absurd (by rw [hc.1.2.1.1]; exact nI_ne0 (by omega) (by have := hA.1.2.1.1; omega)) c4)
  refine ev_aload_n (p' := 13) i_179_12 rfl rfl ?_
  refine ev_dup (p' := 14) i_179_13 rfl rfl ?_
  refine ev_geti (p' := 17) i_179_14 rfl fl_12_112 rfl is_285 ?_
  refine ev_iconst (p' := 18) (v := 1) i_179_17 rfl (by decide) ?_
  refine ev_isub (p' := 19) i_179_18 rfl ?_
  rw [hc.1.2.1.1, hu, nI_pred]
  refine ev_puti (p' := 22) i_179_19 rfl fl_12_112 rfl is_285 (gr (by decide)) rfl ?_
  refine ev_aload_n (p' := 23) i_179_22 rfl rfl ?_
  refine ev_aload_n (p' := 24) i_179_23 rfl rfl ?_
  refine ev_getr (p' := 27) i_179_24 rfl fl_12_55 rfl is_285 (rf_285_24 hw) ?_
  refine ev_bipush (p' := 29) (v := nI 52) i_179_27 rfl (by decide) ?_
  refine ev_aload_n (p' := 30) i_179_29 rfl rfl ?_
  refine ev_geti (p' := 33) i_179_30 rfl fl_12_112 rfl is_285 ?_
  rw [pm_u_self]
  refine ev_imulN (p' := 34) i_179_33 rfl ?_
  have h6 := hA.1.2.1.1
  obtain ⟨mi1, e1, hP, he, hj⟩ := s_takes (L := L) (mi := pm_u mi 285 25 (nI u)) (ml := ml) (d + 22) hw (R := 301) (b := 52 * u) (by decide) (gr (by decide)) (fun _ => is_301) len_301 (by decide) (by omega) (v := A.1.2.1.2 u) ((hc.1.2.1.2 u (by omega)).cong (pm_u_ne (by decide))) (hA.1.2.1.2 u (by omega)).1
  refine ev_v2V (p' := 37) i_179_34 rfl cl_12_243_12 (by decide) is_285 (Nat.le_of_ble_eq_true rfl) (e1) ?_
  refine ev_aload_n (p' := 38) i_179_37 rfl rfl ?_
  refine ev_geti (p' := 41) i_179_38 rfl fl_12_100 rfl is_285 ?_
  exact ev_iretI i_179_41 rfl (ER.mk (by rw [hP.2.1]; unfold backV; rw [hu]; rfl) (by unfold backV; rw [hu]; exact hc.pu hP ((hj 25 (by decide) (by decide) (by decide)).trans pm_u_self) (fun k hk => (hc.1.2.1.2 k (by omega)).cong ((he 301 (by decide) (by omega)).trans (pm_u_ne (by decide)))) (fun a ha => (he a (by omega) (by omega)).trans (pm_u_ne (by omega))) (fun j hj' => (hj j (by omega) (by omega) (by omega)).trans (pm_u_oth (by omega)))))
theorem okSV.back {v : SV} (h : okSV v) (h0 : v.2.1.1 ≠ 0) : okSV (backV v) := ⟨h.2.1.2 _ (by omega), ⟨by have := h.2.1.1; show v.2.1.1 - 1 ≤ 6; omega, fun k hk => h.2.1.2 k (by have hk' : k < v.2.1.1 - 1 := hk; omega)⟩, h.2.2⟩
theorem Q_undo (L : Nat) (A : AV) (hA : okA A) : SameI L 79 179 [] A := by
  by_cases h0 : A.1.2.1.1 = 0
  · exact ⟨_, noA A, hA.no, fun d => C_undo_no L d A hA h0, fun d => R_undo_no L d A hA h0⟩
  · exact ⟨_, (backV A.1, A.2), ⟨hA.1.back h0, hA.2⟩, fun d => C_undo L d A hA h0, fun d => R_undo L d A hA h0 (u := A.1.2.1.1 - 1) (by omega)⟩
