/-! ===== the calls, one by one: clear, status, forget, part, book ===== -/
/-- both calls, one behind the other -/
theorem both {L d Mc Mr : Nat} {as : List Value} {A A' : AV} {r : Value} (hC : Cst L d Mc as A r A') (hR : Rst L d Mr as A r A') {π : Nat → Nat → Nat} {mi : Nat → Nat → Int32} {ml : Nat → Nat → Int64} {mr : Nat → Nat → Option Nat} (hw : WR π mr) (hc : CR π mi ml A) (hr : RR mi ml A) (hvA : A.1.1.1 ≤ 7) (hcong : ∀ mi mi' ml ml', RR mi ml A → (∀ a, 285 ≤ a → a ≤ 311 → mi' a = mi a ∧ ml' a = ml a) → RR mi' ml' A) (hcong2 : ∀ π mr mi mi' ml ml', WR π mr → CR π mi ml A' → (∀ a, 1 ≤ a → a ≤ 284 → mi' a = mi a ∧ ml' a = ml a) → CR π mi' ml' A') :
    ∃ π' mi1 ml1 mr1 mi2 ml2, pm_ev gC d Mc (.ref 1 :: as) (WW L, mi, ml, mr) (some r) (WW L, mi1, ml1, mr1) ∧ pm_ev gR d Mr (.ref 285 :: as) (WW L, mi1, ml1, mr1) (some r) (WW L, mi2, ml2, mr1) ∧ WR π' mr1 ∧ CR π' mi2 ml2 A' ∧ RR mi2 ml2 A' := by
  obtain ⟨π', mi1, ml1, mr1, e1, w1, c1⟩ := hC π mi ml mr hw hc
  have p1 := pm_ev_pres _ _ _ _ _ _ e1
  have r1 : RR mi1 ml1 A := hcong mi mi1 ml ml1 hr (fun a h1 h2 => by
    have h3 := p1.2.2.2.2 a (show a ≤ 311 from h2) (show ¬ a ≤ 284 by omega)
    exact ⟨h3.1, h3.2.1⟩)
  obtain ⟨mi2, ml2, e2, r2⟩ := hR π' mi1 ml1 mr1 w1 r1
  have p2 := pm_ev_pres _ _ _ _ _ _ e2
  refine ⟨π', mi1, ml1, mr1, mi2, ml2, e1, e2, w1, ?_, r2⟩
  refine hcong2 π' mr1 mi1 mi2 ml1 ml2 w1 c1 (fun a h1 h2 => ?_)
  have h3 := p2.2.2.2.2 a (show a ≤ 311 by omega) (show ¬ 285 ≤ a by omega)
  exact ⟨h3.1, h3.2.1⟩
theorem RR.cong {mi mi' : Nat → Nat → Int32} {ml ml' : Nat → Nat → Int64} {A : AV} (hv : A.1.1.1 ≤ 7) (h : RR mi ml A) (he : ∀ a, 285 ≤ a → a ≤ 311 → mi' a = mi a ∧ ml' a = ml a) : RR mi' ml' A := by
  obtain ⟨a1, a2, a3, a4, a5, a6⟩ := h
  have hi : ∀ a, 285 ≤ a → a ≤ 311 → mi' a = mi a := fun a h1 h2 => (he a h1 h2).1
  refine ⟨a1.cong (fun a h1 h2 _ => hi a h1 (by omega)) hv, fun i hi' => ⟨by rw [hi 311 (by omega) (by omega)]; exact (a2 i hi').1, fun hk => ((a2 i hi').2 hk).cong (hi 310 (by omega) (by omega))⟩, ⟨by rw [hi 285 (by omega) (by omega)]; exact a3.1, fun i hi' => by rw [hi 297 (by omega) (by omega)]; exact a3.2 i hi'⟩, by rw [(he 285 (by omega) (by omega)).2]; exact a4, by rw [hi 286 (by omega) (by omega)]; exact a5, by rw [hi 285 (by omega) (by omega)]; exact a6⟩
theorem CR.cong {π : Nat → Nat → Nat} {mr : Nat → Nat → Option Nat} {mi mi' : Nat → Nat → Int32} {ml ml' : Nat → Nat → Int64} {A : AV} (hw : WR π mr) (h : CR π mi ml A) (he : ∀ a, 1 ≤ a → a ≤ 284 → mi' a = mi a ∧ ml' a = ml a) : CR π mi' ml' A := by
  obtain ⟨a1, a2, a3, a4, a5⟩ := h
  have hi : ∀ a, 1 ≤ a → a ≤ 284 → mi' a = mi a := fun a h1 h2 => (he a h1 h2).1
  refine ⟨a1.cong hw sp_17 (fun a h1 h2 => hi a (by omega) (by omega)), fun i hi' => ⟨by rw [hi 3 (by omega) (by omega)]; exact (a2 i hi').1, fun hk => ((a2 i hi').2 hk).cong hw (sp_img hi') (fun a h1 h2 => hi a (by omega) (by omega))⟩, ⟨a3.1, by rw [hi 4 (by omega) (by omega)]; exact a3.2.1, fun i hi' => by rw [hi 5 (by omega) (by omega)]; exact a3.2.2 i hi'⟩, by rw [(he 1 (by omega) (by omega)).2]; exact a4, by rw [hi 1 (by omega) (by omega)]; exact a5⟩
theorem c_clear {L : Nat} {π : Nat → Nat → Nat} {mi : Nat → Nat → Int32} {ml : Nat → Nat → Int64} {mr : Nat → Nat → Option Nat} (d : Nat) (hw : WR π mr) : pm_ev gC (d + 1) 74 [.ref 1] (WW L, mi, ml, mr) (some (.int (mi 4 1))) (WW L, pm_u mi 4 1 0, ml, mr) := by
  refine ev_enter (q := q_74) rfl (Nat.le_of_ble_eq_true rfl) rfl ?_
  refine ev_aload_n (p' := 1) i_74_0 rfl rfl ?_
  refine ev_getr (p' := 4) i_74_1 rfl fl_11_22 rfl is_1 (rf_1_3 hw) ?_
  refine ev_geti (p' := 7) i_74_4 rfl fl_11_121 rfl is_4 ?_
  refine ev_istore_n (p' := 8) (ls' := [_, _]) i_74_7 rfl rfl (by decide) rfl ?_
  refine ev_aload_n (p' := 9) i_74_8 rfl rfl ?_
  refine ev_getr (p' := 12) i_74_9 rfl fl_11_22 rfl is_1 (rf_1_3 hw) ?_
  refine ev_iconst (p' := 13) (v := 0) i_74_12 rfl (by decide) ?_
  refine ev_puti (p' := 16) i_74_13 rfl fl_11_121 rfl is_4 (gc (by decide)) rfl ?_
  refine ev_iload_n (p' := 17) i_74_16 rfl rfl ?_
  exact ev_iretI i_74_17 rfl ⟨rfl, rfl⟩
theorem r_clear {L : Nat} {mi : Nat → Nat → Int32} {ml : Nat → Nat → Int64} {mr : Nat → Nat → Option Nat} (d : Nat) : pm_ev gR (d + 1) 148 [.ref 285] (WW L, mi, ml, mr) (some (.int (mi 285 17))) (WW L, pm_u mi 285 17 0, ml, mr) := by
  refine ev_enter (q := q_148) rfl (Nat.le_of_ble_eq_true rfl) rfl ?_
  refine ev_aload_n (p' := 1) i_148_0 rfl rfl ?_
  refine ev_geti (p' := 4) i_148_1 rfl fl_12_130 rfl is_285 ?_
  refine ev_istore_n (p' := 5) (ls' := [_, _]) i_148_4 rfl rfl (by decide) rfl ?_
  refine ev_aload_n (p' := 6) i_148_5 rfl rfl ?_
  refine ev_iconst (p' := 7) (v := 0) i_148_6 rfl (by decide) ?_
  refine ev_puti (p' := 10) i_148_7 rfl fl_12_130 rfl is_285 (gr (by decide)) rfl ?_
  refine ev_iload_n (p' := 11) i_148_10 rfl rfl ?_
  exact ev_iretI i_148_11 rfl ⟨rfl, rfl⟩
def clearA (A : AV) : AV := (A.1, A.2.1, (0, A.2.2.1.2), A.2.2.2)
theorem C_clear (L d : Nat) (A : AV) : Cst L (d + 1) 74 [] A (.int (nI A.2.2.1.1)) (clearA A) := by
  intro π mi ml mr hw hc
  obtain ⟨a1, a2, a3, a4, a5⟩ := hc
  have h := c_clear (L := L) (mi := mi) (ml := ml) d hw
  rw [a3.2.1] at h
  refine ⟨π, _, _, _, h, hw, a1.cong hw sp_17 (fun a _ _ => pm_u_ne (by omega)), fun i hi => ⟨by rw [pm_u_ne (by decide)]; exact (a2 i hi).1, fun hk => ((a2 i hi).2 hk).cong hw (sp_img hi) (fun a _ _ => pm_u_ne (by omega))⟩, ⟨Nat.zero_le _, pm_u_self, fun i hi => absurd hi (Nat.not_lt_zero i)⟩, a4, by rw [pm_u_ne (by decide)]; exact a5⟩
theorem RS0.u285 {mi : Nat → Nat → Int32} {v : SV} {j : Nat} {x : Int32} (h : RS0 mi v) (hj : j ≠ 1 ∧ j ≠ 2 ∧ j ≠ 3 ∧ j ≠ 4 ∧ j ≠ 5 ∧ j ≠ 25) : RS0 (pm_u mi 285 j x) v := by
  obtain ⟨⟨b1, b2, b3, b4⟩, ⟨a1, a2⟩, ⟨a3, a4⟩, a5, a6⟩ := h
  refine ⟨⟨by rw [pm_u_oth (by omega)]; exact b1, by rw [pm_u_oth (by omega)]; exact b2, by rw [pm_u_oth (by omega)]; exact b3, fun i hi k hk => by rw [pm_u_ne (by omega)]; exact b4 i hi k hk⟩, ⟨by rw [pm_u_oth (by omega)]; exact a1, fun k hk => (a2 k hk).cong (pm_u_ne (by omega))⟩, ⟨by rw [pm_u_oth (by omega)]; exact a3, fun i hi k hk => by rw [pm_u_ne (by omega)]; exact a4 i hi k hk⟩, by rw [pm_u_oth (by omega)]; exact a5, fun i hi => by rw [pm_u_ne (by omega), pm_u_ne (by omega)]; exact a6 i hi⟩
theorem R_clear (L d : Nat) (A : AV) : Rst L (d + 1) 148 [] A (.int (nI A.2.2.1.1)) (clearA A) := by
  intro π mi ml mr hw hr
  obtain ⟨a1, a2, a3, a4, a5, a6⟩ := hr
  have h := r_clear (L := L) (mi := mi) (ml := ml) (mr := mr) d
  rw [a3.1] at h
  refine ⟨_, _, h, a1.u285 (by decide), fun i hi => ⟨by rw [pm_u_ne (by decide)]; exact (a2 i hi).1, fun hk => ((a2 i hi).2 hk).cong (pm_u_ne (by decide))⟩, ⟨pm_u_self, fun i hi => absurd hi (Nat.not_lt_zero i)⟩, a4, by rw [pm_u_ne (by decide)]; exact a5, by rw [pm_u_oth (by decide)]; exact a6⟩
def statR (x : Int32) (s : Int32 × Int32 × Int32) : Int32 := if x = 0 then s.1 else if x = 1 then s.2.1 else if x = 2 then s.2.2 else -1
def statM (x : Int32) (mi : Nat → Nat → Int32) (k j : Nat) : Nat → Nat → Int32 := if x = 0 ∨ x = 1 ∨ x = 2 then mi else pm_u mi k j (mi k j + 1)
def statA (x : Int32) (A : AV) : AV := if x = 0 ∨ x = 1 ∨ x = 2 then A else badA A
theorem c_status {L : Nat} {mi : Nat → Nat → Int32} {ml : Nat → Nat → Int64} {mr : Nat → Nat → Option Nat} (d : Nat) (x : Int32) : pm_ev gC (d + 1) 103 [.ref 1, .int x] (WW L, mi, ml, mr) (some (.int (statR x (mi 1 10, mi 1 11, mi 1 12)))) (WW L, statM x mi 1 10, ml, mr) := by
  refine ev_enter (q := q_103) rfl (Nat.le_of_ble_eq_true rfl) rfl ?_
  refine ev_iload_n (p' := 1) i_103_0 rfl rfl ?_
  by_cases hx0 : x = 0
  · subst hx0
    refine ev_tsIn (tg := 28) (off := 27) i_103_1 (by decide) (by decide) (by decide) (by decide) ?_
    refine ev_aload_n (p' := 29) i_103_28 rfl rfl ?_
    refine ev_geti (p' := 32) i_103_29 rfl fl_11_47 rfl is_1 ?_
    exact ev_iretI i_103_32 rfl ⟨rfl, rfl⟩
  by_cases hx1 : x = 1
  · subst hx1
    refine ev_tsIn (tg := 33) (off := 32) i_103_1 (by decide) (by decide) (by decide) (by decide) ?_
    refine ev_aload_n (p' := 34) i_103_33 rfl rfl ?_
    refine ev_geti (p' := 37) i_103_34 rfl fl_11_51 rfl is_1 ?_
    exact ev_iretI i_103_37 rfl ⟨rfl, rfl⟩
  by_cases hx2 : x = 2
  · subst hx2
    refine ev_tsIn (tg := 38) (off := 37) i_103_1 (by decide) (by decide) (by decide) (by decide) ?_
    refine ev_aload_n (p' := 39) i_103_38 rfl rfl ?_
    refine ev_geti (p' := 42) i_103_39 rfl fl_11_54 rfl is_1 ?_
    exact ev_iretI i_103_42 rfl ⟨rfl, rfl⟩
  · refine ev_tsOut (tg := 43) i_103_1 (by have z0 : x.toInt ≠ 0 := fun z => hx0 (Int32.toInt_inj.mp z); have z1 : x.toInt ≠ 1 := fun z => hx1 (Int32.toInt_inj.mp z); have z2 : x.toInt ≠ 2 := fun z => hx2 (Int32.toInt_inj.mp z); omega) (by decide) ?_
    refine ev_aload_n (p' := 44) i_103_43 rfl rfl ?_
    refine ev_dup (p' := 45) i_103_44 rfl rfl ?_
    refine ev_geti (p' := 48) i_103_45 rfl fl_11_47 rfl is_1 ?_
    refine ev_iconst (p' := 49) (v := 1) i_103_48 rfl (by decide) ?_
    refine ev_iadd (p' := 50) i_103_49 rfl ?_
    refine ev_puti (p' := 53) i_103_50 rfl fl_11_47 rfl is_1 (gc (by decide)) rfl ?_
    refine ev_iconst (p' := 54) (v := -1) i_103_53 rfl (by decide) ?_
    exact ev_iretI i_103_54 rfl ⟨by simp [statR, hx0, hx1, hx2], by simp [statM, hx0, hx1, hx2]⟩
theorem in02 {x : Int32} (h : 0 ≤ x ∧ x ≤ 2) : x = nI 0 ∨ x = nI 1 ∨ x = nI 2 := by
  obtain ⟨j, hj, e⟩ := nI_of2 (n := 2) (M := 2) rfl (Int32.not_lt.mpr h.1) h.2
  match j, hj with
  | 0, _ => exact Or.inl e
  | 1, _ => exact Or.inr (Or.inl e)
  | 2, _ => exact Or.inr (Or.inr e)
  | j + 3, h => omega
theorem nin02 {x : Int32} (h : ¬ (0 ≤ x ∧ x ≤ 2)) : ¬ (x = 0 ∨ x = 1 ∨ x = 2) := by
  rintro (rfl | rfl | rfl) <;> exact h (by decide)
theorem r_status {L : Nat} {π : Nat → Nat → Nat} {mi : Nat → Nat → Int32} {ml : Nat → Nat → Int64} {mr : Nat → Nat → Option Nat} (d : Nat) (hw : WR π mr) (x : Int32) : pm_ev gR (d + 2) 220 [.ref 285, .int x] (WW L, mi, ml, mr) (some (.int (statR x (mi 286 0, mi 286 1, mi 286 2)))) (WW L, statM x mi 286 0, ml, mr) := by
  refine ev_enter (q := q_220) rfl (Nat.le_of_ble_eq_true rfl) rfl ?_
  refine ev_iload_n (p' := 1) i_220_0 rfl rfl ?_
  refine ev_iconst (p' := 2) (v := 0) i_220_1 rfl (by decide) ?_
  refine ev_iconst (p' := 3) (v := 2) i_220_2 rfl (by decide) ?_
  refine ev_s3I (p' := 6) i_220_3 rfl cl_12_115_0 (by decide) (Nat.le_of_ble_eq_true rfl) (s_in _ _ _ _) ?_
  refine ev_if_ne (p' := 9) (tg := 21) i_220_6 rfl rfl (fun c6 => ?_) (fun c6 => ?_)
  · replace c6 := B1 c6
    rcases in02 c6 with rfl | rfl | rfl
    · refine ev_aload_n (p' := 22) i_220_21 rfl rfl ?_
      refine ev_getr (p' := 25) i_220_22 rfl fl_12_1 rfl is_285 (rf_285_0 hw) ?_
      refine ev_iload_n (p' := 26) i_220_25 rfl rfl ?_
      refine ev_ialdN (p' := 27) i_220_26 rfl is_286 len_286 (by decide) (by decide) ?_
      exact ev_iretI i_220_27 rfl ⟨rfl, rfl⟩
    · refine ev_aload_n (p' := 22) i_220_21 rfl rfl ?_
      refine ev_getr (p' := 25) i_220_22 rfl fl_12_1 rfl is_285 (rf_285_0 hw) ?_
      refine ev_iload_n (p' := 26) i_220_25 rfl rfl ?_
      refine ev_ialdN (p' := 27) i_220_26 rfl is_286 len_286 (by decide) (by decide) ?_
      exact ev_iretI i_220_27 rfl ⟨rfl, rfl⟩
    · refine ev_aload_n (p' := 22) i_220_21 rfl rfl ?_
      refine ev_getr (p' := 25) i_220_22 rfl fl_12_1 rfl is_285 (rf_285_0 hw) ?_
      refine ev_iload_n (p' := 26) i_220_25 rfl rfl ?_
      refine ev_ialdN (p' := 27) i_220_26 rfl is_286 len_286 (by decide) (by decide) ?_
      exact ev_iretI i_220_27 rfl ⟨rfl, rfl⟩
  · replace c6 := B0n c6
    refine ev_aload_n (p' := 10) i_220_9 rfl rfl ?_
    refine ev_getr (p' := 13) i_220_10 rfl fl_12_1 rfl is_285 (rf_285_0 hw) ?_
    refine ev_iconst (p' := 14) (v := nI 0) i_220_13 rfl (by decide) ?_
    refine ev_dup2 (p' := 15) i_220_14 rfl rfl rfl ?_
    refine ev_ialdN (p' := 16) i_220_15 rfl is_286 len_286 (by omega) (by decide) ?_
    refine ev_iconst (p' := 17) (v := 1) i_220_16 rfl (by decide) ?_
    refine ev_iadd (p' := 18) i_220_17 rfl ?_
    refine ev_iastN (p' := 19) i_220_18 rfl is_286 len_286 (by omega) (by decide) (gr (by decide)) ?_
    refine ev_iconst (p' := 20) (v := -1) i_220_19 rfl (by decide) ?_
    exact ev_iretI i_220_20 rfl ⟨by have h9 := nin02 c6; simp only [not_or] at h9; simp [statR, h9], by rw [statM, if_neg (nin02 c6)]⟩
theorem C_status (L d : Nat) (A : AV) (x : Int32) : Cst L (d + 1) 103 [.int x] A (.int (statR x A.2.2.2.2)) (statA x A) := by
  intro π mi ml mr hw hc
  have h := c_status (L := L) (mi := mi) (ml := ml) (mr := mr) d x
  rw [show (mi 1 10, mi 1 11, mi 1 12) = A.2.2.2.2 by rw [hc.2.2.2.2.1, hc.2.2.2.2.2.1, hc.2.2.2.2.2.2]] at h
  refine ⟨π, _, _, _, h, hw, ?_⟩
  unfold statM statA
  split
  · exact hc
  · exact hc.bad hw
theorem R_status (L d : Nat) (A : AV) (hv : A.1.1.1 ≤ 7) (x : Int32) : Rst L (d + 2) 220 [.int x] A (.int (statR x A.2.2.2.2)) (statA x A) := by
  intro π mi ml mr hw hr
  have h := r_status (L := L) (mi := mi) (ml := ml) d hw x
  rw [show (mi 286 0, mi 286 1, mi 286 2) = A.2.2.2.2 by rw [hr.2.2.2.2.1.1, hr.2.2.2.2.1.2.1, hr.2.2.2.2.1.2.2]] at h
  refine ⟨_, _, h, ?_⟩
  unfold statM statA
  split
  · exact hr
  · exact hr.bad hv
