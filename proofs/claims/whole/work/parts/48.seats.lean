/-! ===== seats, readers ===== -/
def HG (v : PV) (o : Int32) : Int32 := high (fx v.2.2.2) o v.1
theorem high_cg {f f' : Nat → Nat → Int32} {o : Int32} {n : Nat} (hn : n < 2 ^ 31) (he : ∀ i, i < n → ∀ j, j < 8 → f' j i = f j i) : high f' o n = high f o n :=
  fold_congr (fun i hi x => by
    show (if x < hgt f' o 0 i then hgt f' o 0 i else x) = (if x < hgt f o 0 i then hgt f o 0 i else x)
    rw [hgt_cg hn he i hi])
theorem CPg.hge {mi : Nat → Nat → Int32} {P : Nat} {v : PV} {o : Int32} (hp : CPg mi P v) : high (pf mi P) o v.1 = HG v o := high_cg (by have := hp.1; omega) hp.pfe
def CF (π : Nat → Nat → Nat) (mi : Nat → Nat → Int32) (ml : Nat → Nat → Int64) (A : AV) (i : Nat) : Prop := CR π mi ml A ∧ ∀ o, o < i → mi 8 o = NV A.1.1 (nI o) ∧ mi 9 o = HG A.1.1 (nI o)
theorem CF.hn {π : Nat → Nat → Nat} {mi : Nat → Nat → Int32} {ml : Nat → Nat → Int64} {A : AV} {i : Nat} (h : CF π mi ml A i) : mi 33 5 = nI A.1.1.1 := h.1.hn
theorem CF.mid {π : Nat → Nat → Nat} {mi : Nat → Nat → Int32} {ml : Nat → Nat → Int64} {mr : Nat → Nat → Option Nat} {A : AV} {i : Nat} (hw : WR π mr) (h : CF π mi ml A i) : CR π (pm_u (hm mi 33 (nI i) 0 A.1.1.1) 8 i (NV A.1.1 (nI i))) ml A := (h.1.hm hw pg_33).scr hw (fun a ha => pm_u_ne (by omega))
theorem CF.step {π : Nat → Nat → Nat} {mi : Nat → Nat → Int32} {ml : Nat → Nat → Int64} {mr : Nat → Nat → Option Nat} {A : AV} {i : Nat} (hw : WR π mr) (h : CF π mi ml A i) : CF π (pm_u (hm (pm_u (hm mi 33 (nI i) 0 A.1.1.1) 8 i (NV A.1.1 (nI i))) 33 (nI i) 0 A.1.1.1) 9 i (HG A.1.1 (nI i))) ml A (i + 1) := by
  refine ⟨((h.mid hw).hm hw pg_33).scr hw (fun a ha => pm_u_ne (by omega)), fun o ho => ?_⟩
  by_cases hh : o = i
  · subst hh
    rw [pm_u_self, pm_u_ne (by decide), hm_ne (by decide), pm_u_self]
    exact ⟨rfl, rfl⟩
  · rw [pm_u_oth hh, pm_u_ne (by decide), hm_ne (by decide), pm_u_oth hh, hm_ne (by decide), hm_ne (by decide), pm_u_ne (by decide), hm_ne (by decide)]
    exact h.2 o (by omega)
def RF2 (mi : Nat → Nat → Int32) (ml : Nat → Nat → Int64) (A : AV) (i : Nat) : Prop := RR mi ml A ∧ ∀ o, o < i → mi 308 o = NV A.1.1 (nI o) ∧ mi 309 o = HG A.1.1 (nI o)
theorem RF2.hn {mi : Nat → Nat → Int32} {ml : Nat → Nat → Int64} {A : AV} {i : Nat} (h : RF2 mi ml A i) : mi 285 1 = nI A.1.1.1 := h.1.hn
def RI (mi1 mi : Nat → Nat → Int32) (A : AV) (i j : Nat) : Prop := (∀ a, a ≠ 309 → mi a = mi1 a) ∧ (∀ b, b ≠ i → mi 309 b = mi1 309 b) ∧ mi 309 i = high (fx A.1.1.2.2.2) (nI i) j
theorem RI.step {mi1 mi : Nat → Nat → Int32} {A : AV} {i j : Nat} {x : Int32} (h : RI mi1 mi A i j) (hx : x = high (fx A.1.1.2.2.2) (nI i) (j + 1)) : RI mi1 (pm_u mi 309 i x) A i (j + 1) :=
  ⟨fun a ha => by rw [pm_u_ne ha]; exact h.1 a ha, fun b hb => by rw [pm_u_oth hb]; exact h.2.1 b hb, by rw [pm_u_self, hx]⟩
theorem RF2.step {mi mi1 : Nat → Nat → Int32} {ml : Nat → Nat → Int64} {A : AV} {i : Nat} (h7 : A.1.1.1 ≤ 7) (h : RF2 mi ml A i) (hi : RI (pm_u (hr mi i A.1.1.1) 308 i (NV A.1.1 (nI i))) mi1 A i A.1.1.1) : RF2 mi1 ml A (i + 1) := by
  refine ⟨(((h.1.hr h7).scr h7 (k := 308) (by omega) (fun a ha => pm_u_ne ha)).scr h7 (k := 309) (by omega) (fun a ha => hi.1 a ha)), fun o ho => ?_⟩
  rw [hi.1 308 (by decide)]
  by_cases hh : o = i
  · subst hh
    rw [pm_u_self]
    exact ⟨rfl, hi.2.2⟩
  · rw [pm_u_oth hh, hr_ne (by decide), hi.2.1 o hh, pm_u_ne (by decide), hr_ne (by decide)]
    exact h.2 o (by omega)
theorem mxC : ∀ i, i < 13 → ∀ j, j < 13 → (if nI i < nI j then nI j else nI i) = nI (max i j) := by decide +kernel
theorem mxR : ∀ i, i < 13 → ∀ j, j < 13 → (if nI j < nI i then nI i else nI j) = nI (max i j) := by decide +kernel
theorem div4 : ∀ i, i < 13 → nI i / 4 = nI (i / 4) := by decide +kernel
theorem d13 : ∀ i, i < 169 → nI i / 13 = nI (i / 13) := by decide +kernel
theorem r13 : ∀ i, i < 169 → nI i - nI i / 13 * 13 = nI (i % 13) := by decide +kernel
def FG (s : Nat → Int32) (i j : Nat) : Int32 := s (max i j) - nI (i / 4)
def SG (s : Nat → Int32) (i j : Nat) : Int32 := s (max i j) - nI (j / 4)
abbrev RS (s h : Nat → Int32) (i j n : Nat) : Prop := ∀ o, o < n → ¬ FG s i j < FG s o j ∧ ¬ SG h i j < SG h i o
theorem s_fg {L : Nat} {π : Nat → Nat → Nat} {mi : Nat → Nat → Int32} {ml : Nat → Nat → Int64} {mr : Nat → Nat → Option Nat} (d : Nat) (hw : WR π mr) {s : Nat → Int32} (hs : ∀ o, o < 13 → mi 8 o = s o) {i j : Nat} (hi : i < 13) (hj : j < 13) : pm_ev gC (d + 1) 123 [.ref 1, .int (nI i), .int (nI j)] (WW L, mi, ml, mr) (some (.int (FG s i j))) (WW L, mi, ml, mr) := by
  refine ev_enter (q := q_123) rfl (Nat.le_of_ble_eq_true rfl) rfl ?_
  refine ev_aload_n (p' := 1) i_123_0 rfl rfl ?_
  refine ev_getr (p' := 4) i_123_1 rfl fl_11_33 rfl is_1 (rf_1_6 hw) ?_
  refine ev_iload_n (p' := 5) i_123_4 rfl rfl ?_
  refine ev_iload_n (p' := 6) i_123_5 rfl rfl ?_
  refine ev_max (p' := 9) i_123_6 rfl cl_11_342_0 (Nat.le_of_ble_eq_true rfl) ?_
  rw [mxC i hi j hj]
  refine ev_ialdN (p' := 10) i_123_9 rfl is_8 len_8 (by omega) (by decide) ?_
  rw [hs (max i j) (by omega)]
  refine ev_iload_n (p' := 11) i_123_10 rfl rfl ?_
  refine ev_iconst (p' := 12) (v := 4) i_123_11 rfl (by decide) ?_
  refine ev_idiv (p' := 13) i_123_12 rfl (by decide) ?_
  rw [div4 i hi]
  refine ev_isub (p' := 14) i_123_13 rfl ?_
  exact ev_iretI i_123_14 rfl ⟨rfl, rfl⟩
theorem s_sg {L : Nat} {π : Nat → Nat → Nat} {mi : Nat → Nat → Int32} {ml : Nat → Nat → Int64} {mr : Nat → Nat → Option Nat} (d : Nat) (hw : WR π mr) {s : Nat → Int32} (hs : ∀ o, o < 13 → mi 9 o = s o) {i j : Nat} (hi : i < 13) (hj : j < 13) : pm_ev gC (d + 1) 124 [.ref 1, .int (nI i), .int (nI j)] (WW L, mi, ml, mr) (some (.int (SG s i j))) (WW L, mi, ml, mr) := by
  refine ev_enter (q := q_124) rfl (Nat.le_of_ble_eq_true rfl) rfl ?_
  refine ev_aload_n (p' := 1) i_124_0 rfl rfl ?_
  refine ev_getr (p' := 4) i_124_1 rfl fl_11_37 rfl is_1 (rf_1_7 hw) ?_
  refine ev_iload_n (p' := 5) i_124_4 rfl rfl ?_
  refine ev_iload_n (p' := 6) i_124_5 rfl rfl ?_
  refine ev_max (p' := 9) i_124_6 rfl cl_11_342_0 (Nat.le_of_ble_eq_true rfl) ?_
  rw [mxC i hi j hj]
  refine ev_ialdN (p' := 10) i_124_9 rfl is_9 len_9 (by omega) (by decide) ?_
  rw [hs (max i j) (by omega)]
  refine ev_iload_n (p' := 11) i_124_10 rfl rfl ?_
  refine ev_iconst (p' := 12) (v := 4) i_124_11 rfl (by decide) ?_
  refine ev_idiv (p' := 13) i_124_12 rfl (by decide) ?_
  rw [div4 j hj]
  refine ev_isub (p' := 14) i_124_13 rfl ?_
  exact ev_iretI i_124_14 rfl ⟨rfl, rfl⟩
theorem s_mfg {L : Nat} {π : Nat → Nat → Nat} {mi : Nat → Nat → Int32} {ml : Nat → Nat → Int64} {mr : Nat → Nat → Option Nat} (d : Nat) (hw : WR π mr) {s : Nat → Int32} (hs : ∀ o, o < 13 → mi 308 o = s o) {i j : Nat} (hi : i < 13) (hj : j < 13) : pm_ev gR (d + 2) 208 [.ref 285, .int (nI i), .int (nI j)] (WW L, mi, ml, mr) (some (.int (FG s i j))) (WW L, mi, ml, mr) := by
  refine ev_enter (q := q_208) rfl (Nat.le_of_ble_eq_true rfl) rfl ?_
  refine ev_aload_n (p' := 1) i_208_0 rfl rfl ?_
  refine ev_getr (p' := 4) i_208_1 rfl fl_12_76 rfl is_285 (rf_285_33 hw) ?_
  refine ev_iload_n (p' := 5) i_208_4 rfl rfl ?_
  refine ev_iload_n (p' := 6) i_208_5 rfl rfl ?_
  refine ev_s2I (p' := 9) i_208_6 rfl cl_12_252_0 (by decide) (Nat.le_of_ble_eq_true rfl) (s_greater _ _ _) ?_
  rw [mxR i hi j hj]
  refine ev_ialdN (p' := 10) i_208_9 rfl is_308 len_308 (by omega) (by decide) ?_
  rw [hs (max i j) (by omega)]
  refine ev_iload_n (p' := 11) i_208_10 rfl rfl ?_
  refine ev_iconst (p' := 12) (v := 4) i_208_11 rfl (by decide) ?_
  refine ev_idiv (p' := 13) i_208_12 rfl (by decide) ?_
  rw [div4 i hi]
  refine ev_isub (p' := 14) i_208_13 rfl ?_
  exact ev_iretI i_208_14 rfl ⟨rfl, rfl⟩
theorem s_msg {L : Nat} {π : Nat → Nat → Nat} {mi : Nat → Nat → Int32} {ml : Nat → Nat → Int64} {mr : Nat → Nat → Option Nat} (d : Nat) (hw : WR π mr) {s : Nat → Int32} (hs : ∀ o, o < 13 → mi 309 o = s o) {i j : Nat} (hi : i < 13) (hj : j < 13) : pm_ev gR (d + 2) 209 [.ref 285, .int (nI i), .int (nI j)] (WW L, mi, ml, mr) (some (.int (SG s i j))) (WW L, mi, ml, mr) := by
  refine ev_enter (q := q_209) rfl (Nat.le_of_ble_eq_true rfl) rfl ?_
  refine ev_aload_n (p' := 1) i_209_0 rfl rfl ?_
  refine ev_getr (p' := 4) i_209_1 rfl fl_12_79 rfl is_285 (rf_285_34 hw) ?_
  refine ev_iload_n (p' := 5) i_209_4 rfl rfl ?_
  refine ev_iload_n (p' := 6) i_209_5 rfl rfl ?_
  refine ev_s2I (p' := 9) i_209_6 rfl cl_12_252_0 (by decide) (Nat.le_of_ble_eq_true rfl) (s_greater _ _ _) ?_
  rw [mxR i hi j hj]
  refine ev_ialdN (p' := 10) i_209_9 rfl is_309 len_309 (by omega) (by decide) ?_
  rw [hs (max i j) (by omega)]
  refine ev_iload_n (p' := 11) i_209_10 rfl rfl ?_
  refine ev_iconst (p' := 12) (v := 4) i_209_11 rfl (by decide) ?_
  refine ev_idiv (p' := 13) i_209_12 rfl (by decide) ?_
  rw [div4 j hj]
  refine ev_isub (p' := 14) i_209_13 rfl ?_
  exact ev_iretI i_209_14 rfl ⟨rfl, rfl⟩
theorem l_rests {L : Nat} {π : Nat → Nat → Nat} {mi : Nat → Nat → Int32} {ml : Nat → Nat → Int64} {mr : Nat → Nat → Option Nat} {d : Nat} {E : Option Value → pm_M → Prop} (hw : WR π mr) {s h : Nat → Int32} (hs : ∀ o, o < 13 → mi 8 o = s o) (hh : ∀ o, o < 13 → mi 9 o = h o) {i j : Nat} (hi : i < 13) (hj : j < 13) (hE : E (some (.int (B (RS s h i j 13)))) (WW L, mi, ml, mr)) : ∀ k n, n + k = 13 → RS s h i j n → Ev gC (pm_ev gC (d + 1)) E q_122 2 [some (.ref 1), some (.int (nI i)), some (.int (nI j)), some (.int (nI n))] [] (WW L, mi, ml, mr) := by
  intro k
  induction k with
  | zero =>
    intro n hn hx
    have hn : n = 13 := by omega
    subst hn
    refine ev_iload_n (p' := 3) i_122_2 rfl rfl ?_
    refine ev_bipush (p' := 5) (v := 12) i_122_3 rfl (by decide) ?_
    refine ev_icmp_gt (p' := 8) (tg := 46) i_122_5 rfl rfl (fun c5 => ?_) (fun c5 => absurd (by decide) c5)
    refine ev_iconst (p' := 47) (v := 1) i_122_46 rfl (by decide) ?_
    exact ev_iret i_122_47 rfl rfl (by rw [B_t hx] at hE; exact hE)
  | succ k ih =>
    intro n hn hx
    refine ev_iload_n (p' := 3) i_122_2 rfl rfl ?_
    refine ev_bipush (p' := 5) (v := 12) i_122_3 rfl (by decide) ?_
    refine ev_icmp_gt (p' := 8) (tg := 46) i_122_5 rfl rfl (fun c5 => absurd c5 (Int32.not_lt.mpr (nI_le (b := 12) (by omega) (by decide)))) (fun c5 => ?_)
    refine ev_aload_n (p' := 9) i_122_8 rfl rfl ?_
    refine ev_iload_n (p' := 10) i_122_9 rfl rfl ?_
    refine ev_iload_n (p' := 11) i_122_10 rfl rfl ?_
    refine ev_v2I (p' := 14) i_122_11 rfl cl_11_358_11 (by decide) is_1 (Nat.le_of_ble_eq_true rfl) (s_fg _ hw hs (show n < 13 by omega) hj) ?_
    refine ev_aload_n (p' := 15) i_122_14 rfl rfl ?_
    refine ev_iload_n (p' := 16) i_122_15 rfl rfl ?_
    refine ev_iload_n (p' := 17) i_122_16 rfl rfl ?_
    refine ev_v2I (p' := 20) i_122_17 rfl cl_11_358_11 (by decide) is_1 (Nat.le_of_ble_eq_true rfl) (s_fg _ hw hs hi hj) ?_
    refine ev_icmp_gt (p' := 23) (tg := 38) i_122_20 rfl rfl (fun c20 => ?_) (fun c20 => ?_)
    · refine ev_iconst (p' := 39) (v := 0) i_122_38 rfl (by decide) ?_
      exact ev_iret i_122_39 rfl rfl (by rw [B_f (fun y => (y n (by omega)).1 c20)] at hE; exact hE)
    · refine ev_aload_n (p' := 24) i_122_23 rfl rfl ?_
      refine ev_iload_n (p' := 25) i_122_24 rfl rfl ?_
      refine ev_iload_n (p' := 26) i_122_25 rfl rfl ?_
      refine ev_v2I (p' := 29) i_122_26 rfl cl_11_361_11 (by decide) is_1 (Nat.le_of_ble_eq_true rfl) (s_sg _ hw hh hi (show n < 13 by omega)) ?_
      refine ev_aload_n (p' := 30) i_122_29 rfl rfl ?_
      refine ev_iload_n (p' := 31) i_122_30 rfl rfl ?_
      refine ev_iload_n (p' := 32) i_122_31 rfl rfl ?_
      refine ev_v2I (p' := 35) i_122_32 rfl cl_11_361_11 (by decide) is_1 (Nat.le_of_ble_eq_true rfl) (s_sg _ hw hh hi hj) ?_
      refine ev_icmp_le (p' := 38) (tg := 40) i_122_35 rfl rfl (fun c35 => ?_) (fun c35 => ?_)
      · refine ev_iinc (p' := 43) (ls' := [_, _, _, _]) i_122_40 rfl rfl rfl (by decide) (nI_inc _) rfl ?_
        refine ev_goto (tg := 2) i_122_43 rfl ?_
        exact ih (n + 1) (by omega) (fun o ho => by
          rcases Nat.lt_succ_iff_lt_or_eq.mp ho with z | z
          · exact hx o z
          · subst z; exact ⟨c20, Int32.not_lt.mpr c35⟩)
      · refine ev_iconst (p' := 39) (v := 0) i_122_38 rfl (by decide) ?_
        exact ev_iret i_122_39 rfl rfl (by rw [B_f (fun y => (y n (by omega)).2 (Int32.not_le.mp c35))] at hE; exact hE)
theorem s_rests {L : Nat} {π : Nat → Nat → Nat} {mi : Nat → Nat → Int32} {ml : Nat → Nat → Int64} {mr : Nat → Nat → Option Nat} (d : Nat) (hw : WR π mr) {s h : Nat → Int32} (hs : ∀ o, o < 13 → mi 8 o = s o) (hh : ∀ o, o < 13 → mi 9 o = h o) {i j : Nat} (hi : i < 13) (hj : j < 13) : pm_ev gC (d + 2) 122 [.ref 1, .int (nI i), .int (nI j)] (WW L, mi, ml, mr) (some (.int (B (RS s h i j 13)))) (WW L, mi, ml, mr) := by
  refine ev_enter (q := q_122) rfl (Nat.le_of_ble_eq_true rfl) rfl ?_
  refine ev_iconst (p' := 1) (v := nI 0) i_122_0 rfl (by decide) ?_
  refine ev_istore_n (p' := 2) (ls' := [_, _, _, _]) i_122_1 rfl rfl (by decide) rfl ?_
  exact l_rests hw hs hh hi hj ⟨rfl, rfl⟩ 13 0 (by decide) (fun o ho => absurd ho (Nat.not_lt_zero o))
theorem l_mrests {L : Nat} {π : Nat → Nat → Nat} {mi : Nat → Nat → Int32} {ml : Nat → Nat → Int64} {mr : Nat → Nat → Option Nat} {d : Nat} {E : Option Value → pm_M → Prop} (hw : WR π mr) {s h : Nat → Int32} (hs : ∀ o, o < 13 → mi 308 o = s o) (hh : ∀ o, o < 13 → mi 309 o = h o) {i j : Nat} (hi : i < 13) (hj : j < 13) (hE : E (some (.int (B (RS s h i j 13)))) (WW L, mi, ml, mr)) : ∀ k n, n + k = 13 → Ev gR (pm_ev gR (d + 2)) E q_210 5 [some (.ref 285), some (.int (nI i)), some (.int (nI j)), some (.int (B (RS s h i j n))), some (.int (nI n))] [] (WW L, mi, ml, mr) := by
  intro k
  induction k with
  | zero =>
    intro n hn
    have hn : n = 13 := by omega
    subst hn
    refine ev_iload (p' := 7) i_210_5 rfl rfl ?_
    refine ev_bipush (p' := 9) (v := 12) i_210_7 rfl (by decide) ?_
    refine ev_icmp_gt (p' := 12) (tg := 60) i_210_9 rfl rfl (fun c9 => ?_) (fun c9 => absurd (by decide) c9)
    refine ev_iload_n (p' := 61) i_210_60 rfl rfl ?_
    exact ev_iret i_210_61 rfl B_nar hE
  | succ k ih =>
    intro n hn
    refine ev_iload (p' := 7) i_210_5 rfl rfl ?_
    refine ev_bipush (p' := 9) (v := 12) i_210_7 rfl (by decide) ?_
    refine ev_icmp_gt (p' := 12) (tg := 60) i_210_9 rfl rfl (fun c9 => absurd c9 (Int32.not_lt.mpr (nI_le (b := 12) (by omega) (by decide)))) (fun c9 => ?_)
    refine ev_iload_n (p' := 13) i_210_12 rfl rfl ?_
    refine ev_if_eq (p' := 16) (tg := 52) i_210_13 rfl rfl (fun c13 => ?_) (fun c13 => ?_)
    · replace c13 := B0 c13
      refine ev_iconst (p' := 53) (v := 0) i_210_52 rfl (by decide) ?_
      refine ev_istore_n (p' := 54) (ls' := [_, _, _, _, _]) i_210_53 rfl rfl (by decide) rfl ?_
      refine ev_iinc (p' := 57) (ls' := [_, _, _, _, _]) i_210_54 rfl rfl rfl (by decide) (nI_inc _) rfl ?_
      refine ev_goto (tg := 5) i_210_57 rfl ?_
      refine ev_cast (by rw [B_f (fun z => c13 (fun o ho => z o (by omega)))]) rfl rfl (ih (n + 1) (by omega))
    · replace c13 := B1 c13
      refine ev_aload_n (p' := 17) i_210_16 rfl rfl ?_
      refine ev_iload_n (p' := 18) i_210_17 rfl rfl ?_
      refine ev_iload_n (p' := 19) i_210_18 rfl rfl ?_
      refine ev_v2I (p' := 22) i_210_19 rfl cl_12_300_12 (by decide) is_285 (Nat.le_of_ble_eq_true rfl) (s_mfg _ hw hs hi hj) ?_
      refine ev_aload_n (p' := 23) i_210_22 rfl rfl ?_
      refine ev_iload (p' := 25) i_210_23 rfl rfl ?_
      refine ev_iload_n (p' := 26) i_210_25 rfl rfl ?_
      refine ev_v2I (p' := 29) i_210_26 rfl cl_12_300_12 (by decide) is_285 (Nat.le_of_ble_eq_true rfl) (s_mfg _ hw hs (show n < 13 by omega) hj) ?_
      refine ev_icmp_lt (p' := 32) (tg := 52) i_210_29 rfl rfl (fun c29 => ?_) (fun c29 => ?_)
      · refine ev_iconst (p' := 53) (v := 0) i_210_52 rfl (by decide) ?_
        refine ev_istore_n (p' := 54) (ls' := [_, _, _, _, _]) i_210_53 rfl rfl (by decide) rfl ?_
        refine ev_iinc (p' := 57) (ls' := [_, _, _, _, _]) i_210_54 rfl rfl rfl (by decide) (nI_inc _) rfl ?_
        refine ev_goto (tg := 5) i_210_57 rfl ?_
        refine ev_cast (by rw [B_f (fun z => (z n (by omega)).1 c29)]) rfl rfl (ih (n + 1) (by omega))
      · refine ev_aload_n (p' := 33) i_210_32 rfl rfl ?_
        refine ev_iload_n (p' := 34) i_210_33 rfl rfl ?_
        refine ev_iload_n (p' := 35) i_210_34 rfl rfl ?_
        refine ev_v2I (p' := 38) i_210_35 rfl cl_12_303_12 (by decide) is_285 (Nat.le_of_ble_eq_true rfl) (s_msg _ hw hh hi hj) ?_
        refine ev_aload_n (p' := 39) i_210_38 rfl rfl ?_
        refine ev_iload_n (p' := 40) i_210_39 rfl rfl ?_
        refine ev_iload (p' := 42) i_210_40 rfl rfl ?_
        refine ev_v2I (p' := 45) i_210_42 rfl cl_12_303_12 (by decide) is_285 (Nat.le_of_ble_eq_true rfl) (s_msg _ hw hh hi (show n < 13 by omega)) ?_
        refine ev_icmp_lt (p' := 48) (tg := 52) i_210_45 rfl rfl (fun c45 => ?_) (fun c45 => ?_)
        · refine ev_iconst (p' := 53) (v := 0) i_210_52 rfl (by decide) ?_
          refine ev_istore_n (p' := 54) (ls' := [_, _, _, _, _]) i_210_53 rfl rfl (by decide) rfl ?_
          refine ev_iinc (p' := 57) (ls' := [_, _, _, _, _]) i_210_54 rfl rfl rfl (by decide) (nI_inc _) rfl ?_
          refine ev_goto (tg := 5) i_210_57 rfl ?_
          refine ev_cast (by rw [B_f (fun z => (z n (by omega)).2 c45)]) rfl rfl (ih (n + 1) (by omega))
        · refine ev_iconst (p' := 49) (v := 1) i_210_48 rfl (by decide) ?_
          refine ev_goto (tg := 53) i_210_49 rfl ?_
          refine ev_istore_n (p' := 54) (ls' := [_, _, _, _, _]) i_210_53 rfl rfl (by decide) rfl ?_
          refine ev_iinc (p' := 57) (ls' := [_, _, _, _, _]) i_210_54 rfl rfl rfl (by decide) (nI_inc _) rfl ?_
          refine ev_goto (tg := 5) i_210_57 rfl ?_
          refine ev_cast (by rw [B_t (fun o ho => by
            rcases Nat.lt_succ_iff_lt_or_eq.mp ho with z | z
            · exact c13 o z
            · subst z; exact ⟨c29, c45⟩)]) rfl rfl (ih (n + 1) (by omega))
theorem s_mrests {L : Nat} {π : Nat → Nat → Nat} {mi : Nat → Nat → Int32} {ml : Nat → Nat → Int64} {mr : Nat → Nat → Option Nat} (d : Nat) (hw : WR π mr) {s h : Nat → Int32} (hs : ∀ o, o < 13 → mi 308 o = s o) (hh : ∀ o, o < 13 → mi 309 o = h o) {i j : Nat} (hi : i < 13) (hj : j < 13) : pm_ev gR (d + 3) 210 [.ref 285, .int (nI i), .int (nI j)] (WW L, mi, ml, mr) (some (.int (B (RS s h i j 13)))) (WW L, mi, ml, mr) := by
  refine ev_enter (q := q_210) rfl (Nat.le_of_ble_eq_true rfl) rfl ?_
  refine ev_iconst (p' := 1) (v := 1) i_210_0 rfl (by decide) ?_
  refine ev_istore_n (p' := 2) (ls' := [_, _, _, _, _]) i_210_1 rfl rfl (by decide) rfl ?_
  refine ev_iconst (p' := 3) (v := nI 0) i_210_2 rfl (by decide) ?_
  refine ev_istore (p' := 5) (ls' := [_, _, _, _, _]) i_210_3 rfl rfl (by decide) rfl ?_
  refine ev_cast (by rw [B_t (show RS s h i j 0 from fun o ho => absurd ho (Nat.not_lt_zero o))]) rfl rfl (l_mrests hw hs hh hi hj ⟨rfl, rfl⟩ 13 0 (by decide))
noncomputable def sc (p : Nat → Prop) (m : Nat) : Nat := fold (fun q c => @ite _ (p q) (Classical.propDecidable _) (c + 1) c) m 0
theorem sc_t {p : Nat → Prop} {m : Nat} (h : p m) : sc p (m + 1) = sc p m + 1 := @if_pos _ (Classical.propDecidable _) h _ _ _
theorem sc_f {p : Nat → Prop} {m : Nat} (h : ¬ p m) : sc p (m + 1) = sc p m := @if_neg _ (Classical.propDecidable _) h _ _ _
theorem sc_le {p : Nat → Prop} : ∀ m, sc p m ≤ m := by
  intro m
  induction m with
  | zero => exact Nat.le_refl _
  | succ m ih =>
    by_cases h : p m
    · rw [sc_t h]; omega
    · rw [sc_f h]; omega
theorem sc_up {p : Nat → Prop} : ∀ k m, sc p m ≤ sc p (m + k) := by
  intro k m
  induction k with
  | zero => exact Nat.le_refl _
  | succ k ih =>
    rw [← Nat.add_assoc]
    by_cases h : p (m + k)
    · rw [sc_t h]; omega
    · rw [sc_f h]; exact ih
noncomputable def tl (p : Nat → Prop) (k : Int32) (m : Nat) : Int32 := fold (fun q t => @ite _ (p q ∧ nI (sc p q) = k) (Classical.propDecidable _) (nI q) t) m (-5)
theorem tl_t {p : Nat → Prop} {k : Int32} {m : Nat} (h : p m ∧ nI (sc p m) = k) : tl p k (m + 1) = nI m := @if_pos _ (Classical.propDecidable _) h _ _ _
theorem tl_f {p : Nat → Prop} {k : Int32} {m : Nat} (h : ¬ (p m ∧ nI (sc p m) = k)) : tl p k (m + 1) = tl p k m := @if_neg _ (Classical.propDecidable _) h _ _ _
theorem tl_keep {p : Nat → Prop} {k : Int32} {q : Nat} (h : p q) (hk : nI (sc p q) = k) : ∀ e, q + 1 + e ≤ 1000 → tl p k (q + 1 + e) = nI q := by
  intro e
  induction e with
  | zero => intro _; exact tl_t ⟨h, hk⟩
  | succ e ih =>
    intro he
    rw [← Nat.add_assoc, tl_f, ih (by omega)]
    rintro ⟨-, h2⟩
    rw [← hk] at h2
    have h3 := (nI_eq (by have := sc_le (p := p) (q + 1 + e); omega) (by have := sc_le (p := p) q; omega)).mp h2
    have h4 := sc_up (p := p) e (q + 1)
    rw [sc_t h] at h4
    omega
noncomputable def SA (A : AV) (k : Int32) : Int32 := if k = -1 then nI (sc (fun q => RS (fun o => NV A.1.1 (nI o)) (fun o => HG A.1.1 (nI o)) (q / 13) (q % 13) 13) 169) else tl (fun q => RS (fun o => NV A.1.1 (nI o)) (fun o => HG A.1.1 (nI o)) (q / 13) (q % 13) 13) k 169
theorem l_fill {L : Nat} {π : Nat → Nat → Nat} {ml : Nat → Nat → Int64} {mr : Nat → Nat → Option Nat} {d : Nat} {E : Option Value → pm_M → Prop} (hw : WR π mr) {A : AV} (hA : okA A) {y : Int32} (hE : ∀ mi x3, CF π mi ml A 13 → Ev gC (pm_ev gC (d + 7)) E q_97 58 [some (.ref 1), some (.int y), some (.int (nI 13)), x3] [] (WW L, mi, ml, mr)) : ∀ (k i : Nat) (mi : Nat → Nat → Int32) (x3 : Option Value), i + k = 13 → CF π mi ml A i → Ev gC (pm_ev gC (d + 7)) E q_97 12 [some (.ref 1), some (.int y), some (.int (nI i)), x3] [] (WW L, mi, ml, mr) := by
  intro k
  induction k with
  | zero =>
    intro i mi x3 hi hc
    have hi : i = 13 := by omega
    subst hi
    have h7 := hA.n7
    have hn := hc.hn
    refine ev_iload_n (p' := 13) i_97_12 rfl rfl ?_
    refine ev_bipush (p' := 15) (v := 12) i_97_13 rfl (by decide) ?_
    refine ev_icmp_gt (p' := 18) (tg := 58) i_97_15 rfl rfl (fun c15 => ?_) (fun c15 => absurd (by decide) c15)
    exact hE _ _ hc
  | succ k ih =>
    intro i mi x3 hi hc
    have h7 := hA.n7
    have hn := hc.hn
    refine ev_iload_n (p' := 13) i_97_12 rfl rfl ?_
    refine ev_bipush (p' := 15) (v := 12) i_97_13 rfl (by decide) ?_
    refine ev_icmp_gt (p' := 18) (tg := 58) i_97_15 rfl rfl (fun c15 => absurd c15 (Int32.not_lt.mpr (nI_le (b := 12) (by omega) (by decide)))) (fun c15 => ?_)
    refine ev_aload_n (p' := 19) i_97_18 rfl rfl ?_
    refine ev_getr (p' := 22) i_97_19 rfl fl_11_33 rfl is_1 (rf_1_6 hw) ?_
    refine ev_iload_n (p' := 23) i_97_22 rfl rfl ?_
    refine ev_aload_n (p' := 24) i_97_23 rfl rfl ?_
    refine ev_getr (p' := 27) i_97_24 rfl fl_11_78 rfl is_1 (rf_1_0 hw) ?_
    refine ev_getr (p' := 30) i_97_27 rfl fl_11_97 rfl (is_sp sp_17) (hw.page sp_17) ?_
    refine ev_iload_n (p' := 31) i_97_30 rfl rfl ?_
    refine ev_v1I (p' := 34) i_97_31 rfl cl_11_227_2 (by decide) (is_pg pg_33) (Nat.le_of_ble_eq_true rfl) (v_visMany _ hw pg_33 hc.1.pg hA.1.1 _) ?_
    rw [show bcnt (VS A.1.1 (nI i) 0) = NV A.1.1 (nI i) from rfl]
    refine ev_iastN (p' := 35) i_97_34 rfl is_8 len_8 (by omega) (by decide) (gc (by decide)) ?_
    refine ev_aload_n (p' := 36) i_97_35 rfl rfl ?_
    refine ev_getr (p' := 39) i_97_36 rfl fl_11_37 rfl is_1 (rf_1_7 hw) ?_
    refine ev_iload_n (p' := 40) i_97_39 rfl rfl ?_
    refine ev_aload_n (p' := 41) i_97_40 rfl rfl ?_
    refine ev_getr (p' := 44) i_97_41 rfl fl_11_78 rfl is_1 (rf_1_0 hw) ?_
    refine ev_getr (p' := 47) i_97_44 rfl fl_11_97 rfl (is_sp sp_17) (hw.page sp_17) ?_
    refine ev_iload_n (p' := 48) i_97_47 rfl rfl ?_
    refine ev_v1I (p' := 51) i_97_48 rfl cl_11_281_2 (by decide) (is_pg pg_33) (Nat.le_of_ble_eq_true rfl) (s_high _ hw pg_33 (hc.mid hw).pg.1 (hc.mid hw).pg.2.1 ((hc.mid hw).pg.ks hA.1.1) _) ?_
    rw [(hc.mid hw).pg.hge]
    refine ev_iastN (p' := 52) i_97_51 rfl is_9 len_9 (by omega) (by decide) (gc (by decide)) ?_
    refine ev_iinc (p' := 55) (ls' := [_, _, _, _]) i_97_52 rfl rfl rfl (by decide) (nI_inc _) rfl ?_
    refine ev_goto (tg := 12) i_97_55 rfl ?_
    exact ih (i + 1) _ _ (by omega) (hc.step hw)
theorem l_pair {L : Nat} {π : Nat → Nat → Nat} {ml : Nat → Nat → Int64} {mr : Nat → Nat → Option Nat} {d : Nat} {E : Option Value → pm_M → Prop} (hw : WR π mr) {A : AV} (hA : okA A) {y : Int32} (hE : ∀ mi, CR π mi ml A → E (some (.int (SA A y))) (WW L, mi, ml, mr)) : ∀ (k i : Nat) (mi : Nat → Nat → Int32), i + k = 169 → CF π mi ml A 13 → tl (fun q => RS (fun o => NV A.1.1 (nI o)) (fun o => HG A.1.1 (nI o)) (q / 13) (q % 13) 13) y i = -5 → Ev gC (pm_ev gC (d + 7)) E q_97 62 [some (.ref 1), some (.int y), some (.int (nI (sc (fun q => RS (fun o => NV A.1.1 (nI o)) (fun o => HG A.1.1 (nI o)) (q / 13) (q % 13) 13) i))), some (.int (nI i))] [] (WW L, mi, ml, mr) := by
  intro k
  induction k with
  | zero =>
    intro i mi hi hc hx
    have hi : i = 169 := by omega
    subst hi
    have h7 := hA.n7
    have hn := hc.hn
    refine ev_iload_n (p' := 63) i_97_62 rfl rfl ?_
    refine ev_sipush (p' := 66) (v := 169) i_97_63 rfl (by decide) ?_
    refine ev_icmp_ge (p' := 69) (tg := 100) i_97_66 rfl rfl (fun c66 => ?_) (fun c66 => absurd (by decide) c66)
    refine ev_iload_n (p' := 101) i_97_100 rfl rfl ?_
    refine ev_iconst (p' := 102) (v := -1) i_97_101 rfl (by decide) ?_
    refine ev_icmp_ne (p' := 105) (tg := 109) i_97_102 rfl rfl (fun c102 => ?_) (fun c102 => ?_)
    · refine ev_bipush (p' := 111) (v := -5) i_97_109 rfl (by decide) ?_
      exact ev_iretI i_97_111 rfl (by have z := hE _ hc.1; unfold SA at z; rw [if_neg c102, hx] at z; exact z)
    · refine ev_iload_n (p' := 106) i_97_105 rfl rfl ?_
      refine ev_goto (tg := 111) i_97_106 rfl ?_
      exact ev_iretI i_97_111 rfl (by have z := hE _ hc.1; unfold SA at z; rw [if_pos (Classical.not_not.mp c102)] at z; exact z)
  | succ k ih =>
    intro i mi hi hc hx
    have h7 := hA.n7
    have hn := hc.hn
    refine ev_iload_n (p' := 63) i_97_62 rfl rfl ?_
    refine ev_sipush (p' := 66) (v := 169) i_97_63 rfl (by decide) ?_
    refine ev_icmp_ge (p' := 69) (tg := 100) i_97_66 rfl rfl (fun c66 => absurd c66 (nI_ge (b := 169) (by omega) (by decide))) (fun c66 => ?_)
    refine ev_aload_n (p' := 70) i_97_69 rfl rfl ?_
    refine ev_iload_n (p' := 71) i_97_70 rfl rfl ?_
    refine ev_bipush (p' := 73) (v := 13) i_97_71 rfl (by decide) ?_
    refine ev_idiv (p' := 74) i_97_73 rfl (by decide) ?_
    rw [d13 i (by omega)]
    refine ev_iload_n (p' := 75) i_97_74 rfl rfl ?_
    refine ev_bipush (p' := 77) (v := 13) i_97_75 rfl (by decide) ?_
    refine ev_irem (p' := 78) i_97_77 rfl (by decide) ?_
    rw [r13 i (by omega)]
    refine ev_v2I (p' := 81) i_97_78 rfl cl_11_284_11 (by decide) is_1 (Nat.le_of_ble_eq_true rfl) (s_rests (s := (fun o => NV A.1.1 (nI o))) (h := (fun o => HG A.1.1 (nI o))) _ hw (fun o ho => (hc.2 o ho).1) (fun o ho => (hc.2 o ho).2) (show i / 13 < 13 by omega) (show i % 13 < 13 by omega)) ?_
    refine ev_if_eq (p' := 84) (tg := 94) i_97_81 rfl rfl (fun c81 => ?_) (fun c81 => ?_)
    · replace c81 := B0 c81
      refine ev_iinc (p' := 97) (ls' := [_, _, _, _]) i_97_94 rfl rfl rfl (by decide) (nI_inc _) rfl ?_
      refine ev_goto (tg := 62) i_97_97 rfl ?_
      refine ev_cast (by rw [sc_f (p := (fun q => RS (fun o => NV A.1.1 (nI o)) (fun o => HG A.1.1 (nI o)) (q / 13) (q % 13) 13)) c81]) rfl rfl (ih (i + 1) _ (by omega) hc (by rw [tl_f (p := (fun q => RS (fun o => NV A.1.1 (nI o)) (fun o => HG A.1.1 (nI o)) (q / 13) (q % 13) 13)) (fun z => c81 z.1)]; exact hx))
    · replace c81 := B1 c81
      refine ev_iload_n (p' := 85) i_97_84 rfl rfl ?_
      refine ev_iload_n (p' := 86) i_97_85 rfl rfl ?_
      refine ev_icmp_ne (p' := 89) (tg := 91) i_97_86 rfl rfl (fun c86 => ?_) (fun c86 => ?_)
      · refine ev_iinc (p' := 94) (ls' := [_, _, _, _]) i_97_91 rfl rfl rfl (by decide) (nI_inc _) rfl ?_
        refine ev_iinc (p' := 97) (ls' := [_, _, _, _]) i_97_94 rfl rfl rfl (by decide) (nI_inc _) rfl ?_
        refine ev_goto (tg := 62) i_97_97 rfl ?_
        refine ev_cast (by rw [sc_t (p := (fun q => RS (fun o => NV A.1.1 (nI o)) (fun o => HG A.1.1 (nI o)) (q / 13) (q % 13) 13)) c81]) rfl rfl (ih (i + 1) _ (by omega) hc (by rw [tl_f (p := (fun q => RS (fun o => NV A.1.1 (nI o)) (fun o => HG A.1.1 (nI o)) (q / 13) (q % 13) 13)) (fun z => c86 z.2)]; exact hx))
      · refine ev_iload_n (p' := 90) i_97_89 rfl rfl ?_
        exact ev_iretI i_97_90 rfl (by
  have z := hE _ hc.1
  have e := Classical.not_not.mp c86
  have k9 := tl_keep (p := (fun q => RS (fun o => NV A.1.1 (nI o)) (fun o => HG A.1.1 (nI o)) (q / 13) (q % 13) 13)) c81 e (168 - i) (by omega)
  rw [show i + 1 + (168 - i) = 169 by omega] at k9
  unfold SA at z
  rw [if_neg (by rw [← e]; exact ne_m1 (by have := sc_le (p := (fun q => RS (fun o => NV A.1.1 (nI o)) (fun o => HG A.1.1 (nI o)) (q / 13) (q % 13) 13)) i; omega)), k9] at z
  exact z)
theorem C_seats_bad (L d : Nat) (A : AV) (hA : okA A) (x : Int32) (hb : ¬ (-1 ≤ x)) : Cst L (d + 24) 97 [.int x] A (.int (-10)) (badA A) := by
  refine C_of (q := q_97) rfl (Nat.le_of_ble_eq_true rfl) rfl (fun π mi ml mr hw hc => ?_)
  have hn := hc.hn
  have h7 := hA.n7
  refine ev_iload_n (p' := 1) i_97_0 rfl rfl ?_
  refine ev_iconst (p' := 2) (v := -1) i_97_1 rfl (by decide) ?_
  refine ev_icmp_ge (p' := 5) (tg := 10) i_97_2 rfl rfl (fun c2 => absurd c2 (hb)) (fun c2 => ?_)
  refine ev_aload_n (p' := 6) i_97_5 rfl rfl ?_
  refine ev_v0I (p' := 9) i_97_6 rfl cl_11_239_11 (by decide) is_1 (Nat.le_of_ble_eq_true rfl) (s_badE _) ?_
  exact ev_iretI i_97_9 rfl (EC.mk rfl hw (hc.bad hw))
theorem R_seats_bad (L d : Nat) (A : AV) (hA : okA A) (x : Int32) (hb : ¬ (-1 ≤ x)) : Rst L (d + 24) 211 [.int x] A (.int (-10)) (badA A) := by
  refine R_of (q := q_211) rfl (Nat.le_of_ble_eq_true rfl) rfl (fun π mi ml mr hw hc => ?_)
  have hn := hc.hn
  have h7 := hA.n7
  refine ev_iload_n (p' := 1) i_211_0 rfl rfl ?_
  refine ev_iconst (p' := 2) (v := -1) i_211_1 rfl (by decide) ?_
  refine ev_icmp_ge (p' := 5) (tg := 10) i_211_2 rfl rfl (fun c2 => absurd c2 (hb)) (fun c2 => ?_)
  refine ev_aload_n (p' := 6) i_211_5 rfl rfl ?_
  refine ev_v0I (p' := 9) i_211_6 rfl cl_12_267_12 (by decide) is_285 (Nat.le_of_ble_eq_true rfl) (s_mten _ hw) ?_
  exact ev_iretI i_211_9 rfl (ER.mk rfl (hc.bad h7))
theorem C_seats (L d : Nat) (A : AV) (hA : okA A) (x : Int32) (hx : -1 ≤ x) : Cst L (d + 24) 97 [.int x] A (.int (SA A x)) (A) := by
  refine C_of (q := q_97) rfl (Nat.le_of_ble_eq_true rfl) rfl (fun π mi ml mr hw hc => ?_)
  have hn := hc.hn
  have h7 := hA.n7
  refine ev_iload_n (p' := 1) i_97_0 rfl rfl ?_
  refine ev_iconst (p' := 2) (v := -1) i_97_1 rfl (by decide) ?_
  refine ev_icmp_ge (p' := 5) (tg := 10) i_97_2 rfl rfl (fun c2 => ?_) (fun c2 => absurd (hx) c2)
  refine ev_iconst (p' := 11) (v := nI 0) i_97_10 rfl (by decide) ?_
  refine ev_istore_n (p' := 12) (ls' := [_, _, _, _]) i_97_11 rfl rfl (by decide) rfl ?_
  refine l_fill (d := d + 16) hw hA (fun mi x3 hc => ?_) 13 0 mi _ (by decide) ⟨hc, fun o ho => absurd ho (Nat.not_lt_zero o)⟩
  refine ev_iconst (p' := 59) (v := nI 0) i_97_58 rfl (by decide) ?_
  refine ev_istore_n (p' := 60) (ls' := [_, _, _, _]) i_97_59 rfl rfl (by decide) rfl ?_
  refine ev_iconst (p' := 61) (v := nI 0) i_97_60 rfl (by decide) ?_
  refine ev_istore_n (p' := 62) (ls' := [_, _, _, _]) i_97_61 rfl rfl (by decide) rfl ?_
  exact l_pair (d := d + 16) hw hA (fun mi h => EC.mk rfl hw h) 169 0 mi (by decide) hc rfl
theorem l_mfi {L : Nat} {π : Nat → Nat → Nat} {ml : Nat → Nat → Int64} {mr : Nat → Nat → Option Nat} {mi1 : Nat → Nat → Int32} {d : Nat} {E : Option Value → pm_M → Prop} (hw : WR π mr) {A : AV} (hA : okA A) (hc : RR mi1 ml A) {i : Nat} (hi13 : i < 13) {y : Int32} {x4 x5 : Option Value} (hE : ∀ mi, RI mi1 mi A i A.1.1.1 → Ev gR (pm_ev gR (d + 7)) E q_211 76 [some (.ref 285), some (.int y), some (.int (nI i)), some (.int (nI A.1.1.1)), x4, x5] [] (WW L, mi, ml, mr)) : ∀ k j mi, j + k = A.1.1.1 → RI mi1 mi A i j → Ev gR (pm_ev gR (d + 7)) E q_211 41 [some (.ref 285), some (.int y), some (.int (nI i)), some (.int (nI j)), x4, x5] [] (WW L, mi, ml, mr) := by
  have h7 := hA.n7
  intro k
  induction k with
  | zero =>
    intro j mi hj hL
    have hR : RR mi ml A := hc.scr h7 (k := 309) (by omega) (fun a ha => hL.1 a ha)
    have hn := hR.hn
    have hj : j = A.1.1.1 := by omega
    subst hj
    refine ev_iload_n (p' := 42) i_211_41 rfl rfl ?_
    refine ev_aload_n (p' := 43) i_211_42 rfl rfl ?_
    refine ev_geti (p' := 46) i_211_43 rfl fl_12_96 rfl is_285 ?_
    refine ev_icmp_ge (p' := 49) (tg := 76) i_211_46 rfl rfl (fun c46 => ?_) (fun c46 => absurd (by rw [hn]; exact nI_le (by omega) (by omega)) c46)
    exact hE _ hL
  | succ k ih =>
    intro j mi hj hL
    have hR : RR mi ml A := hc.scr h7 (k := 309) (by omega) (fun a ha => hL.1 a ha)
    have hn := hR.hn
    refine ev_iload_n (p' := 42) i_211_41 rfl rfl ?_
    refine ev_aload_n (p' := 43) i_211_42 rfl rfl ?_
    refine ev_geti (p' := 46) i_211_43 rfl fl_12_96 rfl is_285 ?_
    refine ev_icmp_ge (p' := 49) (tg := 76) i_211_46 rfl rfl (fun c46 => absurd c46 (by rw [hn]; exact nI_ge (by omega) (by omega))) (fun c46 => ?_)
    refine ev_aload_n (p' := 50) i_211_49 rfl rfl ?_
    refine ev_getr (p' := 53) i_211_50 rfl fl_12_79 rfl is_285 (rf_285_34 hw) ?_
    refine ev_iload_n (p' := 54) i_211_53 rfl rfl ?_
    refine ev_aload_n (p' := 55) i_211_54 rfl rfl ?_
    refine ev_getr (p' := 58) i_211_55 rfl fl_12_79 rfl is_285 (rf_285_34 hw) ?_
    refine ev_iload_n (p' := 59) i_211_58 rfl rfl ?_
    refine ev_ialdN (p' := 60) i_211_59 rfl is_309 len_309 (by omega) (by decide) ?_
    rw [hL.2.2]
    refine ev_aload_n (p' := 61) i_211_60 rfl rfl ?_
    refine ev_iload_n (p' := 62) i_211_61 rfl rfl ?_
    refine ev_iload_n (p' := 63) i_211_62 rfl rfl ?_
    refine ev_v2I (p' := 66) i_211_63 rfl cl_12_219_12 (by decide) is_285 (Nat.le_of_ble_eq_true rfl) (v_mHeight _ hw hR hA hi13 (show j < A.1.1.1 by omega)) ?_
    refine ev_s2I (p' := 69) i_211_66 rfl cl_12_252_0 (by decide) (Nat.le_of_ble_eq_true rfl) (s_greater _ _ _) ?_
    refine ev_iastN (p' := 70) i_211_69 rfl is_309 len_309 (by omega) (by decide) (gr (by decide)) ?_
    refine ev_iinc (p' := 73) (ls' := [_, _, _, _, _, _]) i_211_70 rfl rfl rfl (by decide) (nI_inc _) rfl ?_
    refine ev_goto (tg := 41) i_211_73 rfl ?_
    exact ih (j + 1) _ (by omega) (hL.step gr_eq)
theorem l_mfill {L : Nat} {π : Nat → Nat → Nat} {ml : Nat → Nat → Int64} {mr : Nat → Nat → Option Nat} {d : Nat} {E : Option Value → pm_M → Prop} (hw : WR π mr) {A : AV} (hA : okA A) {y : Int32} (hE : ∀ mi x3 x4 x5, RF2 mi ml A 13 → Ev gR (pm_ev gR (d + 7)) E q_211 82 [some (.ref 285), some (.int y), some (.int (nI 13)), x3, x4, x5] [] (WW L, mi, ml, mr)) : ∀ (k i : Nat) (mi : Nat → Nat → Int32) (x3 x4 x5 : Option Value), i + k = 13 → RF2 mi ml A i → Ev gR (pm_ev gR (d + 7)) E q_211 12 [some (.ref 285), some (.int y), some (.int (nI i)), x3, x4, x5] [] (WW L, mi, ml, mr) := by
  intro k
  induction k with
  | zero =>
    intro i mi x3 x4 x5 hi hc
    have hi : i = 13 := by omega
    subst hi
    have h7 := hA.n7
    have hn := hc.hn
    refine ev_iload_n (p' := 13) i_211_12 rfl rfl ?_
    refine ev_bipush (p' := 15) (v := 12) i_211_13 rfl (by decide) ?_
    refine ev_icmp_gt (p' := 18) (tg := 82) i_211_15 rfl rfl (fun c15 => ?_) (fun c15 => absurd (by decide) c15)
    exact hE _ _ _ _ hc
  | succ k ih =>
    intro i mi x3 x4 x5 hi hc
    have h7 := hA.n7
    have hn := hc.hn
    refine ev_iload_n (p' := 13) i_211_12 rfl rfl ?_
    refine ev_bipush (p' := 15) (v := 12) i_211_13 rfl (by decide) ?_
    refine ev_icmp_gt (p' := 18) (tg := 82) i_211_15 rfl rfl (fun c15 => absurd c15 (Int32.not_lt.mpr (nI_le (b := 12) (by omega) (by decide)))) (fun c15 => ?_)
    refine ev_aload_n (p' := 19) i_211_18 rfl rfl ?_
    refine ev_getr (p' := 22) i_211_19 rfl fl_12_76 rfl is_285 (rf_285_33 hw) ?_
    refine ev_iload_n (p' := 23) i_211_22 rfl rfl ?_
    refine ev_aload_n (p' := 24) i_211_23 rfl rfl ?_
    refine ev_iload_n (p' := 25) i_211_24 rfl rfl ?_
    refine ev_v1I (p' := 28) i_211_25 rfl cl_12_237_12 (by decide) is_285 (Nat.le_of_ble_eq_true rfl) (v_mSeen _ hw hc.1 hA (show i < 13 by omega)) ?_
    refine ev_s1I (p' := 31) i_211_28 rfl cl_12_249_0 (by decide) (Nat.le_of_ble_eq_true rfl) (s_bits _ _) ?_
    rw [VS_bits h7, show bcnt (VS A.1.1 (nI i) 0) = NV A.1.1 (nI i) from rfl]
    refine ev_iastN (p' := 32) i_211_31 rfl is_308 len_308 (by omega) (by decide) (gr (by decide)) ?_
    refine ev_aload_n (p' := 33) i_211_32 rfl rfl ?_
    refine ev_getr (p' := 36) i_211_33 rfl fl_12_79 rfl is_285 (rf_285_34 hw) ?_
    refine ev_iload_n (p' := 37) i_211_36 rfl rfl ?_
    refine ev_iconst (p' := 38) (v := 0) i_211_37 rfl (by decide) ?_
    refine ev_iastN (p' := 39) i_211_38 rfl is_309 len_309 (by omega) (by decide) (gr (by decide)) ?_
    have h2 : RR (pm_u (hr mi i A.1.1.1) 308 i (NV A.1.1 (nI i))) ml A := (hc.1.hr h7).scr h7 (k := 308) (by omega) (fun a ha => pm_u_ne ha)
    refine ev_iconst (p' := 40) (v := nI 0) i_211_39 rfl (by decide) ?_
    refine ev_istore_n (p' := 41) (ls' := [_, _, _, _, _, _]) i_211_40 rfl rfl (by decide) rfl ?_
    refine l_mfi hw hA h2 (show i < 13 by omega) (fun mi3 hL => ?_) A.1.1.1 0 _ (by omega) ⟨fun a ha => pm_u_ne ha, fun b hb => pm_u_oth hb, pm_u_self⟩
    refine ev_iinc (p' := 79) (ls' := [_, _, _, _, _, _]) i_211_76 rfl rfl rfl (by decide) (nI_inc _) rfl ?_
    refine ev_goto (tg := 12) i_211_79 rfl ?_
    exact ih (i + 1) _ _ _ _ (by omega) (hc.step h7 hL)
theorem l_mpi {L : Nat} {π : Nat → Nat → Nat} {mi : Nat → Nat → Int32} {ml : Nat → Nat → Int64} {mr : Nat → Nat → Option Nat} {d : Nat} {E : Option Value → pm_M → Prop} (hw : WR π mr) {A : AV} (hA : okA A) (hc : RF2 mi ml A 13) {i : Nat} (hi13 : i < 13) {y : Int32} (kk : Ev gR (pm_ev gR (d + 7)) E q_211 145 [some (.ref 285), some (.int y), some (.int (nI (sc (fun q => RS (fun o => NV A.1.1 (nI o)) (fun o => HG A.1.1 (nI o)) (q / 13) (q % 13) 13) (13 * i + 13)))), some (.int (tl (fun q => RS (fun o => NV A.1.1 (nI o)) (fun o => HG A.1.1 (nI o)) (q / 13) (q % 13) 13) y (13 * i + 13))), some (.int (nI i)), some (.int (nI 13))] [] (WW L, mi, ml, mr)) : ∀ k j, j + k = 13 → Ev gR (pm_ev gR (d + 7)) E q_211 100 [some (.ref 285), some (.int y), some (.int (nI (sc (fun q => RS (fun o => NV A.1.1 (nI o)) (fun o => HG A.1.1 (nI o)) (q / 13) (q % 13) 13) (13 * i + j)))), some (.int (tl (fun q => RS (fun o => NV A.1.1 (nI o)) (fun o => HG A.1.1 (nI o)) (q / 13) (q % 13) 13) y (13 * i + j))), some (.int (nI i)), some (.int (nI j))] [] (WW L, mi, ml, mr) := by
  intro k
  induction k with
  | zero =>
    intro j hj
    have hj : j = 13 := by omega
    subst hj
    refine ev_iload (p' := 102) i_211_100 rfl rfl ?_
    refine ev_bipush (p' := 104) (v := 12) i_211_102 rfl (by decide) ?_
    refine ev_icmp_gt (p' := 107) (tg := 145) i_211_104 rfl rfl (fun c104 => ?_) (fun c104 => absurd (by decide) c104)
    exact kk
  | succ k ih =>
    intro j hj
    have e1 : (13 * i + j) / 13 = i := by omega
    have e2 : (13 * i + j) % 13 = j := by omega
    refine ev_iload (p' := 102) i_211_100 rfl rfl ?_
    refine ev_bipush (p' := 104) (v := 12) i_211_102 rfl (by decide) ?_
    refine ev_icmp_gt (p' := 107) (tg := 145) i_211_104 rfl rfl (fun c104 => absurd c104 (Int32.not_lt.mpr (nI_le (b := 12) (by omega) (by decide)))) (fun c104 => ?_)
    refine ev_aload_n (p' := 108) i_211_107 rfl rfl ?_
    refine ev_iload (p' := 110) i_211_108 rfl rfl ?_
    refine ev_iload (p' := 112) i_211_110 rfl rfl ?_
    refine ev_v2I (p' := 115) i_211_112 rfl cl_12_306_12 (by decide) is_285 (Nat.le_of_ble_eq_true rfl) (s_mrests (s := (fun o => NV A.1.1 (nI o))) (h := (fun o => HG A.1.1 (nI o))) _ hw (fun o ho => (hc.2 o ho).1) (fun o ho => (hc.2 o ho).2) hi13 (show j < 13 by omega)) ?_
    refine ev_if_eq (p' := 118) (tg := 139) i_211_115 rfl rfl (fun c115 => ?_) (fun c115 => ?_)
    · replace c115 := B0 c115
      refine ev_iinc (p' := 142) (ls' := [_, _, _, _, _, _]) i_211_139 rfl rfl rfl (by decide) (nI_inc _) rfl ?_
      refine ev_goto (tg := 100) i_211_142 rfl ?_
      refine ev_cast (by rw [← Nat.add_assoc, sc_f (p := (fun q => RS (fun o => NV A.1.1 (nI o)) (fun o => HG A.1.1 (nI o)) (q / 13) (q % 13) 13)) (fun z : (fun q => RS (fun o => NV A.1.1 (nI o)) (fun o => HG A.1.1 (nI o)) (q / 13) (q % 13) 13) (13 * i + j) => c115 (by have y : RS _ _ ((13 * i + j) / 13) ((13 * i + j) % 13) 13 := z; rw [e1, e2] at y; exact y)), tl_f (p := (fun q => RS (fun o => NV A.1.1 (nI o)) (fun o => HG A.1.1 (nI o)) (q / 13) (q % 13) 13)) (fun z => (fun z : (fun q => RS (fun o => NV A.1.1 (nI o)) (fun o => HG A.1.1 (nI o)) (q / 13) (q % 13) 13) (13 * i + j) => c115 (by have y : RS _ _ ((13 * i + j) / 13) ((13 * i + j) % 13) 13 := z; rw [e1, e2] at y; exact y)) z.1)]) rfl rfl (ih (j + 1) (by omega))
    · replace c115 := B1 c115
      refine ev_iload_n (p' := 119) i_211_118 rfl rfl ?_
      refine ev_iload_n (p' := 120) i_211_119 rfl rfl ?_
      refine ev_icmp_ne (p' := 123) (tg := 134) i_211_120 rfl rfl (fun c120 => ?_) (fun c120 => ?_)
      · refine ev_iload_n (p' := 135) i_211_134 rfl rfl ?_
        refine ev_istore_n (p' := 136) (ls' := [_, _, _, _, _, _]) i_211_135 rfl rfl (by decide) rfl ?_
        refine ev_iinc (p' := 139) (ls' := [_, _, _, _, _, _]) i_211_136 rfl rfl rfl (by decide) (nI_inc _) rfl ?_
        refine ev_iinc (p' := 142) (ls' := [_, _, _, _, _, _]) i_211_139 rfl rfl rfl (by decide) (nI_inc _) rfl ?_
        refine ev_goto (tg := 100) i_211_142 rfl ?_
        refine ev_cast (by rw [← Nat.add_assoc, sc_t (p := (fun q => RS (fun o => NV A.1.1 (nI o)) (fun o => HG A.1.1 (nI o)) (q / 13) (q % 13) 13)) (show (fun q => RS (fun o => NV A.1.1 (nI o)) (fun o => HG A.1.1 (nI o)) (q / 13) (q % 13) 13) (13 * i + j) from by show RS _ _ ((13 * i + j) / 13) ((13 * i + j) % 13) 13; rw [e1, e2]; exact c115), tl_f (p := (fun q => RS (fun o => NV A.1.1 (nI o)) (fun o => HG A.1.1 (nI o)) (q / 13) (q % 13) 13)) (fun z => c120 z.2)]) rfl rfl (ih (j + 1) (by omega))
      · refine ev_bipush (p' := 125) (v := nI 13) i_211_123 rfl (by decide) ?_
        refine ev_iload (p' := 127) i_211_125 rfl rfl ?_
        refine ev_imulN (p' := 128) i_211_127 rfl ?_
        refine ev_iload (p' := 130) i_211_128 rfl rfl ?_
        refine ev_iaddN (p' := 131) i_211_130 rfl ?_
        refine ev_goto (tg := 135) i_211_131 rfl ?_
        refine ev_istore_n (p' := 136) (ls' := [_, _, _, _, _, _]) i_211_135 rfl rfl (by decide) rfl ?_
        refine ev_iinc (p' := 139) (ls' := [_, _, _, _, _, _]) i_211_136 rfl rfl rfl (by decide) (nI_inc _) rfl ?_
        refine ev_iinc (p' := 142) (ls' := [_, _, _, _, _, _]) i_211_139 rfl rfl rfl (by decide) (nI_inc _) rfl ?_
        refine ev_goto (tg := 100) i_211_142 rfl ?_
        refine ev_cast (by rw [← Nat.add_assoc, sc_t (p := (fun q => RS (fun o => NV A.1.1 (nI o)) (fun o => HG A.1.1 (nI o)) (q / 13) (q % 13) 13)) (show (fun q => RS (fun o => NV A.1.1 (nI o)) (fun o => HG A.1.1 (nI o)) (q / 13) (q % 13) 13) (13 * i + j) from by show RS _ _ ((13 * i + j) / 13) ((13 * i + j) % 13) 13; rw [e1, e2]; exact c115), tl_t (p := (fun q => RS (fun o => NV A.1.1 (nI o)) (fun o => HG A.1.1 (nI o)) (q / 13) (q % 13) 13)) ⟨(show (fun q => RS (fun o => NV A.1.1 (nI o)) (fun o => HG A.1.1 (nI o)) (q / 13) (q % 13) 13) (13 * i + j) from by show RS _ _ ((13 * i + j) / 13) ((13 * i + j) % 13) 13; rw [e1, e2]; exact c115), Classical.not_not.mp c120⟩]) rfl rfl (ih (j + 1) (by omega))
theorem l_mpo {L : Nat} {π : Nat → Nat → Nat} {mi : Nat → Nat → Int32} {ml : Nat → Nat → Int64} {mr : Nat → Nat → Option Nat} {d : Nat} {E : Option Value → pm_M → Prop} (hw : WR π mr) {A : AV} (hA : okA A) (hc : RF2 mi ml A 13) {y : Int32} (hE : E (some (.int (SA A y))) (WW L, mi, ml, mr)) : ∀ k i x5, i + k = 13 → Ev gR (pm_ev gR (d + 7)) E q_211 90 [some (.ref 285), some (.int y), some (.int (nI (sc (fun q => RS (fun o => NV A.1.1 (nI o)) (fun o => HG A.1.1 (nI o)) (q / 13) (q % 13) 13) (13 * i)))), some (.int (tl (fun q => RS (fun o => NV A.1.1 (nI o)) (fun o => HG A.1.1 (nI o)) (q / 13) (q % 13) 13) y (13 * i))), some (.int (nI i)), x5] [] (WW L, mi, ml, mr) := by
  intro k
  induction k with
  | zero =>
    intro i x5 hi
    have hi : i = 13 := by omega
    subst hi
    refine ev_iload (p' := 92) i_211_90 rfl rfl ?_
    refine ev_bipush (p' := 94) (v := 12) i_211_92 rfl (by decide) ?_
    refine ev_icmp_gt (p' := 97) (tg := 151) i_211_94 rfl rfl (fun c94 => ?_) (fun c94 => absurd (by decide) c94)
    refine ev_iload_n (p' := 152) i_211_151 rfl rfl ?_
    refine ev_iconst (p' := 153) (v := -1) i_211_152 rfl (by decide) ?_
    refine ev_icmp_ne (p' := 156) (tg := 160) i_211_153 rfl rfl (fun c153 => ?_) (fun c153 => ?_)
    · refine ev_iload_n (p' := 161) i_211_160 rfl rfl ?_
      exact ev_iretI i_211_161 rfl (by unfold SA at hE; rw [if_neg c153] at hE; exact hE)
    · refine ev_iload_n (p' := 157) i_211_156 rfl rfl ?_
      refine ev_goto (tg := 161) i_211_157 rfl ?_
      exact ev_iretI i_211_161 rfl (by unfold SA at hE; rw [if_pos (Classical.not_not.mp c153)] at hE; exact hE)
  | succ k ih =>
    intro i x5 hi
    refine ev_iload (p' := 92) i_211_90 rfl rfl ?_
    refine ev_bipush (p' := 94) (v := 12) i_211_92 rfl (by decide) ?_
    refine ev_icmp_gt (p' := 97) (tg := 151) i_211_94 rfl rfl (fun c94 => absurd c94 (Int32.not_lt.mpr (nI_le (b := 12) (by omega) (by decide)))) (fun c94 => ?_)
    refine ev_iconst (p' := 98) (v := nI 0) i_211_97 rfl (by decide) ?_
    refine ev_istore (p' := 100) (ls' := [_, _, _, _, _, _]) i_211_98 rfl rfl (by decide) rfl ?_
    refine ev_cast (by rw [Nat.add_zero]) rfl rfl (l_mpi hw hA hc (show i < 13 by omega) ?_ 13 0 (by decide))
    refine ev_iinc (p' := 148) (ls' := [_, _, _, _, _, _]) i_211_145 rfl rfl rfl (by decide) (nI_inc _) rfl ?_
    refine ev_goto (tg := 90) i_211_148 rfl ?_
    refine ev_cast (by rw [Nat.mul_succ]) rfl rfl (ih (i + 1) _ (by omega))
theorem R_seats (L d : Nat) (A : AV) (hA : okA A) (x : Int32) (hx : -1 ≤ x) : Rst L (d + 24) 211 [.int x] A (.int (SA A x)) (A) := by
  refine R_of (q := q_211) rfl (Nat.le_of_ble_eq_true rfl) rfl (fun π mi ml mr hw hc => ?_)
  have hn := hc.hn
  have h7 := hA.n7
  refine ev_iload_n (p' := 1) i_211_0 rfl rfl ?_
  refine ev_iconst (p' := 2) (v := -1) i_211_1 rfl (by decide) ?_
  refine ev_icmp_ge (p' := 5) (tg := 10) i_211_2 rfl rfl (fun c2 => ?_) (fun c2 => absurd (hx) c2)
  refine ev_iconst (p' := 11) (v := nI 0) i_211_10 rfl (by decide) ?_
  refine ev_istore_n (p' := 12) (ls' := [_, _, _, _, _, _]) i_211_11 rfl rfl (by decide) rfl ?_
  refine l_mfill (d := d + 16) hw hA (fun mi x3 x4 x5 hc => ?_) 13 0 mi _ _ _ (by decide) ⟨hc, fun o ho => absurd ho (Nat.not_lt_zero o)⟩
  refine ev_iconst (p' := 83) (v := nI 0) i_211_82 rfl (by decide) ?_
  refine ev_istore_n (p' := 84) (ls' := [_, _, _, _, _, _]) i_211_83 rfl rfl (by decide) rfl ?_
  refine ev_bipush (p' := 86) (v := -5) i_211_84 rfl (by decide) ?_
  refine ev_istore_n (p' := 87) (ls' := [_, _, _, _, _, _]) i_211_86 rfl rfl (by decide) rfl ?_
  refine ev_iconst (p' := 88) (v := nI 0) i_211_87 rfl (by decide) ?_
  refine ev_istore (p' := 90) (ls' := [_, _, _, _, _, _]) i_211_88 rfl rfl (by decide) rfl ?_
  exact l_mpo (d := d + 16) hw hA hc (ER.mk rfl hc.1) 13 0 _ (by decide)
theorem Q_seats (L : Nat) (A : AV) (hA : okA A) (x : Int32) : SameI L 97 211 [.int x] A := by
  by_cases h : -1 ≤ x
  · exact ⟨_, A, hA, fun d => C_seats L d A hA x h, fun d => R_seats L d A hA x h⟩
  · exact ⟨_, badA A, hA.bad, fun d => C_seats_bad L d A hA x h, fun d => R_seats_bad L d A hA x h⟩
/-! readers -/
theorem xs_ex (x : Nat) : ∃ y, y = (x * 1103515245 + 12345) % 2147483648 := ⟨_, rfl⟩
noncomputable def xs (x : Nat) : Nat := Classical.choose (xs_ex x)
theorem xs_eq (x : Nat) : xs x = (x * 1103515245 + 12345) % 2147483648 := Classical.choose_spec (xs_ex x)
theorem xo_ex (x : Nat) : ∃ y, y = x / 65536 % 13 := ⟨_, rfl⟩
noncomputable def xo (x : Nat) : Nat := Classical.choose (xo_ex x)
theorem xo_eq (x : Nat) : xo x = x / 65536 % 13 := Classical.choose_spec (xo_ex x)
theorem xs_lt (x : Nat) : xs x < 2 ^ 31 := by rw [xs_eq]; exact Nat.mod_lt _ (by decide)
theorem xo_lt (x : Nat) : xo x < 13 := by rw [xo_eq]; exact Nat.mod_lt _ (by decide)
theorem lcg {x : Nat} (hx : x < 2 ^ 31) : lN x * 1103515245 + 12345 - (lN x * 1103515245 + 12345) / 2147483648 * 2147483648 = lN (xs x) := by
  have h : lN x * 1103515245 + 12345 = lN (x * 1103515245 + 12345) := by
    show lN x * lN 1103515245 + lN 12345 = _
    rw [lN_mul, lN_add]
  rw [h, xs_eq]
  exact pk_lRem (b := 2147483648) (by omega) (by decide) (by decide)
theorem lcg2 {x : Nat} (hx : x < 2 ^ 31) : (lN x / 65536 - lN x / 65536 / 13 * 13).toInt32 = nI (xo x) := by
  have h : lN x / 65536 = lN (x / 65536) := pk_lDiv (b := 65536) (by omega) (by decide) (by decide)
  rw [h]
  have h2 : lN (x / 65536) - lN (x / 65536) / 13 * 13 = lN (x / 65536 % 13) := pk_lRem (b := 13) (by omega) (by decide) (by decide)
  rw [h2, lN_i, xo_eq]
noncomputable def rdS (s : Nat × PV × Int32) : Nat × PV × Int32 := (xs s.1, opV s.2.1 (nI (xo (xs s.1))), s.2.2 + NV (opV s.2.1 (nI (xo (xs s.1)))) (nI (xo (xs s.1))))
noncomputable def rd (v : PV) (sd n : Nat) : Nat × PV × Int32 := fold (fun _ s => rdS s) n (sd, v, 0)
theorem rd_s {v : PV} {sd n : Nat} : rd v sd (n + 1) = rdS (rd v sd n) := fold_s (f := fun _ s => rdS s)
theorem rd_0 {v : PV} {sd : Nat} : rd v sd 0 = (sd, v, 0) := rfl
theorem rd_ok {v : PV} {sd : Nat} (hv : okPV v) (hs : sd < 2 ^ 31) : ∀ n, (rd v sd n).1 < 2 ^ 31 ∧ okPV (rd v sd n).2.1 ∧ (rd v sd n).2.1.1 = v.1 := by
  intro n
  induction n with
  | zero => exact ⟨hs, hv, rfl⟩
  | succ n ih =>
    rw [rd_s]
    exact ⟨xs_lt _, ih.2.1.op (xo_lt _), ih.2.2⟩
def RQ (mi : Nat → Nat → Int32) (ml : Nat → Nat → Int64) (A : AV) (w : PV) : Prop := RR mi ml ((w, A.1.2), A.2) ∧ RPg mi 302 0 A.1.1 ∧ w.1 = A.1.1.1
theorem RQ.hn {mi : Nat → Nat → Int32} {ml : Nat → Nat → Int64} {A : AV} {w : PV} (h : RQ mi ml A w) : mi 285 1 = nI A.1.1.1 := h.1.hn.trans (congrArg nI h.2.2)
theorem l_readers {L : Nat} {π : Nat → Nat → Nat} {ml : Nat → Nat → Int64} {mr : Nat → Nat → Option Nat} {d : Nat} {E : Option Value → pm_M → Prop} (hw : WR π mr) {A : AV} (hA : okA A) {sd n : Nat} (hsd : sd < 2 ^ 31) (hn60 : n ≤ 60) (hE : ∀ mi, CR π mi ml A → E (some (.int ((rd A.1.1 sd n).2.2))) (WW L, mi, ml, mr)) : ∀ (k i : Nat) (mi : Nat → Nat → Int32) (x7 : Option Value), i + k = n → C2 π mi ml A (rd A.1.1 sd i).2.1 → Ev gC (pm_ev gC (d + 7)) E q_99 49 [some (.ref 1), some (.int (nI sd)), some (.int (nI n)), some (.long (lN (rd A.1.1 sd i).1)), none, some (.int (rd A.1.1 sd i).2.2), some (.int (nI i)), x7] [] (WW L, mi, ml, mr) := by
  intro k
  induction k with
  | zero =>
    intro i mi x7 hi hc
    have hi : i = n := by omega
    subst hi
    have h7 := hA.n7
    have hn := hc.hn
    refine ev_iload (p' := 51) i_99_49 rfl rfl ?_
    refine ev_iload_n (p' := 52) i_99_51 rfl rfl ?_
    refine ev_icmp_ge (p' := 55) (tg := 110) i_99_52 rfl rfl (fun c52 => ?_) (fun c52 => absurd (nI_le (by omega) (by omega)) c52)
    refine ev_iload (p' := 112) i_99_110 rfl rfl ?_
    exact ev_iretI i_99_112 rfl (hE _ hc.1)
  | succ k ih =>
    intro i mi x7 hi hc
    have h7 := hA.n7
    have hn := hc.hn
    have ok := rd_ok hA.1.1 hsd i
    refine ev_iload (p' := 51) i_99_49 rfl rfl ?_
    refine ev_iload_n (p' := 52) i_99_51 rfl rfl ?_
    refine ev_icmp_ge (p' := 55) (tg := 110) i_99_52 rfl rfl (fun c52 => absurd c52 (nI_ge (by omega) (by omega))) (fun c52 => ?_)
    refine ev_lload_n (p' := 56) i_99_55 rfl rfl ?_
    refine ev_ldc2_w (p' := 59) (v := 1103515245) i_99_56 rfl (by decide +kernel) ?_
    refine ev_lmul (p' := 60) i_99_59 rfl ?_
    refine ev_ldc2_w (p' := 63) (v := 12345) i_99_60 rfl (by decide +kernel) ?_
    refine ev_ladd (p' := 64) i_99_63 rfl ?_
    refine ev_ldc2_w (p' := 67) (v := 2147483648) i_99_64 rfl (by decide +kernel) ?_
    refine ev_lrem (p' := 68) i_99_67 rfl (by decide) ?_
    rw [lcg ok.1]
    refine ev_lstore_n (p' := 69) (ls' := [_, _, _, _, _, _, _, _]) i_99_68 rfl rfl (by decide) rfl ?_
    refine ev_lload_n (p' := 70) i_99_69 rfl rfl ?_
    refine ev_ldc2_w (p' := 73) (v := 65536) i_99_70 rfl (by decide +kernel) ?_
    refine ev_ldiv (p' := 74) i_99_73 rfl (by decide) ?_
    refine ev_ldc2_w (p' := 77) (v := 13) i_99_74 rfl (by decide +kernel) ?_
    refine ev_lrem (p' := 78) i_99_77 rfl (by decide) ?_
    refine ev_l2i (p' := 79) i_99_78 rfl ?_
    rw [lcg2 (xs_lt _)]
    refine ev_istore (p' := 81) (ls' := [_, _, _, _, _, _, _, _]) i_99_79 rfl rfl (by decide) rfl ?_
    refine ev_aload_n (p' := 82) i_99_81 rfl rfl ?_
    refine ev_getr (p' := 85) i_99_82 rfl fl_11_85 rfl is_1 (rf_1_4 hw) ?_
    refine ev_iload (p' := 87) i_99_85 rfl rfl ?_
    refine ev_v1V (p' := 90) i_99_87 rfl cl_11_151_2 (by decide) (is_pg pg_275) (Nat.le_of_ble_eq_true rfl) (s_open _ hw pg_275 hc.2.1 hc.2.2.1 _) ?_
    have h2 : C2 π (pm_u (wm mi 275 (iabs (nI (xo (xs (rd A.1.1 sd i).1)) - mi 275 4)) (rd A.1.1 sd i).2.1.1) 275 4 (nI (xo (xs (rd A.1.1 sd i).1)))) ml A (opV (rd A.1.1 sd i).2.1 (nI (xo (xs (rd A.1.1 sd i).1)))) := ⟨hc.1.scr hw (fun a ha => op_cell hc.2.1 (by omega)), hc.2.op⟩
    refine ev_iload (p' := 92) i_99_90 rfl rfl ?_
    refine ev_aload_n (p' := 93) i_99_92 rfl rfl ?_
    refine ev_getr (p' := 96) i_99_93 rfl fl_11_85 rfl is_1 (rf_1_4 hw) ?_
    refine ev_iload (p' := 98) i_99_96 rfl rfl ?_
    refine ev_v1I (p' := 101) i_99_98 rfl cl_11_227_2 (by decide) (is_pg pg_275) (Nat.le_of_ble_eq_true rfl) (v_visMany _ hw pg_275 h2.2 (ok.2.1.op (xo_lt _)) _) ?_
    refine ev_iadd (p' := 102) i_99_101 rfl ?_
    refine ev_istore (p' := 104) (ls' := [_, _, _, _, _, _, _, _]) i_99_102 rfl rfl (by decide) rfl ?_
    refine ev_iinc (p' := 107) (ls' := [_, _, _, _, _, _, _, _]) i_99_104 rfl rfl rfl (by decide) (nI_inc _) rfl ?_
    refine ev_goto (tg := 49) i_99_107 rfl ?_
    refine ev_cast (by rw [rd_s]; rfl) rfl rfl (ih (i + 1) _ _ (by omega) (by rw [rd_s]; exact h2.hm hw))
theorem l_mreaders {L : Nat} {π : Nat → Nat → Nat} {ml : Nat → Nat → Int64} {mr : Nat → Nat → Option Nat} {d : Nat} {E : Option Value → pm_M → Prop} (hw : WR π mr) {A : AV} (hA : okA A) {sd n : Nat} (hsd : sd < 2 ^ 31) (hn60 : n ≤ 60) (hE : ∀ mi, RR mi ml A → E (some (.int ((rd A.1.1 sd n).2.2))) (WW L, mi, ml, mr)) : ∀ (k i : Nat) (mi : Nat → Nat → Int32), i + k = n → RQ mi ml A (rd A.1.1 sd i).2.1 → Ev gR (pm_ev gR (d + 7)) E q_214 44 [some (.ref 285), some (.int (nI sd)), some (.int (nI n)), some (.long (lN (rd A.1.1 sd i).1)), none, some (.int (rd A.1.1 sd i).2.2), some (.int (nI i))] [] (WW L, mi, ml, mr) := by
  intro k
  induction k with
  | zero =>
    intro i mi hi hc
    have hi : i = n := by omega
    subst hi
    have h7 := hA.n7
    have hn := hc.hn
    refine ev_iload (p' := 46) i_214_44 rfl rfl ?_
    refine ev_iload_n (p' := 47) i_214_46 rfl rfl ?_
    refine ev_icmp_ge (p' := 50) (tg := 100) i_214_47 rfl rfl (fun c47 => ?_) (fun c47 => absurd (nI_le (by omega) (by omega)) c47)
    refine ev_aload_n (p' := 101) i_214_100 rfl rfl ?_
    refine ev_aload_n (p' := 102) i_214_101 rfl rfl ?_
    refine ev_getr (p' := 105) i_214_102 rfl fl_12_58 rfl is_285 (rf_285_26 hw) ?_
    refine ev_iconst (p' := 106) (v := nI 0) i_214_105 rfl (by decide) ?_
    obtain ⟨mi2, e2, hP, he, hj⟩ := s_takes (L := L) (ml := ml) (d + 6) hw (R := 302) (b := 0) (m := 52) (by decide) (gr (by decide)) (fun mi => is_302) len_302 (by decide) (by decide) hc.2.1 h7
    refine ev_v2V (p' := 109) i_214_106 rfl cl_12_243_12 (by decide) is_285 (Nat.le_of_ble_eq_true rfl) (e2) ?_
    refine ev_iload (p' := 111) i_214_109 rfl rfl ?_
    exact ev_iretI i_214_111 rfl (hE _ (hc.1.page hP he hj))
  | succ k ih =>
    intro i mi hi hc
    have h7 := hA.n7
    have hn := hc.hn
    have ok := rd_ok hA.1.1 hsd i
    refine ev_iload (p' := 46) i_214_44 rfl rfl ?_
    refine ev_iload_n (p' := 47) i_214_46 rfl rfl ?_
    refine ev_icmp_ge (p' := 50) (tg := 100) i_214_47 rfl rfl (fun c47 => absurd c47 (nI_ge (by omega) (by omega))) (fun c47 => ?_)
    refine ev_lload_n (p' := 51) i_214_50 rfl rfl ?_
    refine ev_ldc2_w (p' := 54) (v := 1103515245) i_214_51 rfl (by decide +kernel) ?_
    refine ev_lmul (p' := 55) i_214_54 rfl ?_
    refine ev_ldc2_w (p' := 58) (v := 12345) i_214_55 rfl (by decide +kernel) ?_
    refine ev_ladd (p' := 59) i_214_58 rfl ?_
    refine ev_ldc2_w (p' := 62) (v := 2147483648) i_214_59 rfl (by decide +kernel) ?_
    refine ev_lrem (p' := 63) i_214_62 rfl (by decide) ?_
    rw [lcg ok.1]
    refine ev_lstore_n (p' := 64) (ls' := [_, _, _, _, _, _, _]) i_214_63 rfl rfl (by decide) rfl ?_
    refine ev_aload_n (p' := 65) i_214_64 rfl rfl ?_
    refine ev_lload_n (p' := 66) i_214_65 rfl rfl ?_
    refine ev_ldc2_w (p' := 69) (v := 65536) i_214_66 rfl (by decide +kernel) ?_
    refine ev_ldiv (p' := 70) i_214_69 rfl (by decide) ?_
    refine ev_ldc2_w (p' := 73) (v := 13) i_214_70 rfl (by decide +kernel) ?_
    refine ev_lrem (p' := 74) i_214_73 rfl (by decide) ?_
    refine ev_l2i (p' := 75) i_214_74 rfl ?_
    rw [lcg2 (xs_lt _)]
    obtain ⟨mi2, e2, hP, he, hj⟩ := s_goes (L := L) (ml := ml) (d + 4) hw hc.1.1.1 ok.2.1 (xo_lt (xs (rd A.1.1 sd i).1))
    have h2 := hc.1.page hP (fun a h1 h2 => he a h1 (by omega)) (fun j h1 h2 h3 => hj j h2)
    have hA2 : okA ((opV (rd A.1.1 sd i).2.1 (nI (xo (xs (rd A.1.1 sd i).1))), A.1.2), A.2) := hA.set (ok.2.1.op (xo_lt _))
    refine ev_v1V (p' := 78) i_214_75 rfl cl_12_167_12 (by decide) is_285 (Nat.le_of_ble_eq_true rfl) (e2) ?_
    refine ev_iload (p' := 80) i_214_78 rfl rfl ?_
    refine ev_aload_n (p' := 81) i_214_80 rfl rfl ?_
    refine ev_aload_n (p' := 82) i_214_81 rfl rfl ?_
    refine ev_geti (p' := 85) i_214_82 rfl fl_12_100 rfl is_285 ?_
    rw [show mi2 285 2 = nI (xo (xs (rd A.1.1 sd i).1)) from hP.2.1]
    refine ev_v1I (p' := 88) i_214_85 rfl cl_12_237_12 (by decide) is_285 (Nat.le_of_ble_eq_true rfl) (v_mSeen _ hw h2 hA2 (xo_lt _)) ?_
    refine ev_s1I (p' := 91) i_214_88 rfl cl_12_249_0 (by decide) (Nat.le_of_ble_eq_true rfl) (s_bits _ _) ?_
    rw [show mbits (VS _ (nI (xo (xs (rd A.1.1 sd i).1))) 0) 13 = NV (opV (rd A.1.1 sd i).2.1 (nI (xo (xs (rd A.1.1 sd i).1)))) (nI (xo (xs (rd A.1.1 sd i).1))) from VS_bits (v := opV (rd A.1.1 sd i).2.1 (nI (xo (xs (rd A.1.1 sd i).1)))) hA2.n7]
    refine ev_iadd (p' := 92) i_214_91 rfl ?_
    refine ev_istore (p' := 94) (ls' := [_, _, _, _, _, _, _]) i_214_92 rfl rfl (by decide) rfl ?_
    refine ev_iinc (p' := 97) (ls' := [_, _, _, _, _, _, _]) i_214_94 rfl rfl rfl (by decide) (nI_inc _) rfl ?_
    refine ev_goto (tg := 44) i_214_97 rfl ?_
    refine ev_cast (by rw [rd_s]; rfl) rfl rfl (ih (i + 1) _ (by omega) (by rw [rd_s]; exact ⟨h2.hr hA2.n7, hc.2.1.cong ((hr_ne (by decide)).trans (he 302 (by decide) (by decide))), hc.2.2⟩))
theorem C_readers_bad (L d : Nat) (A : AV) (hA : okA A) (y : Int32) (x : Int32) (hb : ¬ ((0 ≤ y ∧ y ≤ 999999) ∧ (0 ≤ x ∧ x ≤ 60))) : Cst L (d + 24) 99 [.int y, .int x] A (.int (-2)) (badA A) := by
  refine C_of (q := q_99) rfl (Nat.le_of_ble_eq_true rfl) rfl (fun π mi ml mr hw hc => ?_)
  have hn := hc.hn
  have h7 := hA.n7
  refine ev_iload_n (p' := 1) i_99_0 rfl rfl ?_
  refine ev_iconst (p' := 2) (v := 0) i_99_1 rfl (by decide) ?_
  refine ev_ldc_w (p' := 5) (v := 999999) i_99_2 rfl (by decide +kernel) ?_
  refine ev_s3I (p' := 8) i_99_5 rfl cl_11_89_0 (by decide) (Nat.le_of_ble_eq_true rfl) (s_outside _ _ _ _) ?_
  refine ev_if_ne (p' := 11) (tg := 21) i_99_8 rfl rfl (fun c8 => ?_) (fun c8 => ?_)
  · replace c8 := B1 c8
    refine ev_aload_n (p' := 22) i_99_21 rfl rfl ?_
    refine ev_v0I (p' := 25) i_99_22 rfl cl_11_93_11 (by decide) is_1 (Nat.le_of_ble_eq_true rfl) (s_bad _) ?_
    exact ev_iretI i_99_25 rfl (EC.mk rfl hw (hc.bad hw))
  · replace c8 := B0n c8
    refine ev_iload_n (p' := 12) i_99_11 rfl rfl ?_
    refine ev_iconst (p' := 13) (v := 0) i_99_12 rfl (by decide) ?_
    refine ev_bipush (p' := 15) (v := 60) i_99_13 rfl (by decide) ?_
    refine ev_s3I (p' := 18) i_99_15 rfl cl_11_89_0 (by decide) (Nat.le_of_ble_eq_true rfl) (s_outside _ _ _ _) ?_
    refine ev_if_eq (p' := 21) (tg := 26) i_99_18 rfl rfl (fun c18 => ?_) (fun c18 => ?_)
    · replace c18 := B0 c18
      exact absurd ⟨ni c8, ni c18⟩ hb
    · replace c18 := B1 c18
      refine ev_aload_n (p' := 22) i_99_21 rfl rfl ?_
      refine ev_v0I (p' := 25) i_99_22 rfl cl_11_93_11 (by decide) is_1 (Nat.le_of_ble_eq_true rfl) (s_bad _) ?_
      exact ev_iretI i_99_25 rfl (EC.mk rfl hw (hc.bad hw))
theorem R_readers_bad (L d : Nat) (A : AV) (hA : okA A) (y : Int32) (x : Int32) (hb : ¬ ((0 ≤ y ∧ y ≤ 999999) ∧ (0 ≤ x ∧ x ≤ 60))) : Rst L (d + 24) 214 [.int y, .int x] A (.int (-2)) (badA A) := by
  refine R_of (q := q_214) rfl (Nat.le_of_ble_eq_true rfl) rfl (fun π mi ml mr hw hc => ?_)
  have hn := hc.hn
  have h7 := hA.n7
  refine ev_iload_n (p' := 1) i_214_0 rfl rfl ?_
  refine ev_iconst (p' := 2) (v := 0) i_214_1 rfl (by decide) ?_
  refine ev_ldc_w (p' := 5) (v := 999999) i_214_2 rfl (by decide +kernel) ?_
  refine ev_s3I (p' := 8) i_214_5 rfl cl_12_115_0 (by decide) (Nat.le_of_ble_eq_true rfl) (s_in _ _ _ _) ?_
  refine ev_if_eq (p' := 11) (tg := 21) i_214_8 rfl rfl (fun c8 => ?_) (fun c8 => ?_)
  · replace c8 := B0 c8
    refine ev_aload_n (p' := 22) i_214_21 rfl rfl ?_
    refine ev_v0I (p' := 25) i_214_22 rfl cl_12_119_12 (by decide) is_285 (Nat.le_of_ble_eq_true rfl) (s_mbad _ hw) ?_
    exact ev_iretI i_214_25 rfl (ER.mk rfl (hc.bad h7))
  · replace c8 := B1 c8
    refine ev_iload_n (p' := 12) i_214_11 rfl rfl ?_
    refine ev_iconst (p' := 13) (v := 0) i_214_12 rfl (by decide) ?_
    refine ev_bipush (p' := 15) (v := 60) i_214_13 rfl (by decide) ?_
    refine ev_s3I (p' := 18) i_214_15 rfl cl_12_115_0 (by decide) (Nat.le_of_ble_eq_true rfl) (s_in _ _ _ _) ?_
    refine ev_if_ne (p' := 21) (tg := 26) i_214_18 rfl rfl (fun c18 => ?_) (fun c18 => ?_)
    · replace c18 := B1 c18
      exact absurd ⟨c8, c18⟩ hb
    · replace c18 := B0n c18
      refine ev_aload_n (p' := 22) i_214_21 rfl rfl ?_
      refine ev_v0I (p' := 25) i_214_22 rfl cl_12_119_12 (by decide) is_285 (Nat.le_of_ble_eq_true rfl) (s_mbad _ hw) ?_
      exact ev_iretI i_214_25 rfl (ER.mk rfl (hc.bad h7))
theorem C_readers (L d : Nat) (A : AV) (hA : okA A) {sd n : Nat} (hsd : sd ≤ 999999) (hn60 : n ≤ 60) : Cst L (d + 24) 99 [.int (nI sd), .int (nI n)] A (.int (rd A.1.1 sd n).2.2) (A) := by
  refine C_of (q := q_99) rfl (Nat.le_of_ble_eq_true rfl) rfl (fun π mi ml mr hw hc => ?_)
  have hn := hc.hn
  have h7 := hA.n7
  refine ev_iload_n (p' := 1) i_99_0 rfl rfl ?_
  refine ev_iconst (p' := 2) (v := 0) i_99_1 rfl (by decide) ?_
  refine ev_ldc_w (p' := 5) (v := 999999) i_99_2 rfl (by decide +kernel) ?_
  refine ev_s3I (p' := 8) i_99_5 rfl cl_11_89_0 (by decide) (Nat.le_of_ble_eq_true rfl) (s_outside _ _ _ _) ?_
  refine ev_if_ne (p' := 11) (tg := 21) i_99_8 rfl rfl (fun c8 => absurd c8 (fun z => z (B_f (nj (in0 hsd (by decide) rfl))))) (fun c8 => ?_)
  refine ev_iload_n (p' := 12) i_99_11 rfl rfl ?_
  refine ev_iconst (p' := 13) (v := 0) i_99_12 rfl (by decide) ?_
  refine ev_bipush (p' := 15) (v := 60) i_99_13 rfl (by decide) ?_
  refine ev_s3I (p' := 18) i_99_15 rfl cl_11_89_0 (by decide) (Nat.le_of_ble_eq_true rfl) (s_outside _ _ _ _) ?_
  refine ev_if_eq (p' := 21) (tg := 26) i_99_18 rfl rfl (fun c18 => ?_) (fun c18 => absurd (B_f (nj (in0 hn60 (by decide) rfl))) c18)
  refine ev_aload_n (p' := 27) i_99_26 rfl rfl ?_
  refine ev_getr (p' := 30) i_99_27 rfl fl_11_85 rfl is_1 (rf_1_4 hw) ?_
  refine ev_aload_n (p' := 31) i_99_30 rfl rfl ?_
  refine ev_getr (p' := 34) i_99_31 rfl fl_11_78 rfl is_1 (rf_1_0 hw) ?_
  refine ev_getr (p' := 37) i_99_34 rfl fl_11_97 rfl (is_sp sp_17) (hw.page sp_17) ?_
  refine ev_v1V (p' := 40) i_99_37 rfl cl_11_134_2 (by decide) (is_pg pg_275) (Nat.le_of_ble_eq_true rfl) (s_pgc _ hw pg_275 pg_33 (by decide) hc.pg.1 hc.pg.2.1) ?_
  refine ev_iload_n (p' := 41) i_99_40 rfl rfl ?_
  refine ev_i2l (p' := 42) i_99_41 rfl ?_
  rw [nI_l (by omega)]
  refine ev_lstore_n (p' := 43) (ls' := [_, _, _, _, _, _, _, _]) i_99_42 rfl rfl (by decide) rfl ?_
  refine ev_iconst (p' := 44) (v := 0) i_99_43 rfl (by decide) ?_
  refine ev_istore (p' := 46) (ls' := [_, _, _, _, _, _, _, _]) i_99_44 rfl rfl (by decide) rfl ?_
  refine ev_iconst (p' := 47) (v := nI 0) i_99_46 rfl (by decide) ?_
  refine ev_istore (p' := 49) (ls' := [_, _, _, _, _, _, _, _]) i_99_47 rfl rfl (by decide) rfl ?_
  refine ev_cast (by rw [rd_0]) rfl rfl (l_readers (d := d + 16) hw hA (sd := sd) (n := n) (by omega) hn60 (fun mi h => EC.mk rfl hw h) n 0 _ _ (by omega) (by rw [rd_0]; exact hc.trial hw))
theorem R_readers (L d : Nat) (A : AV) (hA : okA A) {sd n : Nat} (hsd : sd ≤ 999999) (hn60 : n ≤ 60) : Rst L (d + 24) 214 [.int (nI sd), .int (nI n)] A (.int (rd A.1.1 sd n).2.2) (A) := by
  refine R_of (q := q_214) rfl (Nat.le_of_ble_eq_true rfl) rfl (fun π mi ml mr hw hc => ?_)
  have hn := hc.hn
  have h7 := hA.n7
  refine ev_iload_n (p' := 1) i_214_0 rfl rfl ?_
  refine ev_iconst (p' := 2) (v := 0) i_214_1 rfl (by decide) ?_
  refine ev_ldc_w (p' := 5) (v := 999999) i_214_2 rfl (by decide +kernel) ?_
  refine ev_s3I (p' := 8) i_214_5 rfl cl_12_115_0 (by decide) (Nat.le_of_ble_eq_true rfl) (s_in _ _ _ _) ?_
  refine ev_if_eq (p' := 11) (tg := 21) i_214_8 rfl rfl (fun c8 => absurd c8 (B_tn (in0 hsd (by decide) rfl))) (fun c8 => ?_)
  refine ev_iload_n (p' := 12) i_214_11 rfl rfl ?_
  refine ev_iconst (p' := 13) (v := 0) i_214_12 rfl (by decide) ?_
  refine ev_bipush (p' := 15) (v := 60) i_214_13 rfl (by decide) ?_
  refine ev_s3I (p' := 18) i_214_15 rfl cl_12_115_0 (by decide) (Nat.le_of_ble_eq_true rfl) (s_in _ _ _ _) ?_
  refine ev_if_ne (p' := 21) (tg := 26) i_214_18 rfl rfl (fun c18 => ?_) (fun c18 => absurd (B_tn (in0 hn60 (by decide) rfl)) c18)
  refine ev_aload_n (p' := 27) i_214_26 rfl rfl ?_
  refine ev_aload_n (p' := 28) i_214_27 rfl rfl ?_
  refine ev_getr (p' := 31) i_214_28 rfl fl_12_58 rfl is_285 (rf_285_26 hw) ?_
  refine ev_iconst (p' := 32) (v := nI 0) i_214_31 rfl (by decide) ?_
  obtain ⟨mi2, e2, hL⟩ := s_lays (L := L) (mi := mi) (ml := ml) (d + 22) hw (R := 302) (b := 0) (m := 52) (by decide) (gr (by decide)) (fun mi => is_302) len_302 (by decide) (by decide)
  have hc2 : RR mi2 ml A := hc.scr h7 (k := 302) (by omega) (fun a ha => hL.1 a ha)
  refine ev_v2V (p' := 35) i_214_32 rfl cl_12_222_12 (by decide) is_285 (Nat.le_of_ble_eq_true rfl) (e2) ?_
  refine ev_iload_n (p' := 36) i_214_35 rfl rfl ?_
  refine ev_i2l (p' := 37) i_214_36 rfl ?_
  rw [nI_l (by omega)]
  refine ev_lstore_n (p' := 38) (ls' := [_, _, _, _, _, _, _]) i_214_37 rfl rfl (by decide) rfl ?_
  refine ev_iconst (p' := 39) (v := 0) i_214_38 rfl (by decide) ?_
  refine ev_istore (p' := 41) (ls' := [_, _, _, _, _, _, _]) i_214_39 rfl rfl (by decide) rfl ?_
  refine ev_iconst (p' := 42) (v := nI 0) i_214_41 rfl (by decide) ?_
  refine ev_istore (p' := 44) (ls' := [_, _, _, _, _, _, _]) i_214_42 rfl rfl (by decide) rfl ?_
  refine ev_cast (by rw [rd_0]) rfl rfl (l_mreaders (d := d + 16) hw hA (sd := sd) (n := n) (by omega) hn60 (fun mi h => ER.mk rfl h) n 0 _ (by omega) (by rw [rd_0]; exact ⟨hc2, hL.end hc.1.1 h7, rfl⟩))
theorem Q_readers (L : Nat) (A : AV) (hA : okA A) (y x : Int32) : SameI L 99 214 [.int y, .int x] A := by
  by_cases h : (0 ≤ y ∧ y ≤ 999999) ∧ (0 ≤ x ∧ x ≤ 60)
  · obtain ⟨sd, h1, rfl⟩ := of0 (m := 999999) h.1 rfl
    obtain ⟨n, h2, rfl⟩ := of0 (m := 60) h.2 rfl
    exact ⟨_, A, hA, fun d => C_readers L d A hA h1 h2, fun d => R_readers L d A hA h1 h2⟩
  · exact ⟨_, badA A, hA.bad, fun d => C_readers_bad L d A hA y x h, fun d => R_readers_bad L d A hA y x h⟩
