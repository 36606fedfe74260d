/-! ===== tour: the reference ===== -/
noncomputable def SF (A : AV) (o : Nat) : Int32 := VS A.1.1 (nI o) 0
theorem l_mtd {L : Nat} {π : Nat → Nat → Nat} {mi : Nat → Nat → Int32} {ml : Nat → Nat → Int64} {mr : Nat → Nat → Option Nat} {d : Nat} (hw : WR π mr) {W : Int32} {f : Nat → Int32} (hS : ∀ o, o < 13 → mi 304 o = f o) {l h : Nat} (hl : l ≤ h) (hh : h ≤ 12) : ∀ k n, n + k = h + 1 - l → Ev gR (pm_ev gR d) (fun r m => r = some (.int (B (cvr W f l h))) ∧ m = (WW L, mi, ml, mr)) q_189 6 [some (.ref 285), some (.int W), some (.int (nI l)), some (.int (nI h)), some (.int (orr f l n)), some (.int (nI (l + n)))] [] (WW L, mi, ml, mr) := by
  intro k
  induction k with
  | zero =>
    intro n hn
    have hn : n = h + 1 - l := by omega
    subst hn
    refine ev_iload (p' := 8) i_189_6 rfl rfl ?_
    refine ev_iload_n (p' := 9) i_189_8 rfl rfl ?_
    refine ev_icmp_gt (p' := 12) (tg := 30) i_189_9 rfl rfl (fun c9 => ?_) (fun c9 => absurd (nI_lt (by omega) (by omega)) c9)
    refine ev_iload_n (p' := 31) i_189_30 rfl rfl ?_
    refine ev_iload (p' := 33) i_189_31 rfl rfl ?_
    refine ev_iconst (p' := 34) (v := -1) i_189_33 rfl (by decide) ?_
    refine ev_ixor (p' := 35) i_189_34 rfl ?_
    refine ev_iand (p' := 36) i_189_35 rfl ?_
    refine ev_if_ne (p' := 39) (tg := 43) i_189_36 rfl rfl (fun c36 => ?_) (fun c36 => ?_)
    · refine ev_iconst (p' := 44) (v := 0) i_189_43 rfl (by decide) ?_
      exact ev_iret i_189_44 rfl rfl ⟨by rw [B_f c36], rfl⟩
    · refine ev_iconst (p' := 40) (v := 1) i_189_39 rfl (by decide) ?_
      refine ev_goto (tg := 44) i_189_40 rfl ?_
      exact ev_iret i_189_44 rfl rfl ⟨by rw [B_t (Classical.not_not.mp c36)], rfl⟩
  | succ k ih =>
    intro n hn
    refine ev_iload (p' := 8) i_189_6 rfl rfl ?_
    refine ev_iload_n (p' := 9) i_189_8 rfl rfl ?_
    refine ev_icmp_gt (p' := 12) (tg := 30) i_189_9 rfl rfl (fun c9 => absurd c9 (nI_nlt (by omega) (by omega))) (fun c9 => ?_)
    refine ev_iload (p' := 14) i_189_12 rfl rfl ?_
    refine ev_aload_n (p' := 15) i_189_14 rfl rfl ?_
    refine ev_getr (p' := 18) i_189_15 rfl fl_12_64 rfl is_285 (rf_285_28 hw) ?_
    refine ev_iload (p' := 20) i_189_18 rfl rfl ?_
    refine ev_ialdN (p' := 21) i_189_20 rfl is_304 len_304 (by omega) (by decide) ?_
    rw [hS _ (show l + n < 13 by omega)]
    refine ev_ior (p' := 22) i_189_21 rfl ?_
    refine ev_istore (p' := 24) (ls' := [_, _, _, _, _, _]) i_189_22 rfl rfl (by decide) rfl ?_
    refine ev_iinc (p' := 27) (ls' := [_, _, _, _, _, _]) i_189_24 rfl rfl rfl (by decide) (nI_inc _) rfl ?_
    refine ev_goto (tg := 6) i_189_27 rfl ?_
    exact ih (n + 1) (by omega)
theorem s_mtd {L : Nat} {π : Nat → Nat → Nat} {mi : Nat → Nat → Int32} {ml : Nat → Nat → Int64} {mr : Nat → Nat → Option Nat} (d : Nat) (hw : WR π mr) {W : Int32} {f : Nat → Int32} (hS : ∀ o, o < 13 → mi 304 o = f o) {l h : Nat} (hl : l ≤ h) (hh : h ≤ 12) : pm_ev gR (d + 1) 189 [.ref 285, .int W, .int (nI l), .int (nI h)] (WW L, mi, ml, mr) (some (.int (B (cvr W f l h)))) (WW L, mi, ml, mr) := by
  refine ev_enter (q := q_189) rfl (Nat.le_of_ble_eq_true rfl) rfl ?_
  refine ev_iconst (p' := 1) (v := 0) i_189_0 rfl (by decide) ?_
  refine ev_istore (p' := 3) (ls' := [_, _, _, _, _, _]) i_189_1 rfl rfl (by decide) rfl ?_
  refine ev_iload_n (p' := 4) i_189_3 rfl rfl ?_
  refine ev_istore (p' := 6) (ls' := [_, _, _, _, _, _]) i_189_4 rfl rfl (by decide) rfl ?_
  exact l_mtd hw hS hl hh (h + 1 - l) 0 (by omega)
/-- the walk so far: n steps of p -/
def WT (mi0 mi : Nat → Nat → Int32) (n : Nat) (p : Nat → Nat) : Prop := (∀ a, a ≠ 305 → a ≠ 285 → mi a = mi0 a) ∧ (∀ j, j ≠ 31 → mi 285 j = mi0 285 j) ∧ mi 285 31 = nI n ∧ ∀ j, j ≤ n → mi 305 j = nI (p j)
theorem WT.step {mi0 mi : Nat → Nat → Int32} {n : Nat} {p : Nat → Nat} {x : Int32} (h : WT mi0 mi n p) (hx : x = nI (p (n + 1))) : WT mi0 (pm_u (pm_u mi 305 (n + 1) x) 285 31 (nI (n + 1))) (n + 1) p := by
  refine ⟨fun a h1 h2 => by rw [pm_u_ne h2, pm_u_ne h1]; exact h.1 a h1 h2, fun j hj => by rw [pm_u_oth hj, pm_u_ne (by decide)]; exact h.2.1 j hj, pm_u_self, fun j hj => ?_⟩
  rw [pm_u_ne (by decide)]
  by_cases e : j = n + 1
  · subst e
    rw [pm_u_self, hx]
  · rw [pm_u_oth e]
    exact h.2.2.2 j (by omega)
theorem wkp_lo {s x y j : Nat} (h : j ≤ (s - x) + (x - s)) : wkp s x y j = if s ≤ x then s + j else s - j := by unfold wkp; rw [if_pos h]
theorem wkp_hi {s x y j : Nat} (h : (s - x) + (x - s) ≤ j) : wkp s x y j = if x ≤ y then x + (j - ((s - x) + (x - s))) else x - (j - ((s - x) + (x - s))) := by
  unfold wkp
  by_cases e : j = (s - x) + (x - s)
  · rw [if_pos (by omega)]
    split <;> split <;> omega
  · rw [if_neg (by omega)]
theorem wkp_m {s x y : Nat} : wkp s x y ((s - x) + (x - s)) = x := by
  rw [wkp_lo (Nat.le_refl _)]
  split <;> omega
theorem wkp_e {s x y : Nat} : wkp s x y (wln s x y) = y := by
  unfold wln
  rw [wkp_hi (by omega)]
  split <;> omega
theorem wkp_s1 {s x y j : Nat} (h : j < (s - x) + (x - s)) : (wkp s x y j < x ∧ wkp s x y (j + 1) = wkp s x y j + 1) ∨ (x < wkp s x y j ∧ wkp s x y j = wkp s x y (j + 1) + 1) := by
  rw [wkp_lo (by omega), wkp_lo (by omega)]
  split <;> omega
theorem wkp_s2 {s x y j : Nat} (h1 : (s - x) + (x - s) ≤ j) (h : j < wln s x y) : (wkp s x y j < y ∧ wkp s x y (j + 1) = wkp s x y j + 1) ∨ (y < wkp s x y j ∧ wkp s x y j = wkp s x y (j + 1) + 1) := by
  unfold wln at h
  rw [wkp_hi h1, wkp_hi (by omega)]
  split <;> omega
theorem l_wkt {L : Nat} {π : Nat → Nat → Nat} {ml : Nat → Nat → Int64} {mr : Nat → Nat → Option Nat} {d : Nat} {E : Option Value → pm_M → Prop} (hw : WR π mr) {mi0 : Nat → Nat → Int32} {p : Nat → Nat} {o N n0 : Nat} (hN : N < 40) (hp : ∀ j, j ≤ N → p j ≤ 12) (ho : o ≤ 12) (hpo : p N = o) (hst : ∀ j, n0 ≤ j → j < N → (p j < o ∧ p (j + 1) = p j + 1) ∨ (o < p j ∧ p j = p (j + 1) + 1)) (hE : ∀ mi, WT mi0 mi N p → E none (WW L, mi, ml, mr)) : ∀ k n mi, n + k = N → n0 ≤ n → WT mi0 mi n p → Ev gR (pm_ev gR d) E q_190 0 [some (.ref 285), some (.int (nI o))] [] (WW L, mi, ml, mr) := by
  intro k
  induction k with
  | zero =>
    intro n mi hn h0 hT
    have hn : n = N := by omega
    subst hn
    have b1 := hp n (Nat.le_refl _)
    refine ev_aload_n (p' := 1) i_190_0 rfl rfl ?_
    refine ev_getr (p' := 4) i_190_1 rfl fl_12_67 rfl is_285 (rf_285_29 hw) ?_
    refine ev_aload_n (p' := 5) i_190_4 rfl rfl ?_
    refine ev_geti (p' := 8) i_190_5 rfl fl_12_258 rfl is_285 ?_
    rw [hT.2.2.1]
    refine ev_ialdN (p' := 9) i_190_8 rfl is_305 len_305 (by omega) (by decide) ?_
    rw [hT.2.2.2 n (Nat.le_refl n)]
    refine ev_iload_n (p' := 10) i_190_9 rfl rfl ?_
    refine ev_icmp_eq (p' := 13) (tg := 65) i_190_10 rfl rfl (fun c10 => ?_) (fun c10 => absurd (by rw [hpo]) c10)
    exact ev_ret i_190_65 rfl (hE _ hT)
  | succ k ih =>
    intro n mi hn h0 hT
    have b1 := hp n (by omega)
    rcases hst n h0 (by omega) with ⟨q1, q2⟩ | ⟨q1, q2⟩
    · refine ev_aload_n (p' := 1) i_190_0 rfl rfl ?_
      refine ev_getr (p' := 4) i_190_1 rfl fl_12_67 rfl is_285 (rf_285_29 hw) ?_
      refine ev_aload_n (p' := 5) i_190_4 rfl rfl ?_
      refine ev_geti (p' := 8) i_190_5 rfl fl_12_258 rfl is_285 ?_
      rw [hT.2.2.1]
      refine ev_ialdN (p' := 9) i_190_8 rfl is_305 len_305 (by omega) (by decide) ?_
      rw [hT.2.2.2 n (Nat.le_refl n)]
      refine ev_iload_n (p' := 10) i_190_9 rfl rfl ?_
      refine ev_icmp_eq (p' := 13) (tg := 65) i_190_10 rfl rfl (fun c10 => absurd c10 (fun z => absurd ((nI_eq (by omega) (by omega)).mp z) (by omega))) (fun c10 => ?_)
      refine ev_aload_n (p' := 14) i_190_13 rfl rfl ?_
      refine ev_getr (p' := 17) i_190_14 rfl fl_12_67 rfl is_285 (rf_285_29 hw) ?_
      refine ev_aload_n (p' := 18) i_190_17 rfl rfl ?_
      refine ev_geti (p' := 21) i_190_18 rfl fl_12_258 rfl is_285 ?_
      rw [hT.2.2.1]
      refine ev_iconst (p' := 22) (v := nI 1) i_190_21 rfl (by decide) ?_
      refine ev_iaddN (p' := 23) i_190_22 rfl ?_
      refine ev_aload_n (p' := 24) i_190_23 rfl rfl ?_
      refine ev_getr (p' := 27) i_190_24 rfl fl_12_67 rfl is_285 (rf_285_29 hw) ?_
      refine ev_aload_n (p' := 28) i_190_27 rfl rfl ?_
      refine ev_geti (p' := 31) i_190_28 rfl fl_12_258 rfl is_285 ?_
      rw [hT.2.2.1]
      refine ev_ialdN (p' := 32) i_190_31 rfl is_305 len_305 (by omega) (by decide) ?_
      rw [hT.2.2.2 n (Nat.le_refl n)]
      refine ev_iload_n (p' := 33) i_190_32 rfl rfl ?_
      refine ev_aload_n (p' := 34) i_190_33 rfl rfl ?_
      refine ev_getr (p' := 37) i_190_34 rfl fl_12_67 rfl is_285 (rf_285_29 hw) ?_
      refine ev_aload_n (p' := 38) i_190_37 rfl rfl ?_
      refine ev_geti (p' := 41) i_190_38 rfl fl_12_258 rfl is_285 ?_
      rw [hT.2.2.1]
      refine ev_ialdN (p' := 42) i_190_41 rfl is_305 len_305 (by omega) (by decide) ?_
      rw [hT.2.2.2 n (Nat.le_refl n)]
      refine ev_icmp_le (p' := 45) (tg := 49) i_190_42 rfl rfl (fun c42 => absurd c42 (nI_ge (by omega) (by omega))) (fun c42 => ?_)
      refine ev_iconst (p' := 46) (v := nI 1) i_190_45 rfl (by decide) ?_
      refine ev_goto (tg := 50) i_190_46 rfl ?_
      refine ev_iaddN (p' := 51) i_190_50 rfl ?_
      refine ev_iastN (p' := 52) i_190_51 rfl is_305 len_305 (by omega) (by decide) (gr (by decide)) ?_
      refine ev_aload_n (p' := 53) i_190_52 rfl rfl ?_
      refine ev_dup (p' := 54) i_190_53 rfl rfl ?_
      refine ev_geti (p' := 57) i_190_54 rfl fl_12_258 rfl is_285 ?_
      rw [pm_u_ne (show (285 : Nat) ≠ 305 by decide), hT.2.2.1]
      refine ev_iconst (p' := 58) (v := nI 1) i_190_57 rfl (by decide) ?_
      refine ev_iaddN (p' := 59) i_190_58 rfl ?_
      refine ev_puti (p' := 62) i_190_59 rfl fl_12_258 rfl is_285 (gr (by decide)) rfl ?_
      refine ev_goto (tg := 0) i_190_62 rfl ?_
      exact ih (n + 1) _ (by omega) (by omega) (hT.step (by rw [q2]))
    · refine ev_aload_n (p' := 1) i_190_0 rfl rfl ?_
      refine ev_getr (p' := 4) i_190_1 rfl fl_12_67 rfl is_285 (rf_285_29 hw) ?_
      refine ev_aload_n (p' := 5) i_190_4 rfl rfl ?_
      refine ev_geti (p' := 8) i_190_5 rfl fl_12_258 rfl is_285 ?_
      rw [hT.2.2.1]
      refine ev_ialdN (p' := 9) i_190_8 rfl is_305 len_305 (by omega) (by decide) ?_
      rw [hT.2.2.2 n (Nat.le_refl n)]
      refine ev_iload_n (p' := 10) i_190_9 rfl rfl ?_
      refine ev_icmp_eq (p' := 13) (tg := 65) i_190_10 rfl rfl (fun c10 => absurd c10 (fun z => absurd ((nI_eq (by omega) (by omega)).mp z) (by omega))) (fun c10 => ?_)
      refine ev_aload_n (p' := 14) i_190_13 rfl rfl ?_
      refine ev_getr (p' := 17) i_190_14 rfl fl_12_67 rfl is_285 (rf_285_29 hw) ?_
      refine ev_aload_n (p' := 18) i_190_17 rfl rfl ?_
      refine ev_geti (p' := 21) i_190_18 rfl fl_12_258 rfl is_285 ?_
      rw [hT.2.2.1]
      refine ev_iconst (p' := 22) (v := nI 1) i_190_21 rfl (by decide) ?_
      refine ev_iaddN (p' := 23) i_190_22 rfl ?_
      refine ev_aload_n (p' := 24) i_190_23 rfl rfl ?_
      refine ev_getr (p' := 27) i_190_24 rfl fl_12_67 rfl is_285 (rf_285_29 hw) ?_
      refine ev_aload_n (p' := 28) i_190_27 rfl rfl ?_
      refine ev_geti (p' := 31) i_190_28 rfl fl_12_258 rfl is_285 ?_
      rw [hT.2.2.1]
      refine ev_ialdN (p' := 32) i_190_31 rfl is_305 len_305 (by omega) (by decide) ?_
      rw [hT.2.2.2 n (Nat.le_refl n)]
      refine ev_iload_n (p' := 33) i_190_32 rfl rfl ?_
      refine ev_aload_n (p' := 34) i_190_33 rfl rfl ?_
      refine ev_getr (p' := 37) i_190_34 rfl fl_12_67 rfl is_285 (rf_285_29 hw) ?_
      refine ev_aload_n (p' := 38) i_190_37 rfl rfl ?_
      refine ev_geti (p' := 41) i_190_38 rfl fl_12_258 rfl is_285 ?_
      rw [hT.2.2.1]
      refine ev_ialdN (p' := 42) i_190_41 rfl is_305 len_305 (by omega) (by decide) ?_
      rw [hT.2.2.2 n (Nat.le_refl n)]
      refine ev_icmp_le (p' := 45) (tg := 49) i_190_42 rfl rfl (fun c42 => ?_) (fun c42 => absurd (nI_le (by omega) (by omega)) c42)
      refine ev_iconst (p' := 50) (v := -1) i_190_49 rfl (by decide) ?_
      refine ev_iadd (p' := 51) i_190_50 rfl ?_
      refine ev_iastN (p' := 52) i_190_51 rfl is_305 len_305 (by omega) (by decide) (gr (by decide)) ?_
      refine ev_aload_n (p' := 53) i_190_52 rfl rfl ?_
      refine ev_dup (p' := 54) i_190_53 rfl rfl ?_
      refine ev_geti (p' := 57) i_190_54 rfl fl_12_258 rfl is_285 ?_
      rw [pm_u_ne (show (285 : Nat) ≠ 305 by decide), hT.2.2.1]
      refine ev_iconst (p' := 58) (v := nI 1) i_190_57 rfl (by decide) ?_
      refine ev_iaddN (p' := 59) i_190_58 rfl ?_
      refine ev_puti (p' := 62) i_190_59 rfl fl_12_258 rfl is_285 (gr (by decide)) rfl ?_
      refine ev_goto (tg := 0) i_190_62 rfl ?_
      exact ih (n + 1) _ (by omega) (by omega) (hT.step (by rw [q2, pk_m1]))
theorem s_wkt {L : Nat} {π : Nat → Nat → Nat} {ml : Nat → Nat → Int64} {mr : Nat → Nat → Option Nat} {mi : Nat → Nat → Int32} (d : Nat) (hw : WR π mr) {mi0 : Nat → Nat → Int32} {p : Nat → Nat} {o N n0 : Nat} (hN : N < 40) (hp : ∀ j, j ≤ N → p j ≤ 12) (ho : o ≤ 12) (hpo : p N = o) (hst : ∀ j, n0 ≤ j → j < N → (p j < o ∧ p (j + 1) = p j + 1) ∨ (o < p j ∧ p j = p (j + 1) + 1)) (hn : n0 ≤ N) (hT : WT mi0 mi n0 p) : ∃ mi', pm_ev gR (d + 1) 190 [.ref 285, .int (nI o)] (WW L, mi, ml, mr) (none) (WW L, mi', ml, mr) ∧ WT mi0 mi' N p := by
  obtain ⟨_x, m', ⟨h1, mi1, h2, h3⟩, h5⟩ := ev_some (E := fun _x m => _x = none ∧ ∃ mi', m = (WW L, mi', ml, mr) ∧ WT mi0 mi' N p) (g := gR) (d := d + 0) (M := 190) (args := [.ref 285, .int (nI o)]) (mem := (WW L, mi, ml, mr)) (q := q_190) rfl (Nat.le_of_ble_eq_true rfl) rfl (by
    exact l_wkt hw hN hp ho hpo hst (fun mi1 h => ⟨rfl, mi1, rfl, h⟩) (N - n0) n0 mi (by omega) (Nat.le_refl _) hT)
  subst h1 h2
  exact ⟨mi1, h5, h3⟩
theorem s_swk {L : Nat} {π : Nat → Nat → Nat} {ml : Nat → Nat → Int64} {mr : Nat → Nat → Option Nat} {mi : Nat → Nat → Int32} (d : Nat) (hw : WR π mr) {s x y : Nat} (hop : mi 285 2 = nI s) (hs : s ≤ 12) (hx : x ≤ 12) (hy : y ≤ 12) : ∃ mi', pm_ev gR (d + 2) 191 [.ref 285, .int (nI x), .int (nI y)] (WW L, mi, ml, mr) (none) (WW L, mi', ml, mr) ∧ WT mi mi' (wln s x y) (wkp s x y) := by
  have hb : ∀ j, j ≤ wln s x y → wkp s x y j ≤ 12 := fun j hj => wkp_12 hs hx hy hj
  obtain ⟨_x, m', ⟨h1, mi1, h2, h3⟩, h5⟩ := ev_some (E := fun _x m => _x = none ∧ ∃ mi', m = (WW L, mi', ml, mr) ∧ WT mi mi' (wln s x y) (wkp s x y)) (g := gR) (d := d + 1) (M := 191) (args := [.ref 285, .int (nI x), .int (nI y)]) (mem := (WW L, mi, ml, mr)) (q := q_191) rfl (Nat.le_of_ble_eq_true rfl) rfl (by
    refine ev_aload_n (p' := 1) i_191_0 rfl rfl ?_
    refine ev_iconst (p' := 2) (v := nI 0) i_191_1 rfl (by decide) ?_
    refine ev_puti (p' := 5) i_191_2 rfl fl_12_258 rfl is_285 (gr (by decide)) rfl ?_
    refine ev_aload_n (p' := 6) i_191_5 rfl rfl ?_
    refine ev_getr (p' := 9) i_191_6 rfl fl_12_67 rfl is_285 (rf_285_29 hw) ?_
    refine ev_iconst (p' := 10) (v := nI 0) i_191_9 rfl (by decide) ?_
    refine ev_aload_n (p' := 11) i_191_10 rfl rfl ?_
    refine ev_geti (p' := 14) i_191_11 rfl fl_12_100 rfl is_285 ?_
    rw [pm_u_oth (show (2 : Nat) ≠ 31 by decide), hop]
    refine ev_iastN (p' := 15) i_191_14 rfl is_305 len_305 (by omega) (by decide) (gr (by decide)) ?_
    refine ev_aload_n (p' := 16) i_191_15 rfl rfl ?_
    refine ev_iload_n (p' := 17) i_191_16 rfl rfl ?_
    obtain ⟨mi2, e2, hT2⟩ := s_wkt (L := L) (ml := ml) d hw (mi0 := mi) (mi := pm_u (pm_u mi 285 31 (nI 0)) 305 0 (nI s)) (p := wkp s x y) (o := x) (N := (s - x) + (x - s)) (n0 := 0) (by omega) (fun j hj => hb j (by unfold wln; omega)) hx wkp_m (fun j _ hj => wkp_s1 hj) (Nat.zero_le _) ⟨fun a h1 h2 => by rw [pm_u_ne h1, pm_u_ne h2], fun j hj => by rw [pm_u_ne (by decide), pm_u_oth hj], by rw [pm_u_ne (by decide), pm_u_self], fun j hj => by rw [show j = 0 by omega, pm_u_self, wkp_0]⟩
    refine ev_v1V (p' := 20) i_191_17 rfl cl_12_261_12 (by decide) is_285 (Nat.le_of_ble_eq_true rfl) (e2) ?_
    refine ev_aload_n (p' := 21) i_191_20 rfl rfl ?_
    refine ev_iload_n (p' := 22) i_191_21 rfl rfl ?_
    obtain ⟨mi3, e3, hT3⟩ := s_wkt (L := L) (ml := ml) d hw (mi0 := mi) (mi := mi2) (p := wkp s x y) (o := y) (N := wln s x y) (n0 := (s - x) + (x - s)) (by unfold wln; omega) hb hy wkp_e (fun j h1 hj => wkp_s2 h1 hj) (by unfold wln; omega) hT2
    refine ev_v1V (p' := 25) i_191_22 rfl cl_12_261_12 (by decide) is_285 (Nat.le_of_ble_eq_true rfl) (e3) ?_
    exact ev_ret i_191_25 rfl ⟨rfl, mi3, rfl, hT3⟩)
  subst h1 h2
  exact ⟨mi1, h5, h3⟩
def SNR (n n0 : Nat) (p q : Nat → Nat) : Prop := n < n0 ∨ (n = n0 ∧ ∃ k, k < n ∧ (∀ j, j < k → p j = q j) ∧ p k < q k)
theorem sn_no {n n0 k : Nat} {p q : Nat → Nat} (he : n = n0) (hk : ∀ j, j < k → p j = q j) (h : k = n ∨ (q k ≤ p k ∧ p k ≠ q k)) : ¬ SNR n n0 p q := by
  rintro (h1 | ⟨-, k', h1, h2, h3⟩)
  · omega
  · rcases Nat.lt_trichotomy k' k with z | z | z
    · have := hk k' z; omega
    · subst z; omega
    · have := h2 k z; omega
theorem nM {n : Nat} (h : n < 1000) : ¬ nI n = 1048576 := fun z => absurd ((nI_eq (a := n) (b := 1048576) (by omega) (by decide)).mp z) (by omega)
theorem s_snM {L : Nat} {π : Nat → Nat → Nat} {mi : Nat → Nat → Int32} {ml : Nat → Nat → Int64} {mr : Nat → Nat → Option Nat} (d : Nat) (hw : WR π mr) {n : Nat} (h31 : mi 285 31 = nI n) (hn : n < 40) : pm_ev gR (d + 1) 192 [.ref 285, .int 1048576] (WW L, mi, ml, mr) (some (.int 1)) (WW L, mi, ml, mr) := by
  refine ev_enter (q := q_192) rfl (Nat.le_of_ble_eq_true rfl) rfl ?_
  refine ev_aload_n (p' := 1) i_192_0 rfl rfl ?_
  refine ev_geti (p' := 4) i_192_1 rfl fl_12_258 rfl is_285 ?_
  rw [h31]
  refine ev_iload_n (p' := 5) i_192_4 rfl rfl ?_
  refine ev_icmp_eq (p' := 8) (tg := 22) i_192_5 rfl rfl (fun c5 => absurd c5 (nM (by omega))) (fun c5 => ?_)
  refine ev_aload_n (p' := 9) i_192_8 rfl rfl ?_
  refine ev_geti (p' := 12) i_192_9 rfl fl_12_258 rfl is_285 ?_
  rw [h31]
  refine ev_iload_n (p' := 13) i_192_12 rfl rfl ?_
  refine ev_icmp_ge (p' := 16) (tg := 20) i_192_13 rfl rfl (fun c13 => absurd c13 (nI_ge (b := 1048576) (by omega) (by decide))) (fun c13 => ?_)
  refine ev_iconst (p' := 17) (v := 1) i_192_16 rfl (by decide) ?_
  refine ev_goto (tg := 21) i_192_17 rfl ?_
  exact ev_iret i_192_21 rfl rfl ⟨rfl, rfl⟩
theorem l_snn {L : Nat} {π : Nat → Nat → Nat} {mi : Nat → Nat → Int32} {ml : Nat → Nat → Int64} {mr : Nat → Nat → Option Nat} {d : Nat} {E : Option Value → pm_M → Prop} (hw : WR π mr) {n n0 : Nat} {p q : Nat → Nat} (h31 : mi 285 31 = nI n) (hn : n < 40) (hn0 : n0 < 40) (h5 : ∀ j, j ≤ n → mi 305 j = nI (p j)) (h6 : ∀ j, j ≤ n0 → mi 306 j = nI (q j)) (hp : ∀ j, j ≤ n → p j ≤ 12) (hq : ∀ j, j ≤ n0 → q j ≤ 12) (he : n = n0) {b : Int32} (hE : ∀ v : Int32, (v = 0 → ¬ SNR n n0 p q) → (¬ v = 0 → SNR n n0 p q) → E (some (.int v)) (WW L, mi, ml, mr)) : ∀ i k, k + i = n → (∀ j, j < k → p j = q j) → Ev gR (pm_ev gR d) E q_192 24 [some (.ref 285), some (.int b), some (.int (nI k))] [] (WW L, mi, ml, mr) := by
  intro i
  induction i with
  | zero =>
    intro k hi hk
    have hi : k = n := by omega
    subst hi
    refine ev_iload_n (p' := 25) i_192_24 rfl rfl ?_
    refine ev_aload_n (p' := 26) i_192_25 rfl rfl ?_
    refine ev_geti (p' := 29) i_192_26 rfl fl_12_258 rfl is_285 ?_
    rw [h31]
    refine ev_icmp_ge (p' := 32) (tg := 53) i_192_29 rfl rfl (fun c29 => ?_) (fun c29 => absurd (nI_le (Nat.le_refl _) (by omega)) c29)
    refine ev_iload_n (p' := 54) i_192_53 rfl rfl ?_
    refine ev_aload_n (p' := 55) i_192_54 rfl rfl ?_
    refine ev_geti (p' := 58) i_192_55 rfl fl_12_258 rfl is_285 ?_
    rw [h31]
    refine ev_icmp_ge (p' := 61) (tg := 80) i_192_58 rfl rfl (fun c58 => ?_) (fun c58 => absurd (nI_le (Nat.le_refl _) (by omega)) c58)
    refine ev_iconst (p' := 81) (v := 0) i_192_80 rfl (by decide) ?_
    exact ev_iret i_192_81 rfl rfl (hE 0 (fun _ => sn_no he hk (Or.inl rfl)) (fun z => absurd rfl z))
  | succ i ih =>
    intro k hi hk
    have b1 := hp k (by omega)
    have b2 := hq k (by omega)
    refine ev_iload_n (p' := 25) i_192_24 rfl rfl ?_
    refine ev_aload_n (p' := 26) i_192_25 rfl rfl ?_
    refine ev_geti (p' := 29) i_192_26 rfl fl_12_258 rfl is_285 ?_
    rw [h31]
    refine ev_icmp_ge (p' := 32) (tg := 53) i_192_29 rfl rfl (fun c29 => absurd c29 (nI_ge (by omega) (by omega))) (fun c29 => ?_)
    refine ev_aload_n (p' := 33) i_192_32 rfl rfl ?_
    refine ev_getr (p' := 36) i_192_33 rfl fl_12_67 rfl is_285 (rf_285_29 hw) ?_
    refine ev_iload_n (p' := 37) i_192_36 rfl rfl ?_
    refine ev_ialdN (p' := 38) i_192_37 rfl is_305 len_305 (by omega) (by decide) ?_
    rw [h5 k (by omega)]
    refine ev_aload_n (p' := 39) i_192_38 rfl rfl ?_
    refine ev_getr (p' := 42) i_192_39 rfl fl_12_70 rfl is_285 (rf_285_30 hw) ?_
    refine ev_iload_n (p' := 43) i_192_42 rfl rfl ?_
    refine ev_ialdN (p' := 44) i_192_43 rfl is_306 len_306 (by omega) (by decide) ?_
    rw [h6 k (by omega)]
    refine ev_icmp_ne (p' := 47) (tg := 53) i_192_44 rfl rfl (fun c44 => ?_) (fun c44 => ?_)
    · refine ev_iload_n (p' := 54) i_192_53 rfl rfl ?_
      refine ev_aload_n (p' := 55) i_192_54 rfl rfl ?_
      refine ev_geti (p' := 58) i_192_55 rfl fl_12_258 rfl is_285 ?_
      rw [h31]
      refine ev_icmp_ge (p' := 61) (tg := 80) i_192_58 rfl rfl (fun c58 => absurd c58 (nI_ge (by omega) (by omega))) (fun c58 => ?_)
      refine ev_aload_n (p' := 62) i_192_61 rfl rfl ?_
      refine ev_getr (p' := 65) i_192_62 rfl fl_12_67 rfl is_285 (rf_285_29 hw) ?_
      refine ev_iload_n (p' := 66) i_192_65 rfl rfl ?_
      refine ev_ialdN (p' := 67) i_192_66 rfl is_305 len_305 (by omega) (by decide) ?_
      rw [h5 k (by omega)]
      refine ev_aload_n (p' := 68) i_192_67 rfl rfl ?_
      refine ev_getr (p' := 71) i_192_68 rfl fl_12_70 rfl is_285 (rf_285_30 hw) ?_
      refine ev_iload_n (p' := 72) i_192_71 rfl rfl ?_
      refine ev_ialdN (p' := 73) i_192_72 rfl is_306 len_306 (by omega) (by decide) ?_
      rw [h6 k (by omega)]
      refine ev_icmp_ge (p' := 76) (tg := 80) i_192_73 rfl rfl (fun c73 => ?_) (fun c73 => ?_)
      · refine ev_iconst (p' := 81) (v := 0) i_192_80 rfl (by decide) ?_
        exact ev_iret i_192_81 rfl rfl (hE 0 (fun _ => sn_no he hk (Or.inr ⟨(nI_leI (by omega) (by omega)).mp c73, fun z => c44 (by rw [z])⟩)) (fun z => absurd rfl z))
      · refine ev_iconst (p' := 77) (v := 1) i_192_76 rfl (by decide) ?_
        refine ev_goto (tg := 81) i_192_77 rfl ?_
        exact ev_iret i_192_81 rfl rfl (hE 1 (fun z => absurd z (by decide)) (fun _ => Or.inr ⟨he, k, by omega, hk, by have := Nat.lt_of_not_le (fun z => c73 (nI_le (a := q k) (b := p k) z (by omega))); omega⟩))
    · refine ev_iinc (p' := 50) (ls' := [_, _, _]) i_192_47 rfl rfl rfl (by decide) (nI_inc _) rfl ?_
      refine ev_goto (tg := 24) i_192_50 rfl ?_
      exact ih (k + 1) (by omega) (fun j hj => by
        by_cases z : j = k
        · subst z; exact (nI_eq (by omega) (by omega)).mp (Classical.not_not.mp c44)
        · exact hk j (by omega))
theorem s_snn {L : Nat} {π : Nat → Nat → Nat} {mi : Nat → Nat → Int32} {ml : Nat → Nat → Int64} {mr : Nat → Nat → Option Nat} (d : Nat) (hw : WR π mr) {n n0 : Nat} {p q : Nat → Nat} (h31 : mi 285 31 = nI n) (hn : n < 40) (hn0 : n0 < 40) (h5 : ∀ j, j ≤ n → mi 305 j = nI (p j)) (h6 : ∀ j, j ≤ n0 → mi 306 j = nI (q j)) (hp : ∀ j, j ≤ n → p j ≤ 12) (hq : ∀ j, j ≤ n0 → q j ≤ 12) : ∃ r : Int32, pm_ev gR (d + 1) 192 [.ref 285, .int (nI n0)] (WW L, mi, ml, mr) (some (.int r)) (WW L, mi, ml, mr) ∧ (r = 0 → ¬ SNR n n0 p q) ∧ (¬ r = 0 → SNR n n0 p q) := by
  have key : ∃ x m', (∃ v : Int32, x = some (.int v) ∧ m' = (WW L, mi, ml, mr) ∧ (v = 0 → ¬ SNR n n0 p q) ∧ (¬ v = 0 → SNR n n0 p q)) ∧ pm_ev gR (d + 1) 192 [.ref 285, .int (nI n0)] (WW L, mi, ml, mr) x m' := by
    refine ev_some (q := q_192) rfl (Nat.le_of_ble_eq_true rfl) rfl ?_
    have hE : ∀ v : Int32, (v = 0 → ¬ SNR n n0 p q) → (¬ v = 0 → SNR n n0 p q) → (fun (x : Option Value) (m : pm_M) => ∃ v : Int32, x = some (.int v) ∧ m = (WW L, mi, ml, mr) ∧ (v = 0 → ¬ SNR n n0 p q) ∧ (¬ v = 0 → SNR n n0 p q)) (some (.int v)) (WW L, mi, ml, mr) := fun v h1 h2 => ⟨v, rfl, rfl, h1, h2⟩
    refine ev_aload_n (p' := 1) i_192_0 rfl rfl ?_
    refine ev_geti (p' := 4) i_192_1 rfl fl_12_258 rfl is_285 ?_
    rw [h31]
    refine ev_iload_n (p' := 5) i_192_4 rfl rfl ?_
    refine ev_icmp_eq (p' := 8) (tg := 22) i_192_5 rfl rfl (fun c5 => ?_) (fun c5 => ?_)
    · refine ev_iconst (p' := 23) (v := nI 0) i_192_22 rfl (by decide) ?_
      refine ev_istore_n (p' := 24) (ls' := [_, _, _]) i_192_23 rfl rfl (by decide) rfl ?_
      exact l_snn hw h31 hn hn0 h5 h6 hp hq ((nI_eq (by omega) (by omega)).mp c5) hE n 0 (by omega) (fun j hj => absurd hj (Nat.not_lt_zero j))
    · refine ev_aload_n (p' := 9) i_192_8 rfl rfl ?_
      refine ev_geti (p' := 12) i_192_9 rfl fl_12_258 rfl is_285 ?_
      rw [h31]
      refine ev_iload_n (p' := 13) i_192_12 rfl rfl ?_
      refine ev_icmp_ge (p' := 16) (tg := 20) i_192_13 rfl rfl (fun c13 => ?_) (fun c13 => ?_)
      · refine ev_iconst (p' := 21) (v := 0) i_192_20 rfl (by decide) ?_
        exact ev_iret i_192_21 rfl rfl (hE 0 (fun _ z => z.elim (fun y => absurd ((nI_leI (by omega) (by omega)).mp c13) (by omega)) (fun y => c5 (by rw [y.1]))) (fun z => absurd rfl z))
      · refine ev_iconst (p' := 17) (v := 1) i_192_16 rfl (by decide) ?_
        refine ev_goto (tg := 21) i_192_17 rfl ?_
        exact ev_iret i_192_21 rfl rfl (hE 1 (fun z => absurd z (by decide)) (fun _ => Or.inl (by have := Nat.lt_of_not_le (fun z => c13 (nI_le (a := n0) (b := n) z (by omega))); omega)))
  obtain ⟨x, m', ⟨v, h1, h2, h3, h4⟩, h5'⟩ := key
  subst h1 h2
  exact ⟨v, h5', h3, h4⟩
/-- the best of what was looked at -/
def IV (mi1 mi : Nat → Nat → Int32) (W : Int32) (f : Nat → Int32) (s : Nat) (best : Int32) (P : Nat → Nat → Prop) (low : Nat) : Prop :=
  (∀ a, a ≠ 305 → a ≠ 306 → a ≠ 285 → mi a = mi1 a) ∧ (∀ j, j ≠ 31 → mi 285 j = mi1 285 j) ∧ ((best = 1048576 ∧ ∀ x y, ¬ P x y) ∨ ∃ x0 y0 l0 h0, cnd (cvr W f) s x0 y0 l0 h0 ∧ l0 ≤ low ∧ best = nI (wln s x0 y0) ∧ (∀ j, j ≤ wln s x0 y0 → mi 306 j = nI (wkp s x0 y0 j)) ∧ ∀ x y, P x y → ¬ sn2 s x y x0 y0)
theorem IV.mono {mi1 mi : Nat → Nat → Int32} {W : Int32} {f : Nat → Int32} {s low low' : Nat} {best : Int32} {P P' : Nat → Nat → Prop} (h : IV mi1 mi W f s best P low) (hP : ∀ x y, P' x y → P x y) (hl : low ≤ low') : IV mi1 mi W f s best P' low' := by
  obtain ⟨a1, a2, a3⟩ := h
  refine ⟨a1, a2, ?_⟩
  rcases a3 with ⟨h1, h2⟩ | ⟨x0, y0, l0, h0, h1, h2, h3, h4, h5⟩
  · exact Or.inl ⟨h1, fun x y z => h2 x y (hP x y z)⟩
  · exact Or.inr ⟨x0, y0, l0, h0, h1, by omega, h3, h4, fun x y z => h5 x y (hP x y z)⟩
theorem cnd_12 {cov : Nat → Nat → Prop} {s x y l h : Nat} (hc : cnd cov s x y l h) : x ≤ 12 ∧ y ≤ 12 ∧ s ≤ 12 ∧ wln s x y < 40 := by
  obtain ⟨h1, h2, h3, -, h4⟩ := hc
  unfold wln
  omega
theorem sn2_not {cov : Nat → Nat → Prop} {s x y l h x0 y0 l0 h0 : Nat} (hc : cnd cov s x y l h) (hc0 : cnd cov s x0 y0 l0 h0) (hl : l0 ≤ l) (hn : ¬ snr s x y x0 y0) : ¬ sn2 s x y x0 y0 := by
  rintro (h1 | ⟨h1, h2, h3⟩)
  · exact hn h1
  · obtain ⟨a1, a2, a3, -, a4⟩ := hc
    obtain ⟨b1, b2, b3, -, b4⟩ := hc0
    unfold wkp at h3
    unfold wln at h1 h2
    split at h3 <;> split at h3 <;> split at h3 <;> split at h3 <;> omega
theorem s_cand {L : Nat} {π : Nat → Nat → Nat} {ml : Nat → Nat → Int64} {mr : Nat → Nat → Option Nat} {mi1 : Nat → Nat → Int32} (d : Nat) (hw : WR π mr) {W : Int32} {f : Nat → Int32} {s x y l h : Nat} {best : Int32} {P : Nat → Nat → Prop} (hc : cnd (cvr W f) s x y l h) {mi mi2 : Nat → Nat → Int32} (hI : IV mi1 mi W f s best P l) (hT : WT mi mi2 (wln s x y) (wkp s x y)) :
    ∃ r : Int32, pm_ev gR (d + 1) 192 [.ref 285, .int best] (WW L, mi2, ml, mr) (some (.int r)) (WW L, mi2, ml, mr) ∧ (r = 0 → IV mi1 mi2 W f s best (fun a b => P a b ∨ (a = x ∧ b = y)) l) ∧ (¬ r = 0 → ∀ a b, P a b → ¬ sn2 s a b x y) := by
  obtain ⟨a1, a2, a3⟩ := hI
  have hb := cnd_12 hc
  have f1 : ∀ a, a ≠ 305 → a ≠ 306 → a ≠ 285 → mi2 a = mi1 a := fun a z1 z2 z3 => by rw [hT.1 a z1 z3]; exact a1 a z1 z2 z3
  have f2 : ∀ j, j ≠ 31 → mi2 285 j = mi1 285 j := fun j hj => by rw [hT.2.1 j hj]; exact a2 j hj
  rcases a3 with ⟨h1, h2⟩ | ⟨x0, y0, l0, h0, h1, h2, h3, h4, h5⟩
  · subst h1
    exact ⟨1, s_snM d hw hT.2.2.1 hb.2.2.2, fun z => absurd z (by decide), fun _ a b z => absurd z (h2 a b)⟩
  · subst h3
    have hb0 := cnd_12 h1
    have h6 : ∀ j, j ≤ wln s x0 y0 → mi2 306 j = nI (wkp s x0 y0 j) := fun j hj => by rw [hT.1 306 (by decide) (by decide)]; exact h4 j hj
    obtain ⟨r, e1, e2, e3⟩ := s_snn (L := L) (ml := ml) d hw (mi := mi2) (n := wln s x y) (n0 := wln s x0 y0) (p := wkp s x y) (q := wkp s x0 y0) hT.2.2.1 hb.2.2.2 hb0.2.2.2 hT.2.2.2 h6 (fun j hj => wkp_12 hb.2.2.1 hb.1 hb.2.1 hj) (fun j hj => wkp_12 hb0.2.2.1 hb0.1 hb0.2.1 hj)
    refine ⟨r, e1, fun z => ⟨f1, f2, Or.inr ⟨x0, y0, l0, h0, h1, h2, rfl, h6, fun a b q => ?_⟩⟩, fun z a b q => sn2_new (e3 z) (h5 a b q)⟩
    rcases q with q | ⟨rfl, rfl⟩
    · exact h5 a b q
    · exact sn2_not hc h1 h2 (e2 z)
def CQ (mi2 mi : Nat → Nat → Int32) (j : Nat) : Prop := (∀ a, a ≠ 306 → mi a = mi2 a) ∧ ∀ i, i < j → mi 306 i = mi2 305 i
theorem CQ.step {mi2 mi : Nat → Nat → Int32} {j : Nat} (h : CQ mi2 mi j) : CQ mi2 (pm_u mi 306 j (mi 305 j)) (j + 1) := by
  refine ⟨fun a ha => by rw [pm_u_ne ha]; exact h.1 a ha, fun i hi => ?_⟩
  by_cases e : i = j
  · subst e
    rw [pm_u_self, h.1 305 (by decide)]
  · rw [pm_u_oth e]
    exact h.2 i (by omega)
theorem l_cpy {L : Nat} {π : Nat → Nat → Nat} {ml : Nat → Nat → Int64} {mr : Nat → Nat → Option Nat} {d : Nat} {E : Option Value → pm_M → Prop} (hw : WR π mr) {mi2 : Nat → Nat → Int32} {n l h : Nat} {W iv e6 : Int32} (hn : n < 40) (h31 : mi2 285 31 = nI n) (kk : ∀ mi, CQ mi2 mi (n + 1) → Ev gR (pm_ev gR (d + 3)) E q_193 145 [some (.ref 285), some (.int W), some (.int iv), some (.int (nI n)), some (.int (nI l)), some (.int (nI h)), some (.int e6), some (.int (nI (n + 1)))] [] (WW L, mi, ml, mr)) : ∀ k j mi, j + k = n + 1 → CQ mi2 mi j → Ev gR (pm_ev gR (d + 3)) E q_193 116 [some (.ref 285), some (.int W), some (.int iv), some (.int (nI n)), some (.int (nI l)), some (.int (nI h)), some (.int e6), some (.int (nI j))] [] (WW L, mi, ml, mr) := by
  intro k
  induction k with
  | zero =>
    intro j mi hj hC
    have hj : j = n + 1 := by omega
    subst hj
    refine ev_iload (p' := 118) i_193_116 rfl rfl ?_
    refine ev_aload_n (p' := 119) i_193_118 rfl rfl ?_
    refine ev_geti (p' := 122) i_193_119 rfl fl_12_258 rfl is_285 ?_
    rw [hC.1 285 (by decide), h31]
    refine ev_icmp_gt (p' := 125) (tg := 145) i_193_122 rfl rfl (fun c122 => ?_) (fun c122 => absurd (nI_lt (by omega) (by omega)) c122)
    exact kk _ hC
  | succ k ih =>
    intro j mi hj hC
    refine ev_iload (p' := 118) i_193_116 rfl rfl ?_
    refine ev_aload_n (p' := 119) i_193_118 rfl rfl ?_
    refine ev_geti (p' := 122) i_193_119 rfl fl_12_258 rfl is_285 ?_
    rw [hC.1 285 (by decide), h31]
    refine ev_icmp_gt (p' := 125) (tg := 145) i_193_122 rfl rfl (fun c122 => absurd c122 (nI_nlt (by omega) (by omega))) (fun c122 => ?_)
    refine ev_aload_n (p' := 126) i_193_125 rfl rfl ?_
    refine ev_getr (p' := 129) i_193_126 rfl fl_12_70 rfl is_285 (rf_285_30 hw) ?_
    refine ev_iload (p' := 131) i_193_129 rfl rfl ?_
    refine ev_aload_n (p' := 132) i_193_131 rfl rfl ?_
    refine ev_getr (p' := 135) i_193_132 rfl fl_12_67 rfl is_285 (rf_285_29 hw) ?_
    refine ev_iload (p' := 137) i_193_135 rfl rfl ?_
    refine ev_ialdN (p' := 138) i_193_137 rfl is_305 len_305 (by omega) (by decide) ?_
    refine ev_iastN (p' := 139) i_193_138 rfl is_306 len_306 (by omega) (by decide) (gr (by decide)) ?_
    refine ev_iinc (p' := 142) (ls' := [_, _, _, _, _, _, _, _]) i_193_139 rfl rfl rfl (by decide) (nI_inc _) rfl ?_
    refine ev_goto (tg := 116) i_193_142 rfl ?_
    exact ih (j + 1) _ (by omega) hC.step
theorem l_cand {L : Nat} {π : Nat → Nat → Nat} {ml : Nat → Nat → Int64} {mr : Nat → Nat → Option Nat} {d : Nat} {E : Option Value → pm_M → Prop} (hw : WR π mr) {mi1 : Nat → Nat → Int32} {s l h x y : Nat} {W iv e6 : Int32} {f : Nat → Int32} {x7 : Option Value} {P : Nat → Nat → Prop} (hop : mi1 285 2 = nI s) (hc : cnd (cvr W f) s x y l h) {mi : Nat → Nat → Int32} {best : Int32} (hI : IV mi1 mi W f s best P l) (kk : (∀ mi best x7, IV mi1 mi W f s best (fun a b => P a b ∨ (a = x ∧ b = y)) l → Ev gR (pm_ev gR (d + 3)) E q_193 145 [some (.ref 285), some (.int W), some (.int iv), some (.int best), some (.int (nI l)), some (.int (nI h)), some (.int e6), x7] [] (WW L, mi, ml, mr))) : Ev gR (pm_ev gR (d + 3)) E q_193 97 [some (.ref 285), some (.int W), some (.int iv), some (.int best), some (.int (nI l)), some (.int (nI h)), some (.int e6), x7] [.int (nI y), .int (nI x), .ref 285] (WW L, mi, ml, mr) := by
  have hb := cnd_12 hc
  obtain ⟨mi2, e2, hT⟩ := s_swk (L := L) (ml := ml) (d + 1) hw (x := x) (y := y) ((hI.2.1 2 (by decide)).trans hop) hb.2.2.1 hb.1 hb.2.1
  refine ev_v2V (p' := 100) i_193_97 rfl cl_12_277_12 (by decide) is_285 (Nat.le_of_ble_eq_true rfl) (e2) ?_
  refine ev_aload_n (p' := 101) i_193_100 rfl rfl ?_
  refine ev_iload_n (p' := 102) i_193_101 rfl rfl ?_
  obtain ⟨r, e3, hr0, hr1⟩ := s_cand (L := L) (ml := ml) (d + 2) hw hc hI hT
  refine ev_v1I (p' := 105) i_193_102 rfl cl_12_281_12 (by decide) is_285 (Nat.le_of_ble_eq_true rfl) (e3) ?_
  refine ev_if_eq (p' := 108) (tg := 145) i_193_105 rfl rfl (fun c105 => ?_) (fun c105 => ?_)
  · exact kk _ _ _ (hr0 c105)
  · refine ev_aload_n (p' := 109) i_193_108 rfl rfl ?_
    refine ev_geti (p' := 112) i_193_109 rfl fl_12_258 rfl is_285 ?_
    rw [hT.2.2.1]
    refine ev_istore_n (p' := 113) (ls' := [_, _, _, _, _, _, _, _]) i_193_112 rfl rfl (by decide) rfl ?_
    refine ev_iconst (p' := 114) (v := nI 0) i_193_113 rfl (by decide) ?_
    refine ev_istore (p' := 116) (ls' := [_, _, _, _, _, _, _, _]) i_193_114 rfl rfl (by decide) rfl ?_
    refine l_cpy hw hb.2.2.2 hT.2.2.1 (fun mi3 hC => kk _ _ _ ?_) (wln s x y + 1) 0 mi2 (by omega) ⟨fun _ _ => rfl, fun i hi => absurd hi (Nat.not_lt_zero i)⟩
    refine ⟨fun a z1 z2 z3 => by rw [hC.1 a z2, hT.1 a z1 z3]; exact hI.1 a z1 z2 z3, fun j hj => by rw [hC.1 285 (by decide), hT.2.1 j hj]; exact hI.2.1 j hj, Or.inr ⟨x, y, l, h, hc, Nat.le_refl _, rfl, fun j hj => by rw [hC.2 j (by omega)]; exact hT.2.2.2 j hj, fun a b q => ?_⟩⟩
    rcases q with q | ⟨rfl, rfl⟩
    · exact hr1 c105 a b q
    · exact sn2_irr
def PT (W : Int32) (f : Nat → Int32) (s l h : Nat) : Nat → Nat → Prop := fun x y => ∃ a b, (a < l ∨ (a = l ∧ b < h)) ∧ cnd (cvr W f) s x y a b
theorem PT_f {W : Int32} {f : Nat → Int32} {s l h x y : Nat} (hn : ¬ cvr W f l h) (hp : PT W f s l (h + 1) x y) : PT W f s l h x y := by
  obtain ⟨a, b, h1, h2⟩ := hp
  refine ⟨a, b, ?_, h2⟩
  by_cases e : a = l ∧ b = h
  · obtain ⟨rfl, rfl⟩ := e
    exact absurd h2.2.2.2.1 hn
  · omega
theorem PT_t {W : Int32} {f : Nat → Int32} {s l h x y : Nat} (hp : PT W f s l (h + 1) x y) : (PT W f s l h x y ∨ (x = l ∧ y = h)) ∨ (x = h ∧ y = l) := by
  obtain ⟨a, b, h1, h2⟩ := hp
  by_cases e : a = l ∧ b = h
  · obtain ⟨rfl, rfl⟩ := e
    rcases h2.2.2.2.2 with z | z
    · exact Or.inl (Or.inr z)
    · exact Or.inr z
  · exact Or.inl (Or.inl ⟨a, b, by omega, h2⟩)
theorem PT_n {W : Int32} {f : Nat → Int32} {s l x y : Nat} (hp : PT W f s (l + 1) 0 x y) : PT W f s l 13 x y := by
  obtain ⟨a, b, h1, h2⟩ := hp
  have := h2.2.2.1
  exact ⟨a, b, by omega, h2⟩
theorem PT_0 {W : Int32} {f : Nat → Int32} {s l x y : Nat} (hp : PT W f s l s x y) : PT W f s l 0 x y := by
  obtain ⟨a, b, h1, h2⟩ := hp
  have := h2.2.1
  exact ⟨a, b, by omega, h2⟩
theorem l_top {L : Nat} {π : Nat → Nat → Nat} {ml : Nat → Nat → Int64} {mr : Nat → Nat → Option Nat} {d : Nat} {E : Option Value → pm_M → Prop} (hw : WR π mr) {mi1 : Nat → Nat → Int32} {s : Nat} (hs : s ≤ 12) {W iv : Int32} {f : Nat → Int32} (hop : mi1 285 2 = nI s) (hS : ∀ o, o < 13 → mi1 304 o = f o) {l : Nat} (hl : l ≤ s) (kk : ∀ mi best x6 x7, IV mi1 mi W f s best (PT W f s l 13) l → Ev gR (pm_ev gR (d + 3)) E q_193 157 [some (.ref 285), some (.int W), some (.int iv), some (.int best), some (.int (nI l)), some (.int (nI 13)), x6, x7] [] (WW L, mi, ml, mr)) : ∀ (k h : Nat) (mi : Nat → Nat → Int32) (best : Int32) (x6 x7 : Option Value), h + k = 13 → s ≤ h → IV mi1 mi W f s best (PT W f s l h) l → Ev gR (pm_ev gR (d + 3)) E q_193 44 [some (.ref 285), some (.int W), some (.int iv), some (.int best), some (.int (nI l)), some (.int (nI h)), x6, x7] [] (WW L, mi, ml, mr) := by
  intro k
  induction k with
  | zero =>
    intro h mi best x6 x7 hh hsh hI
    have hh : h = 13 := by omega
    subst hh
    refine ev_iload (p' := 46) i_193_44 rfl rfl ?_
    refine ev_bipush (p' := 48) (v := 12) i_193_46 rfl (by decide) ?_
    refine ev_icmp_gt (p' := 51) (tg := 157) i_193_48 rfl rfl (fun c48 => ?_) (fun c48 => absurd (by decide) c48)
    exact kk _ _ _ _ hI
  | succ k ih =>
    intro h mi best x6 x7 hh hsh hI
    refine ev_iload (p' := 46) i_193_44 rfl rfl ?_
    refine ev_bipush (p' := 48) (v := 12) i_193_46 rfl (by decide) ?_
    refine ev_icmp_gt (p' := 51) (tg := 157) i_193_48 rfl rfl (fun c48 => absurd c48 (Int32.not_lt.mpr (nI_le (b := 12) (by omega) (by decide)))) (fun c48 => ?_)
    refine ev_iconst (p' := 52) (v := nI 0) i_193_51 rfl (by decide) ?_
    refine ev_istore (p' := 54) (ls' := [_, _, _, _, _, _, _, _]) i_193_52 rfl rfl (by decide) rfl ?_
    refine ev_iload (p' := 56) i_193_54 rfl rfl ?_
    refine ev_iconst (p' := 57) (v := 2) i_193_56 rfl (by decide) ?_
    refine ev_icmp_ge (p' := 60) (tg := 151) i_193_57 rfl rfl (fun c57 => absurd c57 (by decide)) (fun c57 => ?_)
    refine ev_aload_n (p' := 61) i_193_60 rfl rfl ?_
    refine ev_iload_n (p' := 62) i_193_61 rfl rfl ?_
    refine ev_iload (p' := 64) i_193_62 rfl rfl ?_
    refine ev_iload (p' := 66) i_193_64 rfl rfl ?_
    refine ev_v3I (p' := 69) i_193_66 rfl cl_12_274_12 (by decide) is_285 (Nat.le_of_ble_eq_true rfl) (s_mtd _ hw (mi := mi) (f := f) (fun o ho => by rw [hI.1 304 (by decide) (by decide) (by decide)]; exact hS o ho) (show l ≤ h by omega) (show h ≤ 12 by omega)) ?_
    refine ev_if_eq (p' := 72) (tg := 151) i_193_69 rfl rfl (fun c69 => ?_) (fun c69 => ?_)
    · replace c69 := B0 c69
      refine ev_iinc (p' := 154) (ls' := [_, _, _, _, _, _, _, _]) i_193_151 rfl rfl rfl (by decide) (nI_inc _) rfl ?_
      refine ev_goto (tg := 44) i_193_154 rfl ?_
      exact ih (h + 1) _ _ _ _ (by omega) (by omega) (hI.mono (fun x y z => PT_f c69 z) (Nat.le_refl _))
    · replace c69 := B1 c69
      refine ev_aload_n (p' := 73) i_193_72 rfl rfl ?_
      refine ev_iload (p' := 75) i_193_73 rfl rfl ?_
      refine ev_if_ne (p' := 78) (tg := 83) i_193_75 rfl rfl (fun c75 => absurd c75 (by decide)) (fun c75 => ?_)
      refine ev_iload (p' := 80) i_193_78 rfl rfl ?_
      refine ev_goto (tg := 85) i_193_80 rfl ?_
      refine ev_iload (p' := 87) i_193_85 rfl rfl ?_
      refine ev_if_ne (p' := 90) (tg := 95) i_193_87 rfl rfl (fun c87 => absurd c87 (by decide)) (fun c87 => ?_)
      refine ev_iload (p' := 92) i_193_90 rfl rfl ?_
      refine ev_goto (tg := 97) i_193_92 rfl ?_
      have hcv := c69
      refine l_cand hw hop ⟨by omega, by omega, by omega, c69, Or.inl ⟨rfl, rfl⟩⟩ hI (fun mi2 best2 x72 hI2 => ?_)
      refine ev_iinc (p' := 148) (ls' := [_, _, _, _, _, _, _, _]) i_193_145 rfl rfl rfl (by decide) (nI_inc _) rfl ?_
      refine ev_goto (tg := 54) i_193_148 rfl ?_
      refine ev_iload (p' := 56) i_193_54 rfl rfl ?_
      refine ev_iconst (p' := 57) (v := 2) i_193_56 rfl (by decide) ?_
      refine ev_icmp_ge (p' := 60) (tg := 151) i_193_57 rfl rfl (fun c57 => absurd c57 (by decide)) (fun c57 => ?_)
      refine ev_aload_n (p' := 61) i_193_60 rfl rfl ?_
      refine ev_iload_n (p' := 62) i_193_61 rfl rfl ?_
      refine ev_iload (p' := 64) i_193_62 rfl rfl ?_
      refine ev_iload (p' := 66) i_193_64 rfl rfl ?_
      refine ev_v3I (p' := 69) i_193_66 rfl cl_12_274_12 (by decide) is_285 (Nat.le_of_ble_eq_true rfl) (s_mtd _ hw (mi := mi2) (f := f) (fun o ho => by rw [hI2.1 304 (by decide) (by decide) (by decide)]; exact hS o ho) (show l ≤ h by omega) (show h ≤ 12 by omega)) ?_
      refine ev_if_eq (p' := 72) (tg := 151) i_193_69 rfl rfl (fun c69 => absurd c69 (B_tn hcv)) (fun c69 => ?_)
      refine ev_aload_n (p' := 73) i_193_72 rfl rfl ?_
      refine ev_iload (p' := 75) i_193_73 rfl rfl ?_
      refine ev_if_ne (p' := 78) (tg := 83) i_193_75 rfl rfl (fun c75 => ?_) (fun c75 => absurd (by decide) c75)
      refine ev_iload (p' := 85) i_193_83 rfl rfl ?_
      refine ev_iload (p' := 87) i_193_85 rfl rfl ?_
      refine ev_if_ne (p' := 90) (tg := 95) i_193_87 rfl rfl (fun c87 => ?_) (fun c87 => absurd (by decide) c87)
      refine ev_iload (p' := 97) i_193_95 rfl rfl ?_
      refine l_cand hw hop ⟨by omega, by omega, by omega, hcv, Or.inr ⟨rfl, rfl⟩⟩ hI2 (fun mi3 best3 x73 hI3 => ?_)
      refine ev_iinc (p' := 148) (ls' := [_, _, _, _, _, _, _, _]) i_193_145 rfl rfl rfl (by decide) (nI_inc _) rfl ?_
      refine ev_goto (tg := 54) i_193_148 rfl ?_
      refine ev_iload (p' := 56) i_193_54 rfl rfl ?_
      refine ev_iconst (p' := 57) (v := 2) i_193_56 rfl (by decide) ?_
      refine ev_icmp_ge (p' := 60) (tg := 151) i_193_57 rfl rfl (fun c57 => ?_) (fun c57 => absurd (by decide) c57)
      refine ev_iinc (p' := 154) (ls' := [_, _, _, _, _, _, _, _]) i_193_151 rfl rfl rfl (by decide) (nI_inc _) rfl ?_
      refine ev_goto (tg := 44) i_193_154 rfl ?_
      exact ih (h + 1) _ _ _ _ (by omega) (by omega) (hI3.mono (fun x y z => PT_t z) (Nat.le_refl _))
theorem l_low {L : Nat} {π : Nat → Nat → Nat} {ml : Nat → Nat → Int64} {mr : Nat → Nat → Option Nat} {d : Nat} {E : Option Value → pm_M → Prop} (hw : WR π mr) {mi1 : Nat → Nat → Int32} {s : Nat} (hs : s ≤ 12) {W iv : Int32} {f : Nat → Int32} (hop : mi1 285 2 = nI s) (hS : ∀ o, o < 13 → mi1 304 o = f o) (kk : ∀ mi best x4 x5 x6 x7, IV mi1 mi W f s best (PT W f s (s + 1) 0) (s + 1) → Ev gR (pm_ev gR (d + 3)) E q_193 163 [some (.ref 285), some (.int W), some (.int iv), some (.int best), x4, x5, x6, x7] [] (WW L, mi, ml, mr)) : ∀ (k l : Nat) (mi : Nat → Nat → Int32) (best : Int32) (x5 x6 x7 : Option Value), l + k = s + 1 → IV mi1 mi W f s best (PT W f s l 0) l → Ev gR (pm_ev gR (d + 3)) E q_193 29 [some (.ref 285), some (.int W), some (.int iv), some (.int best), some (.int (nI l)), x5, x6, x7] [] (WW L, mi, ml, mr) := by
  intro k
  induction k with
  | zero =>
    intro l mi best x5 x6 x7 hl hI
    have hl : l = s + 1 := by omega
    subst hl
    refine ev_iload (p' := 31) i_193_29 rfl rfl ?_
    refine ev_aload_n (p' := 32) i_193_31 rfl rfl ?_
    refine ev_geti (p' := 35) i_193_32 rfl fl_12_100 rfl is_285 ?_
    rw [show mi 285 2 = nI s from (hI.2.1 2 (by decide)).trans hop]
    refine ev_icmp_gt (p' := 38) (tg := 163) i_193_35 rfl rfl (fun c35 => ?_) (fun c35 => absurd (nI_lt (by omega) (by omega)) c35)
    exact kk _ _ _ _ _ _ hI
  | succ k ih =>
    intro l mi best x5 x6 x7 hl hI
    refine ev_iload (p' := 31) i_193_29 rfl rfl ?_
    refine ev_aload_n (p' := 32) i_193_31 rfl rfl ?_
    refine ev_geti (p' := 35) i_193_32 rfl fl_12_100 rfl is_285 ?_
    rw [show mi 285 2 = nI s from (hI.2.1 2 (by decide)).trans hop]
    refine ev_icmp_gt (p' := 38) (tg := 163) i_193_35 rfl rfl (fun c35 => absurd c35 (nI_nlt (by omega) (by omega))) (fun c35 => ?_)
    refine ev_aload_n (p' := 39) i_193_38 rfl rfl ?_
    refine ev_geti (p' := 42) i_193_39 rfl fl_12_100 rfl is_285 ?_
    rw [show mi 285 2 = nI s from (hI.2.1 2 (by decide)).trans hop]
    refine ev_istore (p' := 44) (ls' := [_, _, _, _, _, _, _, _]) i_193_42 rfl rfl (by decide) rfl ?_
    refine l_top hw hs hop hS (show l ≤ s by omega) (fun mi2 best2 x6 x7 hI2 => ?_) (13 - s) s mi best _ _ (by omega) (Nat.le_refl s) (hI.mono (fun x y z => PT_0 z) (Nat.le_refl _))
    refine ev_iinc (p' := 160) (ls' := [_, _, _, _, _, _, _, _]) i_193_157 rfl rfl rfl (by decide) (nI_inc _) rfl ?_
    refine ev_goto (tg := 29) i_193_160 rfl ?_
    exact ih (l + 1) _ _ _ _ _ (by omega) (hI2.mono (fun x y z => PT_n z) (Nat.le_succ l))
theorem RR.tr {mi mi' : Nat → Nat → Int32} {ml : Nat → Nat → Int64} {A : AV} (h : RR mi ml A) (hv : A.1.1.1 ≤ 7) (he : ∀ a, a ≠ 305 → a ≠ 306 → a ≠ 285 → mi' a = mi a) (h5 : ∀ j, j ≠ 31 → mi' 285 j = mi 285 j) : RR mi' ml A := by
  obtain ⟨a1, a2, a3, a4, a5, a6⟩ := h
  have e : ∀ a, 286 ≤ a → a < 305 ∨ 306 < a → mi' a = mi a := fun a z1 z2 => he a (by omega) (by omega) (by omega)
  refine ⟨⟨?_, ?_, ?_, ?_⟩, fun i hi => ⟨by rw [e 311 (by omega) (by omega)]; exact (a2 i hi).1, fun hk => ((a2 i hi).2 hk).cong (e 310 (by omega) (by omega))⟩, ⟨by rw [h5 17 (by omega)]; exact a3.1, fun i hi => by rw [e 297 (by omega) (by omega)]; exact a3.2 i hi⟩, a4, by rw [e 286 (by omega) (by omega)]; exact a5, by rw [h5 22 (by omega)]; exact a6⟩
  · exact ⟨by rw [h5 1 (by omega)]; exact a1.1.1, by rw [h5 2 (by omega)]; exact a1.1.2.1, by rw [h5 3 (by omega)]; exact a1.1.2.2.1, fun i hi j hj => by rw [e (287 + j) (by omega) (by omega)]; exact a1.1.2.2.2 i hi j hj⟩
  · exact ⟨by rw [h5 25 (by omega)]; exact a1.2.1.1, fun k' hk' => (a1.2.1.2 k' hk').cong (e 301 (by omega) (by omega))⟩
  · exact ⟨by rw [h5 4 (by omega)]; exact a1.2.2.1.1, fun i hi j hj => by rw [e 294 (by omega) (by omega)]; exact a1.2.2.1.2 i hi j hj⟩
  · exact ⟨by rw [h5 5 (by omega)]; exact a1.2.2.2.1, fun i hi => by rw [e 295 (by omega) (by omega), e 296 (by omega) (by omega)]; exact a1.2.2.2.2 i hi⟩
noncomputable def TUm (A : AV) (W : Int32) (s : Nat) : Int32 := if cvr W (SF A) 0 12 then nI (SLf (cvr W (SF A)) s s s) else -1
noncomputable def TUj (A : AV) (W : Int32) (s j : Nat) : Int32 := if cvr W (SF A) 0 12 then (if SLf (cvr W (SF A)) s s s < j then -5 else nI (gst (cvr W (SF A)) s (SLf (cvr W (SF A)) s s s) j).1) else -1
theorem IV_no {mi1 mi : Nat → Nat → Int32} {W : Int32} {f : Nat → Int32} {s : Nat} (hs : s ≤ 12) (h : ∀ x y, ¬ PT W f s (s + 1) 0 x y) : ¬ cvr W f 0 12 := fun z => h 0 12 ⟨0, 12, Or.inl (by omega), by omega, hs, Nat.le_refl _, z, Or.inl ⟨rfl, rfl⟩⟩
theorem IV_yes {W : Int32} {f : Nat → Int32} {s x0 y0 l0 h0 : Nat} (hs : s ≤ 12) (hc : cnd (cvr W f) s x0 y0 l0 h0) (h : ∀ x y, PT W f s (s + 1) 0 x y → ¬ sn2 s x y x0 y0) : cvr W f 0 12 ∧ wln s x0 y0 = SLf (cvr W f) s s s ∧ ∀ k, k ≤ SLf (cvr W f) s s s → wkp s x0 y0 k = (gst (cvr W f) s (SLf (cvr W f) s s s) k).1 := by
  have hopt : ∀ l h, l ≤ s → s ≤ h → h ≤ 12 → cvr W f l h → ¬ sn2 s l h x0 y0 ∧ ¬ sn2 s h l x0 y0 := fun l h' g1 g2 g3 g4 => ⟨h l h' ⟨l, h', Or.inl (by omega), g1, g2, g3, g4, Or.inl ⟨rfl, rfl⟩⟩, h h' l ⟨l, h', Or.inl (by omega), g1, g2, g3, g4, Or.inr ⟨rfl, rfl⟩⟩⟩
  obtain ⟨h1, h2, h3, h4, h5⟩ := hc
  exact ⟨cvr_mono (Nat.zero_le _) h3 h4, tour_len hs h1 h2 h3 h4 h5 hopt, fun k hk => tour_path hs h1 h2 h3 h4 h5 hopt rfl hk⟩
theorem C_tour_bad (L d : Nat) (A : AV) (hA : okA A) (y x : Int32) (hb : ¬ ((0 ≤ y ∧ y ≤ 1 <<< (nI A.1.1.1 &&& 31) - 1) ∧ -1 ≤ x)) : Cst L (d + 24) 87 [.int y, .int x] A (.int (-10)) (badA A) := by
  refine C_of (q := q_87) rfl (Nat.le_of_ble_eq_true rfl) rfl (fun π mi ml mr hw hc => ?_)
  have hn := hc.hn
  have h7 := hA.n7
  refine ev_aload_n (p' := 1) i_87_0 rfl rfl ?_
  refine ev_iload_n (p' := 2) i_87_1 rfl rfl ?_
  refine ev_v1I (p' := 5) i_87_2 rfl cl_11_236_11 (by decide) is_1 (Nat.le_of_ble_eq_true rfl) (s_noPieces _ hw hn _) ?_
  refine ev_if_ne (p' := 8) (tg := 13) i_87_5 rfl rfl (fun c5 => ?_) (fun c5 => ?_)
  · replace c5 := B1 c5
    refine ev_aload_n (p' := 14) i_87_13 rfl rfl ?_
    refine ev_v0I (p' := 17) i_87_14 rfl cl_11_239_11 (by decide) is_1 (Nat.le_of_ble_eq_true rfl) (s_badE _) ?_
    exact ev_iretI i_87_17 rfl (EC.mk rfl hw (hc.bad hw))
  · replace c5 := B0n c5
    refine ev_iload_n (p' := 9) i_87_8 rfl rfl ?_
    refine ev_iconst (p' := 10) (v := -1) i_87_9 rfl (by decide) ?_
    refine ev_icmp_ge (p' := 13) (tg := 18) i_87_10 rfl rfl (fun c10 => ?_) (fun c10 => ?_)
    · exact absurd ⟨ni c5, c10⟩ hb
    · refine ev_aload_n (p' := 14) i_87_13 rfl rfl ?_
      refine ev_v0I (p' := 17) i_87_14 rfl cl_11_239_11 (by decide) is_1 (Nat.le_of_ble_eq_true rfl) (s_badE _) ?_
      exact ev_iretI i_87_17 rfl (EC.mk rfl hw (hc.bad hw))
theorem R_tour_bad (L d : Nat) (A : AV) (hA : okA A) (y x : Int32) (hb : ¬ ((0 ≤ y ∧ y ≤ 1 <<< (nI A.1.1.1 &&& 31) - 1) ∧ -1 ≤ x)) : Rst L (d + 24) 193 [.int y, .int x] A (.int (-10)) (badA A) := by
  refine R_of (q := q_193) rfl (Nat.le_of_ble_eq_true rfl) rfl (fun π mi ml mr hw hc => ?_)
  have hn := hc.hn
  have h7 := hA.n7
  refine ev_aload_n (p' := 1) i_193_0 rfl rfl ?_
  refine ev_iload_n (p' := 2) i_193_1 rfl rfl ?_
  refine ev_v1I (p' := 5) i_193_2 rfl cl_12_264_12 (by decide) is_285 (Nat.le_of_ble_eq_true rfl) (s_isSet (π := π) _ hn _) ?_
  refine ev_if_eq (p' := 8) (tg := 13) i_193_5 rfl rfl (fun c5 => ?_) (fun c5 => ?_)
  · replace c5 := B0 c5
    refine ev_aload_n (p' := 14) i_193_13 rfl rfl ?_
    refine ev_v0I (p' := 17) i_193_14 rfl cl_12_267_12 (by decide) is_285 (Nat.le_of_ble_eq_true rfl) (s_mten _ hw) ?_
    exact ev_iretI i_193_17 rfl (ER.mk rfl (hc.bad h7))
  · replace c5 := B1 c5
    refine ev_iload_n (p' := 9) i_193_8 rfl rfl ?_
    refine ev_iconst (p' := 10) (v := -1) i_193_9 rfl (by decide) ?_
    refine ev_icmp_ge (p' := 13) (tg := 18) i_193_10 rfl rfl (fun c10 => ?_) (fun c10 => ?_)
    · exact absurd ⟨c5, c10⟩ hb
    · refine ev_aload_n (p' := 14) i_193_13 rfl rfl ?_
      refine ev_v0I (p' := 17) i_193_14 rfl cl_12_267_12 (by decide) is_285 (Nat.le_of_ble_eq_true rfl) (s_mten _ hw) ?_
      exact ev_iretI i_193_17 rfl (ER.mk rfl (hc.bad h7))
theorem R_tour_m (L d : Nat) (A : AV) (hA : okA A) {W : Int32} (hW : 0 ≤ W ∧ W ≤ 1 <<< (nI A.1.1.1 &&& 31) - 1) {s : Nat} (hs : s < 13) (eo : A.1.1.2.2.1 = nI s) : Rst L (d + 24) 193 [.int W, .int (-1)] A (.int (TUm A W s)) (A) := by
  refine R_of (q := q_193) rfl (Nat.le_of_ble_eq_true rfl) rfl (fun π mi ml mr hw hc => ?_)
  have hn := hc.hn
  have h7 := hA.n7
  refine ev_aload_n (p' := 1) i_193_0 rfl rfl ?_
  refine ev_iload_n (p' := 2) i_193_1 rfl rfl ?_
  refine ev_v1I (p' := 5) i_193_2 rfl cl_12_264_12 (by decide) is_285 (Nat.le_of_ble_eq_true rfl) (s_isSet (π := π) _ hn _) ?_
  refine ev_if_eq (p' := 8) (tg := 13) i_193_5 rfl rfl (fun c5 => absurd c5 (B_tn hW)) (fun c5 => ?_)
  refine ev_iload_n (p' := 9) i_193_8 rfl rfl ?_
  refine ev_iconst (p' := 10) (v := -1) i_193_9 rfl (by decide) ?_
  refine ev_icmp_ge (p' := 13) (tg := 18) i_193_10 rfl rfl (fun c10 => ?_) (fun c10 => absurd ((by decide)) c10)
  refine ev_aload_n (p' := 19) i_193_18 rfl rfl ?_
  obtain ⟨mi1, e1, hS⟩ := s_setSeen (L := L) (d + 17) hw hA hc
  refine ev_v0V (p' := 22) i_193_19 rfl cl_12_270_12 (by decide) is_285 (Nat.le_of_ble_eq_true rfl) (e1) ?_
  refine ev_ldc_w (p' := 25) (v := 1048576) i_193_22 rfl (by decide +kernel) ?_
  refine ev_istore_n (p' := 26) (ls' := [_, _, _, _, _, _, _, _]) i_193_25 rfl rfl (by decide) rfl ?_
  refine ev_iconst (p' := 27) (v := nI 0) i_193_26 rfl (by decide) ?_
  refine ev_istore (p' := 29) (ls' := [_, _, _, _, _, _, _, _]) i_193_27 rfl rfl (by decide) rfl ?_
  refine l_low (d := d + 20) hw (mi1 := mi1) (W := W) (f := SF A) (s := s) (by omega) (hS.1.1.1.2.1.trans eo) hS.2 (fun mi2 best x4 x5 x6 x7 hI => ?_) (s + 1) 0 mi1 _ _ _ _ (by omega) ⟨fun _ _ _ _ => rfl, fun _ _ => rfl, Or.inl ⟨rfl, fun x y z => by obtain ⟨a, b, z1, -⟩ := z; omega⟩⟩
  have hRf : RR mi2 ml A := hS.1.tr h7 hI.1 hI.2.1
  rcases hI.2.2 with ⟨q1, q2⟩ | ⟨x0, y0, l0, h0, q1, q2, q3, q4, q5⟩
  · subst q1
    refine ev_iload_n (p' := 164) i_193_163 rfl rfl ?_
    refine ev_ldc_w (p' := 167) (v := 1048576) i_193_164 rfl (by decide +kernel) ?_
    refine ev_icmp_ne (p' := 170) (tg := 172) i_193_167 rfl rfl (fun c167 => absurd c167 (fun z => z rfl)) (fun c167 => ?_)
    refine ev_iconst (p' := 171) (v := -1) i_193_170 rfl (by decide) ?_
    exact ev_iretI i_193_171 rfl (ER.mk (by unfold TUm; rw [if_neg (IV_no (mi1 := mi1) (mi := mi2) (by omega) q2)]) hRf)
  · subst q3
    have hb := cnd_12 q1
    obtain ⟨y1, y2, y3⟩ := IV_yes (by omega) q1 q5
    refine ev_iload_n (p' := 164) i_193_163 rfl rfl ?_
    refine ev_ldc_w (p' := 167) (v := 1048576) i_193_164 rfl (by decide +kernel) ?_
    refine ev_icmp_ne (p' := 170) (tg := 172) i_193_167 rfl rfl (fun c167 => ?_) (fun c167 => absurd (nM (by omega)) c167)
    refine ev_iload_n (p' := 173) i_193_172 rfl rfl ?_
    refine ev_iconst (p' := 174) (v := -1) i_193_173 rfl (by decide) ?_
    refine ev_icmp_ne (p' := 177) (tg := 181) i_193_174 rfl rfl (fun c174 => absurd c174 (fun z => z rfl)) (fun c174 => ?_)
    refine ev_iload_n (p' := 178) i_193_177 rfl rfl ?_
    refine ev_goto (tg := 197) i_193_178 rfl ?_
    exact ev_iretI i_193_197 rfl (ER.mk (by unfold TUm; rw [if_pos y1, y2]) hRf)
theorem R_tour_j (L d : Nat) (A : AV) (hA : okA A) {W : Int32} (hW : 0 ≤ W ∧ W ≤ 1 <<< (nI A.1.1.1 &&& 31) - 1) {s : Nat} (hs : s < 13) (eo : A.1.1.2.2.1 = nI s) {j : Nat} (hj : j < 2 ^ 31) : Rst L (d + 24) 193 [.int W, .int (nI j)] A (.int (TUj A W s j)) (A) := by
  refine R_of (q := q_193) rfl (Nat.le_of_ble_eq_true rfl) rfl (fun π mi ml mr hw hc => ?_)
  have hn := hc.hn
  have h7 := hA.n7
  refine ev_aload_n (p' := 1) i_193_0 rfl rfl ?_
  refine ev_iload_n (p' := 2) i_193_1 rfl rfl ?_
  refine ev_v1I (p' := 5) i_193_2 rfl cl_12_264_12 (by decide) is_285 (Nat.le_of_ble_eq_true rfl) (s_isSet (π := π) _ hn _) ?_
  refine ev_if_eq (p' := 8) (tg := 13) i_193_5 rfl rfl (fun c5 => absurd c5 (B_tn hW)) (fun c5 => ?_)
  refine ev_iload_n (p' := 9) i_193_8 rfl rfl ?_
  refine ev_iconst (p' := 10) (v := -1) i_193_9 rfl (by decide) ?_
  refine ev_icmp_ge (p' := 13) (tg := 18) i_193_10 rfl rfl (fun c10 => ?_) (fun c10 => absurd ((Int32.le_trans (by decide : (-1 : Int32) ≤ 0) (nI_pos' hj))) c10)
  refine ev_aload_n (p' := 19) i_193_18 rfl rfl ?_
  obtain ⟨mi1, e1, hS⟩ := s_setSeen (L := L) (d + 17) hw hA hc
  refine ev_v0V (p' := 22) i_193_19 rfl cl_12_270_12 (by decide) is_285 (Nat.le_of_ble_eq_true rfl) (e1) ?_
  refine ev_ldc_w (p' := 25) (v := 1048576) i_193_22 rfl (by decide +kernel) ?_
  refine ev_istore_n (p' := 26) (ls' := [_, _, _, _, _, _, _, _]) i_193_25 rfl rfl (by decide) rfl ?_
  refine ev_iconst (p' := 27) (v := nI 0) i_193_26 rfl (by decide) ?_
  refine ev_istore (p' := 29) (ls' := [_, _, _, _, _, _, _, _]) i_193_27 rfl rfl (by decide) rfl ?_
  refine l_low (d := d + 20) hw (mi1 := mi1) (W := W) (f := SF A) (s := s) (by omega) (hS.1.1.1.2.1.trans eo) hS.2 (fun mi2 best x4 x5 x6 x7 hI => ?_) (s + 1) 0 mi1 _ _ _ _ (by omega) ⟨fun _ _ _ _ => rfl, fun _ _ => rfl, Or.inl ⟨rfl, fun x y z => by obtain ⟨a, b, z1, -⟩ := z; omega⟩⟩
  have hRf : RR mi2 ml A := hS.1.tr h7 hI.1 hI.2.1
  rcases hI.2.2 with ⟨q1, q2⟩ | ⟨x0, y0, l0, h0, q1, q2, q3, q4, q5⟩
  · subst q1
    refine ev_iload_n (p' := 164) i_193_163 rfl rfl ?_
    refine ev_ldc_w (p' := 167) (v := 1048576) i_193_164 rfl (by decide +kernel) ?_
    refine ev_icmp_ne (p' := 170) (tg := 172) i_193_167 rfl rfl (fun c167 => absurd c167 (fun z => z rfl)) (fun c167 => ?_)
    refine ev_iconst (p' := 171) (v := -1) i_193_170 rfl (by decide) ?_
    exact ev_iretI i_193_171 rfl (ER.mk (by unfold TUj; rw [if_neg (IV_no (mi1 := mi1) (mi := mi2) (by omega) q2)]) hRf)
  · subst q3
    have hb := cnd_12 q1
    obtain ⟨y1, y2, y3⟩ := IV_yes (by omega) q1 q5
    refine ev_iload_n (p' := 164) i_193_163 rfl rfl ?_
    refine ev_ldc_w (p' := 167) (v := 1048576) i_193_164 rfl (by decide +kernel) ?_
    refine ev_icmp_ne (p' := 170) (tg := 172) i_193_167 rfl rfl (fun c167 => ?_) (fun c167 => absurd (nM (by omega)) c167)
    refine ev_iload_n (p' := 173) i_193_172 rfl rfl ?_
    refine ev_iconst (p' := 174) (v := -1) i_193_173 rfl (by decide) ?_
    refine ev_icmp_ne (p' := 177) (tg := 181) i_193_174 rfl rfl (fun c174 => ?_) (fun c174 => absurd (ne_m1 hj) c174)
    refine ev_iload_n (p' := 182) i_193_181 rfl rfl ?_
    refine ev_iload_n (p' := 183) i_193_182 rfl rfl ?_
    refine ev_icmp_gt (p' := 186) (tg := 195) i_193_183 rfl rfl (fun c183 => ?_) (fun c183 => ?_)
    · refine ev_bipush (p' := 197) (v := -5) i_193_195 rfl (by decide) ?_
      exact ev_iretI i_193_197 rfl (ER.mk (by unfold TUj; rw [if_pos y1, if_pos (by rw [← y2]; exact (nI_ltI (by omega) hj).mp c183)]) hRf)
    · have hjn : j ≤ wln s x0 y0 := by have := Nat.le_of_not_lt (fun z => c183 (nI_lt (a := wln s x0 y0) (b := j) z hj)); omega
      refine ev_aload_n (p' := 187) i_193_186 rfl rfl ?_
      refine ev_getr (p' := 190) i_193_187 rfl fl_12_70 rfl is_285 (rf_285_30 hw) ?_
      refine ev_iload_n (p' := 191) i_193_190 rfl rfl ?_
      refine ev_ialdN (p' := 192) i_193_191 rfl is_306 len_306 (by omega) (by decide) ?_
      rw [q4 j hjn, y3 j (by omega)]
      refine ev_goto (tg := 197) i_193_192 rfl ?_
      exact ev_iretI i_193_197 rfl (ER.mk (by unfold TUj; rw [if_pos y1, if_neg (by omega)]) hRf)
def CTS (π : Nat → Nat → Nat) (mi : Nat → Nat → Int32) (ml : Nat → Nat → Int64) (A : AV) (i : Nat) : Prop := CR π mi ml A ∧ ∀ o, o < i → mi 7 o = SF A o
theorem CTS.hn {π : Nat → Nat → Nat} {mi : Nat → Nat → Int32} {ml : Nat → Nat → Int64} {A : AV} {i : Nat} (h : CTS π mi ml A i) : mi 33 5 = nI A.1.1.1 := h.1.hn
theorem CTS.step {π : Nat → Nat → Nat} {mi : Nat → Nat → Int32} {ml : Nat → Nat → Int64} {mr : Nat → Nat → Option Nat} {A : AV} {i : Nat} (hw : WR π mr) (h : CTS π mi ml A i) : CTS π (pm_u (hm mi 33 (nI i) 0 A.1.1.1) 7 i (VS A.1.1 (nI i) 0)) ml A (i + 1) := by
  refine ⟨(h.1.hm hw pg_33 (o := nI i) (h := 0) (n := A.1.1.1)).scr hw (fun a ha => pm_u_ne (by omega)), fun o ho => ?_⟩
  by_cases hh : o = i
  · subst hh
    exact pm_u_self
  · rw [pm_u_oth hh, hm_ne (by decide)]
    exact h.2 o (by omega)
theorem l_tsh {L : Nat} {π : Nat → Nat → Nat} {ml : Nat → Nat → Int64} {mr : Nat → Nat → Option Nat} {d : Nat} {E : Option Value → pm_M → Prop} (hw : WR π mr) {A : AV} (hA : okA A) {W iv : Int32} {s : Nat} (hE : ∀ mi, CTS π mi ml A 13 → Ev gC (pm_ev gC (d + 7)) E q_87 68 [some (.ref 1), some (.int W), some (.int iv), some (.int (nI s)), some (.int (nI 13))] [] (WW L, mi, ml, mr)) : ∀ (k i : Nat) (mi : Nat → Nat → Int32), i + k = 13 → CTS π mi ml A i → Ev gC (pm_ev gC (d + 7)) E q_87 32 [some (.ref 1), some (.int W), some (.int iv), some (.int (nI s)), some (.int (nI i))] [] (WW L, mi, ml, mr) := by
  intro k
  induction k with
  | zero =>
    intro i mi hi hc
    have hi : i = 13 := by omega
    subst hi
    have h7 := hA.n7
    have hn := hc.hn
    refine ev_iload (p' := 34) i_87_32 rfl rfl ?_
    refine ev_bipush (p' := 36) (v := 12) i_87_34 rfl (by decide) ?_
    refine ev_icmp_gt (p' := 39) (tg := 68) i_87_36 rfl rfl (fun c36 => ?_) (fun c36 => absurd (by decide) c36)
    exact hE _ hc
  | succ k ih =>
    intro i mi hi hc
    have h7 := hA.n7
    have hn := hc.hn
    refine ev_iload (p' := 34) i_87_32 rfl rfl ?_
    refine ev_bipush (p' := 36) (v := 12) i_87_34 rfl (by decide) ?_
    refine ev_icmp_gt (p' := 39) (tg := 68) i_87_36 rfl rfl (fun c36 => absurd c36 (Int32.not_lt.mpr (nI_le (b := 12) (by omega) (by decide)))) (fun c36 => ?_)
    refine ev_aload_n (p' := 40) i_87_39 rfl rfl ?_
    refine ev_getr (p' := 43) i_87_40 rfl fl_11_29 rfl is_1 (rf_1_5 hw) ?_
    refine ev_getr (p' := 46) i_87_43 rfl fl_11_242 rfl is_6 (rf_6_0 hw) ?_
    refine ev_iload (p' := 48) i_87_46 rfl rfl ?_
    refine ev_aload_n (p' := 49) i_87_48 rfl rfl ?_
    refine ev_getr (p' := 52) i_87_49 rfl fl_11_78 rfl is_1 (rf_1_0 hw) ?_
    refine ev_getr (p' := 55) i_87_52 rfl fl_11_97 rfl (is_sp sp_17) (hw.page sp_17) ?_
    refine ev_iload (p' := 57) i_87_55 rfl rfl ?_
    refine ev_iconst (p' := 58) (v := 0) i_87_57 rfl (by decide) ?_
    refine ev_v2I (p' := 61) i_87_58 rfl cl_11_154_2 (by decide) (is_pg pg_33) (Nat.le_of_ble_eq_true rfl) (v_vis _ hw pg_33 hc.1.pg hA.1.1 _ _) ?_
    refine ev_iastN (p' := 62) i_87_61 rfl is_7 len_7 (by omega) (by decide) (gc (by decide)) ?_
    refine ev_iinc (p' := 65) (ls' := [_, _, _, _, _]) i_87_62 rfl rfl rfl (by decide) (nI_inc _) rfl ?_
    refine ev_goto (tg := 32) i_87_65 rfl ?_
    exact ih (i + 1) _ (by omega) (hc.step hw)
theorem C_tour_m (L d : Nat) (A : AV) (hA : okA A) {W : Int32} (hW : 0 ≤ W ∧ W ≤ 1 <<< (nI A.1.1.1 &&& 31) - 1) {s : Nat} (hs : s < 13) (eo : A.1.1.2.2.1 = nI s) : Cst L (d + 24) 87 [.int W, .int (-1)] A (.int (TUm A W s)) (A) := by
  refine C_of (q := q_87) rfl (Nat.le_of_ble_eq_true rfl) rfl (fun π mi ml mr hw hc => ?_)
  have hn := hc.hn
  have h7 := hA.n7
  refine ev_aload_n (p' := 1) i_87_0 rfl rfl ?_
  refine ev_iload_n (p' := 2) i_87_1 rfl rfl ?_
  refine ev_v1I (p' := 5) i_87_2 rfl cl_11_236_11 (by decide) is_1 (Nat.le_of_ble_eq_true rfl) (s_noPieces _ hw hn _) ?_
  refine ev_if_ne (p' := 8) (tg := 13) i_87_5 rfl rfl (fun c5 => absurd c5 (fun z => z (B_f (nj hW)))) (fun c5 => ?_)
  refine ev_iload_n (p' := 9) i_87_8 rfl rfl ?_
  refine ev_iconst (p' := 10) (v := -1) i_87_9 rfl (by decide) ?_
  refine ev_icmp_ge (p' := 13) (tg := 18) i_87_10 rfl rfl (fun c10 => ?_) (fun c10 => absurd ((by decide)) c10)
  refine ev_aload_n (p' := 19) i_87_18 rfl rfl ?_
  refine ev_getr (p' := 22) i_87_19 rfl fl_11_78 rfl is_1 (rf_1_0 hw) ?_
  refine ev_getr (p' := 25) i_87_22 rfl fl_11_97 rfl (is_sp sp_17) (hw.page sp_17) ?_
  refine ev_geti (p' := 28) i_87_25 rfl fl_11_142 rfl (is_pg pg_33) ?_
  rw [hc.pg.2.2.2.1, eo]
  refine ev_istore_n (p' := 29) (ls' := [_, _, _, _, _]) i_87_28 rfl rfl (by decide) rfl ?_
  refine ev_iconst (p' := 30) (v := nI 0) i_87_29 rfl (by decide) ?_
  refine ev_istore (p' := 32) (ls' := [_, _, _, _, _]) i_87_30 rfl rfl (by decide) rfl ?_
  refine l_tsh (d := d + 16) hw hA (fun mi1 hS => ?_) 13 0 mi (by decide) ⟨hc, fun o ho => absurd ho (Nat.not_lt_zero o)⟩
  refine ev_aload_n (p' := 69) i_87_68 rfl rfl ?_
  refine ev_getr (p' := 72) i_87_69 rfl fl_11_29 rfl is_1 (rf_1_5 hw) ?_
  refine ev_iload_n (p' := 73) i_87_72 rfl rfl ?_
  refine ev_puti (p' := 76) i_87_73 rfl fl_11_245 rfl is_6 (gc (by decide)) rfl ?_
  have hT : TW (pm_u mi1 6 1 W) W (SF A) := ⟨pm_u_self, fun o ho => by rw [pm_u_ne (by decide)]; exact hS.2 o ho⟩
  have h1 : CR π (pm_u mi1 6 1 W) ml A := hS.1.scr hw (fun a ha => pm_u_ne (by omega))
  have hm := @SL_1000 (cvr W (SF A)) s s s
  refine ev_aload_n (p' := 77) i_87_76 rfl rfl ?_
  refine ev_getr (p' := 80) i_87_77 rfl fl_11_29 rfl is_1 (rf_1_5 hw) ?_
  refine ev_iconst (p' := 81) (v := nI 0) i_87_80 rfl (by decide) ?_
  refine ev_bipush (p' := 83) (v := nI 12) i_87_81 rfl (by decide) ?_
  refine ev_v2I (p' := 86) i_87_83 rfl cl_11_248_9 (by decide) is_6 (Nat.le_of_ble_eq_true rfl) (s_cov _ hw hT (Nat.zero_le 12) (Nat.le_refl 12)) ?_
  refine ev_if_ne (p' := 89) (tg := 91) i_87_86 rfl rfl (fun c86 => ?_) (fun c86 => ?_)
  · replace c86 := B1 c86
    refine ev_aload_n (p' := 92) i_87_91 rfl rfl ?_
    refine ev_getr (p' := 95) i_87_92 rfl fl_11_29 rfl is_1 (rf_1_5 hw) ?_
    refine ev_iload_n (p' := 96) i_87_95 rfl rfl ?_
    refine ev_iload_n (p' := 97) i_87_96 rfl rfl ?_
    refine ev_iload_n (p' := 98) i_87_97 rfl rfl ?_
    refine ev_v3I (p' := 101) i_87_98 rfl cl_11_251_9 (by decide) is_6 (Nat.le_of_ble_eq_true rfl) (s_sl _ hw hT (Nat.le_refl s) (Nat.le_refl s) (by omega)) ?_
    refine ev_istore (p' := 103) (ls' := [_, _, _, _, _]) i_87_101 rfl rfl (by decide) rfl ?_
    refine ev_iload_n (p' := 104) i_87_103 rfl rfl ?_
    refine ev_iload (p' := 106) i_87_104 rfl rfl ?_
    refine ev_icmp_le (p' := 109) (tg := 112) i_87_106 rfl rfl (fun c106 => ?_) (fun c106 => absurd (Int32.le_trans (by decide : (-1 : Int32) ≤ 0) (nI_pos' (by omega))) c106)
    refine ev_iload_n (p' := 113) i_87_112 rfl rfl ?_
    refine ev_iconst (p' := 114) (v := -1) i_87_113 rfl (by decide) ?_
    refine ev_icmp_ne (p' := 117) (tg := 122) i_87_114 rfl rfl (fun c114 => absurd c114 (fun z => z rfl)) (fun c114 => ?_)
    refine ev_iload (p' := 119) i_87_117 rfl rfl ?_
    refine ev_goto (tg := 131) i_87_119 rfl ?_
    exact ev_iretI i_87_131 rfl (EC.mk (by unfold TUm; rw [if_pos c86]) hw h1)
  · replace c86 := B0n c86
    refine ev_iconst (p' := 90) (v := -1) i_87_89 rfl (by decide) ?_
    exact ev_iretI i_87_90 rfl (EC.mk (by unfold TUm; rw [if_neg c86]) hw h1)
theorem C_tour_j (L d : Nat) (A : AV) (hA : okA A) {W : Int32} (hW : 0 ≤ W ∧ W ≤ 1 <<< (nI A.1.1.1 &&& 31) - 1) {s : Nat} (hs : s < 13) (eo : A.1.1.2.2.1 = nI s) {j : Nat} (hj : j < 2 ^ 31) : Cst L (d + 24) 87 [.int W, .int (nI j)] A (.int (TUj A W s j)) (A) := by
  refine C_of (q := q_87) rfl (Nat.le_of_ble_eq_true rfl) rfl (fun π mi ml mr hw hc => ?_)
  have hn := hc.hn
  have h7 := hA.n7
  refine ev_aload_n (p' := 1) i_87_0 rfl rfl ?_
  refine ev_iload_n (p' := 2) i_87_1 rfl rfl ?_
  refine ev_v1I (p' := 5) i_87_2 rfl cl_11_236_11 (by decide) is_1 (Nat.le_of_ble_eq_true rfl) (s_noPieces _ hw hn _) ?_
  refine ev_if_ne (p' := 8) (tg := 13) i_87_5 rfl rfl (fun c5 => absurd c5 (fun z => z (B_f (nj hW)))) (fun c5 => ?_)
  refine ev_iload_n (p' := 9) i_87_8 rfl rfl ?_
  refine ev_iconst (p' := 10) (v := -1) i_87_9 rfl (by decide) ?_
  refine ev_icmp_ge (p' := 13) (tg := 18) i_87_10 rfl rfl (fun c10 => ?_) (fun c10 => absurd ((Int32.le_trans (by decide : (-1 : Int32) ≤ 0) (nI_pos' hj))) c10)
  refine ev_aload_n (p' := 19) i_87_18 rfl rfl ?_
  refine ev_getr (p' := 22) i_87_19 rfl fl_11_78 rfl is_1 (rf_1_0 hw) ?_
  refine ev_getr (p' := 25) i_87_22 rfl fl_11_97 rfl (is_sp sp_17) (hw.page sp_17) ?_
  refine ev_geti (p' := 28) i_87_25 rfl fl_11_142 rfl (is_pg pg_33) ?_
  rw [hc.pg.2.2.2.1, eo]
  refine ev_istore_n (p' := 29) (ls' := [_, _, _, _, _]) i_87_28 rfl rfl (by decide) rfl ?_
  refine ev_iconst (p' := 30) (v := nI 0) i_87_29 rfl (by decide) ?_
  refine ev_istore (p' := 32) (ls' := [_, _, _, _, _]) i_87_30 rfl rfl (by decide) rfl ?_
  refine l_tsh (d := d + 16) hw hA (fun mi1 hS => ?_) 13 0 mi (by decide) ⟨hc, fun o ho => absurd ho (Nat.not_lt_zero o)⟩
  refine ev_aload_n (p' := 69) i_87_68 rfl rfl ?_
  refine ev_getr (p' := 72) i_87_69 rfl fl_11_29 rfl is_1 (rf_1_5 hw) ?_
  refine ev_iload_n (p' := 73) i_87_72 rfl rfl ?_
  refine ev_puti (p' := 76) i_87_73 rfl fl_11_245 rfl is_6 (gc (by decide)) rfl ?_
  have hT : TW (pm_u mi1 6 1 W) W (SF A) := ⟨pm_u_self, fun o ho => by rw [pm_u_ne (by decide)]; exact hS.2 o ho⟩
  have h1 : CR π (pm_u mi1 6 1 W) ml A := hS.1.scr hw (fun a ha => pm_u_ne (by omega))
  have hm := @SL_1000 (cvr W (SF A)) s s s
  refine ev_aload_n (p' := 77) i_87_76 rfl rfl ?_
  refine ev_getr (p' := 80) i_87_77 rfl fl_11_29 rfl is_1 (rf_1_5 hw) ?_
  refine ev_iconst (p' := 81) (v := nI 0) i_87_80 rfl (by decide) ?_
  refine ev_bipush (p' := 83) (v := nI 12) i_87_81 rfl (by decide) ?_
  refine ev_v2I (p' := 86) i_87_83 rfl cl_11_248_9 (by decide) is_6 (Nat.le_of_ble_eq_true rfl) (s_cov _ hw hT (Nat.zero_le 12) (Nat.le_refl 12)) ?_
  refine ev_if_ne (p' := 89) (tg := 91) i_87_86 rfl rfl (fun c86 => ?_) (fun c86 => ?_)
  · replace c86 := B1 c86
    refine ev_aload_n (p' := 92) i_87_91 rfl rfl ?_
    refine ev_getr (p' := 95) i_87_92 rfl fl_11_29 rfl is_1 (rf_1_5 hw) ?_
    refine ev_iload_n (p' := 96) i_87_95 rfl rfl ?_
    refine ev_iload_n (p' := 97) i_87_96 rfl rfl ?_
    refine ev_iload_n (p' := 98) i_87_97 rfl rfl ?_
    refine ev_v3I (p' := 101) i_87_98 rfl cl_11_251_9 (by decide) is_6 (Nat.le_of_ble_eq_true rfl) (s_sl _ hw hT (Nat.le_refl s) (Nat.le_refl s) (by omega)) ?_
    refine ev_istore (p' := 103) (ls' := [_, _, _, _, _]) i_87_101 rfl rfl (by decide) rfl ?_
    refine ev_iload_n (p' := 104) i_87_103 rfl rfl ?_
    refine ev_iload (p' := 106) i_87_104 rfl rfl ?_
    refine ev_icmp_le (p' := 109) (tg := 112) i_87_106 rfl rfl (fun c106 => ?_) (fun c106 => ?_)
    · refine ev_iload_n (p' := 113) i_87_112 rfl rfl ?_
      refine ev_iconst (p' := 114) (v := -1) i_87_113 rfl (by decide) ?_
      refine ev_icmp_ne (p' := 117) (tg := 122) i_87_114 rfl rfl (fun c114 => ?_) (fun c114 => absurd (ne_m1 hj) c114)
      have hjm : j ≤ SLf (cvr W (SF A)) s s s := (nI_leI hj (by omega)).mp c106
      refine ev_aload_n (p' := 123) i_87_122 rfl rfl ?_
      refine ev_getr (p' := 126) i_87_123 rfl fl_11_29 rfl is_1 (rf_1_5 hw) ?_
      refine ev_iload_n (p' := 127) i_87_126 rfl rfl ?_
      refine ev_iload_n (p' := 128) i_87_127 rfl rfl ?_
      refine ev_v2I (p' := 131) i_87_128 rfl cl_11_255_9 (by decide) is_6 (Nat.le_of_ble_eq_true rfl) (s_oa _ hw hT (by omega) c86 hjm) ?_
      exact ev_iretI i_87_131 rfl (EC.mk (by unfold TUj; rw [if_pos c86, if_neg (by omega)]) hw h1)
    · refine ev_bipush (p' := 111) (v := -5) i_87_109 rfl (by decide) ?_
      exact ev_iretI i_87_111 rfl (EC.mk (by unfold TUj; rw [if_pos c86, if_pos (by have := Nat.lt_of_not_le (fun z => c106 (nI_le (a := j) (b := SLf (cvr W (SF A)) s s s) z (by omega))); omega)]) hw h1)
  · replace c86 := B0n c86
    refine ev_iconst (p' := 90) (v := -1) i_87_89 rfl (by decide) ?_
    exact ev_iretI i_87_90 rfl (EC.mk (by unfold TUj; rw [if_neg c86]) hw h1)
theorem Q_tour (L : Nat) (A : AV) (hA : okA A) (y x : Int32) : SameI L 87 193 [.int y, .int x] A := by
  by_cases h : (0 ≤ y ∧ y ≤ 1 <<< (nI A.1.1.1 &&& 31) - 1) ∧ -1 ≤ x
  · obtain ⟨s, hs, eo⟩ := hA.1.1.2.2.1
    by_cases hx : x = -1
    · subst hx
      exact ⟨_, A, hA, fun d => C_tour_m L d A hA h.1 hs eo, fun d => R_tour_m L d A hA h.1 hs eo⟩
    · have h0 : ¬ x < 0 := fun z => hx (by
        have z1 := h.2
        rw [Int32.le_iff_toInt_le] at z1
        rw [Int32.lt_iff_toInt_lt] at z
        apply Int32.toInt_inj.mp
        have e1 : (-1 : Int32).toInt = -1 := by decide
        have e2 : (0 : Int32).toInt = 0 := by decide
        omega)
      obtain ⟨j, hj, rfl⟩ := nI_of h0
      exact ⟨_, A, hA, fun d => C_tour_j L d A hA h.1 hs eo hj, fun d => R_tour_j L d A hA h.1 hs eo hj⟩
  · exact ⟨_, badA A, hA.bad, fun d => C_tour_bad L d A hA y x h, fun d => R_tour_bad L d A hA y x h⟩
