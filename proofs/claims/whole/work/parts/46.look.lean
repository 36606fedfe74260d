/-! ===== is, look ===== -/
/-- do the first n notes on y fit kind k -/
abbrev FI (s : Nat → Nat → Int32) (y : Int32) (k n : Nat) : Prop := ∀ m, m < n → s m 0 = y → rsN k (s m 1) (s m 2) (s m 3) = s m 4
noncomputable def FS (A : AV) (y : Int32) : Int32 := bset (fun k => FI A.1.2.2.1.2 y k A.1.2.2.1.1) 6
theorem note_eq {A : AV} (hA : okA A) {i k : Nat} (hi : i < A.1.2.2.1.1) (hk : k < 6) : mrN k (A.1.2.2.1.2 i 1) (A.1.2.2.1.2 i 2) (A.1.2.2.1.2 i 3) = rsN k (A.1.2.2.1.2 i 1) (A.1.2.2.1.2 i 2) (A.1.2.2.1.2 i 3) := by
  obtain ⟨-, ⟨t, -, h1, e1⟩, ⟨o, h2, e2⟩, ⟨p, h3, e3⟩, -⟩ := hA.1.2.2.1.2 i hi
  rw [e1, e2, e3]
  exact mrN_eq k hk t h1 o h2 p h3
theorem nI5 (i : Nat) : nI (5 * i) + Int32.ofInt 5 = nI (5 * (i + 1)) := (nI_add (5 * i) 5).trans (by rw [Nat.mul_succ])
theorem e_rise118 {L : Nat} {π : Nat → Nat → Nat} {mi : Nat → Nat → Int32} {ml : Nat → Nat → Int64} {mr : Nat → Nat → Option Nat} {d : Nat} {E : Option Value → pm_M → Prop} (hw : WR π mr) {n : Nat} (hn6 : n < 6) {x1 x2 x3 : Option Value} {k : Nat} (hk6 : k < 6) (kk : Ev gC (pm_ev gC (d + 3)) E q_118 59 [some (.ref 1), x1, x2, x3, some (.ref (17 + 3 + n))] [.int (rsN k (mi (17 + 3 + n) 1) (mi (17 + 3 + n) 2) (mi (17 + 3 + n) 3))] (WW L, mi, ml, mr)) : Ev gC (pm_ev gC (d + 3)) E q_118 43 [some (.ref 1), x1, x2, x3, some (.ref (17 + 3 + n))] [.int (nI k), .ref 10] (WW L, mi, ml, mr) := by
  match k, hk6 with
  | 0, _ =>
    refine ev_aaldN (p' := 44) 26 i_118_43 rfl is_10 (by decide) len_10 (by decide) (by decide) (rf_10_0 hw) ?_
    refine ev_aload (p' := 46) i_118_44 rfl rfl ?_
    refine ev_iconst (p' := 47) (v := nI 1) i_118_46 rfl (by decide) ?_
    refine ev_ialdN (p' := 48) i_118_47 rfl (is_ntr sp_17 (show n < 6 by omega)) (len_ntr sp_17 (show n < 6 by omega)) (by omega) (by decide) ?_
    refine ev_aload (p' := 50) i_118_48 rfl rfl ?_
    refine ev_iconst (p' := 51) (v := nI 2) i_118_50 rfl (by decide) ?_
    refine ev_ialdN (p' := 52) i_118_51 rfl (is_ntr sp_17 (show n < 6 by omega)) (len_ntr sp_17 (show n < 6 by omega)) (by omega) (by decide) ?_
    refine ev_aload (p' := 54) i_118_52 rfl rfl ?_
    refine ev_iconst (p' := 55) (v := nI 3) i_118_54 rfl (by decide) ?_
    refine ev_ialdN (p' := 56) i_118_55 rfl (is_ntr sp_17 (show n < 6 by omega)) (len_ntr sp_17 (show n < 6 by omega)) (by omega) (by decide) ?_
    refine ev_v3I (p' := 59) i_118_56 rfl cl_11_352_8 (by decide) is_11 (Nat.le_of_ble_eq_true rfl) (s_vee_8 _ _ _ _ is_11) ?_
    exact kk
  | 1, _ =>
    refine ev_aaldN (p' := 44) 26 i_118_43 rfl is_10 (by decide) len_10 (by decide) (by decide) (rf_10_1 hw) ?_
    refine ev_aload (p' := 46) i_118_44 rfl rfl ?_
    refine ev_iconst (p' := 47) (v := nI 1) i_118_46 rfl (by decide) ?_
    refine ev_ialdN (p' := 48) i_118_47 rfl (is_ntr sp_17 (show n < 6 by omega)) (len_ntr sp_17 (show n < 6 by omega)) (by omega) (by decide) ?_
    refine ev_aload (p' := 50) i_118_48 rfl rfl ?_
    refine ev_iconst (p' := 51) (v := nI 2) i_118_50 rfl (by decide) ?_
    refine ev_ialdN (p' := 52) i_118_51 rfl (is_ntr sp_17 (show n < 6 by omega)) (len_ntr sp_17 (show n < 6 by omega)) (by omega) (by decide) ?_
    refine ev_aload (p' := 54) i_118_52 rfl rfl ?_
    refine ev_iconst (p' := 55) (v := nI 3) i_118_54 rfl (by decide) ?_
    refine ev_ialdN (p' := 56) i_118_55 rfl (is_ntr sp_17 (show n < 6 by omega)) (len_ntr sp_17 (show n < 6 by omega)) (by omega) (by decide) ?_
    refine ev_v3I (p' := 59) i_118_56 rfl cl_11_352_6 (by decide) is_12 (Nat.le_of_ble_eq_true rfl) (s_tent_6 _ _ _ _ is_12) ?_
    exact kk
  | 2, _ =>
    refine ev_aaldN (p' := 44) 26 i_118_43 rfl is_10 (by decide) len_10 (by decide) (by decide) (rf_10_2 hw) ?_
    refine ev_aload (p' := 46) i_118_44 rfl rfl ?_
    refine ev_iconst (p' := 47) (v := nI 1) i_118_46 rfl (by decide) ?_
    refine ev_ialdN (p' := 48) i_118_47 rfl (is_ntr sp_17 (show n < 6 by omega)) (len_ntr sp_17 (show n < 6 by omega)) (by omega) (by decide) ?_
    refine ev_aload (p' := 50) i_118_48 rfl rfl ?_
    refine ev_iconst (p' := 51) (v := nI 2) i_118_50 rfl (by decide) ?_
    refine ev_ialdN (p' := 52) i_118_51 rfl (is_ntr sp_17 (show n < 6 by omega)) (len_ntr sp_17 (show n < 6 by omega)) (by omega) (by decide) ?_
    refine ev_aload (p' := 54) i_118_52 rfl rfl ?_
    refine ev_iconst (p' := 55) (v := nI 3) i_118_54 rfl (by decide) ?_
    refine ev_ialdN (p' := 56) i_118_55 rfl (is_ntr sp_17 (show n < 6 by omega)) (len_ntr sp_17 (show n < 6 by omega)) (by omega) (by decide) ?_
    refine ev_v3I (p' := 59) i_118_56 rfl cl_11_352_0 (by decide) is_13 (Nat.le_of_ble_eq_true rfl) (s_box_0 _ _ _ _ is_13) ?_
    exact kk
  | 3, _ =>
    refine ev_aaldN (p' := 44) 26 i_118_43 rfl is_10 (by decide) len_10 (by decide) (by decide) (rf_10_3 hw) ?_
    refine ev_aload (p' := 46) i_118_44 rfl rfl ?_
    refine ev_iconst (p' := 47) (v := nI 1) i_118_46 rfl (by decide) ?_
    refine ev_ialdN (p' := 48) i_118_47 rfl (is_ntr sp_17 (show n < 6 by omega)) (len_ntr sp_17 (show n < 6 by omega)) (by omega) (by decide) ?_
    refine ev_aload (p' := 50) i_118_48 rfl rfl ?_
    refine ev_iconst (p' := 51) (v := nI 2) i_118_50 rfl (by decide) ?_
    refine ev_ialdN (p' := 52) i_118_51 rfl (is_ntr sp_17 (show n < 6 by omega)) (len_ntr sp_17 (show n < 6 by omega)) (by omega) (by decide) ?_
    refine ev_aload (p' := 54) i_118_52 rfl rfl ?_
    refine ev_iconst (p' := 55) (v := nI 3) i_118_54 rfl (by decide) ?_
    refine ev_ialdN (p' := 56) i_118_55 rfl (is_ntr sp_17 (show n < 6 by omega)) (len_ntr sp_17 (show n < 6 by omega)) (by omega) (by decide) ?_
    refine ev_v3I (p' := 59) i_118_56 rfl cl_11_352_1 (by decide) is_14 (Nat.le_of_ble_eq_true rfl) (s_flap_1 _ _ _ _ is_14) ?_
    exact kk
  | 4, _ =>
    refine ev_aaldN (p' := 44) 26 i_118_43 rfl is_10 (by decide) len_10 (by decide) (by decide) (rf_10_4 hw) ?_
    refine ev_aload (p' := 46) i_118_44 rfl rfl ?_
    refine ev_iconst (p' := 47) (v := nI 1) i_118_46 rfl (by decide) ?_
    refine ev_ialdN (p' := 48) i_118_47 rfl (is_ntr sp_17 (show n < 6 by omega)) (len_ntr sp_17 (show n < 6 by omega)) (by omega) (by decide) ?_
    refine ev_aload (p' := 50) i_118_48 rfl rfl ?_
    refine ev_iconst (p' := 51) (v := nI 2) i_118_50 rfl (by decide) ?_
    refine ev_ialdN (p' := 52) i_118_51 rfl (is_ntr sp_17 (show n < 6 by omega)) (len_ntr sp_17 (show n < 6 by omega)) (by omega) (by decide) ?_
    refine ev_aload (p' := 54) i_118_52 rfl rfl ?_
    refine ev_iconst (p' := 55) (v := nI 3) i_118_54 rfl (by decide) ?_
    refine ev_ialdN (p' := 56) i_118_55 rfl (is_ntr sp_17 (show n < 6 by omega)) (len_ntr sp_17 (show n < 6 by omega)) (by omega) (by decide) ?_
    refine ev_v3I (p' := 59) i_118_56 rfl cl_11_352_5 (by decide) is_15 (Nat.le_of_ble_eq_true rfl) (s_stage_5 _ _ _ _ is_15) ?_
    exact kk
  | 5, _ =>
    refine ev_aaldN (p' := 44) 26 i_118_43 rfl is_10 (by decide) len_10 (by decide) (by decide) (rf_10_5 hw) ?_
    refine ev_aload (p' := 46) i_118_44 rfl rfl ?_
    refine ev_iconst (p' := 47) (v := nI 1) i_118_46 rfl (by decide) ?_
    refine ev_ialdN (p' := 48) i_118_47 rfl (is_ntr sp_17 (show n < 6 by omega)) (len_ntr sp_17 (show n < 6 by omega)) (by omega) (by decide) ?_
    refine ev_aload (p' := 50) i_118_48 rfl rfl ?_
    refine ev_iconst (p' := 51) (v := nI 2) i_118_50 rfl (by decide) ?_
    refine ev_ialdN (p' := 52) i_118_51 rfl (is_ntr sp_17 (show n < 6 by omega)) (len_ntr sp_17 (show n < 6 by omega)) (by omega) (by decide) ?_
    refine ev_aload (p' := 54) i_118_52 rfl rfl ?_
    refine ev_iconst (p' := 55) (v := nI 3) i_118_54 rfl (by decide) ?_
    refine ev_ialdN (p' := 56) i_118_55 rfl (is_ntr sp_17 (show n < 6 by omega)) (len_ntr sp_17 (show n < 6 by omega)) (by omega) (by decide) ?_
    refine ev_v3I (p' := 59) i_118_56 rfl cl_11_352_10 (by decide) is_16 (Nat.le_of_ble_eq_true rfl) (s_wheel_10 _ _ _ _ is_16) ?_
    exact kk
  | k + 6, h => exact absurd h (by omega)
theorem e_rise119 {L : Nat} {π : Nat → Nat → Nat} {mi : Nat → Nat → Int32} {ml : Nat → Nat → Int64} {mr : Nat → Nat → Option Nat} {d : Nat} {E : Option Value → pm_M → Prop} (hw : WR π mr) {x1 x5 x6 x7 : Option Value} {t o p : Int32} {k : Nat} (hk6 : k < 6) (kk : Ev gC (pm_ev gC (d + 3)) E q_119 42 [some (.ref 1), x1, some (.int t), some (.int o), some (.int p), x5, x6, x7] [.int (rsN k t o p)] (WW L, mi, ml, mr)) : Ev gC (pm_ev gC (d + 3)) E q_119 34 [some (.ref 1), x1, some (.int t), some (.int o), some (.int p), x5, x6, x7] [.int (nI k), .ref 10] (WW L, mi, ml, mr) := by
  match k, hk6 with
  | 0, _ =>
    refine ev_aaldN (p' := 35) 26 i_119_34 rfl is_10 (by decide) len_10 (by decide) (by decide) (rf_10_0 hw) ?_
    refine ev_iload_n (p' := 36) i_119_35 rfl rfl ?_
    refine ev_iload_n (p' := 37) i_119_36 rfl rfl ?_
    refine ev_iload (p' := 39) i_119_37 rfl rfl ?_
    refine ev_v3I (p' := 42) i_119_39 rfl cl_11_352_8 (by decide) is_11 (Nat.le_of_ble_eq_true rfl) (s_vee_8 _ _ _ _ is_11) ?_
    exact kk
  | 1, _ =>
    refine ev_aaldN (p' := 35) 26 i_119_34 rfl is_10 (by decide) len_10 (by decide) (by decide) (rf_10_1 hw) ?_
    refine ev_iload_n (p' := 36) i_119_35 rfl rfl ?_
    refine ev_iload_n (p' := 37) i_119_36 rfl rfl ?_
    refine ev_iload (p' := 39) i_119_37 rfl rfl ?_
    refine ev_v3I (p' := 42) i_119_39 rfl cl_11_352_6 (by decide) is_12 (Nat.le_of_ble_eq_true rfl) (s_tent_6 _ _ _ _ is_12) ?_
    exact kk
  | 2, _ =>
    refine ev_aaldN (p' := 35) 26 i_119_34 rfl is_10 (by decide) len_10 (by decide) (by decide) (rf_10_2 hw) ?_
    refine ev_iload_n (p' := 36) i_119_35 rfl rfl ?_
    refine ev_iload_n (p' := 37) i_119_36 rfl rfl ?_
    refine ev_iload (p' := 39) i_119_37 rfl rfl ?_
    refine ev_v3I (p' := 42) i_119_39 rfl cl_11_352_0 (by decide) is_13 (Nat.le_of_ble_eq_true rfl) (s_box_0 _ _ _ _ is_13) ?_
    exact kk
  | 3, _ =>
    refine ev_aaldN (p' := 35) 26 i_119_34 rfl is_10 (by decide) len_10 (by decide) (by decide) (rf_10_3 hw) ?_
    refine ev_iload_n (p' := 36) i_119_35 rfl rfl ?_
    refine ev_iload_n (p' := 37) i_119_36 rfl rfl ?_
    refine ev_iload (p' := 39) i_119_37 rfl rfl ?_
    refine ev_v3I (p' := 42) i_119_39 rfl cl_11_352_1 (by decide) is_14 (Nat.le_of_ble_eq_true rfl) (s_flap_1 _ _ _ _ is_14) ?_
    exact kk
  | 4, _ =>
    refine ev_aaldN (p' := 35) 26 i_119_34 rfl is_10 (by decide) len_10 (by decide) (by decide) (rf_10_4 hw) ?_
    refine ev_iload_n (p' := 36) i_119_35 rfl rfl ?_
    refine ev_iload_n (p' := 37) i_119_36 rfl rfl ?_
    refine ev_iload (p' := 39) i_119_37 rfl rfl ?_
    refine ev_v3I (p' := 42) i_119_39 rfl cl_11_352_5 (by decide) is_15 (Nat.le_of_ble_eq_true rfl) (s_stage_5 _ _ _ _ is_15) ?_
    exact kk
  | 5, _ =>
    refine ev_aaldN (p' := 35) 26 i_119_34 rfl is_10 (by decide) len_10 (by decide) (by decide) (rf_10_5 hw) ?_
    refine ev_iload_n (p' := 36) i_119_35 rfl rfl ?_
    refine ev_iload_n (p' := 37) i_119_36 rfl rfl ?_
    refine ev_iload (p' := 39) i_119_37 rfl rfl ?_
    refine ev_v3I (p' := 42) i_119_39 rfl cl_11_352_10 (by decide) is_16 (Nat.le_of_ble_eq_true rfl) (s_wheel_10 _ _ _ _ is_16) ?_
    exact kk
  | k + 6, h => exact absurd h (by omega)
theorem e_rise120 {L : Nat} {π : Nat → Nat → Nat} {mi : Nat → Nat → Int32} {ml : Nat → Nat → Int64} {mr : Nat → Nat → Option Nat} {d : Nat} {E : Option Value → pm_M → Prop} (hw : WR π mr) {x1 x2 x6 x7 : Option Value} {t o p : Int32} {k : Nat} (hk6 : k < 6) (kk : Ev gC (pm_ev gC (d + 3)) E q_120 43 [some (.ref 1), x1, x2, some (.int t), some (.int o), some (.int p), x6, x7] [.int (rsN k t o p)] (WW L, mi, ml, mr)) : Ev gC (pm_ev gC (d + 3)) E q_120 34 [some (.ref 1), x1, x2, some (.int t), some (.int o), some (.int p), x6, x7] [.int (nI k), .ref 10] (WW L, mi, ml, mr) := by
  match k, hk6 with
  | 0, _ =>
    refine ev_aaldN (p' := 35) 26 i_120_34 rfl is_10 (by decide) len_10 (by decide) (by decide) (rf_10_0 hw) ?_
    refine ev_iload_n (p' := 36) i_120_35 rfl rfl ?_
    refine ev_iload (p' := 38) i_120_36 rfl rfl ?_
    refine ev_iload (p' := 40) i_120_38 rfl rfl ?_
    refine ev_v3I (p' := 43) i_120_40 rfl cl_11_352_8 (by decide) is_11 (Nat.le_of_ble_eq_true rfl) (s_vee_8 _ _ _ _ is_11) ?_
    exact kk
  | 1, _ =>
    refine ev_aaldN (p' := 35) 26 i_120_34 rfl is_10 (by decide) len_10 (by decide) (by decide) (rf_10_1 hw) ?_
    refine ev_iload_n (p' := 36) i_120_35 rfl rfl ?_
    refine ev_iload (p' := 38) i_120_36 rfl rfl ?_
    refine ev_iload (p' := 40) i_120_38 rfl rfl ?_
    refine ev_v3I (p' := 43) i_120_40 rfl cl_11_352_6 (by decide) is_12 (Nat.le_of_ble_eq_true rfl) (s_tent_6 _ _ _ _ is_12) ?_
    exact kk
  | 2, _ =>
    refine ev_aaldN (p' := 35) 26 i_120_34 rfl is_10 (by decide) len_10 (by decide) (by decide) (rf_10_2 hw) ?_
    refine ev_iload_n (p' := 36) i_120_35 rfl rfl ?_
    refine ev_iload (p' := 38) i_120_36 rfl rfl ?_
    refine ev_iload (p' := 40) i_120_38 rfl rfl ?_
    refine ev_v3I (p' := 43) i_120_40 rfl cl_11_352_0 (by decide) is_13 (Nat.le_of_ble_eq_true rfl) (s_box_0 _ _ _ _ is_13) ?_
    exact kk
  | 3, _ =>
    refine ev_aaldN (p' := 35) 26 i_120_34 rfl is_10 (by decide) len_10 (by decide) (by decide) (rf_10_3 hw) ?_
    refine ev_iload_n (p' := 36) i_120_35 rfl rfl ?_
    refine ev_iload (p' := 38) i_120_36 rfl rfl ?_
    refine ev_iload (p' := 40) i_120_38 rfl rfl ?_
    refine ev_v3I (p' := 43) i_120_40 rfl cl_11_352_1 (by decide) is_14 (Nat.le_of_ble_eq_true rfl) (s_flap_1 _ _ _ _ is_14) ?_
    exact kk
  | 4, _ =>
    refine ev_aaldN (p' := 35) 26 i_120_34 rfl is_10 (by decide) len_10 (by decide) (by decide) (rf_10_4 hw) ?_
    refine ev_iload_n (p' := 36) i_120_35 rfl rfl ?_
    refine ev_iload (p' := 38) i_120_36 rfl rfl ?_
    refine ev_iload (p' := 40) i_120_38 rfl rfl ?_
    refine ev_v3I (p' := 43) i_120_40 rfl cl_11_352_5 (by decide) is_15 (Nat.le_of_ble_eq_true rfl) (s_stage_5 _ _ _ _ is_15) ?_
    exact kk
  | 5, _ =>
    refine ev_aaldN (p' := 35) 26 i_120_34 rfl is_10 (by decide) len_10 (by decide) (by decide) (rf_10_5 hw) ?_
    refine ev_iload_n (p' := 36) i_120_35 rfl rfl ?_
    refine ev_iload (p' := 38) i_120_36 rfl rfl ?_
    refine ev_iload (p' := 40) i_120_38 rfl rfl ?_
    refine ev_v3I (p' := 43) i_120_40 rfl cl_11_352_10 (by decide) is_16 (Nat.le_of_ble_eq_true rfl) (s_wheel_10 _ _ _ _ is_16) ?_
    exact kk
  | k + 6, h => exact absurd h (by omega)
theorem l_fits {L : Nat} {π : Nat → Nat → Nat} {ml : Nat → Nat → Int64} {mr : Nat → Nat → Option Nat} {d : Nat} {E : Option Value → pm_M → Prop} (hw : WR π mr) {A : AV} (hA : okA A) {k0 : Nat} (hk6 : k0 < 6) {y : Int32} (hE : ∀ mi, CR π mi ml A → E (some (.int (B (FI A.1.2.2.1.2 y k0 A.1.2.2.1.1)))) (WW L, mi, ml, mr)) : ∀ (k i : Nat) (mi : Nat → Nat → Int32) (x4 : Option Value), i + k = A.1.2.2.1.1 → CR π mi ml A → (FI A.1.2.2.1.2 y k0 i) → Ev gC (pm_ev gC (d + 3)) E q_118 2 [some (.ref 1), some (.int (nI k0)), some (.int y), some (.int (nI i)), x4] [] (WW L, mi, ml, mr) := by
  intro k
  induction k with
  | zero =>
    intro i mi x4 hi hc hx
    have hi : i = A.1.2.2.1.1 := by omega
    subst hi
    have h7 := hA.n7
    have hn := hc.hn
    refine ev_iload_n (p' := 3) i_118_2 rfl rfl ?_
    refine ev_aload_n (p' := 4) i_118_3 rfl rfl ?_
    refine ev_getr (p' := 7) i_118_4 rfl fl_11_78 rfl is_1 (rf_1_0 hw) ?_
    refine ev_geti (p' := 10) i_118_7 rfl fl_11_170 rfl (is_sp sp_17) ?_
    refine ev_icmp_ge (p' := 13) (tg := 74) i_118_10 rfl rfl (fun c10 => ?_) (fun c10 => absurd (by have h6 := hA.1.2.2.1.1; rw [hc.1.2.2.1.2.1]; exact nI_le (by omega) (by omega)) c10)
    refine ev_iconst (p' := 75) (v := 1) i_118_74 rfl (by decide) ?_
    exact ev_iret i_118_75 rfl rfl (by have z := hE _ hc; rw [B_t hx] at z; exact z)
  | succ k ih =>
    intro i mi x4 hi hc hx
    have h7 := hA.n7
    have hn := hc.hn
    have h6 := hA.1.2.2.1.1
    have hs := hc.1.2.2.1
    refine ev_iload_n (p' := 3) i_118_2 rfl rfl ?_
    refine ev_aload_n (p' := 4) i_118_3 rfl rfl ?_
    refine ev_getr (p' := 7) i_118_4 rfl fl_11_78 rfl is_1 (rf_1_0 hw) ?_
    refine ev_geti (p' := 10) i_118_7 rfl fl_11_170 rfl (is_sp sp_17) ?_
    refine ev_icmp_ge (p' := 13) (tg := 74) i_118_10 rfl rfl (fun c10 => absurd c10 (by rw [hs.2.1]; exact nI_ge (by omega) (by omega))) (fun c10 => ?_)
    refine ev_aload_n (p' := 14) i_118_13 rfl rfl ?_
    refine ev_getr (p' := 17) i_118_14 rfl fl_11_78 rfl is_1 (rf_1_0 hw) ?_
    refine ev_getr (p' := 20) i_118_17 rfl fl_11_265 rfl (is_sp sp_17) (hw.notes sp_17) ?_
    refine ev_iload_n (p' := 21) i_118_20 rfl rfl ?_
    refine ev_aaldN (p' := 22) 27 i_118_21 rfl (is_nt sp_17) (by decide) (len_nt sp_17) (by omega) (by decide) (hw.note sp_17 (by omega)) ?_
    refine ev_astore (p' := 24) (ls' := [_, _, _, _, _]) i_118_22 rfl rfl (by decide) rfl ?_
    refine ev_aload (p' := 26) i_118_24 rfl rfl ?_
    refine ev_iconst (p' := 27) (v := nI 0) i_118_26 rfl (by decide) ?_
    refine ev_ialdN (p' := 28) i_118_27 rfl (is_ntr sp_17 (by omega)) (len_ntr sp_17 (by omega)) (by omega) (by decide) ?_
    rw [hs.2.2 i (by omega) 0 (by decide)]
    refine ev_iload_n (p' := 29) i_118_28 rfl rfl ?_
    refine ev_icmp_ne (p' := 32) (tg := 68) i_118_29 rfl rfl (fun c29 => ?_) (fun c29 => ?_)
    · refine ev_iinc (p' := 71) (ls' := [_, _, _, _, _]) i_118_68 rfl rfl rfl (by decide) (nI_inc _) rfl ?_
      refine ev_goto (tg := 2) i_118_71 rfl ?_
      exact ih (i + 1) _ _ (by omega) hc (fun m hm => by
        rcases Nat.lt_succ_iff_lt_or_eq.mp hm with h | h
        · exact hx m h
        · subst h; exact fun z => absurd z c29)
    · refine ev_aload_n (p' := 33) i_118_32 rfl rfl ?_
      refine ev_getr (p' := 36) i_118_33 rfl fl_11_78 rfl is_1 (rf_1_0 hw) ?_
      refine ev_getr (p' := 39) i_118_36 rfl fl_11_97 rfl (is_sp sp_17) (hw.page sp_17) ?_
      refine ev_getr (p' := 42) i_118_39 rfl fl_11_348 rfl (is_pg pg_33) (hw.kinds pg_33) ?_
      refine ev_iload_n (p' := 43) i_118_42 rfl rfl ?_
      refine e_rise118 hw (by omega) hk6 ?_
      rw [hs.2.2 i (by omega) 1 (by decide), hs.2.2 i (by omega) 2 (by decide), hs.2.2 i (by omega) 3 (by decide)]
      refine ev_aload (p' := 61) i_118_59 rfl rfl ?_
      refine ev_iconst (p' := 62) (v := nI 4) i_118_61 rfl (by decide) ?_
      refine ev_ialdN (p' := 63) i_118_62 rfl (is_ntr sp_17 (by omega)) (len_ntr sp_17 (by omega)) (by omega) (by decide) ?_
      rw [hs.2.2 i (by omega) 4 (by decide)]
      refine ev_icmp_eq (p' := 66) (tg := 68) i_118_63 rfl rfl (fun c63 => ?_) (fun c63 => ?_)
      · refine ev_iinc (p' := 71) (ls' := [_, _, _, _, _]) i_118_68 rfl rfl rfl (by decide) (nI_inc _) rfl ?_
        refine ev_goto (tg := 2) i_118_71 rfl ?_
        exact ih (i + 1) _ _ (by omega) hc (fun m hm => by
          rcases Nat.lt_succ_iff_lt_or_eq.mp hm with h | h
          · exact hx m h
          · subst h; exact fun _ => c63)
      · refine ev_iconst (p' := 67) (v := 0) i_118_66 rfl (by decide) ?_
        exact ev_iret i_118_67 rfl rfl (by have z := hE _ hc; rw [B_f (fun y => c63 (y i (by omega) (Classical.not_not.mp c29)))] at z; exact z)
theorem s_fits {L : Nat} {π : Nat → Nat → Nat} {ml : Nat → Nat → Int64} {mr : Nat → Nat → Option Nat} {mi : Nat → Nat → Int32} (d : Nat) (hw : WR π mr) {A : AV} (hA : okA A) {k0 : Nat} (hk6 : k0 < 6) (y : Int32) (hc : CR π mi ml A) : ∃ mi', pm_ev gC (d + 4) 118 [.ref 1, .int (nI k0), .int y] (WW L, mi, ml, mr) (some (.int (B (FI A.1.2.2.1.2 y k0 A.1.2.2.1.1)))) (WW L, mi', ml, mr) ∧ CR π mi' ml A := by
  have h7 := hA.n7
  obtain ⟨x, m', ⟨h1, mi1, h2, h3⟩, h5⟩ := ev_some (E := fun x m => x = some (.int (B (FI A.1.2.2.1.2 y k0 A.1.2.2.1.1))) ∧ ∃ mi', m = (WW L, mi', ml, mr) ∧ CR π mi' ml A) (g := gC) (d := d + 3) (M := 118) (args := [.ref 1, .int (nI k0), .int y]) (mem := (WW L, mi, ml, mr)) (q := q_118) rfl (Nat.le_of_ble_eq_true rfl) rfl (by
    refine ev_iconst (p' := 1) (v := nI 0) i_118_0 rfl (by decide) ?_
    refine ev_istore_n (p' := 2) (ls' := [_, _, _, _, _]) i_118_1 rfl rfl (by decide) rfl ?_
    exact l_fits hw hA hk6 (fun mi1 h => ⟨rfl, mi1, rfl, h⟩) A.1.2.2.1.1 0 mi _ (by omega) hc (fun k hk => absurd hk (Nat.not_lt_zero k)))
  subst h1 h2
  exact ⟨mi1, h5, h3⟩
theorem l_kfit {L : Nat} {π : Nat → Nat → Nat} {ml : Nat → Nat → Int64} {mr : Nat → Nat → Option Nat} {d : Nat} {E : Option Value → pm_M → Prop} (hw : WR π mr) {A : AV} (hA : okA A) {y : Int32} (hE : ∀ mi, CR π mi ml A → E (some (.int (bset (fun k => FI A.1.2.2.1.2 y k A.1.2.2.1.1) 6))) (WW L, mi, ml, mr)) : ∀ (k i : Nat) (mi : Nat → Nat → Int32), i + k = 6 → CR π mi ml A → Ev gC (pm_ev gC (d + 4)) E q_117 4 [some (.ref 1), some (.int y), some (.int (bset (fun k => FI A.1.2.2.1.2 y k A.1.2.2.1.1) i)), some (.int (nI i))] [] (WW L, mi, ml, mr) := by
  intro k
  induction k with
  | zero =>
    intro i mi hi hc
    have hi : i = 6 := by omega
    subst hi
    have h7 := hA.n7
    have hn := hc.hn
    refine ev_iload_n (p' := 5) i_117_4 rfl rfl ?_
    refine ev_bipush (p' := 7) (v := 6) i_117_5 rfl (by decide) ?_
    refine ev_icmp_ge (p' := 10) (tg := 31) i_117_7 rfl rfl (fun c7 => ?_) (fun c7 => absurd (by decide) c7)
    refine ev_iload_n (p' := 32) i_117_31 rfl rfl ?_
    exact ev_iretI i_117_32 rfl (hE _ hc)
  | succ k ih =>
    intro i mi hi hc
    have h7 := hA.n7
    have hn := hc.hn
    refine ev_iload_n (p' := 5) i_117_4 rfl rfl ?_
    refine ev_bipush (p' := 7) (v := 6) i_117_5 rfl (by decide) ?_
    refine ev_icmp_ge (p' := 10) (tg := 31) i_117_7 rfl rfl (fun c7 => absurd c7 (nI_ge (b := 6) (by omega) (by decide))) (fun c7 => ?_)
    refine ev_aload_n (p' := 11) i_117_10 rfl rfl ?_
    refine ev_iload_n (p' := 12) i_117_11 rfl rfl ?_
    refine ev_iload_n (p' := 13) i_117_12 rfl rfl ?_
    obtain ⟨mi2, e2, h2⟩ := s_fits (L := L) d hw hA (show i < 6 by omega) y hc
    refine ev_v2I (p' := 16) i_117_13 rfl cl_11_345_11 (by decide) is_1 (Nat.le_of_ble_eq_true rfl) (e2) ?_
    refine ev_if_eq (p' := 19) (tg := 25) i_117_16 rfl rfl (fun c16 => ?_) (fun c16 => ?_)
    · replace c16 := B0 c16
      refine ev_iinc (p' := 28) (ls' := [_, _, _, _]) i_117_25 rfl rfl rfl (by decide) (nI_inc _) rfl ?_
      refine ev_goto (tg := 4) i_117_28 rfl ?_
      rw [← bset_f (p := (fun k => FI A.1.2.2.1.2 y k A.1.2.2.1.1)) c16]
      exact ih (i + 1) _ (by omega) h2
    · replace c16 := B1 c16
      refine ev_iload_n (p' := 20) i_117_19 rfl rfl ?_
      refine ev_iconst (p' := 21) (v := 1) i_117_20 rfl (by decide) ?_
      refine ev_iload_n (p' := 22) i_117_21 rfl rfl ?_
      refine ev_ishl (p' := 23) i_117_22 rfl ?_
      refine ev_ior (p' := 24) i_117_23 rfl ?_
      refine ev_istore_n (p' := 25) (ls' := [_, _, _, _]) i_117_24 rfl rfl (by decide) rfl ?_
      refine ev_iinc (p' := 28) (ls' := [_, _, _, _]) i_117_25 rfl rfl rfl (by decide) (nI_inc _) rfl ?_
      refine ev_goto (tg := 4) i_117_28 rfl ?_
      rw [← bset_t (p := (fun k => FI A.1.2.2.1.2 y k A.1.2.2.1.1)) c16]
      exact ih (i + 1) _ (by omega) h2
theorem s_kfit {L : Nat} {π : Nat → Nat → Nat} {ml : Nat → Nat → Int64} {mr : Nat → Nat → Option Nat} {mi : Nat → Nat → Int32} (d : Nat) (hw : WR π mr) {A : AV} (hA : okA A) (y : Int32) (hc : CR π mi ml A) : ∃ mi', pm_ev gC (d + 5) 117 [.ref 1, .int y] (WW L, mi, ml, mr) (some (.int (FS A y))) (WW L, mi', ml, mr) ∧ CR π mi' ml A := by
  have h7 := hA.n7
  obtain ⟨x, m', ⟨h1, mi1, h2, h3⟩, h5⟩ := ev_some (E := fun x m => x = some (.int (FS A y)) ∧ ∃ mi', m = (WW L, mi', ml, mr) ∧ CR π mi' ml A) (g := gC) (d := d + 4) (M := 117) (args := [.ref 1, .int y]) (mem := (WW L, mi, ml, mr)) (q := q_117) rfl (Nat.le_of_ble_eq_true rfl) rfl (by
    refine ev_iconst (p' := 1) (v := 0) i_117_0 rfl (by decide) ?_
    refine ev_istore_n (p' := 2) (ls' := [_, _, _, _]) i_117_1 rfl rfl (by decide) rfl ?_
    refine ev_iconst (p' := 3) (v := nI 0) i_117_2 rfl (by decide) ?_
    refine ev_istore_n (p' := 4) (ls' := [_, _, _, _]) i_117_3 rfl rfl (by decide) rfl ?_
    exact l_kfit hw hA (fun mi1 h => ⟨rfl, mi1, rfl, h⟩) 6 0 mi (by omega) hc)
  subst h1 h2
  exact ⟨mi1, h5, h3⟩
theorem l_kin {L : Nat} {π : Nat → Nat → Nat} {mi : Nat → Nat → Int32} {ml : Nat → Nat → Int64} {mr : Nat → Nat → Option Nat} {d : Nat} {E : Option Value → pm_M → Prop} (hw : WR π mr) {A : AV} (hA : okA A) (hc : RR mi ml A) {k0 : Nat} (hk6 : k0 < 6) {y s : Int32} (kk : ∀ x6, Ev gR (pm_ev gR (d + 1)) E q_202 110 [some (.ref 285), some (.int y), some (.int s), some (.int (nI k0)), some (.int (B (FI A.1.2.2.1.2 y k0 A.1.2.2.1.1))), some (.int (nI (5 * A.1.2.2.1.1))), x6] [] (WW L, mi, ml, mr)) : ∀ k i x6, i + k = A.1.2.2.1.1 → Ev gR (pm_ev gR (d + 1)) E q_202 15 [some (.ref 285), some (.int y), some (.int s), some (.int (nI k0)), some (.int (B (FI A.1.2.2.1.2 y k0 i))), some (.int (nI (5 * i))), x6] [] (WW L, mi, ml, mr) := by
  have h6 := hA.1.2.2.1.1
  have hs := hc.1.2.2.1
  intro k
  induction k with
  | zero =>
    intro i x6 hi
    have hi : i = A.1.2.2.1.1 := by omega
    subst hi
    refine ev_iload (p' := 17) i_202_15 rfl rfl ?_
    refine ev_iconst (p' := 18) (v := nI 5) i_202_17 rfl (by decide) ?_
    refine ev_aload_n (p' := 19) i_202_18 rfl rfl ?_
    refine ev_geti (p' := 22) i_202_19 rfl fl_12_106 rfl is_285 ?_
    refine ev_imul (p' := 23) i_202_22 rfl ?_
    rw [hs.1, nI_mul]
    refine ev_icmp_ge (p' := 26) (tg := 110) i_202_23 rfl rfl (fun c23 => ?_) (fun c23 => absurd (nI_le (by omega) (by omega)) c23)
    exact kk _
  | succ k ih =>
    intro i x6 hi
    refine ev_iload (p' := 17) i_202_15 rfl rfl ?_
    refine ev_iconst (p' := 18) (v := nI 5) i_202_17 rfl (by decide) ?_
    refine ev_aload_n (p' := 19) i_202_18 rfl rfl ?_
    refine ev_geti (p' := 22) i_202_19 rfl fl_12_106 rfl is_285 ?_
    refine ev_imul (p' := 23) i_202_22 rfl ?_
    rw [hs.1, nI_mul]
    refine ev_icmp_ge (p' := 26) (tg := 110) i_202_23 rfl rfl (fun c23 => absurd c23 (nI_ge (by omega) (by omega))) (fun c23 => ?_)
    refine ev_iload_n (p' := 27) i_202_26 rfl rfl ?_
    refine ev_aload_n (p' := 28) i_202_27 rfl rfl ?_
    refine ev_getr (p' := 31) i_202_28 rfl fl_12_34 rfl is_285 (rf_285_13 hw) ?_
    refine ev_iload (p' := 33) i_202_31 rfl rfl ?_
    refine ev_iconst (p' := 34) (v := nI 2) i_202_33 rfl (by decide) ?_
    refine ev_iaddN (p' := 35) i_202_34 rfl ?_
    refine ev_ialdN (p' := 36) i_202_35 rfl is_294 len_294 (by omega) (by decide) ?_
    refine ev_aload_n (p' := 37) i_202_36 rfl rfl ?_
    refine ev_getr (p' := 40) i_202_37 rfl fl_12_34 rfl is_285 (rf_285_13 hw) ?_
    refine ev_iload (p' := 42) i_202_40 rfl rfl ?_
    refine ev_iconst (p' := 43) (v := nI 1) i_202_42 rfl (by decide) ?_
    refine ev_iaddN (p' := 44) i_202_43 rfl ?_
    refine ev_ialdN (p' := 45) i_202_44 rfl is_294 len_294 (by omega) (by decide) ?_
    refine ev_aload_n (p' := 46) i_202_45 rfl rfl ?_
    refine ev_getr (p' := 49) i_202_46 rfl fl_12_34 rfl is_285 (rf_285_13 hw) ?_
    refine ev_iload (p' := 51) i_202_49 rfl rfl ?_
    refine ev_iconst (p' := 52) (v := nI 3) i_202_51 rfl (by decide) ?_
    refine ev_iaddN (p' := 53) i_202_52 rfl ?_
    refine ev_ialdN (p' := 54) i_202_53 rfl is_294 len_294 (by omega) (by decide) ?_
    rw [hs.2 i (by omega) 2 (by decide), hs.2 i (by omega) 1 (by decide), hs.2 i (by omega) 3 (by decide)]
    refine ev_s4I (p' := 57) i_202_54 rfl cl_12_211_0 (by decide) (Nat.le_of_ble_eq_true rfl) (s_risesBy _ hk6 _ _ _) ?_
    rw [note_eq hA (show i < A.1.2.2.1.1 by omega) hk6]
    refine ev_aload_n (p' := 58) i_202_57 rfl rfl ?_
    refine ev_getr (p' := 61) i_202_58 rfl fl_12_34 rfl is_285 (rf_285_13 hw) ?_
    refine ev_iload (p' := 63) i_202_61 rfl rfl ?_
    refine ev_iconst (p' := 64) (v := nI 4) i_202_63 rfl (by decide) ?_
    refine ev_iaddN (p' := 65) i_202_64 rfl ?_
    refine ev_ialdN (p' := 66) i_202_65 rfl is_294 len_294 (by omega) (by decide) ?_
    rw [hs.2 i (by omega) 4 (by decide)]
    refine ev_icmp_ne (p' := 69) (tg := 73) i_202_66 rfl rfl (fun c66 => ?_) (fun c66 => ?_)
    · refine ev_iconst (p' := 74) (v := 0) i_202_73 rfl (by decide) ?_
      refine ev_istore (p' := 76) (ls' := [_, _, _, _, _, _, _]) i_202_74 rfl rfl (by decide) rfl ?_
      refine ev_iload (p' := 78) i_202_76 rfl rfl ?_
      refine ev_if_eq (p' := 81) (tg := 101) i_202_78 rfl rfl (fun c78 => ?_) (fun c78 => ?_)
      · replace c78 := B0 c78
        refine ev_iconst (p' := 102) (v := 0) i_202_101 rfl (by decide) ?_
        refine ev_istore (p' := 104) (ls' := [_, _, _, _, _, _, _]) i_202_102 rfl rfl (by decide) rfl ?_
        refine ev_iinc (p' := 107) (ls' := [_, _, _, _, _, _, _]) i_202_104 rfl rfl rfl (by decide) rfl rfl ?_
        refine ev_goto (tg := 15) i_202_107 rfl ?_
        refine ev_cast (by rw [B_f (fun z => c78 (fun m hm => z m (by omega))), nI5]) rfl rfl (ih (i + 1) _ (by omega))
      · replace c78 := B1 c78
        refine ev_aload_n (p' := 82) i_202_81 rfl rfl ?_
        refine ev_getr (p' := 85) i_202_82 rfl fl_12_34 rfl is_285 (rf_285_13 hw) ?_
        refine ev_iload (p' := 87) i_202_85 rfl rfl ?_
        refine ev_ialdN (p' := 88) i_202_87 rfl is_294 len_294 (by omega) (by decide) ?_
        rw [show mi 294 (5 * i) = A.1.2.2.1.2 i 0 from hs.2 i (by omega) 0 (by decide)]
        refine ev_iload_n (p' := 89) i_202_88 rfl rfl ?_
        refine ev_icmp_ne (p' := 92) (tg := 97) i_202_89 rfl rfl (fun c89 => ?_) (fun c89 => ?_)
        · refine ev_iconst (p' := 98) (v := 1) i_202_97 rfl (by decide) ?_
          refine ev_goto (tg := 102) i_202_98 rfl ?_
          refine ev_istore (p' := 104) (ls' := [_, _, _, _, _, _, _]) i_202_102 rfl rfl (by decide) rfl ?_
          refine ev_iinc (p' := 107) (ls' := [_, _, _, _, _, _, _]) i_202_104 rfl rfl rfl (by decide) rfl rfl ?_
          refine ev_goto (tg := 15) i_202_107 rfl ?_
          refine ev_cast (by rw [B_t (fun m hm => by
            rcases Nat.lt_succ_iff_lt_or_eq.mp hm with h | h
            · exact c78 m h
            · subst h; exact fun z => absurd z c89), nI5]) rfl rfl (ih (i + 1) _ (by omega))
        · refine ev_iload (p' := 94) i_202_92 rfl rfl ?_
          refine ev_if_eq (p' := 97) (tg := 101) i_202_94 rfl rfl (fun c94 => ?_) (fun c94 => absurd (rfl) c94)
          refine ev_iconst (p' := 102) (v := 0) i_202_101 rfl (by decide) ?_
          refine ev_istore (p' := 104) (ls' := [_, _, _, _, _, _, _]) i_202_102 rfl rfl (by decide) rfl ?_
          refine ev_iinc (p' := 107) (ls' := [_, _, _, _, _, _, _]) i_202_104 rfl rfl rfl (by decide) rfl rfl ?_
          refine ev_goto (tg := 15) i_202_107 rfl ?_
          refine ev_cast (by rw [B_f (fun z => c66 (z i (by omega) (Classical.not_not.mp c89))), nI5]) rfl rfl (ih (i + 1) _ (by omega))
    · refine ev_iconst (p' := 70) (v := 1) i_202_69 rfl (by decide) ?_
      refine ev_goto (tg := 74) i_202_70 rfl ?_
      refine ev_istore (p' := 76) (ls' := [_, _, _, _, _, _, _]) i_202_74 rfl rfl (by decide) rfl ?_
      refine ev_iload (p' := 78) i_202_76 rfl rfl ?_
      refine ev_if_eq (p' := 81) (tg := 101) i_202_78 rfl rfl (fun c78 => ?_) (fun c78 => ?_)
      · replace c78 := B0 c78
        refine ev_iconst (p' := 102) (v := 0) i_202_101 rfl (by decide) ?_
        refine ev_istore (p' := 104) (ls' := [_, _, _, _, _, _, _]) i_202_102 rfl rfl (by decide) rfl ?_
        refine ev_iinc (p' := 107) (ls' := [_, _, _, _, _, _, _]) i_202_104 rfl rfl rfl (by decide) rfl rfl ?_
        refine ev_goto (tg := 15) i_202_107 rfl ?_
        refine ev_cast (by rw [B_f (fun z => c78 (fun m hm => z m (by omega))), nI5]) rfl rfl (ih (i + 1) _ (by omega))
      · replace c78 := B1 c78
        refine ev_aload_n (p' := 82) i_202_81 rfl rfl ?_
        refine ev_getr (p' := 85) i_202_82 rfl fl_12_34 rfl is_285 (rf_285_13 hw) ?_
        refine ev_iload (p' := 87) i_202_85 rfl rfl ?_
        refine ev_ialdN (p' := 88) i_202_87 rfl is_294 len_294 (by omega) (by decide) ?_
        rw [show mi 294 (5 * i) = A.1.2.2.1.2 i 0 from hs.2 i (by omega) 0 (by decide)]
        refine ev_iload_n (p' := 89) i_202_88 rfl rfl ?_
        refine ev_icmp_ne (p' := 92) (tg := 97) i_202_89 rfl rfl (fun c89 => ?_) (fun c89 => ?_)
        · refine ev_iconst (p' := 98) (v := 1) i_202_97 rfl (by decide) ?_
          refine ev_goto (tg := 102) i_202_98 rfl ?_
          refine ev_istore (p' := 104) (ls' := [_, _, _, _, _, _, _]) i_202_102 rfl rfl (by decide) rfl ?_
          refine ev_iinc (p' := 107) (ls' := [_, _, _, _, _, _, _]) i_202_104 rfl rfl rfl (by decide) rfl rfl ?_
          refine ev_goto (tg := 15) i_202_107 rfl ?_
          refine ev_cast (by rw [B_t (fun m hm => by
            rcases Nat.lt_succ_iff_lt_or_eq.mp hm with h | h
            · exact c78 m h
            · subst h; exact fun z => absurd z c89), nI5]) rfl rfl (ih (i + 1) _ (by omega))
        · refine ev_iload (p' := 94) i_202_92 rfl rfl ?_
          refine ev_if_eq (p' := 97) (tg := 101) i_202_94 rfl rfl (fun c94 => absurd c94 (by decide)) (fun c94 => ?_)
          refine ev_iconst (p' := 98) (v := 1) i_202_97 rfl (by decide) ?_
          refine ev_goto (tg := 102) i_202_98 rfl ?_
          refine ev_istore (p' := 104) (ls' := [_, _, _, _, _, _, _]) i_202_102 rfl rfl (by decide) rfl ?_
          refine ev_iinc (p' := 107) (ls' := [_, _, _, _, _, _, _]) i_202_104 rfl rfl rfl (by decide) rfl rfl ?_
          refine ev_goto (tg := 15) i_202_107 rfl ?_
          refine ev_cast (by rw [B_t (fun m hm => by
            rcases Nat.lt_succ_iff_lt_or_eq.mp hm with h | h
            · exact c78 m h
            · subst h; exact fun _ => Classical.not_not.mp c66), nI5]) rfl rfl (ih (i + 1) _ (by omega))
theorem l_kindsOf {L : Nat} {π : Nat → Nat → Nat} {ml : Nat → Nat → Int64} {mr : Nat → Nat → Option Nat} {d : Nat} {E : Option Value → pm_M → Prop} (hw : WR π mr) {A : AV} (hA : okA A) {y : Int32} (hE : ∀ mi, RR mi ml A → E (some (.int (bset (fun k => FI A.1.2.2.1.2 y k A.1.2.2.1.1) 6))) (WW L, mi, ml, mr)) : ∀ (k i : Nat) (mi : Nat → Nat → Int32) (x4 x5 x6 : Option Value), i + k = 6 → RR mi ml A → Ev gR (pm_ev gR (d + 1)) E q_202 4 [some (.ref 285), some (.int y), some (.int (bset (fun k => FI A.1.2.2.1.2 y k A.1.2.2.1.1) i)), some (.int (nI i)), x4, x5, x6] [] (WW L, mi, ml, mr) := by
  intro k
  induction k with
  | zero =>
    intro i mi x4 x5 x6 hi hc
    have hi : i = 6 := by omega
    subst hi
    have h7 := hA.n7
    have hn := hc.hn
    refine ev_iload_n (p' := 5) i_202_4 rfl rfl ?_
    refine ev_iconst (p' := 6) (v := 5) i_202_5 rfl (by decide) ?_
    refine ev_icmp_gt (p' := 9) (tg := 131) i_202_6 rfl rfl (fun c6 => ?_) (fun c6 => absurd (by decide) c6)
    refine ev_iload_n (p' := 132) i_202_131 rfl rfl ?_
    exact ev_iretI i_202_132 rfl (hE _ hc)
  | succ k ih =>
    intro i mi x4 x5 x6 hi hc
    have h7 := hA.n7
    have hn := hc.hn
    refine ev_iload_n (p' := 5) i_202_4 rfl rfl ?_
    refine ev_iconst (p' := 6) (v := 5) i_202_5 rfl (by decide) ?_
    refine ev_icmp_gt (p' := 9) (tg := 131) i_202_6 rfl rfl (fun c6 => absurd c6 (Int32.not_lt.mpr (nI_le (b := 5) (by omega) (by decide)))) (fun c6 => ?_)
    refine ev_iconst (p' := 10) (v := 1) i_202_9 rfl (by decide) ?_
    refine ev_istore (p' := 12) (ls' := [_, _, _, _, _, _, _]) i_202_10 rfl rfl (by decide) rfl ?_
    refine ev_iconst (p' := 13) (v := nI 0) i_202_12 rfl (by decide) ?_
    refine ev_istore (p' := 15) (ls' := [_, _, _, _, _, _, _]) i_202_13 rfl rfl (by decide) rfl ?_
    refine ev_cast (by rw [← B_t (show FI A.1.2.2.1.2 y i 0 from fun k hk => absurd hk (Nat.not_lt_zero k))]) rfl rfl (l_kin hw hA hc (show i < 6 by omega) (fun x6 => ?_) A.1.2.2.1.1 0 _ (by omega))
    refine ev_iload_n (p' := 111) i_202_110 rfl rfl ?_
    refine ev_iload (p' := 113) i_202_111 rfl rfl ?_
    refine ev_if_eq (p' := 116) (tg := 122) i_202_113 rfl rfl (fun c113 => ?_) (fun c113 => ?_)
    · replace c113 := B0 c113
      refine ev_iconst (p' := 123) (v := 0) i_202_122 rfl (by decide) ?_
      refine ev_ior (p' := 124) i_202_123 rfl ?_
      refine ev_istore_n (p' := 125) (ls' := [_, _, _, _, _, _, _]) i_202_124 rfl rfl (by decide) rfl ?_
      refine ev_iinc (p' := 128) (ls' := [_, _, _, _, _, _, _]) i_202_125 rfl rfl rfl (by decide) (nI_inc _) rfl ?_
      refine ev_goto (tg := 4) i_202_128 rfl ?_
      refine ev_cast (by rw [bset_f (p := (fun k => FI A.1.2.2.1.2 y k A.1.2.2.1.1)) c113, Int32.or_zero]) rfl rfl (ih (i + 1) _ _ _ _ (by omega) hc)
    · replace c113 := B1 c113
      refine ev_iconst (p' := 117) (v := 1) i_202_116 rfl (by decide) ?_
      refine ev_iload_n (p' := 118) i_202_117 rfl rfl ?_
      refine ev_ishl (p' := 119) i_202_118 rfl ?_
      refine ev_goto (tg := 123) i_202_119 rfl ?_
      refine ev_ior (p' := 124) i_202_123 rfl ?_
      refine ev_istore_n (p' := 125) (ls' := [_, _, _, _, _, _, _]) i_202_124 rfl rfl (by decide) rfl ?_
      refine ev_iinc (p' := 128) (ls' := [_, _, _, _, _, _, _]) i_202_125 rfl rfl rfl (by decide) (nI_inc _) rfl ?_
      refine ev_goto (tg := 4) i_202_128 rfl ?_
      refine ev_cast (by rw [bset_t (p := (fun k => FI A.1.2.2.1.2 y k A.1.2.2.1.1)) c113]) rfl rfl (ih (i + 1) _ _ _ _ (by omega) hc)
theorem s_kindsOf {L : Nat} {π : Nat → Nat → Nat} {ml : Nat → Nat → Int64} {mr : Nat → Nat → Option Nat} {mi : Nat → Nat → Int32} (d : Nat) (hw : WR π mr) {A : AV} (hA : okA A) (y : Int32) (hc : RR mi ml A) : ∃ mi', pm_ev gR (d + 2) 202 [.ref 285, .int y] (WW L, mi, ml, mr) (some (.int (FS A y))) (WW L, mi', ml, mr) ∧ RR mi' ml A := by
  have h7 := hA.n7
  obtain ⟨x, m', ⟨h1, mi1, h2, h3⟩, h5⟩ := ev_some (E := fun x m => x = some (.int (FS A y)) ∧ ∃ mi', m = (WW L, mi', ml, mr) ∧ RR mi' ml A) (g := gR) (d := d + 1) (M := 202) (args := [.ref 285, .int y]) (mem := (WW L, mi, ml, mr)) (q := q_202) rfl (Nat.le_of_ble_eq_true rfl) rfl (by
    refine ev_iconst (p' := 1) (v := 0) i_202_0 rfl (by decide) ?_
    refine ev_istore_n (p' := 2) (ls' := [_, _, _, _, _, _, _]) i_202_1 rfl rfl (by decide) rfl ?_
    refine ev_iconst (p' := 3) (v := nI 0) i_202_2 rfl (by decide) ?_
    refine ev_istore_n (p' := 4) (ls' := [_, _, _, _, _, _, _]) i_202_3 rfl rfl (by decide) rfl ?_
    exact l_kindsOf hw hA (fun mi1 h => ⟨rfl, mi1, rfl, h⟩) 6 0 mi _ _ _ (by omega) hc)
  subst h1 h2
  exact ⟨mi1, h5, h3⟩
theorem C_is_bad (L d : Nat) (A : AV) (hA : okA A) (x : Int32) (hb : ¬ (0 ≤ x ∧ x ≤ nI A.1.1.1 - 1)) : Cst L (d + 24) 94 [.int x] A (.int (-2)) (badA A) := by
  refine C_of (q := q_94) rfl (Nat.le_of_ble_eq_true rfl) rfl (fun π mi ml mr hw hc => ?_)
  have hn := hc.hn
  have h7 := hA.n7
  refine ev_aload_n (p' := 1) i_94_0 rfl rfl ?_
  refine ev_iload_n (p' := 2) i_94_1 rfl rfl ?_
  refine ev_v1I (p' := 5) i_94_2 rfl cl_11_158_11 (by decide) is_1 (Nat.le_of_ble_eq_true rfl) (s_noPiece _ hw hn _) ?_
  refine ev_if_eq (p' := 8) (tg := 13) i_94_5 rfl rfl (fun c5 => ?_) (fun c5 => ?_)
  · replace c5 := B0 c5
    exact absurd (ni c5) hb
  · replace c5 := B1 c5
    refine ev_aload_n (p' := 9) i_94_8 rfl rfl ?_
    refine ev_v0I (p' := 12) i_94_9 rfl cl_11_93_11 (by decide) is_1 (Nat.le_of_ble_eq_true rfl) (s_bad _) ?_
    exact ev_iretI i_94_12 rfl (EC.mk rfl hw (hc.bad hw))
theorem R_is_bad (L d : Nat) (A : AV) (hA : okA A) (x : Int32) (hb : ¬ (0 ≤ x ∧ x ≤ nI A.1.1.1 - 1)) : Rst L (d + 24) 203 [.int x] A (.int (-2)) (badA A) := by
  refine R_of (q := q_203) rfl (Nat.le_of_ble_eq_true rfl) rfl (fun π mi ml mr hw hc => ?_)
  have hn := hc.hn
  have h7 := hA.n7
  refine ev_aload_n (p' := 1) i_203_0 rfl rfl ?_
  refine ev_iload_n (p' := 2) i_203_1 rfl rfl ?_
  refine ev_v1I (p' := 5) i_203_2 rfl cl_12_240_12 (by decide) is_285 (Nat.le_of_ble_eq_true rfl) (s_isPiece (π := π) _ hn _) ?_
  refine ev_if_eq (p' := 8) (tg := 16) i_203_5 rfl rfl (fun c5 => ?_) (fun c5 => ?_)
  · replace c5 := B0 c5
    refine ev_aload_n (p' := 17) i_203_16 rfl rfl ?_
    refine ev_v0I (p' := 20) i_203_17 rfl cl_12_119_12 (by decide) is_285 (Nat.le_of_ble_eq_true rfl) (s_mbad _ hw) ?_
    exact ev_iretI i_203_20 rfl (ER.mk rfl (hc.bad h7))
  · replace c5 := B1 c5
    exact absurd (c5) hb
theorem C_is (L d : Nat) (A : AV) (hA : okA A) {i : Nat} (hi : i < A.1.1.1) : Cst L (d + 24) 94 [.int (nI i)] A (.int (FS A (nI i))) (A) := by
  refine C_of (q := q_94) rfl (Nat.le_of_ble_eq_true rfl) rfl (fun π mi ml mr hw hc => ?_)
  have hn := hc.hn
  have h7 := hA.n7
  refine ev_aload_n (p' := 1) i_94_0 rfl rfl ?_
  refine ev_iload_n (p' := 2) i_94_1 rfl rfl ?_
  refine ev_v1I (p' := 5) i_94_2 rfl cl_11_158_11 (by decide) is_1 (Nat.le_of_ble_eq_true rfl) (s_noPiece _ hw hn _) ?_
  refine ev_if_eq (p' := 8) (tg := 13) i_94_5 rfl rfl (fun c5 => ?_) (fun c5 => absurd (B_f (nj (inn hi h7))) c5)
  refine ev_aload_n (p' := 14) i_94_13 rfl rfl ?_
  refine ev_iload_n (p' := 15) i_94_14 rfl rfl ?_
  obtain ⟨mi2, e2, h2⟩ := s_kfit (L := L) (d + 18) hw hA (nI i) hc
  refine ev_v1I (p' := 18) i_94_15 rfl cl_11_272_11 (by decide) is_1 (Nat.le_of_ble_eq_true rfl) (e2) ?_
  exact ev_iretI i_94_18 rfl (EC.mk rfl hw h2)
theorem R_is (L d : Nat) (A : AV) (hA : okA A) {i : Nat} (hi : i < A.1.1.1) : Rst L (d + 24) 203 [.int (nI i)] A (.int (FS A (nI i))) (A) := by
  refine R_of (q := q_203) rfl (Nat.le_of_ble_eq_true rfl) rfl (fun π mi ml mr hw hc => ?_)
  have hn := hc.hn
  have h7 := hA.n7
  refine ev_aload_n (p' := 1) i_203_0 rfl rfl ?_
  refine ev_iload_n (p' := 2) i_203_1 rfl rfl ?_
  refine ev_v1I (p' := 5) i_203_2 rfl cl_12_240_12 (by decide) is_285 (Nat.le_of_ble_eq_true rfl) (s_isPiece (π := π) _ hn _) ?_
  refine ev_if_eq (p' := 8) (tg := 16) i_203_5 rfl rfl (fun c5 => absurd c5 (B_tn (inn hi h7))) (fun c5 => ?_)
  refine ev_aload_n (p' := 9) i_203_8 rfl rfl ?_
  refine ev_iload_n (p' := 10) i_203_9 rfl rfl ?_
  obtain ⟨mi2, e2, h2⟩ := s_kindsOf (L := L) (d + 21) hw hA (nI i) hc
  refine ev_v1I (p' := 13) i_203_10 rfl cl_12_291_12 (by decide) is_285 (Nat.le_of_ble_eq_true rfl) (e2) ?_
  refine ev_goto (tg := 20) i_203_13 rfl ?_
  exact ev_iretI i_203_20 rfl (ER.mk rfl h2)
theorem Q_is (L : Nat) (A : AV) (hA : okA A) (x : Int32) : SameI L 94 203 [.int x] A := by
  by_cases h : 0 ≤ x ∧ x ≤ nI A.1.1.1 - 1
  · obtain ⟨i, hi, rfl⟩ := ofn hA.n7 h
    exact ⟨_, A, hA, fun d => C_is L d A hA hi, fun d => R_is L d A hA hi⟩
  · exact ⟨_, badA A, hA.bad, fun d => C_is_bad L d A hA x h, fun d => R_is_bad L d A hA x h⟩
noncomputable def MA (fit : Int32) (r : Nat → Int32) (x : Int32) (m : Nat) : Int32 := fold (fun b c => @ite _ (HS fit b ∧ r b = x) (Classical.propDecidable _) (c + 1) c) m 0
theorem MA_t {fit x : Int32} {r : Nat → Int32} {m : Nat} (h : HS fit m ∧ r m = x) : MA fit r x (m + 1) = MA fit r x m + 1 := @if_pos _ (Classical.propDecidable _) h _ _ _
theorem MA_f {fit x : Int32} {r : Nat → Int32} {m : Nat} (h : ¬ (HS fit m ∧ r m = x)) : MA fit r x (m + 1) = MA fit r x m := @if_neg _ (Classical.propDecidable _) h _ _ _
theorem MA_nat (fit : Int32) (r : Nat → Int32) (x : Int32) : ∀ m, ∃ c, c ≤ m ∧ MA fit r x m = nI c := by
  intro m
  induction m with
  | zero => exact ⟨0, Nat.le_refl _, rfl⟩
  | succ m ih =>
    obtain ⟨c, h1, h2⟩ := ih
    by_cases h : HS fit m ∧ r m = x
    · exact ⟨c + 1, by omega, by rw [MA_t h, h2, nI_1]⟩
    · exact ⟨c, by omega, by rw [MA_f h, h2]⟩
noncomputable def AL (fit : Int32) (r : Nat → Int32) (m : Nat) : Int32 := fold (fun a s => @ite _ (HS fit a) (Classical.propDecidable _) (if s < MA fit r (r a) 6 then MA fit r (r a) 6 else s) s) m 0
theorem AL_t {fit : Int32} {r : Nat → Int32} {m : Nat} (h : HS fit m) : AL fit r (m + 1) = (if AL fit r m < MA fit r (r m) 6 then MA fit r (r m) 6 else AL fit r m) := @if_pos _ (Classical.propDecidable _) h _ _ _
theorem AL_f {fit : Int32} {r : Nat → Int32} {m : Nat} (h : ¬ HS fit m) : AL fit r (m + 1) = AL fit r m := @if_neg _ (Classical.propDecidable _) h _ _ _
theorem AL_nat (fit : Int32) (r : Nat → Int32) : ∀ m, ∃ c, c ≤ 6 ∧ AL fit r m = nI c := by
  intro m
  induction m with
  | zero => exact ⟨0, by decide, rfl⟩
  | succ m ih =>
    obtain ⟨c, h1, h2⟩ := ih
    by_cases h : HS fit m
    · rw [AL_t h]
      by_cases h3 : AL fit r m < MA fit r (r m) 6
      · rw [if_pos h3]; exact MA_nat fit r (r m) 6
      · rw [if_neg h3]; exact ⟨c, h1, h2⟩
    · exact ⟨c, h1, by rw [AL_f h, h2]⟩
noncomputable def MR (fit : Int32) (r : Nat → Int32) (a m : Nat) : Int32 := fold (fun b c => c + @ite _ (HS fit a ∧ HS fit b ∧ r a = r b) (Classical.propDecidable _) 1 0) m 0
theorem MR_t {fit : Int32} {r : Nat → Int32} {a m : Nat} (h : HS fit a ∧ HS fit m ∧ r a = r m) : MR fit r a (m + 1) = MR fit r a m + 1 := congrArg (fun z => MR fit r a m + z) (@if_pos _ (Classical.propDecidable _) h _ 1 0)
theorem MR_f {fit : Int32} {r : Nat → Int32} {a m : Nat} (h : ¬ (HS fit a ∧ HS fit m ∧ r a = r m)) : MR fit r a (m + 1) = MR fit r a m + 0 := congrArg (fun z => MR fit r a m + z) (@if_neg _ (Classical.propDecidable _) h _ 1 0)
theorem MR_MA {fit : Int32} {r : Nat → Int32} {a : Nat} (ha : HS fit a) : ∀ m, MR fit r a m = MA fit r (r a) m := by
  intro m
  induction m with
  | zero => rfl
  | succ m ih =>
    by_cases h : HS fit m ∧ r m = r a
    · rw [MR_t ⟨ha, h.1, h.2.symm⟩, MA_t h, ih]
    · rw [MR_f (fun z => h ⟨z.2.1, z.2.2.symm⟩), MA_f h, ih, Int32.add_zero]
theorem MR_0 {fit : Int32} {r : Nat → Int32} {a : Nat} (ha : ¬ HS fit a) : ∀ m, MR fit r a m = 0 := by
  intro m
  induction m with
  | zero => rfl
  | succ m ih => rw [MR_f (fun z => ha z.1), ih]; rfl
theorem AL_R {fit : Int32} {r : Nat → Int32} {m : Nat} : AL fit r (m + 1) = (if MR fit r m 6 < AL fit r m then AL fit r m else MR fit r m 6) := by
  by_cases h : HS fit m
  · rw [AL_t h, MR_MA h, gr_eq]
  · rw [AL_f h, MR_0 h]
    obtain ⟨c, -, e⟩ := AL_nat fit r m
    rw [gr_eq, e]
    by_cases h0 : nI c < 0
    · rw [if_pos h0]
      obtain ⟨c', h1, e'⟩ := AL_nat fit r m
      rw [e] at e'
      rw [e'] at h0
      exact absurd h0 (nI_pos (by omega))
    · rw [if_neg h0]
/-- the next to look at -/
def lk (al : Nat → Nat → Int32) (o p : Nat) (s : Int32 × Int32) : Int32 × Int32 := if al o p < s.2 then (nI (10 * o + p), al o p) else s
theorem lk_R {al : Nat → Nat → Int32} {o p : Nat} {s : Int32 × Int32} : lk al o p s = (if al o p < s.2 then nI (10 * o + p) else s.1, if s.2 < al o p then s.2 else al o p) := by
  unfold lk
  by_cases h : al o p < s.2
  · rw [if_pos h, if_pos h, if_neg (fun z => absurd (Int32.lt_trans h z) Int32.lt_irrefl)]
  · rw [if_neg h, if_neg h]
    by_cases h2 : s.2 < al o p
    · rw [if_pos h2]
    · rw [if_neg h2, Int32.le_antisymm (Int32.not_lt.mp h2) (Int32.not_lt.mp h)]
def lkI (al : Nat → Nat → Int32) (o m : Nat) (s : Int32 × Int32) : Int32 × Int32 := fold (fun p s => lk al o p s) m s
def lkO (al : Nat → Nat → Int32) (m : Nat) (s : Int32 × Int32) : Int32 × Int32 := fold (fun o s => lkI al o 4 s) m s
theorem fold_s {α : Type} {f : Nat → α → α} {n : Nat} {a : α} : fold f (n + 1) a = f n (fold f n a) := rfl
theorem lkI_0 {al : Nat → Nat → Int32} {o : Nat} {s : Int32 × Int32} : lkI al o 0 s = s := rfl
theorem lkO_0 {al : Nat → Nat → Int32} {s : Int32 × Int32} : lkO al 0 s = s := rfl
theorem lkO_s {al : Nat → Nat → Int32} {m : Nat} {s : Int32 × Int32} : lkO al (m + 1) s = lkI al m 4 (lkO al m s) := fold_s (f := fun o s => lkI al o 4 s) (n := m) (a := s)
theorem lkI_init {al : Nat → Nat → Int32} {o : Nat} {s s' : Int32 × Int32} (h1 : al o 0 < s.2) (h2 : al o 0 < s'.2) : ∀ m, lkI al o (m + 1) s = lkI al o (m + 1) s' := by
  intro m
  induction m with
  | zero => exact (if_pos h1).trans (if_pos h2).symm
  | succ m ih => exact congrArg (lk al o (m + 1)) ih
theorem lkO_init {al : Nat → Nat → Int32} {s s' : Int32 × Int32} (h1 : al 0 0 < s.2) (h2 : al 0 0 < s'.2) : ∀ m, lkO al (m + 1) s = lkO al (m + 1) s' := by
  intro m
  induction m with
  | zero => rw [lkO_s, lkO_s, lkO_0, lkO_0]; exact lkI_init (o := 0) h1 h2 3
  | succ m ih => rw [lkO_s, lkO_s (s := s'), ih]
theorem mrE {k t o p : Nat} (hk : k < 6) (ht : t < 10) (ho : o < 13) (hp : p < 4) : mrN k (nI t) (nI o) (nI p) = rsN k (nI t) (nI o) (nI p) := mrN_eq k hk t ht o ho p hp
theorem l_ma {L : Nat} {π : Nat → Nat → Nat} {mi : Nat → Nat → Int32} {ml : Nat → Nat → Int64} {mr : Nat → Nat → Option Nat} {d : Nat} {E : Option Value → pm_M → Prop} (hw : WR π mr) {x fit t o p : Int32} (hE : E (some (.int (MA fit (fun k => rsN k t o p) x 6))) (WW L, mi, ml, mr)) : ∀ k i, i + k = 6 → Ev gC (pm_ev gC (d + 3)) E q_120 6 [some (.ref 1), some (.int x), some (.int fit), some (.int t), some (.int o), some (.int p), some (.int (MA fit (fun k => rsN k t o p) x i)), some (.int (nI i))] [] (WW L, mi, ml, mr) := by
  intro k
  induction k with
  | zero =>
    intro i hi
    have hi : i = 6 := by omega
    subst hi
    refine ev_iload (p' := 8) i_120_6 rfl rfl ?_
    refine ev_bipush (p' := 10) (v := 6) i_120_8 rfl (by decide) ?_
    refine ev_icmp_ge (p' := 13) (tg := 56) i_120_10 rfl rfl (fun c10 => ?_) (fun c10 => absurd (by decide) c10)
    refine ev_iload (p' := 58) i_120_56 rfl rfl ?_
    exact ev_iretI i_120_58 rfl hE
  | succ k ih =>
    intro i hi
    refine ev_iload (p' := 8) i_120_6 rfl rfl ?_
    refine ev_bipush (p' := 10) (v := 6) i_120_8 rfl (by decide) ?_
    refine ev_icmp_ge (p' := 13) (tg := 56) i_120_10 rfl rfl (fun c10 => absurd c10 (nI_ge (b := 6) (by omega) (by decide))) (fun c10 => ?_)
    refine ev_iload_n (p' := 14) i_120_13 rfl rfl ?_
    refine ev_iload (p' := 16) i_120_14 rfl rfl ?_
    refine ev_s2I (p' := 19) i_120_16 rfl cl_11_223_0 (by decide) (Nat.le_of_ble_eq_true rfl) (s_has _ _ _) ?_
    refine ev_if_eq (p' := 22) (tg := 50) i_120_19 rfl rfl (fun c19 => ?_) (fun c19 => ?_)
    · replace c19 := B0 c19
      refine ev_iinc (p' := 53) (ls' := [_, _, _, _, _, _, _, _]) i_120_50 rfl rfl rfl (by decide) (nI_inc _) rfl ?_
      refine ev_goto (tg := 6) i_120_53 rfl ?_
      refine ev_cast (by rw [MA_f (r := (fun k => rsN k t o p)) (fun z => c19 z.1)]) rfl rfl (ih (i + 1) (by omega))
    · replace c19 := B1 c19
      refine ev_aload_n (p' := 23) i_120_22 rfl rfl ?_
      refine ev_getr (p' := 26) i_120_23 rfl fl_11_78 rfl is_1 (rf_1_0 hw) ?_
      refine ev_getr (p' := 29) i_120_26 rfl fl_11_97 rfl (is_sp sp_17) (hw.page sp_17) ?_
      refine ev_getr (p' := 32) i_120_29 rfl fl_11_348 rfl (is_pg pg_33) (hw.kinds pg_33) ?_
      refine ev_iload (p' := 34) i_120_32 rfl rfl ?_
      refine e_rise120 hw (show i < 6 by omega) ?_
      refine ev_iload_n (p' := 44) i_120_43 rfl rfl ?_
      refine ev_icmp_ne (p' := 47) (tg := 50) i_120_44 rfl rfl (fun c44 => ?_) (fun c44 => ?_)
      · refine ev_iinc (p' := 53) (ls' := [_, _, _, _, _, _, _, _]) i_120_50 rfl rfl rfl (by decide) (nI_inc _) rfl ?_
        refine ev_goto (tg := 6) i_120_53 rfl ?_
        refine ev_cast (by rw [MA_f (r := (fun k => rsN k t o p)) (fun z => c44 z.2)]) rfl rfl (ih (i + 1) (by omega))
      · refine ev_iinc (p' := 50) (ls' := [_, _, _, _, _, _, _, _]) i_120_47 rfl rfl rfl (by decide) rfl rfl ?_
        refine ev_iinc (p' := 53) (ls' := [_, _, _, _, _, _, _, _]) i_120_50 rfl rfl rfl (by decide) (nI_inc _) rfl ?_
        refine ev_goto (tg := 6) i_120_53 rfl ?_
        refine ev_cast (by rw [MA_t (r := (fun k => rsN k t o p)) ⟨c19, Classical.not_not.mp c44⟩]; rfl) rfl rfl (ih (i + 1) (by omega))
theorem s_ma {L : Nat} {π : Nat → Nat → Nat} {mi : Nat → Nat → Int32} {ml : Nat → Nat → Int64} {mr : Nat → Nat → Option Nat} (d : Nat) (hw : WR π mr) (x fit t o p : Int32) : pm_ev gC (d + 4) 120 [.ref 1, .int x, .int fit, .int t, .int o, .int p] (WW L, mi, ml, mr) (some (.int (MA fit (fun k => rsN k t o p) x 6))) (WW L, mi, ml, mr) := by
  refine ev_enter (q := q_120) rfl (Nat.le_of_ble_eq_true rfl) rfl ?_
  refine ev_iconst (p' := 1) (v := 0) i_120_0 rfl (by decide) ?_
  refine ev_istore (p' := 3) (ls' := [_, _, _, _, _, _, _, _]) i_120_1 rfl rfl (by decide) rfl ?_
  refine ev_iconst (p' := 4) (v := nI 0) i_120_3 rfl (by decide) ?_
  refine ev_istore (p' := 6) (ls' := [_, _, _, _, _, _, _, _]) i_120_4 rfl rfl (by decide) rfl ?_
  exact l_ma hw ⟨rfl, rfl⟩ 6 0 (by decide)
theorem l_al {L : Nat} {π : Nat → Nat → Nat} {mi : Nat → Nat → Int32} {ml : Nat → Nat → Int64} {mr : Nat → Nat → Option Nat} {d : Nat} {E : Option Value → pm_M → Prop} (hw : WR π mr) {fit t o p : Int32} (hE : E (some (.int (AL fit (fun k => rsN k t o p) 6))) (WW L, mi, ml, mr)) : ∀ k i x7, i + k = 6 → Ev gC (pm_ev gC (d + 4)) E q_119 6 [some (.ref 1), some (.int fit), some (.int t), some (.int o), some (.int p), some (.int (AL fit (fun k => rsN k t o p) i)), some (.int (nI i)), x7] [] (WW L, mi, ml, mr) := by
  intro k
  induction k with
  | zero =>
    intro i x7 hi
    have hi : i = 6 := by omega
    subst hi
    refine ev_iload (p' := 8) i_119_6 rfl rfl ?_
    refine ev_bipush (p' := 10) (v := 6) i_119_8 rfl (by decide) ?_
    refine ev_icmp_ge (p' := 13) (tg := 68) i_119_10 rfl rfl (fun c10 => ?_) (fun c10 => absurd (by decide) c10)
    refine ev_iload (p' := 70) i_119_68 rfl rfl ?_
    exact ev_iretI i_119_70 rfl hE
  | succ k ih =>
    intro i x7 hi
    refine ev_iload (p' := 8) i_119_6 rfl rfl ?_
    refine ev_bipush (p' := 10) (v := 6) i_119_8 rfl (by decide) ?_
    refine ev_icmp_ge (p' := 13) (tg := 68) i_119_10 rfl rfl (fun c10 => absurd c10 (nI_ge (b := 6) (by omega) (by decide))) (fun c10 => ?_)
    refine ev_iload_n (p' := 14) i_119_13 rfl rfl ?_
    refine ev_iload (p' := 16) i_119_14 rfl rfl ?_
    refine ev_s2I (p' := 19) i_119_16 rfl cl_11_223_0 (by decide) (Nat.le_of_ble_eq_true rfl) (s_has _ _ _) ?_
    refine ev_if_eq (p' := 22) (tg := 62) i_119_19 rfl rfl (fun c19 => ?_) (fun c19 => ?_)
    · replace c19 := B0 c19
      refine ev_iinc (p' := 65) (ls' := [_, _, _, _, _, _, _, _]) i_119_62 rfl rfl rfl (by decide) (nI_inc _) rfl ?_
      refine ev_goto (tg := 6) i_119_65 rfl ?_
      refine ev_cast (by rw [AL_f (r := (fun k => rsN k t o p)) c19]) rfl rfl (ih (i + 1) _ (by omega))
    · replace c19 := B1 c19
      refine ev_aload_n (p' := 23) i_119_22 rfl rfl ?_
      refine ev_getr (p' := 26) i_119_23 rfl fl_11_78 rfl is_1 (rf_1_0 hw) ?_
      refine ev_getr (p' := 29) i_119_26 rfl fl_11_97 rfl (is_sp sp_17) (hw.page sp_17) ?_
      refine ev_getr (p' := 32) i_119_29 rfl fl_11_348 rfl (is_pg pg_33) (hw.kinds pg_33) ?_
      refine ev_iload (p' := 34) i_119_32 rfl rfl ?_
      refine e_rise119 hw (show i < 6 by omega) ?_
      refine ev_istore (p' := 44) (ls' := [_, _, _, _, _, _, _, _]) i_119_42 rfl rfl (by decide) rfl ?_
      refine ev_iload (p' := 46) i_119_44 rfl rfl ?_
      refine ev_aload_n (p' := 47) i_119_46 rfl rfl ?_
      refine ev_iload (p' := 49) i_119_47 rfl rfl ?_
      refine ev_iload_n (p' := 50) i_119_49 rfl rfl ?_
      refine ev_iload_n (p' := 51) i_119_50 rfl rfl ?_
      refine ev_iload_n (p' := 52) i_119_51 rfl rfl ?_
      refine ev_iload (p' := 54) i_119_52 rfl rfl ?_
      refine ev_v5I (p' := 57) i_119_54 rfl cl_11_355_11 (by decide) is_1 (Nat.le_of_ble_eq_true rfl) (s_ma _ hw _ _ _ _ _) ?_
      refine ev_max (p' := 60) i_119_57 rfl cl_11_342_0 (Nat.le_of_ble_eq_true rfl) ?_
      refine ev_istore (p' := 62) (ls' := [_, _, _, _, _, _, _, _]) i_119_60 rfl rfl (by decide) rfl ?_
      refine ev_iinc (p' := 65) (ls' := [_, _, _, _, _, _, _, _]) i_119_62 rfl rfl rfl (by decide) (nI_inc _) rfl ?_
      refine ev_goto (tg := 6) i_119_65 rfl ?_
      refine ev_cast (by rw [AL_t (r := (fun k => rsN k t o p)) c19]) rfl rfl (ih (i + 1) _ (by omega))
theorem s_al {L : Nat} {π : Nat → Nat → Nat} {mi : Nat → Nat → Int32} {ml : Nat → Nat → Int64} {mr : Nat → Nat → Option Nat} (d : Nat) (hw : WR π mr) (fit t o p : Int32) : pm_ev gC (d + 5) 119 [.ref 1, .int fit, .int t, .int o, .int p] (WW L, mi, ml, mr) (some (.int (AL fit (fun k => rsN k t o p) 6))) (WW L, mi, ml, mr) := by
  refine ev_enter (q := q_119) rfl (Nat.le_of_ble_eq_true rfl) rfl ?_
  refine ev_iconst (p' := 1) (v := 0) i_119_0 rfl (by decide) ?_
  refine ev_istore (p' := 3) (ls' := [_, _, _, _, _, _, _, _]) i_119_1 rfl rfl (by decide) rfl ?_
  refine ev_iconst (p' := 4) (v := nI 0) i_119_3 rfl (by decide) ?_
  refine ev_istore (p' := 6) (ls' := [_, _, _, _, _, _, _, _]) i_119_4 rfl rfl (by decide) rfl ?_
  exact l_al hw ⟨rfl, rfl⟩ 6 0 _ (by decide)
theorem l_mr {d : Nat} {g : Nat → Prop} {mem : pm_M} {E : Option Value → pm_M → Prop} {t o p a : Nat} (ht : t < 10) (ho : o < 13) (hp : p < 4) (ha : a < 6) {fit s : Int32} (kk : Ev g (pm_ev g (d + 1)) E q_204 77 [some (.int fit), some (.int (nI o)), some (.int (nI t)), some (.int (nI p)), some (.int s), some (.int (nI a)), some (.int (MR fit (fun k => rsN k (nI t) (nI o) (nI p)) a 6)), some (.int (nI 6))] [] mem) : ∀ k i, i + k = 6 → Ev g (pm_ev g (d + 1)) E q_204 18 [some (.int fit), some (.int (nI o)), some (.int (nI t)), some (.int (nI p)), some (.int s), some (.int (nI a)), some (.int (MR fit (fun k => rsN k (nI t) (nI o) (nI p)) a i)), some (.int (nI i))] [] mem := by
  intro k
  induction k with
  | zero =>
    intro i hi
    have hi : i = 6 := by omega
    subst hi
    refine ev_iload (p' := 20) i_204_18 rfl rfl ?_
    refine ev_iconst (p' := 21) (v := 5) i_204_20 rfl (by decide) ?_
    refine ev_icmp_gt (p' := 24) (tg := 77) i_204_21 rfl rfl (fun c21 => ?_) (fun c21 => absurd (by decide) c21)
    exact kk
  | succ k ih =>
    intro i hi
    refine ev_iload (p' := 20) i_204_18 rfl rfl ?_
    refine ev_iconst (p' := 21) (v := 5) i_204_20 rfl (by decide) ?_
    refine ev_icmp_gt (p' := 24) (tg := 77) i_204_21 rfl rfl (fun c21 => absurd c21 (Int32.not_lt.mpr (nI_le (b := 5) (by omega) (by decide)))) (fun c21 => ?_)
    refine ev_iload (p' := 26) i_204_24 rfl rfl ?_
    refine ev_iload_n (p' := 27) i_204_26 rfl rfl ?_
    refine ev_iload (p' := 29) i_204_27 rfl rfl ?_
    refine ev_s2I (p' := 32) i_204_29 rfl cl_12_208_0 (by decide) (Nat.le_of_ble_eq_true rfl) (s_mhas _ _ _) ?_
    refine ev_if_eq (p' := 35) (tg := 67) i_204_32 rfl rfl (fun c32 => ?_) (fun c32 => ?_)
    · replace c32 := B0 c32
      refine ev_iconst (p' := 68) (v := 0) i_204_67 rfl (by decide) ?_
      refine ev_iadd (p' := 69) i_204_68 rfl ?_
      refine ev_istore (p' := 71) (ls' := [_, _, _, _, _, _, _, _]) i_204_69 rfl rfl (by decide) rfl ?_
      refine ev_iinc (p' := 74) (ls' := [_, _, _, _, _, _, _, _]) i_204_71 rfl rfl rfl (by decide) (nI_inc _) rfl ?_
      refine ev_goto (tg := 18) i_204_74 rfl ?_
      refine ev_cast (by rw [MR_f (r := (fun k => rsN k (nI t) (nI o) (nI p))) (fun z => c32 (HS_m.mpr z.1))]) rfl rfl (ih (i + 1) (by omega))
    · replace c32 := B1 c32
      refine ev_iload_n (p' := 36) i_204_35 rfl rfl ?_
      refine ev_iload (p' := 38) i_204_36 rfl rfl ?_
      refine ev_s2I (p' := 41) i_204_38 rfl cl_12_208_0 (by decide) (Nat.le_of_ble_eq_true rfl) (s_mhas _ _ _) ?_
      refine ev_if_eq (p' := 44) (tg := 67) i_204_41 rfl rfl (fun c41 => ?_) (fun c41 => ?_)
      · replace c41 := B0 c41
        refine ev_iconst (p' := 68) (v := 0) i_204_67 rfl (by decide) ?_
        refine ev_iadd (p' := 69) i_204_68 rfl ?_
        refine ev_istore (p' := 71) (ls' := [_, _, _, _, _, _, _, _]) i_204_69 rfl rfl (by decide) rfl ?_
        refine ev_iinc (p' := 74) (ls' := [_, _, _, _, _, _, _, _]) i_204_71 rfl rfl rfl (by decide) (nI_inc _) rfl ?_
        refine ev_goto (tg := 18) i_204_74 rfl ?_
        refine ev_cast (by rw [MR_f (r := (fun k => rsN k (nI t) (nI o) (nI p))) (fun z => c41 (HS_m.mpr z.2.1))]) rfl rfl (ih (i + 1) (by omega))
      · replace c41 := B1 c41
        refine ev_iload (p' := 46) i_204_44 rfl rfl ?_
        refine ev_iload_n (p' := 47) i_204_46 rfl rfl ?_
        refine ev_iload_n (p' := 48) i_204_47 rfl rfl ?_
        refine ev_iload_n (p' := 49) i_204_48 rfl rfl ?_
        refine ev_s4I (p' := 52) i_204_49 rfl cl_12_211_0 (by decide) (Nat.le_of_ble_eq_true rfl) (s_risesBy _ ha _ _ _) ?_
        refine ev_iload (p' := 54) i_204_52 rfl rfl ?_
        refine ev_iload_n (p' := 55) i_204_54 rfl rfl ?_
        refine ev_iload_n (p' := 56) i_204_55 rfl rfl ?_
        refine ev_iload_n (p' := 57) i_204_56 rfl rfl ?_
        refine ev_s4I (p' := 60) i_204_57 rfl cl_12_211_0 (by decide) (Nat.le_of_ble_eq_true rfl) (s_risesBy _ (show i < 6 by omega) _ _ _) ?_
        rw [mrE ha ht ho hp, mrE (show i < 6 by omega) ht ho hp]
        refine ev_icmp_ne (p' := 63) (tg := 67) i_204_60 rfl rfl (fun c60 => ?_) (fun c60 => ?_)
        · refine ev_iconst (p' := 68) (v := 0) i_204_67 rfl (by decide) ?_
          refine ev_iadd (p' := 69) i_204_68 rfl ?_
          refine ev_istore (p' := 71) (ls' := [_, _, _, _, _, _, _, _]) i_204_69 rfl rfl (by decide) rfl ?_
          refine ev_iinc (p' := 74) (ls' := [_, _, _, _, _, _, _, _]) i_204_71 rfl rfl rfl (by decide) (nI_inc _) rfl ?_
          refine ev_goto (tg := 18) i_204_74 rfl ?_
          refine ev_cast (by rw [MR_f (r := (fun k => rsN k (nI t) (nI o) (nI p))) (fun z => c60 z.2.2)]) rfl rfl (ih (i + 1) (by omega))
        · refine ev_iconst (p' := 64) (v := 1) i_204_63 rfl (by decide) ?_
          refine ev_goto (tg := 68) i_204_64 rfl ?_
          refine ev_iadd (p' := 69) i_204_68 rfl ?_
          refine ev_istore (p' := 71) (ls' := [_, _, _, _, _, _, _, _]) i_204_69 rfl rfl (by decide) rfl ?_
          refine ev_iinc (p' := 74) (ls' := [_, _, _, _, _, _, _, _]) i_204_71 rfl rfl rfl (by decide) (nI_inc _) rfl ?_
          refine ev_goto (tg := 18) i_204_74 rfl ?_
          refine ev_cast (by rw [MR_t (r := (fun k => rsN k (nI t) (nI o) (nI p))) ⟨HS_m.mp c32, HS_m.mp c41, Classical.not_not.mp c60⟩]) rfl rfl (ih (i + 1) (by omega))
theorem l_alike {d : Nat} {g : Nat → Prop} {mem : pm_M} {E : Option Value → pm_M → Prop} {t o p : Nat} (ht : t < 10) (ho : o < 13) (hp : p < 4) {fit : Int32} (hE : E (some (.int (AL fit (fun k => rsN k (nI t) (nI o) (nI p)) 6))) mem) : ∀ k i x6 x7, i + k = 6 → Ev g (pm_ev g (d + 1)) E q_204 6 [some (.int fit), some (.int (nI o)), some (.int (nI t)), some (.int (nI p)), some (.int (AL fit (fun k => rsN k (nI t) (nI o) (nI p)) i)), some (.int (nI i)), x6, x7] [] mem := by
  intro k
  induction k with
  | zero =>
    intro i x6 x7 hi
    have hi : i = 6 := by omega
    subst hi
    refine ev_iload (p' := 8) i_204_6 rfl rfl ?_
    refine ev_iconst (p' := 9) (v := 5) i_204_8 rfl (by decide) ?_
    refine ev_icmp_gt (p' := 12) (tg := 92) i_204_9 rfl rfl (fun c9 => ?_) (fun c9 => absurd (by decide) c9)
    refine ev_iload (p' := 94) i_204_92 rfl rfl ?_
    exact ev_iretI i_204_94 rfl hE
  | succ k ih =>
    intro i x6 x7 hi
    refine ev_iload (p' := 8) i_204_6 rfl rfl ?_
    refine ev_iconst (p' := 9) (v := 5) i_204_8 rfl (by decide) ?_
    refine ev_icmp_gt (p' := 12) (tg := 92) i_204_9 rfl rfl (fun c9 => absurd c9 (Int32.not_lt.mpr (nI_le (b := 5) (by omega) (by decide)))) (fun c9 => ?_)
    refine ev_iconst (p' := 13) (v := 0) i_204_12 rfl (by decide) ?_
    refine ev_istore (p' := 15) (ls' := [_, _, _, _, _, _, _, _]) i_204_13 rfl rfl (by decide) rfl ?_
    refine ev_iconst (p' := 16) (v := nI 0) i_204_15 rfl (by decide) ?_
    refine ev_istore (p' := 18) (ls' := [_, _, _, _, _, _, _, _]) i_204_16 rfl rfl (by decide) rfl ?_
    refine l_mr ht ho hp (show i < 6 by omega) ?_ 6 0 (by decide)
    refine ev_iload (p' := 79) i_204_77 rfl rfl ?_
    refine ev_iload (p' := 81) i_204_79 rfl rfl ?_
    refine ev_s2I (p' := 84) i_204_81 rfl cl_12_252_0 (by decide) (Nat.le_of_ble_eq_true rfl) (s_greater _ _ _) ?_
    refine ev_istore (p' := 86) (ls' := [_, _, _, _, _, _, _, _]) i_204_84 rfl rfl (by decide) rfl ?_
    refine ev_iinc (p' := 89) (ls' := [_, _, _, _, _, _, _, _]) i_204_86 rfl rfl rfl (by decide) (nI_inc _) rfl ?_
    refine ev_goto (tg := 6) i_204_89 rfl ?_
    refine ev_cast (by rw [AL_R (r := (fun k => rsN k (nI t) (nI o) (nI p)))]) rfl rfl (ih (i + 1) _ _ (by omega))
theorem s_alike {g : Nat → Prop} (d : Nat) {mem : pm_M} {t o p : Nat} (ht : t < 10) (ho : o < 13) (hp : p < 4) (fit : Int32) : pm_ev g (d + 2) 204 [.int fit, .int (nI o), .int (nI t), .int (nI p)] mem (some (.int (AL fit (fun k => rsN k (nI t) (nI o) (nI p)) 6))) mem := by
  refine ev_enter (q := q_204) rfl (Nat.le_of_ble_eq_true rfl) rfl ?_
  refine ev_iconst (p' := 1) (v := 0) i_204_0 rfl (by decide) ?_
  refine ev_istore (p' := 3) (ls' := [_, _, _, _, _, _, _, _]) i_204_1 rfl rfl (by decide) rfl ?_
  refine ev_iconst (p' := 4) (v := nI 0) i_204_3 rfl (by decide) ?_
  refine ev_istore (p' := 6) (ls' := [_, _, _, _, _, _, _, _]) i_204_4 rfl rfl (by decide) rfl ?_
  exact l_alike ht ho hp ⟨rfl, rfl⟩ 6 0 _ _ (by decide)
noncomputable def al_ (fit : Int32) (t o p : Nat) : Int32 := AL fit (fun k => rsN k (nI t) (nI o) (nI p)) 6
theorem l_lki {L : Nat} {π : Nat → Nat → Nat} {mi : Nat → Nat → Int32} {ml : Nat → Nat → Int64} {mr : Nat → Nat → Option Nat} {d : Nat} {E : Option Value → pm_M → Prop} (hw : WR π mr) {t o : Nat} {fit y : Int32} {s : Int32 × Int32} (kk : ∀ x8, Ev gC (pm_ev gC (d + 5)) E q_95 106 [some (.ref 1), some (.int y), some (.int fit), some (.int (nI t)), some (.int (lkI (al_ fit t) o 4 s).1), some (.int (lkI (al_ fit t) o 4 s).2), some (.int (nI o)), some (.int (nI 4)), x8] [] (WW L, mi, ml, mr)) : ∀ k i x8, i + k = 4 → Ev gC (pm_ev gC (d + 5)) E q_95 61 [some (.ref 1), some (.int y), some (.int fit), some (.int (nI t)), some (.int (lkI (al_ fit t) o i s).1), some (.int (lkI (al_ fit t) o i s).2), some (.int (nI o)), some (.int (nI i)), x8] [] (WW L, mi, ml, mr) := by
  intro k
  induction k with
  | zero =>
    intro i x8 hi
    have hi : i = 4 := by omega
    subst hi
    refine ev_iload (p' := 63) i_95_61 rfl rfl ?_
    refine ev_iconst (p' := 64) (v := 3) i_95_63 rfl (by decide) ?_
    refine ev_icmp_gt (p' := 67) (tg := 106) i_95_64 rfl rfl (fun c64 => ?_) (fun c64 => absurd (by decide) c64)
    exact kk _
  | succ k ih =>
    intro i x8 hi
    refine ev_iload (p' := 63) i_95_61 rfl rfl ?_
    refine ev_iconst (p' := 64) (v := 3) i_95_63 rfl (by decide) ?_
    refine ev_icmp_gt (p' := 67) (tg := 106) i_95_64 rfl rfl (fun c64 => absurd c64 (Int32.not_lt.mpr (nI_le (b := 3) (by omega) (by decide)))) (fun c64 => ?_)
    refine ev_aload_n (p' := 68) i_95_67 rfl rfl ?_
    refine ev_iload_n (p' := 69) i_95_68 rfl rfl ?_
    refine ev_iload_n (p' := 70) i_95_69 rfl rfl ?_
    refine ev_iload (p' := 72) i_95_70 rfl rfl ?_
    refine ev_iload (p' := 74) i_95_72 rfl rfl ?_
    refine ev_v4I (p' := 77) i_95_74 rfl cl_11_275_11 (by decide) is_1 (Nat.le_of_ble_eq_true rfl) (s_al _ hw _ _ _ _) ?_
    rw [show AL fit (fun k => rsN k (nI t) (nI o) (nI i)) 6 = al_ fit t o i from rfl]
    refine ev_istore (p' := 79) (ls' := [_, _, _, _, _, _, _, _, _]) i_95_77 rfl rfl (by decide) rfl ?_
    refine ev_iload (p' := 81) i_95_79 rfl rfl ?_
    refine ev_iload (p' := 83) i_95_81 rfl rfl ?_
    refine ev_icmp_ge (p' := 86) (tg := 100) i_95_83 rfl rfl (fun c83 => ?_) (fun c83 => ?_)
    · refine ev_iinc (p' := 103) (ls' := [_, _, _, _, _, _, _, _, _]) i_95_100 rfl rfl rfl (by decide) (nI_inc _) rfl ?_
      refine ev_goto (tg := 61) i_95_103 rfl ?_
      have e : lkI (al_ fit t) o (i + 1) s = lkI (al_ fit t) o i s := if_neg (Int32.not_lt.mpr c83)
      refine ev_cast (by rw [e]) rfl rfl (ih (i + 1) _ (by omega))
    · refine ev_bipush (p' := 88) (v := nI 10) i_95_86 rfl (by decide) ?_
      refine ev_iload (p' := 90) i_95_88 rfl rfl ?_
      refine ev_imulN (p' := 91) i_95_90 rfl ?_
      refine ev_iload (p' := 93) i_95_91 rfl rfl ?_
      refine ev_iaddN (p' := 94) i_95_93 rfl ?_
      refine ev_istore (p' := 96) (ls' := [_, _, _, _, _, _, _, _, _]) i_95_94 rfl rfl (by decide) rfl ?_
      refine ev_iload (p' := 98) i_95_96 rfl rfl ?_
      refine ev_istore (p' := 100) (ls' := [_, _, _, _, _, _, _, _, _]) i_95_98 rfl rfl (by decide) rfl ?_
      refine ev_iinc (p' := 103) (ls' := [_, _, _, _, _, _, _, _, _]) i_95_100 rfl rfl rfl (by decide) (nI_inc _) rfl ?_
      refine ev_goto (tg := 61) i_95_103 rfl ?_
      have e : lkI (al_ fit t) o (i + 1) s = (nI (10 * o + i), al_ fit t o i) := if_pos (Int32.not_le.mp c83)
      refine ev_cast (by rw [e]) rfl rfl (ih (i + 1) _ (by omega))
theorem l_lko {L : Nat} {π : Nat → Nat → Nat} {mi : Nat → Nat → Int32} {ml : Nat → Nat → Int64} {mr : Nat → Nat → Option Nat} {d : Nat} {E : Option Value → pm_M → Prop} (hw : WR π mr) {t : Nat} {fit y : Int32} {s : Int32 × Int32} (hE : E (some (.int (lkO (al_ fit t) 13 s).1)) (WW L, mi, ml, mr)) : ∀ k i x7 x8, i + k = 13 → Ev gC (pm_ev gC (d + 5)) E q_95 51 [some (.ref 1), some (.int y), some (.int fit), some (.int (nI t)), some (.int (lkO (al_ fit t) i s).1), some (.int (lkO (al_ fit t) i s).2), some (.int (nI i)), x7, x8] [] (WW L, mi, ml, mr) := by
  intro k
  induction k with
  | zero =>
    intro i x7 x8 hi
    have hi : i = 13 := by omega
    subst hi
    refine ev_iload (p' := 53) i_95_51 rfl rfl ?_
    refine ev_bipush (p' := 55) (v := 12) i_95_53 rfl (by decide) ?_
    refine ev_icmp_gt (p' := 58) (tg := 112) i_95_55 rfl rfl (fun c55 => ?_) (fun c55 => absurd (by decide) c55)
    refine ev_iload (p' := 114) i_95_112 rfl rfl ?_
    exact ev_iretI i_95_114 rfl hE
  | succ k ih =>
    intro i x7 x8 hi
    refine ev_iload (p' := 53) i_95_51 rfl rfl ?_
    refine ev_bipush (p' := 55) (v := 12) i_95_53 rfl (by decide) ?_
    refine ev_icmp_gt (p' := 58) (tg := 112) i_95_55 rfl rfl (fun c55 => absurd c55 (Int32.not_lt.mpr (nI_le (b := 12) (by omega) (by decide)))) (fun c55 => ?_)
    refine ev_iconst (p' := 59) (v := nI 0) i_95_58 rfl (by decide) ?_
    refine ev_istore (p' := 61) (ls' := [_, _, _, _, _, _, _, _, _]) i_95_59 rfl rfl (by decide) rfl ?_
    refine ev_cast (by rw [lkI_0]) rfl rfl (l_lki (o := i) (s := lkO (al_ fit t) i s) hw (fun x8 => ?_) 4 0 _ (by decide))
    refine ev_iinc (p' := 109) (ls' := [_, _, _, _, _, _, _, _, _]) i_95_106 rfl rfl rfl (by decide) (nI_inc _) rfl ?_
    refine ev_goto (tg := 51) i_95_109 rfl ?_
    refine ev_cast (by rw [lkO_s]) rfl rfl (ih (i + 1) _ _ (by omega))
noncomputable def lookN (A : AV) (i t : Nat) : Int32 := @ite _ (FS A (nI i) = 0) (Classical.propDecidable _) (-1) (lkO (al_ (FS A (nI i)) t) 13 (-1, 7)).1
theorem C_look_bad (L d : Nat) (A : AV) (hA : okA A) (x : Int32) (hb : ¬ (0 ≤ x ∧ x ≤ nI A.1.1.1 - 1)) : Cst L (d + 24) 95 [.int x] A (.int (-2)) (badA A) := by
  refine C_of (q := q_95) rfl (Nat.le_of_ble_eq_true rfl) rfl (fun π mi ml mr hw hc => ?_)
  have hn := hc.hn
  have h7 := hA.n7
  refine ev_aload_n (p' := 1) i_95_0 rfl rfl ?_
  refine ev_iload_n (p' := 2) i_95_1 rfl rfl ?_
  refine ev_v1I (p' := 5) i_95_2 rfl cl_11_158_11 (by decide) is_1 (Nat.le_of_ble_eq_true rfl) (s_noPiece _ hw hn _) ?_
  refine ev_if_eq (p' := 8) (tg := 13) i_95_5 rfl rfl (fun c5 => ?_) (fun c5 => ?_)
  · replace c5 := B0 c5
    exact absurd (ni c5) hb
  · replace c5 := B1 c5
    refine ev_aload_n (p' := 9) i_95_8 rfl rfl ?_
    refine ev_v0I (p' := 12) i_95_9 rfl cl_11_93_11 (by decide) is_1 (Nat.le_of_ble_eq_true rfl) (s_bad _) ?_
    exact ev_iretI i_95_12 rfl (EC.mk rfl hw (hc.bad hw))
theorem R_look_bad (L d : Nat) (A : AV) (hA : okA A) (x : Int32) (hb : ¬ (0 ≤ x ∧ x ≤ nI A.1.1.1 - 1)) : Rst L (d + 24) 205 [.int x] A (.int (-2)) (badA A) := by
  refine R_of (q := q_205) rfl (Nat.le_of_ble_eq_true rfl) rfl (fun π mi ml mr hw hc => ?_)
  have hn := hc.hn
  have h7 := hA.n7
  refine ev_aload_n (p' := 1) i_205_0 rfl rfl ?_
  refine ev_iload_n (p' := 2) i_205_1 rfl rfl ?_
  refine ev_v1I (p' := 5) i_205_2 rfl cl_12_240_12 (by decide) is_285 (Nat.le_of_ble_eq_true rfl) (s_isPiece (π := π) _ hn _) ?_
  refine ev_if_ne (p' := 8) (tg := 13) i_205_5 rfl rfl (fun c5 => ?_) (fun c5 => ?_)
  · replace c5 := B1 c5
    exact absurd (c5) hb
  · replace c5 := B0n c5
    refine ev_aload_n (p' := 9) i_205_8 rfl rfl ?_
    refine ev_v0I (p' := 12) i_205_9 rfl cl_12_119_12 (by decide) is_285 (Nat.le_of_ble_eq_true rfl) (s_mbad _ hw) ?_
    exact ev_iretI i_205_12 rfl (ER.mk rfl (hc.bad h7))
theorem C_look (L d : Nat) (A : AV) (hA : okA A) {i t : Nat} (hi : i < A.1.1.1) (ht : t < 10) (et : A.1.1.2.2.2 2 i = nI t) : Cst L (d + 24) 95 [.int (nI i)] A (.int (lookN A i t)) (A) := by
  refine C_of (q := q_95) rfl (Nat.le_of_ble_eq_true rfl) rfl (fun π mi ml mr hw hc => ?_)
  have hn := hc.hn
  have h7 := hA.n7
  refine ev_aload_n (p' := 1) i_95_0 rfl rfl ?_
  refine ev_iload_n (p' := 2) i_95_1 rfl rfl ?_
  refine ev_v1I (p' := 5) i_95_2 rfl cl_11_158_11 (by decide) is_1 (Nat.le_of_ble_eq_true rfl) (s_noPiece _ hw hn _) ?_
  refine ev_if_eq (p' := 8) (tg := 13) i_95_5 rfl rfl (fun c5 => ?_) (fun c5 => absurd (B_f (nj (inn hi h7))) c5)
  refine ev_aload_n (p' := 14) i_95_13 rfl rfl ?_
  refine ev_iload_n (p' := 15) i_95_14 rfl rfl ?_
  obtain ⟨mi2, e2, h2⟩ := s_kfit (L := L) (d + 18) hw hA (nI i) hc
  refine ev_v1I (p' := 18) i_95_15 rfl cl_11_272_11 (by decide) is_1 (Nat.le_of_ble_eq_true rfl) (e2) ?_
  refine ev_istore_n (p' := 19) (ls' := [_, _, _, _, _, _, _, _, _]) i_95_18 rfl rfl (by decide) rfl ?_
  refine ev_iload_n (p' := 20) i_95_19 rfl rfl ?_
  refine ev_if_ne (p' := 23) (tg := 25) i_95_20 rfl rfl (fun c20 => ?_) (fun c20 => ?_)
  · refine ev_aload_n (p' := 26) i_95_25 rfl rfl ?_
    refine ev_getr (p' := 29) i_95_26 rfl fl_11_78 rfl is_1 (rf_1_0 hw) ?_
    refine ev_getr (p' := 32) i_95_29 rfl fl_11_97 rfl (is_sp sp_17) (hw.page sp_17) ?_
    refine ev_getr (p' := 35) i_95_32 rfl fl_11_161 rfl (is_pg pg_33) (hw.pieces pg_33) ?_
    refine ev_iload_n (p' := 36) i_95_35 rfl rfl ?_
    refine ev_aaldN (p' := 37) 25 i_95_36 rfl (is_pgp pg_33) (by decide) (len_pgp pg_33) (by omega) (by decide) (hw.piece pg_33 (by omega)) ?_
    refine ev_geti (p' := 40) i_95_37 rfl fl_11_189 rfl (is_pc pg_33 (by omega)) ?_
    rw [h2.f hi (by decide), show fx A.1.1.2.2.2 2 i = nI t from et]
    refine ev_istore_n (p' := 41) (ls' := [_, _, _, _, _, _, _, _, _]) i_95_40 rfl rfl (by decide) rfl ?_
    refine ev_iconst (p' := 42) (v := -1) i_95_41 rfl (by decide) ?_
    refine ev_istore (p' := 44) (ls' := [_, _, _, _, _, _, _, _, _]) i_95_42 rfl rfl (by decide) rfl ?_
    refine ev_bipush (p' := 46) (v := 7) i_95_44 rfl (by decide) ?_
    refine ev_istore (p' := 48) (ls' := [_, _, _, _, _, _, _, _, _]) i_95_46 rfl rfl (by decide) rfl ?_
    refine ev_iconst (p' := 49) (v := nI 0) i_95_48 rfl (by decide) ?_
    refine ev_istore (p' := 51) (ls' := [_, _, _, _, _, _, _, _, _]) i_95_49 rfl rfl (by decide) rfl ?_
    refine ev_cast (by rw [lkO_0]) rfl rfl (l_lko (s := (-1, 7)) hw (EC.mk (congrArg Value.int (@if_neg _ (Classical.propDecidable _) c20 _ _ _).symm) hw h2) 13 0 _ _ (by decide))
  · refine ev_iconst (p' := 24) (v := -1) i_95_23 rfl (by decide) ?_
    exact ev_iretI i_95_24 rfl (EC.mk (congrArg Value.int (@if_pos _ (Classical.propDecidable _) (Classical.not_not.mp c20) _ _ _).symm) hw h2)
theorem l_mlki {L : Nat} {π : Nat → Nat → Nat} {mi : Nat → Nat → Int32} {ml : Nat → Nat → Int64} {mr : Nat → Nat → Option Nat} {d : Nat} {E : Option Value → pm_M → Prop} (hw : WR π mr) {t o i0 : Nat} (ht : t < 10) (ho : o < 13) (hi0 : i0 < 7) (et : mi 289 i0 = nI t) {fit : Int32} {s : Int32 × Int32} (kk : ∀ x7, Ev gR (pm_ev gR (d + 2)) E q_205 100 [some (.ref 285), some (.int (nI i0)), some (.int fit), some (.int (lkI (al_ fit t) o 4 s).1), some (.int (lkI (al_ fit t) o 4 s).2), some (.int (nI o)), some (.int (nI 4)), x7] [] (WW L, mi, ml, mr)) : ∀ k i x7, i + k = 4 → Ev gR (pm_ev gR (d + 2)) E q_205 43 [some (.ref 285), some (.int (nI i0)), some (.int fit), some (.int (lkI (al_ fit t) o i s).1), some (.int (lkI (al_ fit t) o i s).2), some (.int (nI o)), some (.int (nI i)), x7] [] (WW L, mi, ml, mr) := by
  intro k
  induction k with
  | zero =>
    intro i x7 hi
    have hi : i = 4 := by omega
    subst hi
    refine ev_iload (p' := 45) i_205_43 rfl rfl ?_
    refine ev_iconst (p' := 46) (v := 4) i_205_45 rfl (by decide) ?_
    refine ev_icmp_ge (p' := 49) (tg := 100) i_205_46 rfl rfl (fun c46 => ?_) (fun c46 => absurd (by decide) c46)
    exact kk _
  | succ k ih =>
    intro i x7 hi
    refine ev_iload (p' := 45) i_205_43 rfl rfl ?_
    refine ev_iconst (p' := 46) (v := 4) i_205_45 rfl (by decide) ?_
    refine ev_icmp_ge (p' := 49) (tg := 100) i_205_46 rfl rfl (fun c46 => absurd c46 (nI_ge (b := 4) (by omega) (by decide))) (fun c46 => ?_)
    refine ev_iload_n (p' := 50) i_205_49 rfl rfl ?_
    refine ev_iload (p' := 52) i_205_50 rfl rfl ?_
    refine ev_aload_n (p' := 53) i_205_52 rfl rfl ?_
    refine ev_getr (p' := 56) i_205_53 rfl fl_12_19 rfl is_285 (rf_285_8 hw) ?_
    refine ev_iload_n (p' := 57) i_205_56 rfl rfl ?_
    refine ev_ialdN (p' := 58) i_205_57 rfl is_289 len_289 (by omega) (by decide) ?_
    rw [et]
    refine ev_iload (p' := 60) i_205_58 rfl rfl ?_
    refine ev_s4I (p' := 63) i_205_60 rfl cl_12_294_0 (by decide) (Nat.le_of_ble_eq_true rfl) (s_alike _ ht ho (show i < 4 by omega) _) ?_
    rw [show AL fit (fun k => rsN k (nI t) (nI o) (nI i)) 6 = al_ fit t o i from rfl]
    refine ev_istore (p' := 65) (ls' := [_, _, _, _, _, _, _, _]) i_205_63 rfl rfl (by decide) rfl ?_
    refine ev_iload (p' := 67) i_205_65 rfl rfl ?_
    refine ev_iload (p' := 69) i_205_67 rfl rfl ?_
    refine ev_icmp_ge (p' := 72) (tg := 83) i_205_69 rfl rfl (fun c69 => ?_) (fun c69 => ?_)
    · refine ev_iload_n (p' := 84) i_205_83 rfl rfl ?_
      refine ev_istore_n (p' := 85) (ls' := [_, _, _, _, _, _, _, _]) i_205_84 rfl rfl (by decide) rfl ?_
      refine ev_iload (p' := 87) i_205_85 rfl rfl ?_
      refine ev_iload (p' := 89) i_205_87 rfl rfl ?_
      refine ev_s2I (p' := 92) i_205_89 rfl cl_12_225_0 (by decide) (Nat.le_of_ble_eq_true rfl) (s_lesser _ _ _) ?_
      refine ev_istore (p' := 94) (ls' := [_, _, _, _, _, _, _, _]) i_205_92 rfl rfl (by decide) rfl ?_
      refine ev_iinc (p' := 97) (ls' := [_, _, _, _, _, _, _, _]) i_205_94 rfl rfl rfl (by decide) (nI_inc _) rfl ?_
      refine ev_goto (tg := 43) i_205_97 rfl ?_
      have e := lk_R (al := al_ fit t) (o := o) (p := i) (s := lkI (al_ fit t) o i s)
      rw [if_neg (Int32.not_lt.mpr c69)] at e
      refine ev_cast (by rw [show lkI (al_ fit t) o (i + 1) s = _ from e]) rfl rfl (ih (i + 1) _ (by omega))
    · refine ev_bipush (p' := 74) (v := nI 10) i_205_72 rfl (by decide) ?_
      refine ev_iload (p' := 76) i_205_74 rfl rfl ?_
      refine ev_imulN (p' := 77) i_205_76 rfl ?_
      refine ev_iload (p' := 79) i_205_77 rfl rfl ?_
      refine ev_iaddN (p' := 80) i_205_79 rfl ?_
      refine ev_goto (tg := 84) i_205_80 rfl ?_
      refine ev_istore_n (p' := 85) (ls' := [_, _, _, _, _, _, _, _]) i_205_84 rfl rfl (by decide) rfl ?_
      refine ev_iload (p' := 87) i_205_85 rfl rfl ?_
      refine ev_iload (p' := 89) i_205_87 rfl rfl ?_
      refine ev_s2I (p' := 92) i_205_89 rfl cl_12_225_0 (by decide) (Nat.le_of_ble_eq_true rfl) (s_lesser _ _ _) ?_
      refine ev_istore (p' := 94) (ls' := [_, _, _, _, _, _, _, _]) i_205_92 rfl rfl (by decide) rfl ?_
      refine ev_iinc (p' := 97) (ls' := [_, _, _, _, _, _, _, _]) i_205_94 rfl rfl rfl (by decide) (nI_inc _) rfl ?_
      refine ev_goto (tg := 43) i_205_97 rfl ?_
      have e := lk_R (al := al_ fit t) (o := o) (p := i) (s := lkI (al_ fit t) o i s)
      rw [if_pos (Int32.not_le.mp c69)] at e
      refine ev_cast (by rw [show lkI (al_ fit t) o (i + 1) s = _ from e]) rfl rfl (ih (i + 1) _ (by omega))
theorem l_mlko {L : Nat} {π : Nat → Nat → Nat} {mi : Nat → Nat → Int32} {ml : Nat → Nat → Int64} {mr : Nat → Nat → Option Nat} {d : Nat} {E : Option Value → pm_M → Prop} (hw : WR π mr) {t i0 : Nat} (ht : t < 10) (hi0 : i0 < 7) (et : mi 289 i0 = nI t) {fit : Int32} (hf : ¬ fit = 0) {s : Int32 × Int32} (hE : E (some (.int (lkO (al_ fit t) 13 s).1)) (WW L, mi, ml, mr)) : ∀ k i x6 x7, i + k = 13 → Ev gR (pm_ev gR (d + 2)) E q_205 29 [some (.ref 285), some (.int (nI i0)), some (.int fit), some (.int (lkO (al_ fit t) i s).1), some (.int (lkO (al_ fit t) i s).2), some (.int (nI i)), x6, x7] [] (WW L, mi, ml, mr) := by
  intro k
  induction k with
  | zero =>
    intro i x6 x7 hi
    have hi : i = 13 := by omega
    subst hi
    refine ev_iload (p' := 31) i_205_29 rfl rfl ?_
    refine ev_bipush (p' := 33) (v := 12) i_205_31 rfl (by decide) ?_
    refine ev_icmp_gt (p' := 36) (tg := 106) i_205_33 rfl rfl (fun c33 => ?_) (fun c33 => absurd (by decide) c33)
    refine ev_iload_n (p' := 107) i_205_106 rfl rfl ?_
    exact ev_iretI i_205_107 rfl hE
  | succ k ih =>
    intro i x6 x7 hi
    refine ev_iload (p' := 31) i_205_29 rfl rfl ?_
    refine ev_bipush (p' := 33) (v := 12) i_205_31 rfl (by decide) ?_
    refine ev_icmp_gt (p' := 36) (tg := 106) i_205_33 rfl rfl (fun c33 => absurd c33 (Int32.not_lt.mpr (nI_le (b := 12) (by omega) (by decide)))) (fun c33 => ?_)
    refine ev_iload_n (p' := 37) i_205_36 rfl rfl ?_
    refine ev_if_eq (p' := 40) (tg := 106) i_205_37 rfl rfl (fun c37 => absurd c37 (hf)) (fun c37 => ?_)
    refine ev_iconst (p' := 41) (v := nI 0) i_205_40 rfl (by decide) ?_
    refine ev_istore (p' := 43) (ls' := [_, _, _, _, _, _, _, _]) i_205_41 rfl rfl (by decide) rfl ?_
    refine ev_cast (by rw [lkI_0]) rfl rfl (l_mlki (o := i) (s := lkO (al_ fit t) i s) hw ht (show i < 13 by omega) hi0 et (fun x7 => ?_) 4 0 _ (by decide))
    refine ev_iinc (p' := 103) (ls' := [_, _, _, _, _, _, _, _]) i_205_100 rfl rfl rfl (by decide) (nI_inc _) rfl ?_
    refine ev_goto (tg := 29) i_205_103 rfl ?_
    refine ev_cast (by rw [lkO_s]) rfl rfl (ih (i + 1) _ _ (by omega))
theorem al_7 {fit : Int32} {t o p : Nat} : al_ fit t o p < 7 ∧ al_ fit t o p < 1048576 := by
  obtain ⟨c, h1, h2⟩ := AL_nat fit (fun k => rsN k (nI t) (nI o) (nI p)) 6
  unfold al_
  rw [h2]
  exact ⟨nI_lt (b := 7) (by omega) (by decide), nI_lt (b := 1048576) (by omega) (by decide)⟩
theorem R_look (L d : Nat) (A : AV) (hA : okA A) {i t : Nat} (hi : i < A.1.1.1) (ht : t < 10) (et : A.1.1.2.2.2 2 i = nI t) : Rst L (d + 24) 205 [.int (nI i)] A (.int (lookN A i t)) (A) := by
  refine R_of (q := q_205) rfl (Nat.le_of_ble_eq_true rfl) rfl (fun π mi ml mr hw hc => ?_)
  have hn := hc.hn
  have h7 := hA.n7
  refine ev_aload_n (p' := 1) i_205_0 rfl rfl ?_
  refine ev_iload_n (p' := 2) i_205_1 rfl rfl ?_
  refine ev_v1I (p' := 5) i_205_2 rfl cl_12_240_12 (by decide) is_285 (Nat.le_of_ble_eq_true rfl) (s_isPiece (π := π) _ hn _) ?_
  refine ev_if_ne (p' := 8) (tg := 13) i_205_5 rfl rfl (fun c5 => ?_) (fun c5 => absurd (B_tn (inn hi h7)) c5)
  refine ev_aload_n (p' := 14) i_205_13 rfl rfl ?_
  refine ev_iload_n (p' := 15) i_205_14 rfl rfl ?_
  obtain ⟨mi2, e2, h2⟩ := s_kindsOf (L := L) (d + 21) hw hA (nI i) hc
  refine ev_v1I (p' := 18) i_205_15 rfl cl_12_291_12 (by decide) is_285 (Nat.le_of_ble_eq_true rfl) (e2) ?_
  refine ev_istore_n (p' := 19) (ls' := [_, _, _, _, _, _, _, _]) i_205_18 rfl rfl (by decide) rfl ?_
  refine ev_iconst (p' := 20) (v := -1) i_205_19 rfl (by decide) ?_
  refine ev_istore_n (p' := 21) (ls' := [_, _, _, _, _, _, _, _]) i_205_20 rfl rfl (by decide) rfl ?_
  refine ev_ldc_w (p' := 24) (v := 1048576) i_205_21 rfl (by decide +kernel) ?_
  refine ev_istore (p' := 26) (ls' := [_, _, _, _, _, _, _, _]) i_205_24 rfl rfl (by decide) rfl ?_
  refine ev_iconst (p' := 27) (v := nI 0) i_205_26 rfl (by decide) ?_
  refine ev_istore (p' := 29) (ls' := [_, _, _, _, _, _, _, _]) i_205_27 rfl rfl (by decide) rfl ?_
  by_cases hf : FS A (nI i) = 0
  · rw [hf]
    refine ev_iload (p' := 31) i_205_29 rfl rfl ?_
    refine ev_bipush (p' := 33) (v := 12) i_205_31 rfl (by decide) ?_
    refine ev_icmp_gt (p' := 36) (tg := 106) i_205_33 rfl rfl (fun c33 => absurd c33 (by decide)) (fun c33 => ?_)
    refine ev_iload_n (p' := 37) i_205_36 rfl rfl ?_
    refine ev_if_eq (p' := 40) (tg := 106) i_205_37 rfl rfl (fun c37 => ?_) (fun c37 => absurd (rfl) c37)
    refine ev_iload_n (p' := 107) i_205_106 rfl rfl ?_
    exact ev_iretI i_205_107 rfl (ER.mk (congrArg Value.int (@if_pos _ (Classical.propDecidable _) hf _ _ _).symm) h2)
  · refine ev_cast (by rw [lkO_0]) rfl rfl (l_mlko (s := (-1, 1048576)) hw ht (show i < 7 by omega) ((h2.f (j := 2) hi (by decide)).trans et) hf (ER.mk (congrArg Value.int ((congrArg Prod.fst (lkO_init al_7.2 al_7.1 12)).trans (@if_neg _ (Classical.propDecidable _) hf _ _ _).symm)) h2) 13 0 _ _ (by decide))
theorem Q_look (L : Nat) (A : AV) (hA : okA A) (x : Int32) : SameI L 95 205 [.int x] A := by
  by_cases h : 0 ≤ x ∧ x ≤ nI A.1.1.1 - 1
  · obtain ⟨i, hi, rfl⟩ := ofn hA.n7 h
    obtain ⟨t, -, ht, et⟩ := (hA.1.1.2.2.2 i hi).2.2.1
    exact ⟨_, A, hA, fun d => C_look L d A hA hi ht et, fun d => R_look L d A hA hi ht et⟩
  · exact ⟨_, badA A, hA.bad, fun d => C_look_bad L d A hA x h, fun d => R_look_bad L d A hA x h⟩
