/-! ===== how high: measure, visibleAt .. ===== -/
def rsN (k : Nat) (t o p : Int32) : Int32 := match k with
  | 1 => tent t o
  | 2 => box t o
  | 3 => flap t o
  | 4 => stage t o
  | 5 => wheel t o p
  | _ => vee t o
def rcN (k : Nat) (a t : Int32) : Int32 := match k with
  | 2 => t + a + 2 * a
  | 3 => t + a - a
  | 4 => t + a + 2 * a
  | 5 => t + a - a + 3
  | _ => t + a
def brN (k : Nat) : Int32 := match k with
  | 2 => 200
  | 4 => 400
  | 5 => 75
  | _ => 150
theorem s_rises {L : Nat} {π : Nat → Nat → Nat} {mi : Nat → Nat → Int32} {ml : Nat → Nat → Int64} {mr : Nat → Nat → Option Nat} (d : Nat) (hw : WR π mr) {P : Nat} (hP : P ∈ k_pg) {i k : Nat} (hi : i < 7) (hk6 : k < 6) (hk : mi (P + 3 + i) 0 = nI k) (o : Int32) : pm_ev gC (d + 4) 15 [.ref P, .int (nI i), .int o] (WW L, mi, ml, mr) (some (.int (rsN k (mi (P + 3 + i) 2) o (mi (P + 3 + i) 5)))) (WW L, mi, ml, mr) := by
  refine ev_enter (q := q_15) rfl (Nat.le_of_ble_eq_true rfl) rfl ?_
  match k, hk6, hk with
  | 0, _, hk =>
    refine ev_aload_n (p' := 1) i_15_0 rfl rfl ?_
    refine ev_getr (p' := 4) i_15_1 rfl fl_2_31 rfl (is_pg hP) (hw.kinds hP) ?_
    refine ev_aload_n (p' := 5) i_15_4 rfl rfl ?_
    refine ev_getr (p' := 8) i_15_5 rfl fl_2_11 rfl (is_pg hP) (hw.pieces hP) ?_
    refine ev_iload_n (p' := 9) i_15_8 rfl rfl ?_
    refine ev_aaldN (p' := 10) 25 i_15_9 rfl (is_pgp hP) (by decide) (len_pgp hP) (by omega) (by decide) (hw.piece hP (by omega)) ?_
    refine ev_geti (p' := 13) i_15_10 rfl fl_2_44 rfl (is_pc hP (by omega)) ?_
    rw [hk]
    refine ev_aaldN (p' := 14) 26 i_15_13 rfl is_10 (by decide) len_10 (by decide) (by decide) (rf_10_0 hw) ?_
    refine ev_aload_n (p' := 15) i_15_14 rfl rfl ?_
    refine ev_getr (p' := 18) i_15_15 rfl fl_2_11 rfl (is_pg hP) (hw.pieces hP) ?_
    refine ev_iload_n (p' := 19) i_15_18 rfl rfl ?_
    refine ev_aaldN (p' := 20) 25 i_15_19 rfl (is_pgp hP) (by decide) (len_pgp hP) (by omega) (by decide) (hw.piece hP (by omega)) ?_
    refine ev_geti (p' := 23) i_15_20 rfl fl_2_50 rfl (is_pc hP (by omega)) ?_
    refine ev_iload_n (p' := 24) i_15_23 rfl rfl ?_
    refine ev_aload_n (p' := 25) i_15_24 rfl rfl ?_
    refine ev_getr (p' := 28) i_15_25 rfl fl_2_11 rfl (is_pg hP) (hw.pieces hP) ?_
    refine ev_iload_n (p' := 29) i_15_28 rfl rfl ?_
    refine ev_aaldN (p' := 30) 25 i_15_29 rfl (is_pgp hP) (by decide) (len_pgp hP) (by omega) (by decide) (hw.piece hP (by omega)) ?_
    refine ev_geti (p' := 33) i_15_30 rfl fl_2_59 rfl (is_pc hP (by omega)) ?_
    refine ev_v3I (p' := 36) i_15_33 rfl cl_2_99_8 (by decide) is_11 (Nat.le_of_ble_eq_true rfl) (s_vee_8 _ _ _ _ is_11) ?_
    exact ev_iretI i_15_36 rfl ⟨rfl, rfl⟩
  | 1, _, hk =>
    refine ev_aload_n (p' := 1) i_15_0 rfl rfl ?_
    refine ev_getr (p' := 4) i_15_1 rfl fl_2_31 rfl (is_pg hP) (hw.kinds hP) ?_
    refine ev_aload_n (p' := 5) i_15_4 rfl rfl ?_
    refine ev_getr (p' := 8) i_15_5 rfl fl_2_11 rfl (is_pg hP) (hw.pieces hP) ?_
    refine ev_iload_n (p' := 9) i_15_8 rfl rfl ?_
    refine ev_aaldN (p' := 10) 25 i_15_9 rfl (is_pgp hP) (by decide) (len_pgp hP) (by omega) (by decide) (hw.piece hP (by omega)) ?_
    refine ev_geti (p' := 13) i_15_10 rfl fl_2_44 rfl (is_pc hP (by omega)) ?_
    rw [hk]
    refine ev_aaldN (p' := 14) 26 i_15_13 rfl is_10 (by decide) len_10 (by decide) (by decide) (rf_10_1 hw) ?_
    refine ev_aload_n (p' := 15) i_15_14 rfl rfl ?_
    refine ev_getr (p' := 18) i_15_15 rfl fl_2_11 rfl (is_pg hP) (hw.pieces hP) ?_
    refine ev_iload_n (p' := 19) i_15_18 rfl rfl ?_
    refine ev_aaldN (p' := 20) 25 i_15_19 rfl (is_pgp hP) (by decide) (len_pgp hP) (by omega) (by decide) (hw.piece hP (by omega)) ?_
    refine ev_geti (p' := 23) i_15_20 rfl fl_2_50 rfl (is_pc hP (by omega)) ?_
    refine ev_iload_n (p' := 24) i_15_23 rfl rfl ?_
    refine ev_aload_n (p' := 25) i_15_24 rfl rfl ?_
    refine ev_getr (p' := 28) i_15_25 rfl fl_2_11 rfl (is_pg hP) (hw.pieces hP) ?_
    refine ev_iload_n (p' := 29) i_15_28 rfl rfl ?_
    refine ev_aaldN (p' := 30) 25 i_15_29 rfl (is_pgp hP) (by decide) (len_pgp hP) (by omega) (by decide) (hw.piece hP (by omega)) ?_
    refine ev_geti (p' := 33) i_15_30 rfl fl_2_59 rfl (is_pc hP (by omega)) ?_
    refine ev_v3I (p' := 36) i_15_33 rfl cl_2_99_6 (by decide) is_12 (Nat.le_of_ble_eq_true rfl) (s_tent_6 _ _ _ _ is_12) ?_
    exact ev_iretI i_15_36 rfl ⟨rfl, rfl⟩
  | 2, _, hk =>
    refine ev_aload_n (p' := 1) i_15_0 rfl rfl ?_
    refine ev_getr (p' := 4) i_15_1 rfl fl_2_31 rfl (is_pg hP) (hw.kinds hP) ?_
    refine ev_aload_n (p' := 5) i_15_4 rfl rfl ?_
    refine ev_getr (p' := 8) i_15_5 rfl fl_2_11 rfl (is_pg hP) (hw.pieces hP) ?_
    refine ev_iload_n (p' := 9) i_15_8 rfl rfl ?_
    refine ev_aaldN (p' := 10) 25 i_15_9 rfl (is_pgp hP) (by decide) (len_pgp hP) (by omega) (by decide) (hw.piece hP (by omega)) ?_
    refine ev_geti (p' := 13) i_15_10 rfl fl_2_44 rfl (is_pc hP (by omega)) ?_
    rw [hk]
    refine ev_aaldN (p' := 14) 26 i_15_13 rfl is_10 (by decide) len_10 (by decide) (by decide) (rf_10_2 hw) ?_
    refine ev_aload_n (p' := 15) i_15_14 rfl rfl ?_
    refine ev_getr (p' := 18) i_15_15 rfl fl_2_11 rfl (is_pg hP) (hw.pieces hP) ?_
    refine ev_iload_n (p' := 19) i_15_18 rfl rfl ?_
    refine ev_aaldN (p' := 20) 25 i_15_19 rfl (is_pgp hP) (by decide) (len_pgp hP) (by omega) (by decide) (hw.piece hP (by omega)) ?_
    refine ev_geti (p' := 23) i_15_20 rfl fl_2_50 rfl (is_pc hP (by omega)) ?_
    refine ev_iload_n (p' := 24) i_15_23 rfl rfl ?_
    refine ev_aload_n (p' := 25) i_15_24 rfl rfl ?_
    refine ev_getr (p' := 28) i_15_25 rfl fl_2_11 rfl (is_pg hP) (hw.pieces hP) ?_
    refine ev_iload_n (p' := 29) i_15_28 rfl rfl ?_
    refine ev_aaldN (p' := 30) 25 i_15_29 rfl (is_pgp hP) (by decide) (len_pgp hP) (by omega) (by decide) (hw.piece hP (by omega)) ?_
    refine ev_geti (p' := 33) i_15_30 rfl fl_2_59 rfl (is_pc hP (by omega)) ?_
    refine ev_v3I (p' := 36) i_15_33 rfl cl_2_99_0 (by decide) is_13 (Nat.le_of_ble_eq_true rfl) (s_box_0 _ _ _ _ is_13) ?_
    exact ev_iretI i_15_36 rfl ⟨rfl, rfl⟩
  | 3, _, hk =>
    refine ev_aload_n (p' := 1) i_15_0 rfl rfl ?_
    refine ev_getr (p' := 4) i_15_1 rfl fl_2_31 rfl (is_pg hP) (hw.kinds hP) ?_
    refine ev_aload_n (p' := 5) i_15_4 rfl rfl ?_
    refine ev_getr (p' := 8) i_15_5 rfl fl_2_11 rfl (is_pg hP) (hw.pieces hP) ?_
    refine ev_iload_n (p' := 9) i_15_8 rfl rfl ?_
    refine ev_aaldN (p' := 10) 25 i_15_9 rfl (is_pgp hP) (by decide) (len_pgp hP) (by omega) (by decide) (hw.piece hP (by omega)) ?_
    refine ev_geti (p' := 13) i_15_10 rfl fl_2_44 rfl (is_pc hP (by omega)) ?_
    rw [hk]
    refine ev_aaldN (p' := 14) 26 i_15_13 rfl is_10 (by decide) len_10 (by decide) (by decide) (rf_10_3 hw) ?_
    refine ev_aload_n (p' := 15) i_15_14 rfl rfl ?_
    refine ev_getr (p' := 18) i_15_15 rfl fl_2_11 rfl (is_pg hP) (hw.pieces hP) ?_
    refine ev_iload_n (p' := 19) i_15_18 rfl rfl ?_
    refine ev_aaldN (p' := 20) 25 i_15_19 rfl (is_pgp hP) (by decide) (len_pgp hP) (by omega) (by decide) (hw.piece hP (by omega)) ?_
    refine ev_geti (p' := 23) i_15_20 rfl fl_2_50 rfl (is_pc hP (by omega)) ?_
    refine ev_iload_n (p' := 24) i_15_23 rfl rfl ?_
    refine ev_aload_n (p' := 25) i_15_24 rfl rfl ?_
    refine ev_getr (p' := 28) i_15_25 rfl fl_2_11 rfl (is_pg hP) (hw.pieces hP) ?_
    refine ev_iload_n (p' := 29) i_15_28 rfl rfl ?_
    refine ev_aaldN (p' := 30) 25 i_15_29 rfl (is_pgp hP) (by decide) (len_pgp hP) (by omega) (by decide) (hw.piece hP (by omega)) ?_
    refine ev_geti (p' := 33) i_15_30 rfl fl_2_59 rfl (is_pc hP (by omega)) ?_
    refine ev_v3I (p' := 36) i_15_33 rfl cl_2_99_1 (by decide) is_14 (Nat.le_of_ble_eq_true rfl) (s_flap_1 _ _ _ _ is_14) ?_
    exact ev_iretI i_15_36 rfl ⟨rfl, rfl⟩
  | 4, _, hk =>
    refine ev_aload_n (p' := 1) i_15_0 rfl rfl ?_
    refine ev_getr (p' := 4) i_15_1 rfl fl_2_31 rfl (is_pg hP) (hw.kinds hP) ?_
    refine ev_aload_n (p' := 5) i_15_4 rfl rfl ?_
    refine ev_getr (p' := 8) i_15_5 rfl fl_2_11 rfl (is_pg hP) (hw.pieces hP) ?_
    refine ev_iload_n (p' := 9) i_15_8 rfl rfl ?_
    refine ev_aaldN (p' := 10) 25 i_15_9 rfl (is_pgp hP) (by decide) (len_pgp hP) (by omega) (by decide) (hw.piece hP (by omega)) ?_
    refine ev_geti (p' := 13) i_15_10 rfl fl_2_44 rfl (is_pc hP (by omega)) ?_
    rw [hk]
    refine ev_aaldN (p' := 14) 26 i_15_13 rfl is_10 (by decide) len_10 (by decide) (by decide) (rf_10_4 hw) ?_
    refine ev_aload_n (p' := 15) i_15_14 rfl rfl ?_
    refine ev_getr (p' := 18) i_15_15 rfl fl_2_11 rfl (is_pg hP) (hw.pieces hP) ?_
    refine ev_iload_n (p' := 19) i_15_18 rfl rfl ?_
    refine ev_aaldN (p' := 20) 25 i_15_19 rfl (is_pgp hP) (by decide) (len_pgp hP) (by omega) (by decide) (hw.piece hP (by omega)) ?_
    refine ev_geti (p' := 23) i_15_20 rfl fl_2_50 rfl (is_pc hP (by omega)) ?_
    refine ev_iload_n (p' := 24) i_15_23 rfl rfl ?_
    refine ev_aload_n (p' := 25) i_15_24 rfl rfl ?_
    refine ev_getr (p' := 28) i_15_25 rfl fl_2_11 rfl (is_pg hP) (hw.pieces hP) ?_
    refine ev_iload_n (p' := 29) i_15_28 rfl rfl ?_
    refine ev_aaldN (p' := 30) 25 i_15_29 rfl (is_pgp hP) (by decide) (len_pgp hP) (by omega) (by decide) (hw.piece hP (by omega)) ?_
    refine ev_geti (p' := 33) i_15_30 rfl fl_2_59 rfl (is_pc hP (by omega)) ?_
    refine ev_v3I (p' := 36) i_15_33 rfl cl_2_99_5 (by decide) is_15 (Nat.le_of_ble_eq_true rfl) (s_stage_5 _ _ _ _ is_15) ?_
    exact ev_iretI i_15_36 rfl ⟨rfl, rfl⟩
  | 5, _, hk =>
    refine ev_aload_n (p' := 1) i_15_0 rfl rfl ?_
    refine ev_getr (p' := 4) i_15_1 rfl fl_2_31 rfl (is_pg hP) (hw.kinds hP) ?_
    refine ev_aload_n (p' := 5) i_15_4 rfl rfl ?_
    refine ev_getr (p' := 8) i_15_5 rfl fl_2_11 rfl (is_pg hP) (hw.pieces hP) ?_
    refine ev_iload_n (p' := 9) i_15_8 rfl rfl ?_
    refine ev_aaldN (p' := 10) 25 i_15_9 rfl (is_pgp hP) (by decide) (len_pgp hP) (by omega) (by decide) (hw.piece hP (by omega)) ?_
    refine ev_geti (p' := 13) i_15_10 rfl fl_2_44 rfl (is_pc hP (by omega)) ?_
    rw [hk]
    refine ev_aaldN (p' := 14) 26 i_15_13 rfl is_10 (by decide) len_10 (by decide) (by decide) (rf_10_5 hw) ?_
    refine ev_aload_n (p' := 15) i_15_14 rfl rfl ?_
    refine ev_getr (p' := 18) i_15_15 rfl fl_2_11 rfl (is_pg hP) (hw.pieces hP) ?_
    refine ev_iload_n (p' := 19) i_15_18 rfl rfl ?_
    refine ev_aaldN (p' := 20) 25 i_15_19 rfl (is_pgp hP) (by decide) (len_pgp hP) (by omega) (by decide) (hw.piece hP (by omega)) ?_
    refine ev_geti (p' := 23) i_15_20 rfl fl_2_50 rfl (is_pc hP (by omega)) ?_
    refine ev_iload_n (p' := 24) i_15_23 rfl rfl ?_
    refine ev_aload_n (p' := 25) i_15_24 rfl rfl ?_
    refine ev_getr (p' := 28) i_15_25 rfl fl_2_11 rfl (is_pg hP) (hw.pieces hP) ?_
    refine ev_iload_n (p' := 29) i_15_28 rfl rfl ?_
    refine ev_aaldN (p' := 30) 25 i_15_29 rfl (is_pgp hP) (by decide) (len_pgp hP) (by omega) (by decide) (hw.piece hP (by omega)) ?_
    refine ev_geti (p' := 33) i_15_30 rfl fl_2_59 rfl (is_pc hP (by omega)) ?_
    refine ev_v3I (p' := 36) i_15_33 rfl cl_2_99_10 (by decide) is_16 (Nat.le_of_ble_eq_true rfl) (s_wheel_10 _ _ _ _ is_16) ?_
    exact ev_iretI i_15_36 rfl ⟨rfl, rfl⟩
  | k + 6, h, _ => exact absurd h (by omega)
theorem s_reaches {L : Nat} {π : Nat → Nat → Nat} {mi : Nat → Nat → Int32} {ml : Nat → Nat → Int64} {mr : Nat → Nat → Option Nat} (d : Nat) (hw : WR π mr) {P : Nat} (hP : P ∈ k_pg) {i k : Nat} (hi : i < 7) (hk6 : k < 6) (hk : mi (P + 3 + i) 0 = nI k) : pm_ev gC (d + 4) 16 [.ref P, .int (nI i)] (WW L, mi, ml, mr) (some (.int (rcN k (mi (P + 3 + i) 1) (mi (P + 3 + i) 2)))) (WW L, mi, ml, mr) := by
  refine ev_enter (q := q_16) rfl (Nat.le_of_ble_eq_true rfl) rfl ?_
  match k, hk6, hk with
  | 0, _, hk =>
    refine ev_aload_n (p' := 1) i_16_0 rfl rfl ?_
    refine ev_getr (p' := 4) i_16_1 rfl fl_2_31 rfl (is_pg hP) (hw.kinds hP) ?_
    refine ev_aload_n (p' := 5) i_16_4 rfl rfl ?_
    refine ev_getr (p' := 8) i_16_5 rfl fl_2_11 rfl (is_pg hP) (hw.pieces hP) ?_
    refine ev_iload_n (p' := 9) i_16_8 rfl rfl ?_
    refine ev_aaldN (p' := 10) 25 i_16_9 rfl (is_pgp hP) (by decide) (len_pgp hP) (by omega) (by decide) (hw.piece hP (by omega)) ?_
    refine ev_geti (p' := 13) i_16_10 rfl fl_2_44 rfl (is_pc hP (by omega)) ?_
    rw [hk]
    refine ev_aaldN (p' := 14) 26 i_16_13 rfl is_10 (by decide) len_10 (by decide) (by decide) (rf_10_0 hw) ?_
    refine ev_aload_n (p' := 15) i_16_14 rfl rfl ?_
    refine ev_getr (p' := 18) i_16_15 rfl fl_2_11 rfl (is_pg hP) (hw.pieces hP) ?_
    refine ev_iload_n (p' := 19) i_16_18 rfl rfl ?_
    refine ev_aaldN (p' := 20) 25 i_16_19 rfl (is_pgp hP) (by decide) (len_pgp hP) (by omega) (by decide) (hw.piece hP (by omega)) ?_
    refine ev_geti (p' := 23) i_16_20 rfl fl_2_47 rfl (is_pc hP (by omega)) ?_
    refine ev_aload_n (p' := 24) i_16_23 rfl rfl ?_
    refine ev_getr (p' := 27) i_16_24 rfl fl_2_11 rfl (is_pg hP) (hw.pieces hP) ?_
    refine ev_iload_n (p' := 28) i_16_27 rfl rfl ?_
    refine ev_aaldN (p' := 29) 25 i_16_28 rfl (is_pgp hP) (by decide) (len_pgp hP) (by omega) (by decide) (hw.piece hP (by omega)) ?_
    refine ev_geti (p' := 32) i_16_29 rfl fl_2_50 rfl (is_pc hP (by omega)) ?_
    refine ev_v2I (p' := 35) i_16_32 rfl cl_2_103_8 (by decide) is_11 (Nat.le_of_ble_eq_true rfl) (s_veeR_8 _ _ _ is_11) ?_
    exact ev_iretI i_16_35 rfl ⟨rfl, rfl⟩
  | 1, _, hk =>
    refine ev_aload_n (p' := 1) i_16_0 rfl rfl ?_
    refine ev_getr (p' := 4) i_16_1 rfl fl_2_31 rfl (is_pg hP) (hw.kinds hP) ?_
    refine ev_aload_n (p' := 5) i_16_4 rfl rfl ?_
    refine ev_getr (p' := 8) i_16_5 rfl fl_2_11 rfl (is_pg hP) (hw.pieces hP) ?_
    refine ev_iload_n (p' := 9) i_16_8 rfl rfl ?_
    refine ev_aaldN (p' := 10) 25 i_16_9 rfl (is_pgp hP) (by decide) (len_pgp hP) (by omega) (by decide) (hw.piece hP (by omega)) ?_
    refine ev_geti (p' := 13) i_16_10 rfl fl_2_44 rfl (is_pc hP (by omega)) ?_
    rw [hk]
    refine ev_aaldN (p' := 14) 26 i_16_13 rfl is_10 (by decide) len_10 (by decide) (by decide) (rf_10_1 hw) ?_
    refine ev_aload_n (p' := 15) i_16_14 rfl rfl ?_
    refine ev_getr (p' := 18) i_16_15 rfl fl_2_11 rfl (is_pg hP) (hw.pieces hP) ?_
    refine ev_iload_n (p' := 19) i_16_18 rfl rfl ?_
    refine ev_aaldN (p' := 20) 25 i_16_19 rfl (is_pgp hP) (by decide) (len_pgp hP) (by omega) (by decide) (hw.piece hP (by omega)) ?_
    refine ev_geti (p' := 23) i_16_20 rfl fl_2_47 rfl (is_pc hP (by omega)) ?_
    refine ev_aload_n (p' := 24) i_16_23 rfl rfl ?_
    refine ev_getr (p' := 27) i_16_24 rfl fl_2_11 rfl (is_pg hP) (hw.pieces hP) ?_
    refine ev_iload_n (p' := 28) i_16_27 rfl rfl ?_
    refine ev_aaldN (p' := 29) 25 i_16_28 rfl (is_pgp hP) (by decide) (len_pgp hP) (by omega) (by decide) (hw.piece hP (by omega)) ?_
    refine ev_geti (p' := 32) i_16_29 rfl fl_2_50 rfl (is_pc hP (by omega)) ?_
    refine ev_v2I (p' := 35) i_16_32 rfl cl_2_103_6 (by decide) is_12 (Nat.le_of_ble_eq_true rfl) (s_veeR_6 _ _ _ is_12) ?_
    exact ev_iretI i_16_35 rfl ⟨rfl, rfl⟩
  | 2, _, hk =>
    refine ev_aload_n (p' := 1) i_16_0 rfl rfl ?_
    refine ev_getr (p' := 4) i_16_1 rfl fl_2_31 rfl (is_pg hP) (hw.kinds hP) ?_
    refine ev_aload_n (p' := 5) i_16_4 rfl rfl ?_
    refine ev_getr (p' := 8) i_16_5 rfl fl_2_11 rfl (is_pg hP) (hw.pieces hP) ?_
    refine ev_iload_n (p' := 9) i_16_8 rfl rfl ?_
    refine ev_aaldN (p' := 10) 25 i_16_9 rfl (is_pgp hP) (by decide) (len_pgp hP) (by omega) (by decide) (hw.piece hP (by omega)) ?_
    refine ev_geti (p' := 13) i_16_10 rfl fl_2_44 rfl (is_pc hP (by omega)) ?_
    rw [hk]
    refine ev_aaldN (p' := 14) 26 i_16_13 rfl is_10 (by decide) len_10 (by decide) (by decide) (rf_10_2 hw) ?_
    refine ev_aload_n (p' := 15) i_16_14 rfl rfl ?_
    refine ev_getr (p' := 18) i_16_15 rfl fl_2_11 rfl (is_pg hP) (hw.pieces hP) ?_
    refine ev_iload_n (p' := 19) i_16_18 rfl rfl ?_
    refine ev_aaldN (p' := 20) 25 i_16_19 rfl (is_pgp hP) (by decide) (len_pgp hP) (by omega) (by decide) (hw.piece hP (by omega)) ?_
    refine ev_geti (p' := 23) i_16_20 rfl fl_2_47 rfl (is_pc hP (by omega)) ?_
    refine ev_aload_n (p' := 24) i_16_23 rfl rfl ?_
    refine ev_getr (p' := 27) i_16_24 rfl fl_2_11 rfl (is_pg hP) (hw.pieces hP) ?_
    refine ev_iload_n (p' := 28) i_16_27 rfl rfl ?_
    refine ev_aaldN (p' := 29) 25 i_16_28 rfl (is_pgp hP) (by decide) (len_pgp hP) (by omega) (by decide) (hw.piece hP (by omega)) ?_
    refine ev_geti (p' := 32) i_16_29 rfl fl_2_50 rfl (is_pc hP (by omega)) ?_
    refine ev_v2I (p' := 35) i_16_32 rfl cl_2_103_0 (by decide) is_13 (Nat.le_of_ble_eq_true rfl) (s_boxR_0 _ _ _ is_13) ?_
    exact ev_iretI i_16_35 rfl ⟨rfl, rfl⟩
  | 3, _, hk =>
    refine ev_aload_n (p' := 1) i_16_0 rfl rfl ?_
    refine ev_getr (p' := 4) i_16_1 rfl fl_2_31 rfl (is_pg hP) (hw.kinds hP) ?_
    refine ev_aload_n (p' := 5) i_16_4 rfl rfl ?_
    refine ev_getr (p' := 8) i_16_5 rfl fl_2_11 rfl (is_pg hP) (hw.pieces hP) ?_
    refine ev_iload_n (p' := 9) i_16_8 rfl rfl ?_
    refine ev_aaldN (p' := 10) 25 i_16_9 rfl (is_pgp hP) (by decide) (len_pgp hP) (by omega) (by decide) (hw.piece hP (by omega)) ?_
    refine ev_geti (p' := 13) i_16_10 rfl fl_2_44 rfl (is_pc hP (by omega)) ?_
    rw [hk]
    refine ev_aaldN (p' := 14) 26 i_16_13 rfl is_10 (by decide) len_10 (by decide) (by decide) (rf_10_3 hw) ?_
    refine ev_aload_n (p' := 15) i_16_14 rfl rfl ?_
    refine ev_getr (p' := 18) i_16_15 rfl fl_2_11 rfl (is_pg hP) (hw.pieces hP) ?_
    refine ev_iload_n (p' := 19) i_16_18 rfl rfl ?_
    refine ev_aaldN (p' := 20) 25 i_16_19 rfl (is_pgp hP) (by decide) (len_pgp hP) (by omega) (by decide) (hw.piece hP (by omega)) ?_
    refine ev_geti (p' := 23) i_16_20 rfl fl_2_47 rfl (is_pc hP (by omega)) ?_
    refine ev_aload_n (p' := 24) i_16_23 rfl rfl ?_
    refine ev_getr (p' := 27) i_16_24 rfl fl_2_11 rfl (is_pg hP) (hw.pieces hP) ?_
    refine ev_iload_n (p' := 28) i_16_27 rfl rfl ?_
    refine ev_aaldN (p' := 29) 25 i_16_28 rfl (is_pgp hP) (by decide) (len_pgp hP) (by omega) (by decide) (hw.piece hP (by omega)) ?_
    refine ev_geti (p' := 32) i_16_29 rfl fl_2_50 rfl (is_pc hP (by omega)) ?_
    refine ev_v2I (p' := 35) i_16_32 rfl cl_2_103_1 (by decide) is_14 (Nat.le_of_ble_eq_true rfl) (s_flapR_1 _ _ _ is_14) ?_
    exact ev_iretI i_16_35 rfl ⟨rfl, rfl⟩
  | 4, _, hk =>
    refine ev_aload_n (p' := 1) i_16_0 rfl rfl ?_
    refine ev_getr (p' := 4) i_16_1 rfl fl_2_31 rfl (is_pg hP) (hw.kinds hP) ?_
    refine ev_aload_n (p' := 5) i_16_4 rfl rfl ?_
    refine ev_getr (p' := 8) i_16_5 rfl fl_2_11 rfl (is_pg hP) (hw.pieces hP) ?_
    refine ev_iload_n (p' := 9) i_16_8 rfl rfl ?_
    refine ev_aaldN (p' := 10) 25 i_16_9 rfl (is_pgp hP) (by decide) (len_pgp hP) (by omega) (by decide) (hw.piece hP (by omega)) ?_
    refine ev_geti (p' := 13) i_16_10 rfl fl_2_44 rfl (is_pc hP (by omega)) ?_
    rw [hk]
    refine ev_aaldN (p' := 14) 26 i_16_13 rfl is_10 (by decide) len_10 (by decide) (by decide) (rf_10_4 hw) ?_
    refine ev_aload_n (p' := 15) i_16_14 rfl rfl ?_
    refine ev_getr (p' := 18) i_16_15 rfl fl_2_11 rfl (is_pg hP) (hw.pieces hP) ?_
    refine ev_iload_n (p' := 19) i_16_18 rfl rfl ?_
    refine ev_aaldN (p' := 20) 25 i_16_19 rfl (is_pgp hP) (by decide) (len_pgp hP) (by omega) (by decide) (hw.piece hP (by omega)) ?_
    refine ev_geti (p' := 23) i_16_20 rfl fl_2_47 rfl (is_pc hP (by omega)) ?_
    refine ev_aload_n (p' := 24) i_16_23 rfl rfl ?_
    refine ev_getr (p' := 27) i_16_24 rfl fl_2_11 rfl (is_pg hP) (hw.pieces hP) ?_
    refine ev_iload_n (p' := 28) i_16_27 rfl rfl ?_
    refine ev_aaldN (p' := 29) 25 i_16_28 rfl (is_pgp hP) (by decide) (len_pgp hP) (by omega) (by decide) (hw.piece hP (by omega)) ?_
    refine ev_geti (p' := 32) i_16_29 rfl fl_2_50 rfl (is_pc hP (by omega)) ?_
    refine ev_v2I (p' := 35) i_16_32 rfl cl_2_103_5 (by decide) is_15 (Nat.le_of_ble_eq_true rfl) (s_boxR_5 _ _ _ is_15) ?_
    exact ev_iretI i_16_35 rfl ⟨rfl, rfl⟩
  | 5, _, hk =>
    refine ev_aload_n (p' := 1) i_16_0 rfl rfl ?_
    refine ev_getr (p' := 4) i_16_1 rfl fl_2_31 rfl (is_pg hP) (hw.kinds hP) ?_
    refine ev_aload_n (p' := 5) i_16_4 rfl rfl ?_
    refine ev_getr (p' := 8) i_16_5 rfl fl_2_11 rfl (is_pg hP) (hw.pieces hP) ?_
    refine ev_iload_n (p' := 9) i_16_8 rfl rfl ?_
    refine ev_aaldN (p' := 10) 25 i_16_9 rfl (is_pgp hP) (by decide) (len_pgp hP) (by omega) (by decide) (hw.piece hP (by omega)) ?_
    refine ev_geti (p' := 13) i_16_10 rfl fl_2_44 rfl (is_pc hP (by omega)) ?_
    rw [hk]
    refine ev_aaldN (p' := 14) 26 i_16_13 rfl is_10 (by decide) len_10 (by decide) (by decide) (rf_10_5 hw) ?_
    refine ev_aload_n (p' := 15) i_16_14 rfl rfl ?_
    refine ev_getr (p' := 18) i_16_15 rfl fl_2_11 rfl (is_pg hP) (hw.pieces hP) ?_
    refine ev_iload_n (p' := 19) i_16_18 rfl rfl ?_
    refine ev_aaldN (p' := 20) 25 i_16_19 rfl (is_pgp hP) (by decide) (len_pgp hP) (by omega) (by decide) (hw.piece hP (by omega)) ?_
    refine ev_geti (p' := 23) i_16_20 rfl fl_2_47 rfl (is_pc hP (by omega)) ?_
    refine ev_aload_n (p' := 24) i_16_23 rfl rfl ?_
    refine ev_getr (p' := 27) i_16_24 rfl fl_2_11 rfl (is_pg hP) (hw.pieces hP) ?_
    refine ev_iload_n (p' := 28) i_16_27 rfl rfl ?_
    refine ev_aaldN (p' := 29) 25 i_16_28 rfl (is_pgp hP) (by decide) (len_pgp hP) (by omega) (by decide) (hw.piece hP (by omega)) ?_
    refine ev_geti (p' := 32) i_16_29 rfl fl_2_50 rfl (is_pc hP (by omega)) ?_
    refine ev_v2I (p' := 35) i_16_32 rfl cl_2_103_10 (by decide) is_16 (Nat.le_of_ble_eq_true rfl) (s_wheelR_10 _ _ _ is_16) ?_
    exact ev_iretI i_16_35 rfl ⟨rfl, rfl⟩
  | k + 6, h, _ => exact absurd h (by omega)
def rise (f : Nat → Nat → Int32) (o h : Int32) (i : Nat) : Int32 := if (¬ (h >>> (nI i &&& 31)) &&& 1 = 0) ∨ f 7 i ≤ f 6 i then 0 else rsN (f 0 i).toNatClampNeg (f 2 i) o (f 5 i)
def hgt (f : Nat → Nat → Int32) (o h : Int32) (i : Nat) : Int32 := (if hh : (0 ≤ f 4 i ∧ f 4 i < nI i) ∧ (f 4 i).toNatClampNeg < i then hgt f o h (f 4 i).toNatClampNeg else 0) + rise f o h i
termination_by i
decreasing_by exact hh.2
theorem on_nat {x : Int32} {i : Nat} (h0 : ¬ x < 0) (h1 : ¬ nI i ≤ x) (hi : i < 2 ^ 31) : ∃ j, j < i ∧ x = nI j := by
  obtain ⟨j, hj, rfl⟩ := nI_of h0
  exact ⟨j, by rw [nI_leI hi hj] at h1; omega, rfl⟩
theorem hgt_on {f : Nat → Nat → Int32} {o h : Int32} {i j : Nat} (hj : j < i) (hi : i < 2 ^ 31) (he : f 4 i = nI j) : hgt f o h i = hgt f o h j + rise f o h i := by
  rw [hgt, he, nI_clamp (by omega), dif_pos ⟨⟨nI_pos' (by omega), nI_lt hj hi⟩, hj⟩]
theorem hgt_off {f : Nat → Nat → Int32} {o h : Int32} {i : Nat} (he : f 4 i < 0 ∨ nI i ≤ f 4 i) : hgt f o h i = 0 + rise f o h i := by
  rw [hgt, dif_neg]
  rintro ⟨⟨h1, h2⟩, -⟩
  rcases he with h | h
  · exact Int32.not_lt.mpr h1 h
  · exact Int32.not_le.mpr h2 h
/-- the heights up to i are in row P + 2 -/
def hm (mi : Nat → Nat → Int32) (P : Nat) (o h : Int32) (i : Nat) : Nat → Nat → Int32 := fun a j => if a = P + 2 ∧ j < i then hgt (pf mi P) o h j else mi a j
section HM
variable {mi : Nat → Nat → Int32} {P : Nat} {o h : Int32} {i j k : Nat}
theorem hm_pc : hm mi P o h i (P + 3 + k) j = mi (P + 3 + k) j := if_neg (by omega)
theorem hm_pg : hm mi P o h i P j = mi P j := if_neg (by omega)
theorem hm_h (hj : j < i) : hm mi P o h i (P + 2) j = hgt (pf mi P) o h j := if_pos ⟨rfl, hj⟩
theorem hm_0 : hm mi P o h 0 = mi := by
  funext a j
  exact if_neg (by omega)
theorem hm_up : pm_u (hm mi P o h i) (P + 2) i (hgt (pf mi P) o h i) = hm mi P o h (i + 1) := by
  funext a j
  unfold pm_u hm
  by_cases h1 : a = P + 2 ∧ j = i
  · rw [if_pos h1, if_pos ⟨h1.1, by omega⟩, h1.2]
  · rw [if_neg h1]
    by_cases h2 : a = P + 2 ∧ j < i
    · rw [if_pos h2, if_pos ⟨h2.1, by omega⟩]
    · rw [if_neg h2, if_neg (fun h3 => h2 ⟨h3.1, by have : j ≠ i := fun z => h1 ⟨h3.1, z⟩; omega⟩)]
theorem hm_ne {a : Nat} (ha : a ≠ P + 2) : hm mi P o h i a = mi a := by
  funext j
  exact if_neg (fun z => ha z.1)
theorem pf_hm : pf (hm mi P o h i) P = pf mi P := by
  funext j k
  exact hm_pc
end HM
theorem e_meas83 {L : Nat} {π : Nat → Nat → Nat} {mi : Nat → Nat → Int32} {ml : Nat → Nat → Int64} {mr : Nat → Nat → Option Nat} {d : Nat} {E : Option Value → pm_M → Prop} (hw : WR π mr) {P : Nat} (hP : P ∈ k_pg) {i k : Nat} {o h gv lv : Int32} {x7 : Option Value} (hi : i < 7) (hk6 : k < 6) (hk : mi (P + 3 + i) 0 = nI k) (kk : Ev gC (pm_ev gC (d + 3)) E q_20 107 [some (.ref P), some (.int o), some (.int h), some (.int (nI i)), some (.ref (P + 3 + i)), some (.int gv), some (.int lv), x7] [.int (rsN k (mi (P + 3 + i) 2) o (mi (P + 3 + i) 5))] (WW L, hm mi P o h i, ml, mr)) : Ev gC (pm_ev gC (d + 3)) E q_20 83 [some (.ref P), some (.int o), some (.int h), some (.int (nI i)), some (.ref (P + 3 + i)), some (.int gv), some (.int lv), x7] [] (WW L, hm mi P o h i, ml, mr) := by
  match k, hk6, hk with
  | 0, _, hk =>
    refine ev_aload_n (p' := 84) i_20_83 rfl rfl ?_
    refine ev_getr (p' := 87) i_20_84 rfl fl_2_31 rfl (is_pg hP) (hw.kinds hP) ?_
    refine ev_aload (p' := 89) i_20_87 rfl rfl ?_
    refine ev_geti (p' := 92) i_20_89 rfl fl_2_44 rfl (is_pc hP (show i < 7 by omega)) ?_
    rw [hm_pc]
    rw [hk]
    refine ev_aaldN (p' := 93) 26 i_20_92 rfl is_10 (by decide) len_10 (by decide) (by decide) (rf_10_0 hw) ?_
    refine ev_aload (p' := 95) i_20_93 rfl rfl ?_
    refine ev_geti (p' := 98) i_20_95 rfl fl_2_50 rfl (is_pc hP (show i < 7 by omega)) ?_
    rw [hm_pc]
    refine ev_iload_n (p' := 99) i_20_98 rfl rfl ?_
    refine ev_aload (p' := 101) i_20_99 rfl rfl ?_
    refine ev_geti (p' := 104) i_20_101 rfl fl_2_59 rfl (is_pc hP (show i < 7 by omega)) ?_
    rw [hm_pc]
    refine ev_v3I (p' := 107) i_20_104 rfl cl_2_99_8 (by decide) is_11 (Nat.le_of_ble_eq_true rfl) (s_vee_8 _ _ _ _ is_11) ?_
    exact kk
  | 1, _, hk =>
    refine ev_aload_n (p' := 84) i_20_83 rfl rfl ?_
    refine ev_getr (p' := 87) i_20_84 rfl fl_2_31 rfl (is_pg hP) (hw.kinds hP) ?_
    refine ev_aload (p' := 89) i_20_87 rfl rfl ?_
    refine ev_geti (p' := 92) i_20_89 rfl fl_2_44 rfl (is_pc hP (show i < 7 by omega)) ?_
    rw [hm_pc]
    rw [hk]
    refine ev_aaldN (p' := 93) 26 i_20_92 rfl is_10 (by decide) len_10 (by decide) (by decide) (rf_10_1 hw) ?_
    refine ev_aload (p' := 95) i_20_93 rfl rfl ?_
    refine ev_geti (p' := 98) i_20_95 rfl fl_2_50 rfl (is_pc hP (show i < 7 by omega)) ?_
    rw [hm_pc]
    refine ev_iload_n (p' := 99) i_20_98 rfl rfl ?_
    refine ev_aload (p' := 101) i_20_99 rfl rfl ?_
    refine ev_geti (p' := 104) i_20_101 rfl fl_2_59 rfl (is_pc hP (show i < 7 by omega)) ?_
    rw [hm_pc]
    refine ev_v3I (p' := 107) i_20_104 rfl cl_2_99_6 (by decide) is_12 (Nat.le_of_ble_eq_true rfl) (s_tent_6 _ _ _ _ is_12) ?_
    exact kk
  | 2, _, hk =>
    refine ev_aload_n (p' := 84) i_20_83 rfl rfl ?_
    refine ev_getr (p' := 87) i_20_84 rfl fl_2_31 rfl (is_pg hP) (hw.kinds hP) ?_
    refine ev_aload (p' := 89) i_20_87 rfl rfl ?_
    refine ev_geti (p' := 92) i_20_89 rfl fl_2_44 rfl (is_pc hP (show i < 7 by omega)) ?_
    rw [hm_pc]
    rw [hk]
    refine ev_aaldN (p' := 93) 26 i_20_92 rfl is_10 (by decide) len_10 (by decide) (by decide) (rf_10_2 hw) ?_
    refine ev_aload (p' := 95) i_20_93 rfl rfl ?_
    refine ev_geti (p' := 98) i_20_95 rfl fl_2_50 rfl (is_pc hP (show i < 7 by omega)) ?_
    rw [hm_pc]
    refine ev_iload_n (p' := 99) i_20_98 rfl rfl ?_
    refine ev_aload (p' := 101) i_20_99 rfl rfl ?_
    refine ev_geti (p' := 104) i_20_101 rfl fl_2_59 rfl (is_pc hP (show i < 7 by omega)) ?_
    rw [hm_pc]
    refine ev_v3I (p' := 107) i_20_104 rfl cl_2_99_0 (by decide) is_13 (Nat.le_of_ble_eq_true rfl) (s_box_0 _ _ _ _ is_13) ?_
    exact kk
  | 3, _, hk =>
    refine ev_aload_n (p' := 84) i_20_83 rfl rfl ?_
    refine ev_getr (p' := 87) i_20_84 rfl fl_2_31 rfl (is_pg hP) (hw.kinds hP) ?_
    refine ev_aload (p' := 89) i_20_87 rfl rfl ?_
    refine ev_geti (p' := 92) i_20_89 rfl fl_2_44 rfl (is_pc hP (show i < 7 by omega)) ?_
    rw [hm_pc]
    rw [hk]
    refine ev_aaldN (p' := 93) 26 i_20_92 rfl is_10 (by decide) len_10 (by decide) (by decide) (rf_10_3 hw) ?_
    refine ev_aload (p' := 95) i_20_93 rfl rfl ?_
    refine ev_geti (p' := 98) i_20_95 rfl fl_2_50 rfl (is_pc hP (show i < 7 by omega)) ?_
    rw [hm_pc]
    refine ev_iload_n (p' := 99) i_20_98 rfl rfl ?_
    refine ev_aload (p' := 101) i_20_99 rfl rfl ?_
    refine ev_geti (p' := 104) i_20_101 rfl fl_2_59 rfl (is_pc hP (show i < 7 by omega)) ?_
    rw [hm_pc]
    refine ev_v3I (p' := 107) i_20_104 rfl cl_2_99_1 (by decide) is_14 (Nat.le_of_ble_eq_true rfl) (s_flap_1 _ _ _ _ is_14) ?_
    exact kk
  | 4, _, hk =>
    refine ev_aload_n (p' := 84) i_20_83 rfl rfl ?_
    refine ev_getr (p' := 87) i_20_84 rfl fl_2_31 rfl (is_pg hP) (hw.kinds hP) ?_
    refine ev_aload (p' := 89) i_20_87 rfl rfl ?_
    refine ev_geti (p' := 92) i_20_89 rfl fl_2_44 rfl (is_pc hP (show i < 7 by omega)) ?_
    rw [hm_pc]
    rw [hk]
    refine ev_aaldN (p' := 93) 26 i_20_92 rfl is_10 (by decide) len_10 (by decide) (by decide) (rf_10_4 hw) ?_
    refine ev_aload (p' := 95) i_20_93 rfl rfl ?_
    refine ev_geti (p' := 98) i_20_95 rfl fl_2_50 rfl (is_pc hP (show i < 7 by omega)) ?_
    rw [hm_pc]
    refine ev_iload_n (p' := 99) i_20_98 rfl rfl ?_
    refine ev_aload (p' := 101) i_20_99 rfl rfl ?_
    refine ev_geti (p' := 104) i_20_101 rfl fl_2_59 rfl (is_pc hP (show i < 7 by omega)) ?_
    rw [hm_pc]
    refine ev_v3I (p' := 107) i_20_104 rfl cl_2_99_5 (by decide) is_15 (Nat.le_of_ble_eq_true rfl) (s_stage_5 _ _ _ _ is_15) ?_
    exact kk
  | 5, _, hk =>
    refine ev_aload_n (p' := 84) i_20_83 rfl rfl ?_
    refine ev_getr (p' := 87) i_20_84 rfl fl_2_31 rfl (is_pg hP) (hw.kinds hP) ?_
    refine ev_aload (p' := 89) i_20_87 rfl rfl ?_
    refine ev_geti (p' := 92) i_20_89 rfl fl_2_44 rfl (is_pc hP (show i < 7 by omega)) ?_
    rw [hm_pc]
    rw [hk]
    refine ev_aaldN (p' := 93) 26 i_20_92 rfl is_10 (by decide) len_10 (by decide) (by decide) (rf_10_5 hw) ?_
    refine ev_aload (p' := 95) i_20_93 rfl rfl ?_
    refine ev_geti (p' := 98) i_20_95 rfl fl_2_50 rfl (is_pc hP (show i < 7 by omega)) ?_
    rw [hm_pc]
    refine ev_iload_n (p' := 99) i_20_98 rfl rfl ?_
    refine ev_aload (p' := 101) i_20_99 rfl rfl ?_
    refine ev_geti (p' := 104) i_20_101 rfl fl_2_59 rfl (is_pc hP (show i < 7 by omega)) ?_
    rw [hm_pc]
    refine ev_v3I (p' := 107) i_20_104 rfl cl_2_99_10 (by decide) is_16 (Nat.le_of_ble_eq_true rfl) (s_wheel_10 _ _ _ _ is_16) ?_
    exact kk
  | k + 6, h, _ => exact absurd h (by omega)
theorem e_meas49 {L : Nat} {π : Nat → Nat → Nat} {mi : Nat → Nat → Int32} {ml : Nat → Nat → Int64} {mr : Nat → Nat → Option Nat} {d : Nat} {E : Option Value → pm_M → Prop} (hw : WR π mr) {P : Nat} (hP : P ∈ k_pg) {i k n : Nat} {o h gv : Int32} {x5 x6 x7 : Option Value} (hn7 : n ≤ 7) (hi : i < n) (hk6 : k < 6) (hk : mi (P + 3 + i) 0 = nI k) (hg : hgt (pf mi P) o h i = gv + rise (pf mi P) o h i) (kk : ∀ x4 x5 x6 x7, Ev gC (pm_ev gC (d + 3)) E q_20 2 [some (.ref P), some (.int o), some (.int h), some (.int (nI (i + 1))), x4, x5, x6, x7] [] (WW L, hm mi P o h (i + 1), ml, mr)) : Ev gC (pm_ev gC (d + 3)) E q_20 49 [some (.ref P), some (.int o), some (.int h), some (.int (nI i)), some (.ref (P + 3 + i)), x5, x6, x7] [.int gv] (WW L, hm mi P o h i, ml, mr) := by
  refine ev_istore (p' := 51) (ls' := [_, _, _, _, _, _, _, _]) i_20_49 rfl rfl (by decide) rfl ?_
  refine ev_iload_n (p' := 52) i_20_51 rfl rfl ?_
  refine ev_iload_n (p' := 53) i_20_52 rfl rfl ?_
  refine ev_s2I (p' := 56) i_20_53 rfl cl_2_87_0 (by decide) (Nat.le_of_ble_eq_true rfl) (s_has _ _ _) ?_
  refine ev_if_ne (p' := 59) (tg := 67) i_20_56 rfl rfl (fun c56 => ?_) (fun c56 => ?_)
  · replace c56 := B1 c56
    refine ev_iconst (p' := 68) (v := 1) i_20_67 rfl (by decide) ?_
    refine ev_goto (tg := 72) i_20_68 rfl ?_
    refine ev_istore (p' := 74) (ls' := [_, _, _, _, _, _, _, _]) i_20_72 rfl rfl (by decide) rfl ?_
    refine ev_iload (p' := 76) i_20_74 rfl rfl ?_
    refine ev_if_eq (p' := 79) (tg := 83) i_20_76 rfl rfl (fun c76 => absurd c76 ((by decide))) (fun c76 => ?_)
    refine ev_iconst (p' := 80) (v := 0) i_20_79 rfl (by decide) ?_
    refine ev_goto (tg := 107) i_20_80 rfl ?_
    have e8 : (0 : Int32) = rise (pf mi P) o h i := by unfold rise; exact (if_pos (Or.inl c56)).symm
    rw [e8]
    refine ev_istore (p' := 109) (ls' := [_, _, _, _, _, _, _, _]) i_20_107 rfl rfl (by decide) rfl ?_
    refine ev_aload_n (p' := 110) i_20_109 rfl rfl ?_
    refine ev_getr (p' := 113) i_20_110 rfl fl_2_17 rfl (is_pg hP) (hw.heights hP) ?_
    refine ev_iload_n (p' := 114) i_20_113 rfl rfl ?_
    refine ev_iload (p' := 116) i_20_114 rfl rfl ?_
    refine ev_iload (p' := 118) i_20_116 rfl rfl ?_
    refine ev_iadd (p' := 119) i_20_118 rfl ?_
    refine ev_iastN (p' := 120) i_20_119 rfl (is_pgh hP) (len_pgh hP) (by omega) (by decide) (gc_pgh hP) ?_
    refine ev_iinc (p' := 123) (ls' := [_, _, _, _, _, _, _, _]) i_20_120 rfl rfl rfl (by decide) (nI_inc _) rfl ?_
    refine ev_goto (tg := 2) i_20_123 rfl ?_
    rw [show gv + rise (pf mi P) o h i = hgt (pf mi P) o h i from hg.symm, hm_up]
    exact kk _ _ _ _
  · replace c56 := B0n c56
    refine ev_aload (p' := 61) i_20_59 rfl rfl ?_
    refine ev_v0I (p' := 64) i_20_61 rfl cl_2_80_3 (by decide) (is_pc hP (show i < 7 by omega)) (Nat.le_of_ble_eq_true rfl) (s_isStuck _ (is_pc hP (show i < 7 by omega))) ?_
    refine ev_if_eq (p' := 67) (tg := 71) i_20_64 rfl rfl (fun c64 => ?_) (fun c64 => ?_)
    · replace c64 := B0 c64
      rw [hm_pc, hm_pc] at c64
      refine ev_iconst (p' := 72) (v := 0) i_20_71 rfl (by decide) ?_
      refine ev_istore (p' := 74) (ls' := [_, _, _, _, _, _, _, _]) i_20_72 rfl rfl (by decide) rfl ?_
      refine ev_iload (p' := 76) i_20_74 rfl rfl ?_
      refine ev_if_eq (p' := 79) (tg := 83) i_20_76 rfl rfl (fun c76 => ?_) (fun c76 => absurd (rfl) c76)
      refine e_meas83 hw hP (by omega) hk6 hk ?_
      have e8 : rsN k (mi (P + 3 + i) 2) o (mi (P + 3 + i) 5) = rise (pf mi P) o h i := by
        unfold rise
        rw [if_neg (fun z => z.elim c56 c64)]
        show _ = rsN (mi (P + 3 + i) 0).toNatClampNeg _ _ _
        rw [hk, nI_clamp (by omega)]
        rfl
      rw [e8]
      refine ev_istore (p' := 109) (ls' := [_, _, _, _, _, _, _, _]) i_20_107 rfl rfl (by decide) rfl ?_
      refine ev_aload_n (p' := 110) i_20_109 rfl rfl ?_
      refine ev_getr (p' := 113) i_20_110 rfl fl_2_17 rfl (is_pg hP) (hw.heights hP) ?_
      refine ev_iload_n (p' := 114) i_20_113 rfl rfl ?_
      refine ev_iload (p' := 116) i_20_114 rfl rfl ?_
      refine ev_iload (p' := 118) i_20_116 rfl rfl ?_
      refine ev_iadd (p' := 119) i_20_118 rfl ?_
      refine ev_iastN (p' := 120) i_20_119 rfl (is_pgh hP) (len_pgh hP) (by omega) (by decide) (gc_pgh hP) ?_
      refine ev_iinc (p' := 123) (ls' := [_, _, _, _, _, _, _, _]) i_20_120 rfl rfl rfl (by decide) (nI_inc _) rfl ?_
      refine ev_goto (tg := 2) i_20_123 rfl ?_
      rw [show gv + rise (pf mi P) o h i = hgt (pf mi P) o h i from hg.symm, hm_up]
      exact kk _ _ _ _
    · replace c64 := B1 c64
      rw [hm_pc, hm_pc] at c64
      refine ev_iconst (p' := 68) (v := 1) i_20_67 rfl (by decide) ?_
      refine ev_goto (tg := 72) i_20_68 rfl ?_
      refine ev_istore (p' := 74) (ls' := [_, _, _, _, _, _, _, _]) i_20_72 rfl rfl (by decide) rfl ?_
      refine ev_iload (p' := 76) i_20_74 rfl rfl ?_
      refine ev_if_eq (p' := 79) (tg := 83) i_20_76 rfl rfl (fun c76 => absurd c76 ((by decide))) (fun c76 => ?_)
      refine ev_iconst (p' := 80) (v := 0) i_20_79 rfl (by decide) ?_
      refine ev_goto (tg := 107) i_20_80 rfl ?_
      have e8 : (0 : Int32) = rise (pf mi P) o h i := by unfold rise; exact (if_pos (Or.inr c64)).symm
      rw [e8]
      refine ev_istore (p' := 109) (ls' := [_, _, _, _, _, _, _, _]) i_20_107 rfl rfl (by decide) rfl ?_
      refine ev_aload_n (p' := 110) i_20_109 rfl rfl ?_
      refine ev_getr (p' := 113) i_20_110 rfl fl_2_17 rfl (is_pg hP) (hw.heights hP) ?_
      refine ev_iload_n (p' := 114) i_20_113 rfl rfl ?_
      refine ev_iload (p' := 116) i_20_114 rfl rfl ?_
      refine ev_iload (p' := 118) i_20_116 rfl rfl ?_
      refine ev_iadd (p' := 119) i_20_118 rfl ?_
      refine ev_iastN (p' := 120) i_20_119 rfl (is_pgh hP) (len_pgh hP) (by omega) (by decide) (gc_pgh hP) ?_
      refine ev_iinc (p' := 123) (ls' := [_, _, _, _, _, _, _, _]) i_20_120 rfl rfl rfl (by decide) (nI_inc _) rfl ?_
      refine ev_goto (tg := 2) i_20_123 rfl ?_
      rw [show gv + rise (pf mi P) o h i = hgt (pf mi P) o h i from hg.symm, hm_up]
      exact kk _ _ _ _
theorem l_meas {L : Nat} {π : Nat → Nat → Nat} {mi : Nat → Nat → Int32} {ml : Nat → Nat → Int64} {mr : Nat → Nat → Option Nat} {d : Nat} {E : Option Value → pm_M → Prop} (hw : WR π mr) {P : Nat} (hP : P ∈ k_pg) {n : Nat} (hn7 : n ≤ 7) (hn : mi P 5 = nI n) (hks : ∀ i, i < n → ∃ k, k < 6 ∧ mi (P + 3 + i) 0 = nI k) {o h : Int32} (hE : E none (WW L, hm mi P o h n, ml, mr)) : ∀ k i x4 x5 x6 x7, i + k = n → Ev gC (pm_ev gC (d + 3)) E q_20 2 [some (.ref P), some (.int o), some (.int h), some (.int (nI i)), x4, x5, x6, x7] [] (WW L, hm mi P o h i, ml, mr) := by
  intro k
  induction k with
  | zero =>
    intro i x4 x5 x6 x7 hi
    have hi : i = n := by omega
    subst hi
    refine ev_iload_n (p' := 3) i_20_2 rfl rfl ?_
    refine ev_aload_n (p' := 4) i_20_3 rfl rfl ?_
    refine ev_geti (p' := 7) i_20_4 rfl fl_2_28 rfl (is_pg hP) ?_
    refine ev_icmp_ge (p' := 10) (tg := 126) i_20_7 rfl rfl (fun c7 => ?_) (fun c7 => absurd ((by rw [hm_pg, hn]; exact nI_le (by omega) (by omega))) c7)
    exact ev_ret i_20_126 rfl hE
  | succ k ih =>
    intro i x4 x5 x6 x7 hi
    refine ev_iload_n (p' := 3) i_20_2 rfl rfl ?_
    refine ev_aload_n (p' := 4) i_20_3 rfl rfl ?_
    refine ev_geti (p' := 7) i_20_4 rfl fl_2_28 rfl (is_pg hP) ?_
    refine ev_icmp_ge (p' := 10) (tg := 126) i_20_7 rfl rfl (fun c7 => absurd c7 ((by rw [hm_pg, hn]; exact nI_ge (by omega) (by omega)))) (fun c7 => ?_)
    refine ev_aload_n (p' := 11) i_20_10 rfl rfl ?_
    refine ev_getr (p' := 14) i_20_11 rfl fl_2_11 rfl (is_pg hP) (hw.pieces hP) ?_
    refine ev_iload_n (p' := 15) i_20_14 rfl rfl ?_
    refine ev_aaldN (p' := 16) 25 i_20_15 rfl (is_pgp hP) (by decide) (len_pgp hP) (by omega) (by decide) (hw.piece hP (by omega)) ?_
    refine ev_astore (p' := 18) (ls' := [_, _, _, _, _, _, _, _]) i_20_16 rfl rfl (by decide) rfl ?_
    refine ev_aload (p' := 20) i_20_18 rfl rfl ?_
    refine ev_geti (p' := 23) i_20_20 rfl fl_2_56 rfl (is_pc hP (by omega)) ?_
    rw [hm_pc]
    refine ev_if_lt (p' := 26) (tg := 48) i_20_23 rfl rfl (fun c23 => ?_) (fun c23 => ?_)
    · refine ev_iconst (p' := 49) (v := 0) i_20_48 rfl (by decide) ?_
      obtain ⟨k, hk6, hk⟩ := hks i (by omega)
      exact e_meas49 hw hP hn7 (by omega) hk6 hk (hgt_off (Or.inl c23)) (fun _ _ _ _ => ih (i + 1) _ _ _ _ (by omega))
    · refine ev_aload (p' := 28) i_20_26 rfl rfl ?_
      refine ev_geti (p' := 31) i_20_28 rfl fl_2_56 rfl (is_pc hP (by omega)) ?_
      rw [hm_pc]
      refine ev_iload_n (p' := 32) i_20_31 rfl rfl ?_
      refine ev_icmp_ge (p' := 35) (tg := 48) i_20_32 rfl rfl (fun c32 => ?_) (fun c32 => ?_)
      · refine ev_iconst (p' := 49) (v := 0) i_20_48 rfl (by decide) ?_
        obtain ⟨k, hk6, hk⟩ := hks i (by omega)
        exact e_meas49 hw hP hn7 (by omega) hk6 hk (hgt_off (Or.inr c32)) (fun _ _ _ _ => ih (i + 1) _ _ _ _ (by omega))
      · obtain ⟨jo, hjo, ejo⟩ := on_nat c23 c32 (by omega)
        refine ev_aload_n (p' := 36) i_20_35 rfl rfl ?_
        refine ev_getr (p' := 39) i_20_36 rfl fl_2_17 rfl (is_pg hP) (hw.heights hP) ?_
        refine ev_aload (p' := 41) i_20_39 rfl rfl ?_
        refine ev_geti (p' := 44) i_20_41 rfl fl_2_56 rfl (is_pc hP (by omega)) ?_
        rw [hm_pc, ejo]
        refine ev_ialdN (p' := 45) i_20_44 rfl (is_pgh hP) (len_pgh hP) (by omega) (by decide) ?_
        rw [hm_h hjo]
        refine ev_goto (tg := 49) i_20_45 rfl ?_
        obtain ⟨k, hk6, hk⟩ := hks i (by omega)
        exact e_meas49 hw hP hn7 (by omega) hk6 hk (hgt_on hjo (by omega) ejo) (fun _ _ _ _ => ih (i + 1) _ _ _ _ (by omega))
theorem s_meas {L : Nat} {π : Nat → Nat → Nat} {mi : Nat → Nat → Int32} {ml : Nat → Nat → Int64} {mr : Nat → Nat → Option Nat} (d : Nat) (hw : WR π mr) {P : Nat} (hP : P ∈ k_pg) {n : Nat} (hn7 : n ≤ 7) (hn : mi P 5 = nI n) (hks : ∀ i, i < n → ∃ k, k < 6 ∧ mi (P + 3 + i) 0 = nI k) (o h : Int32) : pm_ev gC (d + 4) 20 [.ref P, .int o, .int h] (WW L, mi, ml, mr) none (WW L, hm mi P o h n, ml, mr) := by
  refine ev_enter (q := q_20) rfl (Nat.le_of_ble_eq_true rfl) rfl ?_
  refine ev_iconst (p' := 1) (v := nI 0) i_20_0 rfl (by decide) ?_
  refine ev_istore_n (p' := 2) (ls' := [_, _, _, _, _, _, _, _]) i_20_1 rfl rfl (by decide) rfl ?_
  rw [show (WW L, mi, ml, mr) = ((WW L, hm mi P o h 0, ml, mr) : pm_M) by rw [hm_0]]
  exact l_meas hw hP hn7 hn hks ⟨rfl, rfl⟩ n 0 _ _ _ _ (by omega)
