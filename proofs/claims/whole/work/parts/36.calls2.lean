/-! ===== seen, height, of, gives, part, forget ===== -/
theorem C_seen_bad (L d : Nat) (A : AV) (hA : okA A) (x : Int32) (hb : ¬ (0 ≤ x ∧ x ≤ 12)) : Cst L (d + 24) 83 [.int x] A (.int (-2)) (badA A) := by
  refine C_of (q := q_83) rfl (Nat.le_of_ble_eq_true rfl) rfl (fun π mi ml mr hw hc => ?_)
  have hn := hc.hn
  have h7 := hA.n7
  refine ev_iload_n (p' := 1) i_83_0 rfl rfl ?_
  refine ev_s1I (p' := 4) i_83_1 rfl cl_11_138_0 (by decide) (Nat.le_of_ble_eq_true rfl) (s_isNoOpening _ _) ?_
  refine ev_if_eq (p' := 7) (tg := 12) i_83_4 rfl rfl (fun c4 => ?_) (fun c4 => ?_)
  · replace c4 := B0 c4
    exact absurd (ni c4) hb
  · replace c4 := B1 c4
    refine ev_aload_n (p' := 8) i_83_7 rfl rfl ?_
    refine ev_v0I (p' := 11) i_83_8 rfl cl_11_93_11 (by decide) is_1 (Nat.le_of_ble_eq_true rfl) (s_bad _) ?_
    exact ev_iretI i_83_11 rfl (EC.mk rfl hw (hc.bad hw))
theorem R_seen_bad (L d : Nat) (A : AV) (hA : okA A) (x : Int32) (hb : ¬ (0 ≤ x ∧ x ≤ 12)) : Rst L (d + 24) 183 [.int x] A (.int (-2)) (badA A) := by
  refine R_of (q := q_183) rfl (Nat.le_of_ble_eq_true rfl) rfl (fun π mi ml mr hw hc => ?_)
  have hn := hc.hn
  have h7 := hA.n7
  refine ev_iload_n (p' := 1) i_183_0 rfl rfl ?_
  refine ev_s1I (p' := 4) i_183_1 rfl cl_12_228_0 (by decide) (Nat.le_of_ble_eq_true rfl) (s_isOpening _ _) ?_
  refine ev_if_eq (p' := 7) (tg := 15) i_183_4 rfl rfl (fun c4 => ?_) (fun c4 => ?_)
  · replace c4 := B0 c4
    refine ev_aload_n (p' := 16) i_183_15 rfl rfl ?_
    refine ev_v0I (p' := 19) i_183_16 rfl cl_12_119_12 (by decide) is_285 (Nat.le_of_ble_eq_true rfl) (s_mbad _ hw) ?_
    exact ev_iretI i_183_19 rfl (ER.mk rfl (hc.bad h7))
  · replace c4 := B1 c4
    exact absurd (c4) hb
theorem C_seen (L d : Nat) (A : AV) (hA : okA A) {oo : Nat} (ho : oo < 13) : Cst L (d + 24) 83 [.int (nI oo)] A (.int (VS A.1.1 (nI oo) 0)) (A) := by
  refine C_of (q := q_83) rfl (Nat.le_of_ble_eq_true rfl) rfl (fun π mi ml mr hw hc => ?_)
  have hn := hc.hn
  have h7 := hA.n7
  refine ev_iload_n (p' := 1) i_83_0 rfl rfl ?_
  refine ev_s1I (p' := 4) i_83_1 rfl cl_11_138_0 (by decide) (Nat.le_of_ble_eq_true rfl) (s_isNoOpening _ _) ?_
  refine ev_if_eq (p' := 7) (tg := 12) i_83_4 rfl rfl (fun c4 => ?_) (fun c4 => absurd (B_f (nj (in0 (m := 12) (by omega) (by decide) rfl))) c4)
  refine ev_aload_n (p' := 13) i_83_12 rfl rfl ?_
  refine ev_getr (p' := 16) i_83_13 rfl fl_11_78 rfl is_1 (rf_1_0 hw) ?_
  refine ev_getr (p' := 19) i_83_16 rfl fl_11_97 rfl (is_sp sp_17) (hw.page sp_17) ?_
  refine ev_iload_n (p' := 20) i_83_19 rfl rfl ?_
  refine ev_iconst (p' := 21) (v := 0) i_83_20 rfl (by decide) ?_
  refine ev_v2I (p' := 24) i_83_21 rfl cl_11_154_2 (by decide) (is_pg pg_33) (Nat.le_of_ble_eq_true rfl) (v_vis _ hw pg_33 hc.pg hA.1.1 _ _) ?_
  exact ev_iretI i_83_24 rfl (EC.mk rfl hw (hc.hm hw pg_33))
theorem R_seen (L d : Nat) (A : AV) (hA : okA A) {oo : Nat} (ho : oo < 13) : Rst L (d + 24) 183 [.int (nI oo)] A (.int (VS A.1.1 (nI oo) 0)) (A) := by
  refine R_of (q := q_183) rfl (Nat.le_of_ble_eq_true rfl) rfl (fun π mi ml mr hw hc => ?_)
  have hn := hc.hn
  have h7 := hA.n7
  refine ev_iload_n (p' := 1) i_183_0 rfl rfl ?_
  refine ev_s1I (p' := 4) i_183_1 rfl cl_12_228_0 (by decide) (Nat.le_of_ble_eq_true rfl) (s_isOpening _ _) ?_
  refine ev_if_eq (p' := 7) (tg := 15) i_183_4 rfl rfl (fun c4 => absurd c4 (B_tn (in0 (m := 12) (by omega) (by decide) rfl))) (fun c4 => ?_)
  refine ev_aload_n (p' := 8) i_183_7 rfl rfl ?_
  refine ev_iload_n (p' := 9) i_183_8 rfl rfl ?_
  refine ev_v1I (p' := 12) i_183_9 rfl cl_12_237_12 (by decide) is_285 (Nat.le_of_ble_eq_true rfl) (v_mSeen _ hw hc hA ho) ?_
  refine ev_goto (tg := 19) i_183_12 rfl ?_
  exact ev_iretI i_183_19 rfl (ER.mk rfl (hc.hr h7))
theorem Q_seen (L : Nat) (A : AV) (hA : okA A) (x : Int32) : SameI L 83 183 [.int x] A := by
  by_cases h : 0 ≤ x ∧ x ≤ 12
  · obtain ⟨j, hj, rfl⟩ := of0 (m := 12) h rfl
    exact ⟨_, A, hA, fun d => C_seen L d A hA (by omega), fun d => R_seen L d A hA (by omega)⟩
  · exact ⟨_, badA A, hA.bad, fun d => C_seen_bad L d A hA x h, fun d => R_seen_bad L d A hA x h⟩
theorem C_height_bad (L d : Nat) (A : AV) (hA : okA A) (x : Int32) (y : Int32) (hb : ¬ ((0 ≤ x ∧ x ≤ nI A.1.1.1 - 1) ∧ (0 ≤ y ∧ y ≤ 12))) : Cst L (d + 24) 82 [.int x, .int y] A (.int (-2)) (badA A) := by
  refine C_of (q := q_82) rfl (Nat.le_of_ble_eq_true rfl) rfl (fun π mi ml mr hw hc => ?_)
  have hn := hc.hn
  have h7 := hA.n7
  refine ev_aload_n (p' := 1) i_82_0 rfl rfl ?_
  refine ev_iload_n (p' := 2) i_82_1 rfl rfl ?_
  refine ev_v1I (p' := 5) i_82_2 rfl cl_11_158_11 (by decide) is_1 (Nat.le_of_ble_eq_true rfl) (s_noPiece _ hw hn _) ?_
  refine ev_if_ne (p' := 8) (tg := 15) i_82_5 rfl rfl (fun c5 => ?_) (fun c5 => ?_)
  · replace c5 := B1 c5
    refine ev_aload_n (p' := 16) i_82_15 rfl rfl ?_
    refine ev_v0I (p' := 19) i_82_16 rfl cl_11_93_11 (by decide) is_1 (Nat.le_of_ble_eq_true rfl) (s_bad _) ?_
    exact ev_iretI i_82_19 rfl (EC.mk rfl hw (hc.bad hw))
  · replace c5 := B0n c5
    refine ev_iload_n (p' := 9) i_82_8 rfl rfl ?_
    refine ev_s1I (p' := 12) i_82_9 rfl cl_11_138_0 (by decide) (Nat.le_of_ble_eq_true rfl) (s_isNoOpening _ _) ?_
    refine ev_if_eq (p' := 15) (tg := 20) i_82_12 rfl rfl (fun c12 => ?_) (fun c12 => ?_)
    · replace c12 := B0 c12
      exact absurd ⟨ni c5, ni c12⟩ hb
    · replace c12 := B1 c12
      refine ev_aload_n (p' := 16) i_82_15 rfl rfl ?_
      refine ev_v0I (p' := 19) i_82_16 rfl cl_11_93_11 (by decide) is_1 (Nat.le_of_ble_eq_true rfl) (s_bad _) ?_
      exact ev_iretI i_82_19 rfl (EC.mk rfl hw (hc.bad hw))
theorem R_height_bad (L d : Nat) (A : AV) (hA : okA A) (x : Int32) (y : Int32) (hb : ¬ ((0 ≤ x ∧ x ≤ nI A.1.1.1 - 1) ∧ (0 ≤ y ∧ y ≤ 12))) : Rst L (d + 24) 182 [.int x, .int y] A (.int (-2)) (badA A) := by
  refine R_of (q := q_182) rfl (Nat.le_of_ble_eq_true rfl) rfl (fun π mi ml mr hw hc => ?_)
  have hn := hc.hn
  have h7 := hA.n7
  refine ev_aload_n (p' := 1) i_182_0 rfl rfl ?_
  refine ev_iload_n (p' := 2) i_182_1 rfl rfl ?_
  refine ev_v1I (p' := 5) i_182_2 rfl cl_12_240_12 (by decide) is_285 (Nat.le_of_ble_eq_true rfl) (s_isPiece (π := π) _ hn _) ?_
  refine ev_if_eq (p' := 8) (tg := 24) i_182_5 rfl rfl (fun c5 => ?_) (fun c5 => ?_)
  · replace c5 := B0 c5
    refine ev_aload_n (p' := 25) i_182_24 rfl rfl ?_
    refine ev_v0I (p' := 28) i_182_25 rfl cl_12_119_12 (by decide) is_285 (Nat.le_of_ble_eq_true rfl) (s_mbad _ hw) ?_
    exact ev_iretI i_182_28 rfl (ER.mk rfl (hc.bad h7))
  · replace c5 := B1 c5
    refine ev_iload_n (p' := 9) i_182_8 rfl rfl ?_
    refine ev_s1I (p' := 12) i_182_9 rfl cl_12_228_0 (by decide) (Nat.le_of_ble_eq_true rfl) (s_isOpening _ _) ?_
    refine ev_if_eq (p' := 15) (tg := 24) i_182_12 rfl rfl (fun c12 => ?_) (fun c12 => ?_)
    · replace c12 := B0 c12
      refine ev_aload_n (p' := 25) i_182_24 rfl rfl ?_
      refine ev_v0I (p' := 28) i_182_25 rfl cl_12_119_12 (by decide) is_285 (Nat.le_of_ble_eq_true rfl) (s_mbad _ hw) ?_
      exact ev_iretI i_182_28 rfl (ER.mk rfl (hc.bad h7))
    · replace c12 := B1 c12
      exact absurd ⟨c5, c12⟩ hb
theorem C_height (L d : Nat) (A : AV) (hA : okA A) {i oo : Nat} (hi : i < A.1.1.1) (ho : oo < 13) : Cst L (d + 24) 82 [.int (nI i), .int (nI oo)] A (.int (HT A.1.1 (nI oo) i)) (A) := by
  refine C_of (q := q_82) rfl (Nat.le_of_ble_eq_true rfl) rfl (fun π mi ml mr hw hc => ?_)
  have hn := hc.hn
  have h7 := hA.n7
  refine ev_aload_n (p' := 1) i_82_0 rfl rfl ?_
  refine ev_iload_n (p' := 2) i_82_1 rfl rfl ?_
  refine ev_v1I (p' := 5) i_82_2 rfl cl_11_158_11 (by decide) is_1 (Nat.le_of_ble_eq_true rfl) (s_noPiece _ hw hn _) ?_
  refine ev_if_ne (p' := 8) (tg := 15) i_82_5 rfl rfl (fun c5 => absurd c5 (fun z => z (B_f (nj (inn hi h7))))) (fun c5 => ?_)
  refine ev_iload_n (p' := 9) i_82_8 rfl rfl ?_
  refine ev_s1I (p' := 12) i_82_9 rfl cl_11_138_0 (by decide) (Nat.le_of_ble_eq_true rfl) (s_isNoOpening _ _) ?_
  refine ev_if_eq (p' := 15) (tg := 20) i_82_12 rfl rfl (fun c12 => ?_) (fun c12 => absurd (B_f (nj (in0 (m := 12) (by omega) (by decide) rfl))) c12)
  refine ev_aload_n (p' := 21) i_82_20 rfl rfl ?_
  refine ev_getr (p' := 24) i_82_21 rfl fl_11_78 rfl is_1 (rf_1_0 hw) ?_
  refine ev_getr (p' := 27) i_82_24 rfl fl_11_97 rfl (is_sp sp_17) (hw.page sp_17) ?_
  refine ev_iload_n (p' := 28) i_82_27 rfl rfl ?_
  refine ev_iconst (p' := 29) (v := 0) i_82_28 rfl (by decide) ?_
  refine ev_v2V (p' := 32) i_82_29 rfl cl_11_213_2 (by decide) (is_pg pg_33) (Nat.le_of_ble_eq_true rfl) (s_meas _ hw pg_33 hc.pg.1 hc.pg.2.1 (hc.pg.ks hA.1.1) _ _) ?_
  refine ev_aload_n (p' := 33) i_82_32 rfl rfl ?_
  refine ev_getr (p' := 36) i_82_33 rfl fl_11_78 rfl is_1 (rf_1_0 hw) ?_
  refine ev_getr (p' := 39) i_82_36 rfl fl_11_97 rfl (is_sp sp_17) (hw.page sp_17) ?_
  refine ev_getr (p' := 42) i_82_39 rfl fl_11_217 rfl (is_pg pg_33) (hw.heights pg_33) ?_
  refine ev_iload_n (p' := 43) i_82_42 rfl rfl ?_
  refine ev_ialdN (p' := 44) i_82_43 rfl (is_pgh pg_33) (len_pgh pg_33) (by omega) (by decide) ?_
  exact ev_iretI i_82_44 rfl (EC.mk (by show Value.int (hm mi 33 (nI oo) 0 A.1.1.1 (33 + 2) i) = _; rw [hm_h hi, hc.pg.hte hi]) hw (hc.hm hw pg_33))
theorem R_height (L d : Nat) (A : AV) (hA : okA A) {i oo : Nat} (hi : i < A.1.1.1) (ho : oo < 13) : Rst L (d + 24) 182 [.int (nI i), .int (nI oo)] A (.int (HT A.1.1 (nI oo) i)) (A) := by
  refine R_of (q := q_182) rfl (Nat.le_of_ble_eq_true rfl) rfl (fun π mi ml mr hw hc => ?_)
  have hn := hc.hn
  have h7 := hA.n7
  refine ev_aload_n (p' := 1) i_182_0 rfl rfl ?_
  refine ev_iload_n (p' := 2) i_182_1 rfl rfl ?_
  refine ev_v1I (p' := 5) i_182_2 rfl cl_12_240_12 (by decide) is_285 (Nat.le_of_ble_eq_true rfl) (s_isPiece (π := π) _ hn _) ?_
  refine ev_if_eq (p' := 8) (tg := 24) i_182_5 rfl rfl (fun c5 => absurd c5 (B_tn (inn hi h7))) (fun c5 => ?_)
  refine ev_iload_n (p' := 9) i_182_8 rfl rfl ?_
  refine ev_s1I (p' := 12) i_182_9 rfl cl_12_228_0 (by decide) (Nat.le_of_ble_eq_true rfl) (s_isOpening _ _) ?_
  refine ev_if_eq (p' := 15) (tg := 24) i_182_12 rfl rfl (fun c12 => absurd c12 (B_tn (in0 (m := 12) (by omega) (by decide) rfl))) (fun c12 => ?_)
  refine ev_aload_n (p' := 16) i_182_15 rfl rfl ?_
  refine ev_iload_n (p' := 17) i_182_16 rfl rfl ?_
  refine ev_iload_n (p' := 18) i_182_17 rfl rfl ?_
  refine ev_v2I (p' := 21) i_182_18 rfl cl_12_219_12 (by decide) is_285 (Nat.le_of_ble_eq_true rfl) (v_mHeight _ hw hc hA ho hi) ?_
  refine ev_goto (tg := 28) i_182_21 rfl ?_
  exact ev_iretI i_182_28 rfl (ER.mk rfl hc)
theorem Q_height (L : Nat) (A : AV) (hA : okA A) (x y : Int32) : SameI L 82 182 [.int x, .int y] A := by
  by_cases h : (0 ≤ x ∧ x ≤ nI A.1.1.1 - 1) ∧ (0 ≤ y ∧ y ≤ 12)
  · obtain ⟨i, hi, rfl⟩ := ofn hA.n7 h.1
    obtain ⟨j, hj, rfl⟩ := of0 (m := 12) h.2 rfl
    exact ⟨_, A, hA, fun d => C_height L d A hA hi (by omega), fun d => R_height L d A hA hi (by omega)⟩
  · exact ⟨_, badA A, hA.bad, fun d => C_height_bad L d A hA x y h, fun d => R_height_bad L d A hA x y h⟩
def partR (x : Int32) (A : AV) : Int64 := if x = 0 then A.2.2.2.1.1 else if x = 1 then A.2.2.2.1.2 else -2
def partA (x : Int32) (A : AV) : AV := if x = 0 ∨ x = 1 then A else badA A
theorem C_part (L d : Nat) (A : AV) (hA : okA A) (x : Int32) : Cst L (d + 24) 100 [.int x] A (.long (partR x A)) (partA x A) := by
  refine C_of (q := q_100) rfl (Nat.le_of_ble_eq_true rfl) rfl (fun π mi ml mr hw hc => ?_)
  have hn := hc.hn
  have h7 := hA.n7
  refine ev_iload_n (p' := 1) i_100_0 rfl rfl ?_
  by_cases hx0 : x = 0
  · subst hx0
    refine ev_ls (tg := 28) i_100_1 (by decide) (by decide) ?_
    refine ev_aload_n (p' := 29) i_100_28 rfl rfl ?_
    refine ev_getl (p' := 32) i_100_29 rfl fl_11_40 rfl is_1 ?_
    exact ev_lret i_100_32 rfl (EC.mk (by rw [partR, if_pos rfl, hc.2.2.2.1.1]) hw (by rw [partA, if_pos (Or.inl rfl)]; exact hc))
  by_cases hx1 : x = 1
  · subst hx1
    refine ev_ls (tg := 33) i_100_1 (by decide) (by decide) ?_
    refine ev_aload_n (p' := 34) i_100_33 rfl rfl ?_
    refine ev_getl (p' := 37) i_100_34 rfl fl_11_44 rfl is_1 ?_
    exact ev_lret i_100_37 rfl (EC.mk (by rw [partR, if_neg (by decide), if_pos rfl, hc.2.2.2.1.2]) hw (by rw [partA, if_pos (Or.inr rfl)]; exact hc))
  · refine ev_ls (tg := 38) i_100_1 (by decide) (by rw [lv_osw hx0 (by decide), lv_osw hx1 (by decide)]; rfl) ?_
    refine ev_aload_n (p' := 39) i_100_38 rfl rfl ?_
    refine ev_v0I (p' := 42) i_100_39 rfl cl_11_93_11 (by decide) is_1 (Nat.le_of_ble_eq_true rfl) (s_bad _) ?_
    refine ev_i2l (p' := 43) i_100_42 rfl ?_
    exact ev_lret i_100_43 rfl (EC.mk (by rw [partR, if_neg hx0, if_neg hx1]; rfl) hw (by rw [partA, if_neg (by simp [hx0, hx1])]; exact hc.bad hw))
theorem R_part (L d : Nat) (A : AV) (hA : okA A) (x : Int32) : Rst L (d + 24) 215 [.int x] A (.long (partR x A)) (partA x A) := by
  refine R_of (q := q_215) rfl (Nat.le_of_ble_eq_true rfl) rfl (fun π mi ml mr hw hc => ?_)
  have hn := hc.hn
  have h7 := hA.n7
  refine ev_iload_n (p' := 1) i_215_0 rfl rfl ?_
  refine ev_if_ne (p' := 4) (tg := 11) i_215_1 rfl rfl (fun c1 => ?_) (fun c1 => ?_)
  · refine ev_iload_n (p' := 12) i_215_11 rfl rfl ?_
    refine ev_iconst (p' := 13) (v := 1) i_215_12 rfl (by decide) ?_
    refine ev_icmp_ne (p' := 16) (tg := 23) i_215_13 rfl rfl (fun c13 => ?_) (fun c13 => ?_)
    · refine ev_aload_n (p' := 24) i_215_23 rfl rfl ?_
      refine ev_v0I (p' := 27) i_215_24 rfl cl_12_119_12 (by decide) is_285 (Nat.le_of_ble_eq_true rfl) (s_mbad _ hw) ?_
      refine ev_i2l (p' := 28) i_215_27 rfl ?_
      exact ev_lret i_215_28 rfl (ER.mk (by rw [partR, if_neg c1, if_neg c13]; rfl) (by rw [partA, if_neg (by simp [c1, c13])]; exact hc.bad h7))
    · refine ev_aload_n (p' := 17) i_215_16 rfl rfl ?_
      refine ev_getl (p' := 20) i_215_17 rfl fl_12_82 rfl is_285 ?_
      refine ev_goto (tg := 28) i_215_20 rfl ?_
      exact ev_lret i_215_28 rfl (ER.mk (by rw [partR, if_neg c1, if_pos (Classical.not_not.mp c13), hc.2.2.2.1.2]) (by rw [partA, if_pos (Or.inr (Classical.not_not.mp c13))]; exact hc))
  · refine ev_aload_n (p' := 5) i_215_4 rfl rfl ?_
    refine ev_getl (p' := 8) i_215_5 rfl fl_12_309 rfl is_285 ?_
    refine ev_goto (tg := 28) i_215_8 rfl ?_
    exact ev_lret i_215_28 rfl (ER.mk (by rw [partR, if_pos (Classical.not_not.mp c1), hc.2.2.2.1.1]) (by rw [partA, if_pos (Or.inl (Classical.not_not.mp c1))]; exact hc))
theorem Q_part (L : Nat) (A : AV) (hA : okA A) (x : Int32) : SameJ L 100 215 [.int x] A :=
  ⟨_, partA x A, by unfold partA; split <;> exact hA, fun d => C_part L d A hA x, fun d => R_part L d A hA x⟩
theorem Q_clear (L : Nat) (A : AV) (hA : okA A) : SameI L 74 148 [] A := ⟨_, clearA A, ⟨hA.1, hA.2.1, Nat.zero_le _, fun i hi => absurd hi (Nat.not_lt_zero i)⟩, fun d => C_clear L (d + 23) A, fun d => R_clear L (d + 23) A⟩
theorem Q_status (L : Nat) (A : AV) (hA : okA A) (x : Int32) : SameI L 103 220 [.int x] A := ⟨_, statA x A, by unfold statA; split <;> exact hA, fun d => C_status L (d + 23) A x, fun d => R_status L (d + 22) A hA.n7 x⟩
