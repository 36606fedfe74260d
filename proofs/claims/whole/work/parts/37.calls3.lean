/-! ===== of, gives ===== -/
theorem CR.f {π : Nat → Nat → Nat} {mi : Nat → Nat → Int32} {ml : Nat → Nat → Int64} {A : AV} {i j : Nat} (h : CR π mi ml A) (hi : i < A.1.1.1) (hj : j < 8) : mi (33 + 3 + i) j = fx A.1.1.2.2.2 j i := h.1.1.2.2.2.2 i hi j hj
theorem RR.f {mi : Nat → Nat → Int32} {ml : Nat → Nat → Int64} {A : AV} {i j : Nat} (h : RR mi ml A) (hi : i < A.1.1.1) (hj : j < 7) : mi (287 + j) i = A.1.1.2.2.2 j i := h.1.1.2.2.2 i hi j hj
theorem in07 {x : Int32} (h : 0 ≤ x ∧ x ≤ 7) : x = 0 ∨ x = 1 ∨ x = 2 ∨ x = 3 ∨ x = 4 ∨ x = 5 ∨ x = 6 ∨ x = 7 := by
  obtain ⟨j, hj, e⟩ := of0 (m := 7) h rfl
  match j, hj with
  | 0, _ => exact Or.inl e
  | 1, _ => exact Or.inr (Or.inl e)
  | 2, _ => exact Or.inr (Or.inr (Or.inl e))
  | 3, _ => exact Or.inr (Or.inr (Or.inr (Or.inl e)))
  | 4, _ => exact Or.inr (Or.inr (Or.inr (Or.inr (Or.inl e))))
  | 5, _ => exact Or.inr (Or.inr (Or.inr (Or.inr (Or.inr (Or.inl e)))))
  | 6, _ => exact Or.inr (Or.inr (Or.inr (Or.inr (Or.inr (Or.inr (Or.inl e))))))
  | 7, _ => exact Or.inr (Or.inr (Or.inr (Or.inr (Or.inr (Or.inr (Or.inr e))))))
  | j + 8, h => omega
theorem in02' {x : Int32} (h : 0 ≤ x ∧ x ≤ 2) : x = 0 ∨ x = 1 ∨ x = 2 := in02 h
theorem in01 {x : Int32} (h : 0 ≤ x ∧ x ≤ 1) : x = 0 ∨ x = 1 := by
  obtain ⟨j, hj, e⟩ := of0 (m := 1) h rfl
  match j, hj with
  | 0, _ => exact Or.inl e
  | 1, _ => exact Or.inr e
  | j + 2, h => omega
theorem C_of_bad (L d : Nat) (A : AV) (hA : okA A) (y x : Int32) (hb : ¬ ((0 ≤ y ∧ y ≤ nI A.1.1.1 - 1) ∧ (0 ≤ x ∧ x ≤ 7))) : Cst L (d + 24) 80 [.int y, .int x] A (.int (-2)) (badA A) := by
  refine C_of (q := q_80) rfl (Nat.le_of_ble_eq_true rfl) rfl (fun π mi ml mr hw hc => ?_)
  have hn := hc.hn
  have h7 := hA.n7
  refine ev_aload_n (p' := 1) i_80_0 rfl rfl ?_
  refine ev_iload_n (p' := 2) i_80_1 rfl rfl ?_
  refine ev_v1I (p' := 5) i_80_2 rfl cl_11_158_11 (by decide) is_1 (Nat.le_of_ble_eq_true rfl) (s_noPiece _ hw hn _) ?_
  refine ev_if_eq (p' := 8) (tg := 13) i_80_5 rfl rfl (fun c5 => ?_) (fun c5 => ?_)
  · replace c5 := B0 c5
    obtain ⟨yi, hyi, rfl⟩ := ofn h7 (ni c5)
    refine ev_aload_n (p' := 14) i_80_13 rfl rfl ?_
    refine ev_getr (p' := 17) i_80_14 rfl fl_11_78 rfl is_1 (rf_1_0 hw) ?_
    refine ev_getr (p' := 20) i_80_17 rfl fl_11_97 rfl (is_sp sp_17) (hw.page sp_17) ?_
    refine ev_getr (p' := 23) i_80_20 rfl fl_11_161 rfl (is_pg pg_33) (hw.pieces pg_33) ?_
    refine ev_iload_n (p' := 24) i_80_23 rfl rfl ?_
    refine ev_aaldN (p' := 25) 25 i_80_24 rfl (is_pgp pg_33) (by decide) (len_pgp pg_33) (by omega) (by decide) (hw.piece pg_33 (by omega)) ?_
    refine ev_astore_n (p' := 26) (ls' := [_, _, _, _]) i_80_25 rfl rfl (by decide) rfl ?_
    refine ev_iload_n (p' := 27) i_80_26 rfl rfl ?_
    by_cases hx0 : x = 0
    · subst hx0
      refine ev_tsIn (tg := 72) (off := 45) i_80_27 (by decide) (by decide) (by decide) (by decide) ?_
      exact absurd ⟨ni c5, by decide⟩ hb
    by_cases hx1 : x = 1
    · subst hx1
      refine ev_tsIn (tg := 77) (off := 50) i_80_27 (by decide) (by decide) (by decide) (by decide) ?_
      exact absurd ⟨ni c5, by decide⟩ hb
    by_cases hx2 : x = 2
    · subst hx2
      refine ev_tsIn (tg := 82) (off := 55) i_80_27 (by decide) (by decide) (by decide) (by decide) ?_
      exact absurd ⟨ni c5, by decide⟩ hb
    by_cases hx3 : x = 3
    · subst hx3
      refine ev_tsIn (tg := 87) (off := 60) i_80_27 (by decide) (by decide) (by decide) (by decide) ?_
      exact absurd ⟨ni c5, by decide⟩ hb
    by_cases hx4 : x = 4
    · subst hx4
      refine ev_tsIn (tg := 92) (off := 65) i_80_27 (by decide) (by decide) (by decide) (by decide) ?_
      exact absurd ⟨ni c5, by decide⟩ hb
    by_cases hx5 : x = 5
    · subst hx5
      refine ev_tsIn (tg := 97) (off := 70) i_80_27 (by decide) (by decide) (by decide) (by decide) ?_
      exact absurd ⟨ni c5, by decide⟩ hb
    by_cases hx6 : x = 6
    · subst hx6
      refine ev_tsIn (tg := 102) (off := 75) i_80_27 (by decide) (by decide) (by decide) (by decide) ?_
      exact absurd ⟨ni c5, by decide⟩ hb
    by_cases hx7 : x = 7
    · subst hx7
      refine ev_tsIn (tg := 107) (off := 80) i_80_27 (by decide) (by decide) (by decide) (by decide) ?_
      exact absurd ⟨ni c5, by decide⟩ hb
    · refine ev_tsOut (tg := 120) i_80_27 (by have z0 : x.toInt ≠ 0 := fun z => hx0 (Int32.toInt_inj.mp z); have z1 : x.toInt ≠ 1 := fun z => hx1 (Int32.toInt_inj.mp z); have z2 : x.toInt ≠ 2 := fun z => hx2 (Int32.toInt_inj.mp z); have z3 : x.toInt ≠ 3 := fun z => hx3 (Int32.toInt_inj.mp z); have z4 : x.toInt ≠ 4 := fun z => hx4 (Int32.toInt_inj.mp z); have z5 : x.toInt ≠ 5 := fun z => hx5 (Int32.toInt_inj.mp z); have z6 : x.toInt ≠ 6 := fun z => hx6 (Int32.toInt_inj.mp z); have z7 : x.toInt ≠ 7 := fun z => hx7 (Int32.toInt_inj.mp z); omega) (by decide) ?_
      refine ev_aload_n (p' := 121) i_80_120 rfl rfl ?_
      refine ev_v0I (p' := 124) i_80_121 rfl cl_11_93_11 (by decide) is_1 (Nat.le_of_ble_eq_true rfl) (s_bad _) ?_
      exact ev_iretI i_80_124 rfl (EC.mk rfl hw (hc.bad hw))
  · replace c5 := B1 c5
    refine ev_aload_n (p' := 9) i_80_8 rfl rfl ?_
    refine ev_v0I (p' := 12) i_80_9 rfl cl_11_93_11 (by decide) is_1 (Nat.le_of_ble_eq_true rfl) (s_bad _) ?_
    exact ev_iretI i_80_12 rfl (EC.mk rfl hw (hc.bad hw))
theorem R_of_bad (L d : Nat) (A : AV) (hA : okA A) (y x : Int32) (hb : ¬ ((0 ≤ y ∧ y ≤ nI A.1.1.1 - 1) ∧ (0 ≤ x ∧ x ≤ 7))) : Rst L (d + 24) 180 [.int y, .int x] A (.int (-2)) (badA A) := by
  refine R_of (q := q_180) rfl (Nat.le_of_ble_eq_true rfl) rfl (fun π mi ml mr hw hc => ?_)
  have hn := hc.hn
  have h7 := hA.n7
  refine ev_aload_n (p' := 1) i_180_0 rfl rfl ?_
  refine ev_iload_n (p' := 2) i_180_1 rfl rfl ?_
  refine ev_v1I (p' := 5) i_180_2 rfl cl_12_240_12 (by decide) is_285 (Nat.le_of_ble_eq_true rfl) (s_isPiece (π := π) _ hn _) ?_
  refine ev_if_eq (p' := 8) (tg := 18) i_180_5 rfl rfl (fun c5 => ?_) (fun c5 => ?_)
  · replace c5 := B0 c5
    refine ev_aload_n (p' := 19) i_180_18 rfl rfl ?_
    refine ev_v0I (p' := 22) i_180_19 rfl cl_12_119_12 (by decide) is_285 (Nat.le_of_ble_eq_true rfl) (s_mbad _ hw) ?_
    exact ev_iretI i_180_22 rfl (ER.mk rfl (hc.bad h7))
  · replace c5 := B1 c5
    refine ev_iload_n (p' := 9) i_180_8 rfl rfl ?_
    refine ev_iconst (p' := 10) (v := 0) i_180_9 rfl (by decide) ?_
    refine ev_bipush (p' := 12) (v := 7) i_180_10 rfl (by decide) ?_
    refine ev_s3I (p' := 15) i_180_12 rfl cl_12_115_0 (by decide) (Nat.le_of_ble_eq_true rfl) (s_in _ _ _ _) ?_
    refine ev_if_ne (p' := 18) (tg := 23) i_180_15 rfl rfl (fun c15 => ?_) (fun c15 => ?_)
    · replace c15 := B1 c15
      exact absurd ⟨c5, c15⟩ hb
    · replace c15 := B0n c15
      refine ev_aload_n (p' := 19) i_180_18 rfl rfl ?_
      refine ev_v0I (p' := 22) i_180_19 rfl cl_12_119_12 (by decide) is_285 (Nat.le_of_ble_eq_true rfl) (s_mbad _ hw) ?_
      exact ev_iretI i_180_22 rfl (ER.mk rfl (hc.bad h7))
theorem C_of0 (L d : Nat) (A : AV) (hA : okA A) {i : Nat} (hi : i < A.1.1.1) : Cst L (d + 24) 80 [.int (nI i), .int 0] A (.int (A.1.1.2.2.2 0 i)) (A) := by
  refine C_of (q := q_80) rfl (Nat.le_of_ble_eq_true rfl) rfl (fun π mi ml mr hw hc => ?_)
  have hn := hc.hn
  have h7 := hA.n7
  refine ev_aload_n (p' := 1) i_80_0 rfl rfl ?_
  refine ev_iload_n (p' := 2) i_80_1 rfl rfl ?_
  refine ev_v1I (p' := 5) i_80_2 rfl cl_11_158_11 (by decide) is_1 (Nat.le_of_ble_eq_true rfl) (s_noPiece _ hw hn _) ?_
  refine ev_if_eq (p' := 8) (tg := 13) i_80_5 rfl rfl (fun c5 => ?_) (fun c5 => absurd (B_f (nj (inn hi h7))) c5)
  refine ev_aload_n (p' := 14) i_80_13 rfl rfl ?_
  refine ev_getr (p' := 17) i_80_14 rfl fl_11_78 rfl is_1 (rf_1_0 hw) ?_
  refine ev_getr (p' := 20) i_80_17 rfl fl_11_97 rfl (is_sp sp_17) (hw.page sp_17) ?_
  refine ev_getr (p' := 23) i_80_20 rfl fl_11_161 rfl (is_pg pg_33) (hw.pieces pg_33) ?_
  refine ev_iload_n (p' := 24) i_80_23 rfl rfl ?_
  refine ev_aaldN (p' := 25) 25 i_80_24 rfl (is_pgp pg_33) (by decide) (len_pgp pg_33) (by omega) (by decide) (hw.piece pg_33 (by omega)) ?_
  refine ev_astore_n (p' := 26) (ls' := [_, _, _, _]) i_80_25 rfl rfl (by decide) rfl ?_
  refine ev_iload_n (p' := 27) i_80_26 rfl rfl ?_
  refine ev_tsIn (tg := 72) (off := 45) i_80_27 (by decide) (by decide) (by decide) (by decide) ?_
  refine ev_aload_n (p' := 73) i_80_72 rfl rfl ?_
  refine ev_geti (p' := 76) i_80_73 rfl fl_11_183 rfl (is_pc pg_33 (by omega)) ?_
  exact ev_iretI i_80_76 rfl (EC.mk (by show Value.int (mi (33 + 3 + i) 0) = _; rw [hc.f hi (by decide)]; rfl) hw hc)
theorem R_of0 (L d : Nat) (A : AV) (hA : okA A) {i : Nat} (hi : i < A.1.1.1) : Rst L (d + 24) 180 [.int (nI i), .int 0] A (.int (A.1.1.2.2.2 0 i)) (A) := by
  refine R_of (q := q_180) rfl (Nat.le_of_ble_eq_true rfl) rfl (fun π mi ml mr hw hc => ?_)
  have hn := hc.hn
  have h7 := hA.n7
  refine ev_aload_n (p' := 1) i_180_0 rfl rfl ?_
  refine ev_iload_n (p' := 2) i_180_1 rfl rfl ?_
  refine ev_v1I (p' := 5) i_180_2 rfl cl_12_240_12 (by decide) is_285 (Nat.le_of_ble_eq_true rfl) (s_isPiece (π := π) _ hn _) ?_
  refine ev_if_eq (p' := 8) (tg := 18) i_180_5 rfl rfl (fun c5 => absurd c5 (B_tn (inn hi h7))) (fun c5 => ?_)
  refine ev_iload_n (p' := 9) i_180_8 rfl rfl ?_
  refine ev_iconst (p' := 10) (v := 0) i_180_9 rfl (by decide) ?_
  refine ev_bipush (p' := 12) (v := 7) i_180_10 rfl (by decide) ?_
  refine ev_s3I (p' := 15) i_180_12 rfl cl_12_115_0 (by decide) (Nat.le_of_ble_eq_true rfl) (s_in _ _ _ _) ?_
  refine ev_if_ne (p' := 18) (tg := 23) i_180_15 rfl rfl (fun c15 => ?_) (fun c15 => absurd (B_tn (by decide)) c15)
  refine ev_iload_n (p' := 24) i_180_23 rfl rfl ?_
  refine ev_tsIn (tg := 68) (off := 44) i_180_24 (by decide) (by decide) (by decide) (by decide) ?_
  refine ev_aload_n (p' := 69) i_180_68 rfl rfl ?_
  refine ev_getr (p' := 72) i_180_69 rfl fl_12_13 rfl is_285 (rf_285_6 hw) ?_
  refine ev_iload_n (p' := 73) i_180_72 rfl rfl ?_
  refine ev_ialdN (p' := 74) i_180_73 rfl is_287 len_287 (by omega) (by decide) ?_
  exact ev_iretI i_180_74 rfl (ER.mk (by show Value.int (mi (287 + 0) i) = _; rw [hc.f hi (by decide)]) hc)
theorem C_of1 (L d : Nat) (A : AV) (hA : okA A) {i : Nat} (hi : i < A.1.1.1) : Cst L (d + 24) 80 [.int (nI i), .int 1] A (.int (A.1.1.2.2.2 1 i)) (A) := by
  refine C_of (q := q_80) rfl (Nat.le_of_ble_eq_true rfl) rfl (fun π mi ml mr hw hc => ?_)
  have hn := hc.hn
  have h7 := hA.n7
  refine ev_aload_n (p' := 1) i_80_0 rfl rfl ?_
  refine ev_iload_n (p' := 2) i_80_1 rfl rfl ?_
  refine ev_v1I (p' := 5) i_80_2 rfl cl_11_158_11 (by decide) is_1 (Nat.le_of_ble_eq_true rfl) (s_noPiece _ hw hn _) ?_
  refine ev_if_eq (p' := 8) (tg := 13) i_80_5 rfl rfl (fun c5 => ?_) (fun c5 => absurd (B_f (nj (inn hi h7))) c5)
  refine ev_aload_n (p' := 14) i_80_13 rfl rfl ?_
  refine ev_getr (p' := 17) i_80_14 rfl fl_11_78 rfl is_1 (rf_1_0 hw) ?_
  refine ev_getr (p' := 20) i_80_17 rfl fl_11_97 rfl (is_sp sp_17) (hw.page sp_17) ?_
  refine ev_getr (p' := 23) i_80_20 rfl fl_11_161 rfl (is_pg pg_33) (hw.pieces pg_33) ?_
  refine ev_iload_n (p' := 24) i_80_23 rfl rfl ?_
  refine ev_aaldN (p' := 25) 25 i_80_24 rfl (is_pgp pg_33) (by decide) (len_pgp pg_33) (by omega) (by decide) (hw.piece pg_33 (by omega)) ?_
  refine ev_astore_n (p' := 26) (ls' := [_, _, _, _]) i_80_25 rfl rfl (by decide) rfl ?_
  refine ev_iload_n (p' := 27) i_80_26 rfl rfl ?_
  refine ev_tsIn (tg := 77) (off := 50) i_80_27 (by decide) (by decide) (by decide) (by decide) ?_
  refine ev_aload_n (p' := 78) i_80_77 rfl rfl ?_
  refine ev_geti (p' := 81) i_80_78 rfl fl_11_186 rfl (is_pc pg_33 (by omega)) ?_
  exact ev_iretI i_80_81 rfl (EC.mk (by show Value.int (mi (33 + 3 + i) 1) = _; rw [hc.f hi (by decide)]; rfl) hw hc)
theorem R_of1 (L d : Nat) (A : AV) (hA : okA A) {i : Nat} (hi : i < A.1.1.1) : Rst L (d + 24) 180 [.int (nI i), .int 1] A (.int (A.1.1.2.2.2 1 i)) (A) := by
  refine R_of (q := q_180) rfl (Nat.le_of_ble_eq_true rfl) rfl (fun π mi ml mr hw hc => ?_)
  have hn := hc.hn
  have h7 := hA.n7
  refine ev_aload_n (p' := 1) i_180_0 rfl rfl ?_
  refine ev_iload_n (p' := 2) i_180_1 rfl rfl ?_
  refine ev_v1I (p' := 5) i_180_2 rfl cl_12_240_12 (by decide) is_285 (Nat.le_of_ble_eq_true rfl) (s_isPiece (π := π) _ hn _) ?_
  refine ev_if_eq (p' := 8) (tg := 18) i_180_5 rfl rfl (fun c5 => absurd c5 (B_tn (inn hi h7))) (fun c5 => ?_)
  refine ev_iload_n (p' := 9) i_180_8 rfl rfl ?_
  refine ev_iconst (p' := 10) (v := 0) i_180_9 rfl (by decide) ?_
  refine ev_bipush (p' := 12) (v := 7) i_180_10 rfl (by decide) ?_
  refine ev_s3I (p' := 15) i_180_12 rfl cl_12_115_0 (by decide) (Nat.le_of_ble_eq_true rfl) (s_in _ _ _ _) ?_
  refine ev_if_ne (p' := 18) (tg := 23) i_180_15 rfl rfl (fun c15 => ?_) (fun c15 => absurd (B_tn (by decide)) c15)
  refine ev_iload_n (p' := 24) i_180_23 rfl rfl ?_
  refine ev_tsIn (tg := 75) (off := 51) i_180_24 (by decide) (by decide) (by decide) (by decide) ?_
  refine ev_aload_n (p' := 76) i_180_75 rfl rfl ?_
  refine ev_getr (p' := 79) i_180_76 rfl fl_12_16 rfl is_285 (rf_285_7 hw) ?_
  refine ev_iload_n (p' := 80) i_180_79 rfl rfl ?_
  refine ev_ialdN (p' := 81) i_180_80 rfl is_288 len_288 (by omega) (by decide) ?_
  exact ev_iretI i_180_81 rfl (ER.mk (by show Value.int (mi (287 + 1) i) = _; rw [hc.f hi (by decide)]) hc)
theorem C_of2 (L d : Nat) (A : AV) (hA : okA A) {i : Nat} (hi : i < A.1.1.1) : Cst L (d + 24) 80 [.int (nI i), .int 2] A (.int (A.1.1.2.2.2 2 i)) (A) := by
  refine C_of (q := q_80) rfl (Nat.le_of_ble_eq_true rfl) rfl (fun π mi ml mr hw hc => ?_)
  have hn := hc.hn
  have h7 := hA.n7
  refine ev_aload_n (p' := 1) i_80_0 rfl rfl ?_
  refine ev_iload_n (p' := 2) i_80_1 rfl rfl ?_
  refine ev_v1I (p' := 5) i_80_2 rfl cl_11_158_11 (by decide) is_1 (Nat.le_of_ble_eq_true rfl) (s_noPiece _ hw hn _) ?_
  refine ev_if_eq (p' := 8) (tg := 13) i_80_5 rfl rfl (fun c5 => ?_) (fun c5 => absurd (B_f (nj (inn hi h7))) c5)
  refine ev_aload_n (p' := 14) i_80_13 rfl rfl ?_
  refine ev_getr (p' := 17) i_80_14 rfl fl_11_78 rfl is_1 (rf_1_0 hw) ?_
  refine ev_getr (p' := 20) i_80_17 rfl fl_11_97 rfl (is_sp sp_17) (hw.page sp_17) ?_
  refine ev_getr (p' := 23) i_80_20 rfl fl_11_161 rfl (is_pg pg_33) (hw.pieces pg_33) ?_
  refine ev_iload_n (p' := 24) i_80_23 rfl rfl ?_
  refine ev_aaldN (p' := 25) 25 i_80_24 rfl (is_pgp pg_33) (by decide) (len_pgp pg_33) (by omega) (by decide) (hw.piece pg_33 (by omega)) ?_
  refine ev_astore_n (p' := 26) (ls' := [_, _, _, _]) i_80_25 rfl rfl (by decide) rfl ?_
  refine ev_iload_n (p' := 27) i_80_26 rfl rfl ?_
  refine ev_tsIn (tg := 82) (off := 55) i_80_27 (by decide) (by decide) (by decide) (by decide) ?_
  refine ev_aload_n (p' := 83) i_80_82 rfl rfl ?_
  refine ev_geti (p' := 86) i_80_83 rfl fl_11_189 rfl (is_pc pg_33 (by omega)) ?_
  exact ev_iretI i_80_86 rfl (EC.mk (by show Value.int (mi (33 + 3 + i) 2) = _; rw [hc.f hi (by decide)]; rfl) hw hc)
theorem R_of2 (L d : Nat) (A : AV) (hA : okA A) {i : Nat} (hi : i < A.1.1.1) : Rst L (d + 24) 180 [.int (nI i), .int 2] A (.int (A.1.1.2.2.2 2 i)) (A) := by
  refine R_of (q := q_180) rfl (Nat.le_of_ble_eq_true rfl) rfl (fun π mi ml mr hw hc => ?_)
  have hn := hc.hn
  have h7 := hA.n7
  refine ev_aload_n (p' := 1) i_180_0 rfl rfl ?_
  refine ev_iload_n (p' := 2) i_180_1 rfl rfl ?_
  refine ev_v1I (p' := 5) i_180_2 rfl cl_12_240_12 (by decide) is_285 (Nat.le_of_ble_eq_true rfl) (s_isPiece (π := π) _ hn _) ?_
  refine ev_if_eq (p' := 8) (tg := 18) i_180_5 rfl rfl (fun c5 => absurd c5 (B_tn (inn hi h7))) (fun c5 => ?_)
  refine ev_iload_n (p' := 9) i_180_8 rfl rfl ?_
  refine ev_iconst (p' := 10) (v := 0) i_180_9 rfl (by decide) ?_
  refine ev_bipush (p' := 12) (v := 7) i_180_10 rfl (by decide) ?_
  refine ev_s3I (p' := 15) i_180_12 rfl cl_12_115_0 (by decide) (Nat.le_of_ble_eq_true rfl) (s_in _ _ _ _) ?_
  refine ev_if_ne (p' := 18) (tg := 23) i_180_15 rfl rfl (fun c15 => ?_) (fun c15 => absurd (B_tn (by decide)) c15)
  refine ev_iload_n (p' := 24) i_180_23 rfl rfl ?_
  refine ev_tsIn (tg := 82) (off := 58) i_180_24 (by decide) (by decide) (by decide) (by decide) ?_
  refine ev_aload_n (p' := 83) i_180_82 rfl rfl ?_
  refine ev_getr (p' := 86) i_180_83 rfl fl_12_19 rfl is_285 (rf_285_8 hw) ?_
  refine ev_iload_n (p' := 87) i_180_86 rfl rfl ?_
  refine ev_ialdN (p' := 88) i_180_87 rfl is_289 len_289 (by omega) (by decide) ?_
  exact ev_iretI i_180_88 rfl (ER.mk (by show Value.int (mi (287 + 2) i) = _; rw [hc.f hi (by decide)]) hc)
theorem C_of3 (L d : Nat) (A : AV) (hA : okA A) {i : Nat} (hi : i < A.1.1.1) : Cst L (d + 24) 80 [.int (nI i), .int 3] A (.int (A.1.1.2.2.2 3 i)) (A) := by
  refine C_of (q := q_80) rfl (Nat.le_of_ble_eq_true rfl) rfl (fun π mi ml mr hw hc => ?_)
  have hn := hc.hn
  have h7 := hA.n7
  refine ev_aload_n (p' := 1) i_80_0 rfl rfl ?_
  refine ev_iload_n (p' := 2) i_80_1 rfl rfl ?_
  refine ev_v1I (p' := 5) i_80_2 rfl cl_11_158_11 (by decide) is_1 (Nat.le_of_ble_eq_true rfl) (s_noPiece _ hw hn _) ?_
  refine ev_if_eq (p' := 8) (tg := 13) i_80_5 rfl rfl (fun c5 => ?_) (fun c5 => absurd (B_f (nj (inn hi h7))) c5)
  refine ev_aload_n (p' := 14) i_80_13 rfl rfl ?_
  refine ev_getr (p' := 17) i_80_14 rfl fl_11_78 rfl is_1 (rf_1_0 hw) ?_
  refine ev_getr (p' := 20) i_80_17 rfl fl_11_97 rfl (is_sp sp_17) (hw.page sp_17) ?_
  refine ev_getr (p' := 23) i_80_20 rfl fl_11_161 rfl (is_pg pg_33) (hw.pieces pg_33) ?_
  refine ev_iload_n (p' := 24) i_80_23 rfl rfl ?_
  refine ev_aaldN (p' := 25) 25 i_80_24 rfl (is_pgp pg_33) (by decide) (len_pgp pg_33) (by omega) (by decide) (hw.piece pg_33 (by omega)) ?_
  refine ev_astore_n (p' := 26) (ls' := [_, _, _, _]) i_80_25 rfl rfl (by decide) rfl ?_
  refine ev_iload_n (p' := 27) i_80_26 rfl rfl ?_
  refine ev_tsIn (tg := 87) (off := 60) i_80_27 (by decide) (by decide) (by decide) (by decide) ?_
  refine ev_aload_n (p' := 88) i_80_87 rfl rfl ?_
  refine ev_geti (p' := 91) i_80_88 rfl fl_11_192 rfl (is_pc pg_33 (by omega)) ?_
  exact ev_iretI i_80_91 rfl (EC.mk (by show Value.int (mi (33 + 3 + i) 3) = _; rw [hc.f hi (by decide)]; rfl) hw hc)
theorem R_of3 (L d : Nat) (A : AV) (hA : okA A) {i : Nat} (hi : i < A.1.1.1) : Rst L (d + 24) 180 [.int (nI i), .int 3] A (.int (A.1.1.2.2.2 3 i)) (A) := by
  refine R_of (q := q_180) rfl (Nat.le_of_ble_eq_true rfl) rfl (fun π mi ml mr hw hc => ?_)
  have hn := hc.hn
  have h7 := hA.n7
  refine ev_aload_n (p' := 1) i_180_0 rfl rfl ?_
  refine ev_iload_n (p' := 2) i_180_1 rfl rfl ?_
  refine ev_v1I (p' := 5) i_180_2 rfl cl_12_240_12 (by decide) is_285 (Nat.le_of_ble_eq_true rfl) (s_isPiece (π := π) _ hn _) ?_
  refine ev_if_eq (p' := 8) (tg := 18) i_180_5 rfl rfl (fun c5 => absurd c5 (B_tn (inn hi h7))) (fun c5 => ?_)
  refine ev_iload_n (p' := 9) i_180_8 rfl rfl ?_
  refine ev_iconst (p' := 10) (v := 0) i_180_9 rfl (by decide) ?_
  refine ev_bipush (p' := 12) (v := 7) i_180_10 rfl (by decide) ?_
  refine ev_s3I (p' := 15) i_180_12 rfl cl_12_115_0 (by decide) (Nat.le_of_ble_eq_true rfl) (s_in _ _ _ _) ?_
  refine ev_if_ne (p' := 18) (tg := 23) i_180_15 rfl rfl (fun c15 => ?_) (fun c15 => absurd (B_tn (by decide)) c15)
  refine ev_iload_n (p' := 24) i_180_23 rfl rfl ?_
  refine ev_tsIn (tg := 89) (off := 65) i_180_24 (by decide) (by decide) (by decide) (by decide) ?_
  refine ev_aload_n (p' := 90) i_180_89 rfl rfl ?_
  refine ev_getr (p' := 93) i_180_90 rfl fl_12_22 rfl is_285 (rf_285_9 hw) ?_
  refine ev_iload_n (p' := 94) i_180_93 rfl rfl ?_
  refine ev_ialdN (p' := 95) i_180_94 rfl is_290 len_290 (by omega) (by decide) ?_
  exact ev_iretI i_180_95 rfl (ER.mk (by show Value.int (mi (287 + 3) i) = _; rw [hc.f hi (by decide)]) hc)
theorem C_of4 (L d : Nat) (A : AV) (hA : okA A) {i : Nat} (hi : i < A.1.1.1) : Cst L (d + 24) 80 [.int (nI i), .int 4] A (.int (A.1.1.2.2.2 4 i)) (A) := by
  refine C_of (q := q_80) rfl (Nat.le_of_ble_eq_true rfl) rfl (fun π mi ml mr hw hc => ?_)
  have hn := hc.hn
  have h7 := hA.n7
  refine ev_aload_n (p' := 1) i_80_0 rfl rfl ?_
  refine ev_iload_n (p' := 2) i_80_1 rfl rfl ?_
  refine ev_v1I (p' := 5) i_80_2 rfl cl_11_158_11 (by decide) is_1 (Nat.le_of_ble_eq_true rfl) (s_noPiece _ hw hn _) ?_
  refine ev_if_eq (p' := 8) (tg := 13) i_80_5 rfl rfl (fun c5 => ?_) (fun c5 => absurd (B_f (nj (inn hi h7))) c5)
  refine ev_aload_n (p' := 14) i_80_13 rfl rfl ?_
  refine ev_getr (p' := 17) i_80_14 rfl fl_11_78 rfl is_1 (rf_1_0 hw) ?_
  refine ev_getr (p' := 20) i_80_17 rfl fl_11_97 rfl (is_sp sp_17) (hw.page sp_17) ?_
  refine ev_getr (p' := 23) i_80_20 rfl fl_11_161 rfl (is_pg pg_33) (hw.pieces pg_33) ?_
  refine ev_iload_n (p' := 24) i_80_23 rfl rfl ?_
  refine ev_aaldN (p' := 25) 25 i_80_24 rfl (is_pgp pg_33) (by decide) (len_pgp pg_33) (by omega) (by decide) (hw.piece pg_33 (by omega)) ?_
  refine ev_astore_n (p' := 26) (ls' := [_, _, _, _]) i_80_25 rfl rfl (by decide) rfl ?_
  refine ev_iload_n (p' := 27) i_80_26 rfl rfl ?_
  refine ev_tsIn (tg := 92) (off := 65) i_80_27 (by decide) (by decide) (by decide) (by decide) ?_
  refine ev_aload_n (p' := 93) i_80_92 rfl rfl ?_
  refine ev_geti (p' := 96) i_80_93 rfl fl_11_195 rfl (is_pc pg_33 (by omega)) ?_
  exact ev_iretI i_80_96 rfl (EC.mk (by show Value.int (mi (33 + 3 + i) 4) = _; rw [hc.f hi (by decide)]; rfl) hw hc)
theorem R_of4 (L d : Nat) (A : AV) (hA : okA A) {i : Nat} (hi : i < A.1.1.1) : Rst L (d + 24) 180 [.int (nI i), .int 4] A (.int (A.1.1.2.2.2 4 i)) (A) := by
  refine R_of (q := q_180) rfl (Nat.le_of_ble_eq_true rfl) rfl (fun π mi ml mr hw hc => ?_)
  have hn := hc.hn
  have h7 := hA.n7
  refine ev_aload_n (p' := 1) i_180_0 rfl rfl ?_
  refine ev_iload_n (p' := 2) i_180_1 rfl rfl ?_
  refine ev_v1I (p' := 5) i_180_2 rfl cl_12_240_12 (by decide) is_285 (Nat.le_of_ble_eq_true rfl) (s_isPiece (π := π) _ hn _) ?_
  refine ev_if_eq (p' := 8) (tg := 18) i_180_5 rfl rfl (fun c5 => absurd c5 (B_tn (inn hi h7))) (fun c5 => ?_)
  refine ev_iload_n (p' := 9) i_180_8 rfl rfl ?_
  refine ev_iconst (p' := 10) (v := 0) i_180_9 rfl (by decide) ?_
  refine ev_bipush (p' := 12) (v := 7) i_180_10 rfl (by decide) ?_
  refine ev_s3I (p' := 15) i_180_12 rfl cl_12_115_0 (by decide) (Nat.le_of_ble_eq_true rfl) (s_in _ _ _ _) ?_
  refine ev_if_ne (p' := 18) (tg := 23) i_180_15 rfl rfl (fun c15 => ?_) (fun c15 => absurd (B_tn (by decide)) c15)
  refine ev_iload_n (p' := 24) i_180_23 rfl rfl ?_
  refine ev_tsIn (tg := 96) (off := 72) i_180_24 (by decide) (by decide) (by decide) (by decide) ?_
  refine ev_aload_n (p' := 97) i_180_96 rfl rfl ?_
  refine ev_getr (p' := 100) i_180_97 rfl fl_12_25 rfl is_285 (rf_285_10 hw) ?_
  refine ev_iload_n (p' := 101) i_180_100 rfl rfl ?_
  refine ev_ialdN (p' := 102) i_180_101 rfl is_291 len_291 (by omega) (by decide) ?_
  exact ev_iretI i_180_102 rfl (ER.mk (by show Value.int (mi (287 + 4) i) = _; rw [hc.f hi (by decide)]) hc)
theorem C_of5 (L d : Nat) (A : AV) (hA : okA A) {i : Nat} (hi : i < A.1.1.1) : Cst L (d + 24) 80 [.int (nI i), .int 5] A (.int (A.1.1.2.2.2 5 i)) (A) := by
  refine C_of (q := q_80) rfl (Nat.le_of_ble_eq_true rfl) rfl (fun π mi ml mr hw hc => ?_)
  have hn := hc.hn
  have h7 := hA.n7
  refine ev_aload_n (p' := 1) i_80_0 rfl rfl ?_
  refine ev_iload_n (p' := 2) i_80_1 rfl rfl ?_
  refine ev_v1I (p' := 5) i_80_2 rfl cl_11_158_11 (by decide) is_1 (Nat.le_of_ble_eq_true rfl) (s_noPiece _ hw hn _) ?_
  refine ev_if_eq (p' := 8) (tg := 13) i_80_5 rfl rfl (fun c5 => ?_) (fun c5 => absurd (B_f (nj (inn hi h7))) c5)
  refine ev_aload_n (p' := 14) i_80_13 rfl rfl ?_
  refine ev_getr (p' := 17) i_80_14 rfl fl_11_78 rfl is_1 (rf_1_0 hw) ?_
  refine ev_getr (p' := 20) i_80_17 rfl fl_11_97 rfl (is_sp sp_17) (hw.page sp_17) ?_
  refine ev_getr (p' := 23) i_80_20 rfl fl_11_161 rfl (is_pg pg_33) (hw.pieces pg_33) ?_
  refine ev_iload_n (p' := 24) i_80_23 rfl rfl ?_
  refine ev_aaldN (p' := 25) 25 i_80_24 rfl (is_pgp pg_33) (by decide) (len_pgp pg_33) (by omega) (by decide) (hw.piece pg_33 (by omega)) ?_
  refine ev_astore_n (p' := 26) (ls' := [_, _, _, _]) i_80_25 rfl rfl (by decide) rfl ?_
  refine ev_iload_n (p' := 27) i_80_26 rfl rfl ?_
  refine ev_tsIn (tg := 97) (off := 70) i_80_27 (by decide) (by decide) (by decide) (by decide) ?_
  refine ev_aload_n (p' := 98) i_80_97 rfl rfl ?_
  refine ev_geti (p' := 101) i_80_98 rfl fl_11_165 rfl (is_pc pg_33 (by omega)) ?_
  exact ev_iretI i_80_101 rfl (EC.mk (by show Value.int (mi (33 + 3 + i) 5) = _; rw [hc.f hi (by decide)]; rfl) hw hc)
theorem R_of5 (L d : Nat) (A : AV) (hA : okA A) {i : Nat} (hi : i < A.1.1.1) : Rst L (d + 24) 180 [.int (nI i), .int 5] A (.int (A.1.1.2.2.2 5 i)) (A) := by
  refine R_of (q := q_180) rfl (Nat.le_of_ble_eq_true rfl) rfl (fun π mi ml mr hw hc => ?_)
  have hn := hc.hn
  have h7 := hA.n7
  refine ev_aload_n (p' := 1) i_180_0 rfl rfl ?_
  refine ev_iload_n (p' := 2) i_180_1 rfl rfl ?_
  refine ev_v1I (p' := 5) i_180_2 rfl cl_12_240_12 (by decide) is_285 (Nat.le_of_ble_eq_true rfl) (s_isPiece (π := π) _ hn _) ?_
  refine ev_if_eq (p' := 8) (tg := 18) i_180_5 rfl rfl (fun c5 => absurd c5 (B_tn (inn hi h7))) (fun c5 => ?_)
  refine ev_iload_n (p' := 9) i_180_8 rfl rfl ?_
  refine ev_iconst (p' := 10) (v := 0) i_180_9 rfl (by decide) ?_
  refine ev_bipush (p' := 12) (v := 7) i_180_10 rfl (by decide) ?_
  refine ev_s3I (p' := 15) i_180_12 rfl cl_12_115_0 (by decide) (Nat.le_of_ble_eq_true rfl) (s_in _ _ _ _) ?_
  refine ev_if_ne (p' := 18) (tg := 23) i_180_15 rfl rfl (fun c15 => ?_) (fun c15 => absurd (B_tn (by decide)) c15)
  refine ev_iload_n (p' := 24) i_180_23 rfl rfl ?_
  refine ev_tsIn (tg := 103) (off := 79) i_180_24 (by decide) (by decide) (by decide) (by decide) ?_
  refine ev_aload_n (p' := 104) i_180_103 rfl rfl ?_
  refine ev_getr (p' := 107) i_180_104 rfl fl_12_28 rfl is_285 (rf_285_11 hw) ?_
  refine ev_iload_n (p' := 108) i_180_107 rfl rfl ?_
  refine ev_ialdN (p' := 109) i_180_108 rfl is_292 len_292 (by omega) (by decide) ?_
  exact ev_iretI i_180_109 rfl (ER.mk (by show Value.int (mi (287 + 5) i) = _; rw [hc.f hi (by decide)]) hc)
theorem C_of6 (L d : Nat) (A : AV) (hA : okA A) {i : Nat} (hi : i < A.1.1.1) : Cst L (d + 24) 80 [.int (nI i), .int 6] A (.int (A.1.1.2.2.2 6 i)) (A) := by
  refine C_of (q := q_80) rfl (Nat.le_of_ble_eq_true rfl) rfl (fun π mi ml mr hw hc => ?_)
  have hn := hc.hn
  have h7 := hA.n7
  refine ev_aload_n (p' := 1) i_80_0 rfl rfl ?_
  refine ev_iload_n (p' := 2) i_80_1 rfl rfl ?_
  refine ev_v1I (p' := 5) i_80_2 rfl cl_11_158_11 (by decide) is_1 (Nat.le_of_ble_eq_true rfl) (s_noPiece _ hw hn _) ?_
  refine ev_if_eq (p' := 8) (tg := 13) i_80_5 rfl rfl (fun c5 => ?_) (fun c5 => absurd (B_f (nj (inn hi h7))) c5)
  refine ev_aload_n (p' := 14) i_80_13 rfl rfl ?_
  refine ev_getr (p' := 17) i_80_14 rfl fl_11_78 rfl is_1 (rf_1_0 hw) ?_
  refine ev_getr (p' := 20) i_80_17 rfl fl_11_97 rfl (is_sp sp_17) (hw.page sp_17) ?_
  refine ev_getr (p' := 23) i_80_20 rfl fl_11_161 rfl (is_pg pg_33) (hw.pieces pg_33) ?_
  refine ev_iload_n (p' := 24) i_80_23 rfl rfl ?_
  refine ev_aaldN (p' := 25) 25 i_80_24 rfl (is_pgp pg_33) (by decide) (len_pgp pg_33) (by omega) (by decide) (hw.piece pg_33 (by omega)) ?_
  refine ev_astore_n (p' := 26) (ls' := [_, _, _, _]) i_80_25 rfl rfl (by decide) rfl ?_
  refine ev_iload_n (p' := 27) i_80_26 rfl rfl ?_
  refine ev_tsIn (tg := 102) (off := 75) i_80_27 (by decide) (by decide) (by decide) (by decide) ?_
  refine ev_aload_n (p' := 103) i_80_102 rfl rfl ?_
  refine ev_geti (p' := 106) i_80_103 rfl fl_11_198 rfl (is_pc pg_33 (by omega)) ?_
  exact ev_iretI i_80_106 rfl (EC.mk (by show Value.int (mi (33 + 3 + i) 6) = _; rw [hc.f hi (by decide)]; rfl) hw hc)
theorem R_of6 (L d : Nat) (A : AV) (hA : okA A) {i : Nat} (hi : i < A.1.1.1) : Rst L (d + 24) 180 [.int (nI i), .int 6] A (.int (A.1.1.2.2.2 6 i)) (A) := by
  refine R_of (q := q_180) rfl (Nat.le_of_ble_eq_true rfl) rfl (fun π mi ml mr hw hc => ?_)
  have hn := hc.hn
  have h7 := hA.n7
  refine ev_aload_n (p' := 1) i_180_0 rfl rfl ?_
  refine ev_iload_n (p' := 2) i_180_1 rfl rfl ?_
  refine ev_v1I (p' := 5) i_180_2 rfl cl_12_240_12 (by decide) is_285 (Nat.le_of_ble_eq_true rfl) (s_isPiece (π := π) _ hn _) ?_
  refine ev_if_eq (p' := 8) (tg := 18) i_180_5 rfl rfl (fun c5 => absurd c5 (B_tn (inn hi h7))) (fun c5 => ?_)
  refine ev_iload_n (p' := 9) i_180_8 rfl rfl ?_
  refine ev_iconst (p' := 10) (v := 0) i_180_9 rfl (by decide) ?_
  refine ev_bipush (p' := 12) (v := 7) i_180_10 rfl (by decide) ?_
  refine ev_s3I (p' := 15) i_180_12 rfl cl_12_115_0 (by decide) (Nat.le_of_ble_eq_true rfl) (s_in _ _ _ _) ?_
  refine ev_if_ne (p' := 18) (tg := 23) i_180_15 rfl rfl (fun c15 => ?_) (fun c15 => absurd (B_tn (by decide)) c15)
  refine ev_iload_n (p' := 24) i_180_23 rfl rfl ?_
  refine ev_tsIn (tg := 110) (off := 86) i_180_24 (by decide) (by decide) (by decide) (by decide) ?_
  refine ev_aload_n (p' := 111) i_180_110 rfl rfl ?_
  refine ev_getr (p' := 114) i_180_111 rfl fl_12_31 rfl is_285 (rf_285_12 hw) ?_
  refine ev_iload_n (p' := 115) i_180_114 rfl rfl ?_
  refine ev_ialdN (p' := 116) i_180_115 rfl is_293 len_293 (by omega) (by decide) ?_
  exact ev_iretI i_180_116 rfl (ER.mk (by show Value.int (mi (287 + 6) i) = _; rw [hc.f hi (by decide)]) hc)
theorem C_of7 (L d : Nat) (A : AV) (hA : okA A) {i : Nat} (hi : i < A.1.1.1) : Cst L (d + 24) 80 [.int (nI i), .int 7] A (.int (B (fx A.1.1.2.2.2 7 i ≤ fx A.1.1.2.2.2 6 i))) (A) := by
  refine C_of (q := q_80) rfl (Nat.le_of_ble_eq_true rfl) rfl (fun π mi ml mr hw hc => ?_)
  have hn := hc.hn
  have h7 := hA.n7
  refine ev_aload_n (p' := 1) i_80_0 rfl rfl ?_
  refine ev_iload_n (p' := 2) i_80_1 rfl rfl ?_
  refine ev_v1I (p' := 5) i_80_2 rfl cl_11_158_11 (by decide) is_1 (Nat.le_of_ble_eq_true rfl) (s_noPiece _ hw hn _) ?_
  refine ev_if_eq (p' := 8) (tg := 13) i_80_5 rfl rfl (fun c5 => ?_) (fun c5 => absurd (B_f (nj (inn hi h7))) c5)
  refine ev_aload_n (p' := 14) i_80_13 rfl rfl ?_
  refine ev_getr (p' := 17) i_80_14 rfl fl_11_78 rfl is_1 (rf_1_0 hw) ?_
  refine ev_getr (p' := 20) i_80_17 rfl fl_11_97 rfl (is_sp sp_17) (hw.page sp_17) ?_
  refine ev_getr (p' := 23) i_80_20 rfl fl_11_161 rfl (is_pg pg_33) (hw.pieces pg_33) ?_
  refine ev_iload_n (p' := 24) i_80_23 rfl rfl ?_
  refine ev_aaldN (p' := 25) 25 i_80_24 rfl (is_pgp pg_33) (by decide) (len_pgp pg_33) (by omega) (by decide) (hw.piece pg_33 (by omega)) ?_
  refine ev_astore_n (p' := 26) (ls' := [_, _, _, _]) i_80_25 rfl rfl (by decide) rfl ?_
  refine ev_iload_n (p' := 27) i_80_26 rfl rfl ?_
  refine ev_tsIn (tg := 107) (off := 80) i_80_27 (by decide) (by decide) (by decide) (by decide) ?_
  refine ev_aload_n (p' := 108) i_80_107 rfl rfl ?_
  refine ev_v0I (p' := 111) i_80_108 rfl cl_11_201_3 (by decide) (is_pc pg_33 (by omega)) (Nat.le_of_ble_eq_true rfl) (s_isStuck _ (is_pc pg_33 (by omega))) ?_
  refine ev_if_eq (p' := 114) (tg := 118) i_80_111 rfl rfl (fun c111 => ?_) (fun c111 => ?_)
  · replace c111 := B0 c111
    refine ev_iconst (p' := 119) (v := 0) i_80_118 rfl (by decide) ?_
    exact ev_iretI i_80_119 rfl (EC.mk (congrArg Value.int (B_f (by rw [← hc.f hi (j := 7) (by decide), ← hc.f hi (j := 6) (by decide)]; exact c111)).symm) hw hc)
  · replace c111 := B1 c111
    refine ev_iconst (p' := 115) (v := 1) i_80_114 rfl (by decide) ?_
    refine ev_goto (tg := 119) i_80_115 rfl ?_
    exact ev_iretI i_80_119 rfl (EC.mk (congrArg Value.int (B_t (by rw [← hc.f hi (j := 7) (by decide), ← hc.f hi (j := 6) (by decide)]; exact c111)).symm) hw hc)
theorem R_of7 (L d : Nat) (A : AV) (hA : okA A) {i : Nat} (hi : i < A.1.1.1) : Rst L (d + 24) 180 [.int (nI i), .int 7] A (.int (B (fx A.1.1.2.2.2 7 i ≤ fx A.1.1.2.2.2 6 i))) (A) := by
  refine R_of (q := q_180) rfl (Nat.le_of_ble_eq_true rfl) rfl (fun π mi ml mr hw hc => ?_)
  have hn := hc.hn
  have h7 := hA.n7
  refine ev_aload_n (p' := 1) i_180_0 rfl rfl ?_
  refine ev_iload_n (p' := 2) i_180_1 rfl rfl ?_
  refine ev_v1I (p' := 5) i_180_2 rfl cl_12_240_12 (by decide) is_285 (Nat.le_of_ble_eq_true rfl) (s_isPiece (π := π) _ hn _) ?_
  refine ev_if_eq (p' := 8) (tg := 18) i_180_5 rfl rfl (fun c5 => absurd c5 (B_tn (inn hi h7))) (fun c5 => ?_)
  refine ev_iload_n (p' := 9) i_180_8 rfl rfl ?_
  refine ev_iconst (p' := 10) (v := 0) i_180_9 rfl (by decide) ?_
  refine ev_bipush (p' := 12) (v := 7) i_180_10 rfl (by decide) ?_
  refine ev_s3I (p' := 15) i_180_12 rfl cl_12_115_0 (by decide) (Nat.le_of_ble_eq_true rfl) (s_in _ _ _ _) ?_
  refine ev_if_ne (p' := 18) (tg := 23) i_180_15 rfl rfl (fun c15 => ?_) (fun c15 => absurd (B_tn (by decide)) c15)
  refine ev_iload_n (p' := 24) i_180_23 rfl rfl ?_
  refine ev_tsOut (tg := 117) i_180_24 (by decide) (by decide) ?_
  refine ev_aload_n (p' := 118) i_180_117 rfl rfl ?_
  refine ev_iload_n (p' := 119) i_180_118 rfl rfl ?_
  refine ev_v1I (p' := 122) i_180_119 rfl cl_12_202_12 (by decide) is_285 (Nat.le_of_ble_eq_true rfl) (s_mStuck _ hw (by omega) (hc.1.1.oke hA.1.1 i hi)) ?_
  refine ev_if_eq (p' := 125) (tg := 129) i_180_122 rfl rfl (fun c122 => ?_) (fun c122 => ?_)
  · replace c122 := B0 c122
    refine ev_iconst (p' := 130) (v := 0) i_180_129 rfl (by decide) ?_
    exact ev_iretI i_180_130 rfl (ER.mk (congrArg Value.int (B_f (by rw [← hc.1.1.rfe i hi 7 (by decide), ← hc.1.1.rfe i hi 6 (by decide)]; exact c122)).symm) hc)
  · replace c122 := B1 c122
    refine ev_iconst (p' := 126) (v := 1) i_180_125 rfl (by decide) ?_
    refine ev_goto (tg := 130) i_180_126 rfl ?_
    exact ev_iretI i_180_130 rfl (ER.mk (congrArg Value.int (B_t (by rw [← hc.1.1.rfe i hi 7 (by decide), ← hc.1.1.rfe i hi 6 (by decide)]; exact c122)).symm) hc)
theorem Q_of (L : Nat) (A : AV) (hA : okA A) (y x : Int32) : SameI L 80 180 [.int y, .int x] A := by
  by_cases h : (0 ≤ y ∧ y ≤ nI A.1.1.1 - 1) ∧ (0 ≤ x ∧ x ≤ 7)
  · obtain ⟨i, hi, rfl⟩ := ofn hA.n7 h.1
    rcases in07 h.2 with rfl | rfl | rfl | rfl | rfl | rfl | rfl | rfl
    · exact ⟨_, A, hA, fun d => C_of0 L d A hA hi, fun d => R_of0 L d A hA hi⟩
    · exact ⟨_, A, hA, fun d => C_of1 L d A hA hi, fun d => R_of1 L d A hA hi⟩
    · exact ⟨_, A, hA, fun d => C_of2 L d A hA hi, fun d => R_of2 L d A hA hi⟩
    · exact ⟨_, A, hA, fun d => C_of3 L d A hA hi, fun d => R_of3 L d A hA hi⟩
    · exact ⟨_, A, hA, fun d => C_of4 L d A hA hi, fun d => R_of4 L d A hA hi⟩
    · exact ⟨_, A, hA, fun d => C_of5 L d A hA hi, fun d => R_of5 L d A hA hi⟩
    · exact ⟨_, A, hA, fun d => C_of6 L d A hA hi, fun d => R_of6 L d A hA hi⟩
    · exact ⟨_, A, hA, fun d => C_of7 L d A hA hi, fun d => R_of7 L d A hA hi⟩
  · exact ⟨_, badA A, hA.bad, fun d => C_of_bad L d A hA y x h, fun d => R_of_bad L d A hA y x h⟩
theorem C_gives_bad (L d : Nat) (A : AV) (hA : okA A) (y z x : Int32) (hb : ¬ ((0 ≤ y ∧ y ≤ nI A.1.1.1 - 1) ∧ (0 ≤ z ∧ z ≤ 12) ∧ (0 ≤ x ∧ x ≤ 2))) : Cst L (d + 24) 81 [.int y, .int z, .int x] A (.int (-2)) (badA A) := by
  refine C_of (q := q_81) rfl (Nat.le_of_ble_eq_true rfl) rfl (fun π mi ml mr hw hc => ?_)
  have hn := hc.hn
  have h7 := hA.n7
  refine ev_aload_n (p' := 1) i_81_0 rfl rfl ?_
  refine ev_iload_n (p' := 2) i_81_1 rfl rfl ?_
  refine ev_v1I (p' := 5) i_81_2 rfl cl_11_158_11 (by decide) is_1 (Nat.le_of_ble_eq_true rfl) (s_noPiece _ hw hn _) ?_
  refine ev_if_ne (p' := 8) (tg := 15) i_81_5 rfl rfl (fun c5 => ?_) (fun c5 => ?_)
  · replace c5 := B1 c5
    refine ev_aload_n (p' := 16) i_81_15 rfl rfl ?_
    refine ev_v0I (p' := 19) i_81_16 rfl cl_11_93_11 (by decide) is_1 (Nat.le_of_ble_eq_true rfl) (s_bad _) ?_
    exact ev_iretI i_81_19 rfl (EC.mk rfl hw (hc.bad hw))
  · replace c5 := B0n c5
    refine ev_iload_n (p' := 9) i_81_8 rfl rfl ?_
    refine ev_s1I (p' := 12) i_81_9 rfl cl_11_138_0 (by decide) (Nat.le_of_ble_eq_true rfl) (s_isNoOpening _ _) ?_
    refine ev_if_eq (p' := 15) (tg := 20) i_81_12 rfl rfl (fun c12 => ?_) (fun c12 => ?_)
    · replace c12 := B0 c12
      refine ev_iload_n (p' := 21) i_81_20 rfl rfl ?_
      by_cases hx0 : x = 0
      · subst hx0
        refine ev_tsIn (tg := 48) (off := 27) i_81_21 (by decide) (by decide) (by decide) (by decide) ?_
        exact absurd ⟨ni c5, ni c12, by decide⟩ hb
      by_cases hx1 : x = 1
      · subst hx1
        refine ev_tsIn (tg := 61) (off := 40) i_81_21 (by decide) (by decide) (by decide) (by decide) ?_
        exact absurd ⟨ni c5, ni c12, by decide⟩ hb
      by_cases hx2 : x = 2
      · subst hx2
        refine ev_tsIn (tg := 73) (off := 52) i_81_21 (by decide) (by decide) (by decide) (by decide) ?_
        exact absurd ⟨ni c5, ni c12, by decide⟩ hb
      · refine ev_tsOut (tg := 89) i_81_21 (by have z0 : x.toInt ≠ 0 := fun z => hx0 (Int32.toInt_inj.mp z); have z1 : x.toInt ≠ 1 := fun z => hx1 (Int32.toInt_inj.mp z); have z2 : x.toInt ≠ 2 := fun z => hx2 (Int32.toInt_inj.mp z); omega) (by decide) ?_
        refine ev_aload_n (p' := 90) i_81_89 rfl rfl ?_
        refine ev_v0I (p' := 93) i_81_90 rfl cl_11_93_11 (by decide) is_1 (Nat.le_of_ble_eq_true rfl) (s_bad _) ?_
        exact ev_iretI i_81_93 rfl (EC.mk rfl hw (hc.bad hw))
    · replace c12 := B1 c12
      refine ev_aload_n (p' := 16) i_81_15 rfl rfl ?_
      refine ev_v0I (p' := 19) i_81_16 rfl cl_11_93_11 (by decide) is_1 (Nat.le_of_ble_eq_true rfl) (s_bad _) ?_
      exact ev_iretI i_81_19 rfl (EC.mk rfl hw (hc.bad hw))
theorem R_gives_bad (L d : Nat) (A : AV) (hA : okA A) (y z x : Int32) (hb : ¬ ((0 ≤ y ∧ y ≤ nI A.1.1.1 - 1) ∧ (0 ≤ z ∧ z ≤ 12) ∧ (0 ≤ x ∧ x ≤ 2))) : Rst L (d + 24) 181 [.int y, .int z, .int x] A (.int (-2)) (badA A) := by
  refine R_of (q := q_181) rfl (Nat.le_of_ble_eq_true rfl) rfl (fun π mi ml mr hw hc => ?_)
  have hn := hc.hn
  have h7 := hA.n7
  refine ev_aload_n (p' := 1) i_181_0 rfl rfl ?_
  refine ev_iload_n (p' := 2) i_181_1 rfl rfl ?_
  refine ev_v1I (p' := 5) i_181_2 rfl cl_12_240_12 (by decide) is_285 (Nat.le_of_ble_eq_true rfl) (s_isPiece (π := π) _ hn _) ?_
  refine ev_if_eq (p' := 8) (tg := 24) i_181_5 rfl rfl (fun c5 => ?_) (fun c5 => ?_)
  · replace c5 := B0 c5
    refine ev_aload_n (p' := 25) i_181_24 rfl rfl ?_
    refine ev_v0I (p' := 28) i_181_25 rfl cl_12_119_12 (by decide) is_285 (Nat.le_of_ble_eq_true rfl) (s_mbad _ hw) ?_
    exact ev_iretI i_181_28 rfl (ER.mk rfl (hc.bad h7))
  · replace c5 := B1 c5
    refine ev_iload_n (p' := 9) i_181_8 rfl rfl ?_
    refine ev_s1I (p' := 12) i_181_9 rfl cl_12_228_0 (by decide) (Nat.le_of_ble_eq_true rfl) (s_isOpening _ _) ?_
    refine ev_if_eq (p' := 15) (tg := 24) i_181_12 rfl rfl (fun c12 => ?_) (fun c12 => ?_)
    · replace c12 := B0 c12
      refine ev_aload_n (p' := 25) i_181_24 rfl rfl ?_
      refine ev_v0I (p' := 28) i_181_25 rfl cl_12_119_12 (by decide) is_285 (Nat.le_of_ble_eq_true rfl) (s_mbad _ hw) ?_
      exact ev_iretI i_181_28 rfl (ER.mk rfl (hc.bad h7))
    · replace c12 := B1 c12
      refine ev_iload_n (p' := 16) i_181_15 rfl rfl ?_
      refine ev_iconst (p' := 17) (v := 0) i_181_16 rfl (by decide) ?_
      refine ev_iconst (p' := 18) (v := 2) i_181_17 rfl (by decide) ?_
      refine ev_s3I (p' := 21) i_181_18 rfl cl_12_115_0 (by decide) (Nat.le_of_ble_eq_true rfl) (s_in _ _ _ _) ?_
      refine ev_if_ne (p' := 24) (tg := 29) i_181_21 rfl rfl (fun c21 => ?_) (fun c21 => ?_)
      · replace c21 := B1 c21
        exact absurd ⟨c5, c12, c21⟩ hb
      · replace c21 := B0n c21
        refine ev_aload_n (p' := 25) i_181_24 rfl rfl ?_
        refine ev_v0I (p' := 28) i_181_25 rfl cl_12_119_12 (by decide) is_285 (Nat.le_of_ble_eq_true rfl) (s_mbad _ hw) ?_
        exact ev_iretI i_181_28 rfl (ER.mk rfl (hc.bad h7))
def rcM (k : Nat) (a t : Int32) : Int32 := match k with
  | 2 => t + 3 * a
  | 3 => t
  | 4 => t + 3 * a
  | 5 => t + 3
  | _ => t + a
theorem rcM_eq : ∀ k, k < 6 → ∀ a, a < 10 → ∀ t, t < 10 → rcM k (nI a) (nI t) = rcN k (nI a) (nI t) := by decide +kernel
theorem s_mreach {L : Nat} {π : Nat → Nat → Nat} {mi : Nat → Nat → Int32} {ml : Nat → Nat → Int64} {mr : Nat → Nat → Option Nat} (d : Nat) (hw : WR π mr) {i k : Nat} (hi : i < 7) (hk6 : k < 6) (hk : mi 287 i = nI k) : pm_ev gR (d + 1) 166 [.ref 285, .int (nI i)] (WW L, mi, ml, mr) (some (.int (rcM k (mi 288 i) (mi 289 i)))) (WW L, mi, ml, mr) := by
  refine ev_enter (q := q_166) rfl (Nat.le_of_ble_eq_true rfl) rfl ?_
  refine ev_aload_n (p' := 1) i_166_0 rfl rfl ?_
  refine ev_getr (p' := 4) i_166_1 rfl fl_12_13 rfl is_285 (rf_285_6 hw) ?_
  refine ev_iload_n (p' := 5) i_166_4 rfl rfl ?_
  refine ev_ialdN (p' := 6) i_166_5 rfl is_287 len_287 (by omega) (by decide) ?_
  rw [hk]
  match k, hk6 with
  | 0, _ =>
    refine ev_tsOut (tg := 84) i_166_6 (by decide) (by decide) ?_
    refine ev_aload_n (p' := 85) i_166_84 rfl rfl ?_
    refine ev_getr (p' := 88) i_166_85 rfl fl_12_19 rfl is_285 (rf_285_8 hw) ?_
    refine ev_iload_n (p' := 89) i_166_88 rfl rfl ?_
    refine ev_ialdN (p' := 90) i_166_89 rfl is_289 len_289 (by omega) (by decide) ?_
    refine ev_aload_n (p' := 91) i_166_90 rfl rfl ?_
    refine ev_getr (p' := 94) i_166_91 rfl fl_12_16 rfl is_285 (rf_285_7 hw) ?_
    refine ev_iload_n (p' := 95) i_166_94 rfl rfl ?_
    refine ev_ialdN (p' := 96) i_166_95 rfl is_288 len_288 (by omega) (by decide) ?_
    refine ev_iadd (p' := 97) i_166_96 rfl ?_
    exact ev_iretI i_166_97 rfl ⟨rfl, rfl⟩
  | 1, _ =>
    refine ev_tsOut (tg := 84) i_166_6 (by decide) (by decide) ?_
    refine ev_aload_n (p' := 85) i_166_84 rfl rfl ?_
    refine ev_getr (p' := 88) i_166_85 rfl fl_12_19 rfl is_285 (rf_285_8 hw) ?_
    refine ev_iload_n (p' := 89) i_166_88 rfl rfl ?_
    refine ev_ialdN (p' := 90) i_166_89 rfl is_289 len_289 (by omega) (by decide) ?_
    refine ev_aload_n (p' := 91) i_166_90 rfl rfl ?_
    refine ev_getr (p' := 94) i_166_91 rfl fl_12_16 rfl is_285 (rf_285_7 hw) ?_
    refine ev_iload_n (p' := 95) i_166_94 rfl rfl ?_
    refine ev_ialdN (p' := 96) i_166_95 rfl is_288 len_288 (by omega) (by decide) ?_
    refine ev_iadd (p' := 97) i_166_96 rfl ?_
    exact ev_iretI i_166_97 rfl ⟨rfl, rfl⟩
  | 2, _ =>
    refine ev_tsIn (tg := 36) (off := 30) i_166_6 (by decide) (by decide) (by decide) (by decide) ?_
    refine ev_aload_n (p' := 37) i_166_36 rfl rfl ?_
    refine ev_getr (p' := 40) i_166_37 rfl fl_12_19 rfl is_285 (rf_285_8 hw) ?_
    refine ev_iload_n (p' := 41) i_166_40 rfl rfl ?_
    refine ev_ialdN (p' := 42) i_166_41 rfl is_289 len_289 (by omega) (by decide) ?_
    refine ev_iconst (p' := 43) (v := 3) i_166_42 rfl (by decide) ?_
    refine ev_aload_n (p' := 44) i_166_43 rfl rfl ?_
    refine ev_getr (p' := 47) i_166_44 rfl fl_12_16 rfl is_285 (rf_285_7 hw) ?_
    refine ev_iload_n (p' := 48) i_166_47 rfl rfl ?_
    refine ev_ialdN (p' := 49) i_166_48 rfl is_288 len_288 (by omega) (by decide) ?_
    refine ev_imul (p' := 50) i_166_49 rfl ?_
    refine ev_iadd (p' := 51) i_166_50 rfl ?_
    exact ev_iretI i_166_51 rfl ⟨rfl, rfl⟩
  | 3, _ =>
    refine ev_tsIn (tg := 68) (off := 62) i_166_6 (by decide) (by decide) (by decide) (by decide) ?_
    refine ev_aload_n (p' := 69) i_166_68 rfl rfl ?_
    refine ev_getr (p' := 72) i_166_69 rfl fl_12_19 rfl is_285 (rf_285_8 hw) ?_
    refine ev_iload_n (p' := 73) i_166_72 rfl rfl ?_
    refine ev_ialdN (p' := 74) i_166_73 rfl is_289 len_289 (by omega) (by decide) ?_
    exact ev_iretI i_166_74 rfl ⟨rfl, rfl⟩
  | 4, _ =>
    refine ev_tsIn (tg := 52) (off := 46) i_166_6 (by decide) (by decide) (by decide) (by decide) ?_
    refine ev_aload_n (p' := 53) i_166_52 rfl rfl ?_
    refine ev_getr (p' := 56) i_166_53 rfl fl_12_19 rfl is_285 (rf_285_8 hw) ?_
    refine ev_iload_n (p' := 57) i_166_56 rfl rfl ?_
    refine ev_ialdN (p' := 58) i_166_57 rfl is_289 len_289 (by omega) (by decide) ?_
    refine ev_iconst (p' := 59) (v := 3) i_166_58 rfl (by decide) ?_
    refine ev_aload_n (p' := 60) i_166_59 rfl rfl ?_
    refine ev_getr (p' := 63) i_166_60 rfl fl_12_16 rfl is_285 (rf_285_7 hw) ?_
    refine ev_iload_n (p' := 64) i_166_63 rfl rfl ?_
    refine ev_ialdN (p' := 65) i_166_64 rfl is_288 len_288 (by omega) (by decide) ?_
    refine ev_imul (p' := 66) i_166_65 rfl ?_
    refine ev_iadd (p' := 67) i_166_66 rfl ?_
    exact ev_iretI i_166_67 rfl ⟨rfl, rfl⟩
  | 5, _ =>
    refine ev_tsIn (tg := 75) (off := 69) i_166_6 (by decide) (by decide) (by decide) (by decide) ?_
    refine ev_aload_n (p' := 76) i_166_75 rfl rfl ?_
    refine ev_getr (p' := 79) i_166_76 rfl fl_12_19 rfl is_285 (rf_285_8 hw) ?_
    refine ev_iload_n (p' := 80) i_166_79 rfl rfl ?_
    refine ev_ialdN (p' := 81) i_166_80 rfl is_289 len_289 (by omega) (by decide) ?_
    refine ev_iconst (p' := 82) (v := 3) i_166_81 rfl (by decide) ?_
    refine ev_iadd (p' := 83) i_166_82 rfl ?_
    exact ev_iretI i_166_83 rfl ⟨rfl, rfl⟩
  | k + 6, h => omega
def fK (A : AV) (i : Nat) : Nat := (A.1.1.2.2.2 0 i).toNatClampNeg
theorem fK_eq {A : AV} {i k : Nat} (hk6 : k < 6) (h : A.1.1.2.2.2 0 i = nI k) : fK A i = k := by unfold fK; rw [h, nI_clamp (by omega)]
theorem C_gives0 (L d : Nat) (A : AV) (hA : okA A) {i oo : Nat} (hi : i < A.1.1.1) (ho : oo < 13) : Cst L (d + 24) 81 [.int (nI i), .int (nI oo), .int 0] A (.int (rsN (fK A i) (A.1.1.2.2.2 2 i) (nI oo) (A.1.1.2.2.2 5 i))) (A) := by
  refine C_of (q := q_81) rfl (Nat.le_of_ble_eq_true rfl) rfl (fun π mi ml mr hw hc => ?_)
  have hn := hc.hn
  have h7 := hA.n7
  obtain ⟨⟨k, hk6, hk⟩, ⟨a, ha1, ha, ea⟩, ⟨t, ht1, ht, et⟩, -, -, ⟨p, hp, ep⟩, -⟩ := hA.1.1.2.2.2 i hi
  have e0 : mi (33 + 3 + i) 0 = nI k := by rw [hc.f hi (by decide)]; exact hk
  have e1 : mi (33 + 3 + i) 1 = nI a := by rw [hc.f hi (by decide)]; exact ea
  have e2 : mi (33 + 3 + i) 2 = nI t := by rw [hc.f hi (by decide)]; exact et
  have e5 : mi (33 + 3 + i) 5 = nI p := by rw [hc.f hi (by decide)]; exact ep
  refine ev_aload_n (p' := 1) i_81_0 rfl rfl ?_
  refine ev_iload_n (p' := 2) i_81_1 rfl rfl ?_
  refine ev_v1I (p' := 5) i_81_2 rfl cl_11_158_11 (by decide) is_1 (Nat.le_of_ble_eq_true rfl) (s_noPiece _ hw hn _) ?_
  refine ev_if_ne (p' := 8) (tg := 15) i_81_5 rfl rfl (fun c5 => absurd c5 (fun z => z (B_f (nj (inn hi h7))))) (fun c5 => ?_)
  refine ev_iload_n (p' := 9) i_81_8 rfl rfl ?_
  refine ev_s1I (p' := 12) i_81_9 rfl cl_11_138_0 (by decide) (Nat.le_of_ble_eq_true rfl) (s_isNoOpening _ _) ?_
  refine ev_if_eq (p' := 15) (tg := 20) i_81_12 rfl rfl (fun c12 => ?_) (fun c12 => absurd (B_f (nj (in0 (m := 12) (by omega) (by decide) rfl))) c12)
  refine ev_iload_n (p' := 21) i_81_20 rfl rfl ?_
  refine ev_tsIn (tg := 48) (off := 27) i_81_21 (by decide) (by decide) (by decide) (by decide) ?_
  refine ev_aload_n (p' := 49) i_81_48 rfl rfl ?_
  refine ev_getr (p' := 52) i_81_49 rfl fl_11_78 rfl is_1 (rf_1_0 hw) ?_
  refine ev_getr (p' := 55) i_81_52 rfl fl_11_97 rfl (is_sp sp_17) (hw.page sp_17) ?_
  refine ev_iload_n (p' := 56) i_81_55 rfl rfl ?_
  refine ev_iload_n (p' := 57) i_81_56 rfl rfl ?_
  refine ev_v2I (p' := 60) i_81_57 rfl cl_11_204_2 (by decide) (is_pg pg_33) (Nat.le_of_ble_eq_true rfl) (s_rises _ hw pg_33 (by omega) hk6 e0 _) ?_
  exact ev_iretI i_81_60 rfl (EC.mk (by rw [fK_eq hk6 hk, e2, e5, et, ep]) hw hc)
theorem R_gives0 (L d : Nat) (A : AV) (hA : okA A) {i oo : Nat} (hi : i < A.1.1.1) (ho : oo < 13) : Rst L (d + 24) 181 [.int (nI i), .int (nI oo), .int 0] A (.int (rsN (fK A i) (A.1.1.2.2.2 2 i) (nI oo) (A.1.1.2.2.2 5 i))) (A) := by
  refine R_of (q := q_181) rfl (Nat.le_of_ble_eq_true rfl) rfl (fun π mi ml mr hw hc => ?_)
  have hn := hc.hn
  have h7 := hA.n7
  obtain ⟨⟨k, hk6, hk⟩, ⟨a, ha1, ha, ea⟩, ⟨t, ht1, ht, et⟩, -, -, ⟨p, hp, ep⟩, -⟩ := hA.1.1.2.2.2 i hi
  have e0 : mi 287 i = nI k := (hc.f hi (j := 0) (by decide)).trans hk
  have e1 : mi 288 i = nI a := (hc.f hi (j := 1) (by decide)).trans ea
  have e2 : mi 289 i = nI t := (hc.f hi (j := 2) (by decide)).trans et
  have e5 : mi 292 i = nI p := (hc.f hi (j := 5) (by decide)).trans ep
  refine ev_aload_n (p' := 1) i_181_0 rfl rfl ?_
  refine ev_iload_n (p' := 2) i_181_1 rfl rfl ?_
  refine ev_v1I (p' := 5) i_181_2 rfl cl_12_240_12 (by decide) is_285 (Nat.le_of_ble_eq_true rfl) (s_isPiece (π := π) _ hn _) ?_
  refine ev_if_eq (p' := 8) (tg := 24) i_181_5 rfl rfl (fun c5 => absurd c5 (B_tn (inn hi h7))) (fun c5 => ?_)
  refine ev_iload_n (p' := 9) i_181_8 rfl rfl ?_
  refine ev_s1I (p' := 12) i_181_9 rfl cl_12_228_0 (by decide) (Nat.le_of_ble_eq_true rfl) (s_isOpening _ _) ?_
  refine ev_if_eq (p' := 15) (tg := 24) i_181_12 rfl rfl (fun c12 => absurd c12 (B_tn (in0 (m := 12) (by omega) (by decide) rfl))) (fun c12 => ?_)
  refine ev_iload_n (p' := 16) i_181_15 rfl rfl ?_
  refine ev_iconst (p' := 17) (v := 0) i_181_16 rfl (by decide) ?_
  refine ev_iconst (p' := 18) (v := 2) i_181_17 rfl (by decide) ?_
  refine ev_s3I (p' := 21) i_181_18 rfl cl_12_115_0 (by decide) (Nat.le_of_ble_eq_true rfl) (s_in _ _ _ _) ?_
  refine ev_if_ne (p' := 24) (tg := 29) i_181_21 rfl rfl (fun c21 => ?_) (fun c21 => absurd (B_tn (by decide)) c21)
  refine ev_iload_n (p' := 30) i_181_29 rfl rfl ?_
  refine ev_if_ne (p' := 33) (tg := 58) i_181_30 rfl rfl (fun c30 => absurd c30 (by decide)) (fun c30 => ?_)
  refine ev_aload_n (p' := 34) i_181_33 rfl rfl ?_
  refine ev_getr (p' := 37) i_181_34 rfl fl_12_13 rfl is_285 (rf_285_6 hw) ?_
  refine ev_iload_n (p' := 38) i_181_37 rfl rfl ?_
  refine ev_ialdN (p' := 39) i_181_38 rfl is_287 len_287 (by omega) (by decide) ?_
  refine ev_iload_n (p' := 40) i_181_39 rfl rfl ?_
  refine ev_aload_n (p' := 41) i_181_40 rfl rfl ?_
  refine ev_getr (p' := 44) i_181_41 rfl fl_12_19 rfl is_285 (rf_285_8 hw) ?_
  refine ev_iload_n (p' := 45) i_181_44 rfl rfl ?_
  refine ev_ialdN (p' := 46) i_181_45 rfl is_289 len_289 (by omega) (by decide) ?_
  refine ev_aload_n (p' := 47) i_181_46 rfl rfl ?_
  refine ev_getr (p' := 50) i_181_47 rfl fl_12_28 rfl is_285 (rf_285_11 hw) ?_
  refine ev_iload_n (p' := 51) i_181_50 rfl rfl ?_
  refine ev_ialdN (p' := 52) i_181_51 rfl is_292 len_292 (by omega) (by decide) ?_
  rw [e0]
  refine ev_s4I (p' := 55) i_181_52 rfl cl_12_211_0 (by decide) (Nat.le_of_ble_eq_true rfl) (s_risesBy _ hk6 _ _ _) ?_
  refine ev_goto (tg := 80) i_181_55 rfl ?_
  exact ev_iretI i_181_80 rfl (ER.mk (by rw [e2, e5, mrN_eq k hk6 t ht oo ho p hp, fK_eq hk6 hk, et, ep]) hc)
theorem C_gives1 (L d : Nat) (A : AV) (hA : okA A) {i oo : Nat} (hi : i < A.1.1.1) (ho : oo < 13) : Cst L (d + 24) 81 [.int (nI i), .int (nI oo), .int 1] A (.int (rcN (fK A i) (A.1.1.2.2.2 1 i) (A.1.1.2.2.2 2 i))) (A) := by
  refine C_of (q := q_81) rfl (Nat.le_of_ble_eq_true rfl) rfl (fun π mi ml mr hw hc => ?_)
  have hn := hc.hn
  have h7 := hA.n7
  obtain ⟨⟨k, hk6, hk⟩, ⟨a, ha1, ha, ea⟩, ⟨t, ht1, ht, et⟩, -, -, ⟨p, hp, ep⟩, -⟩ := hA.1.1.2.2.2 i hi
  have e0 : mi (33 + 3 + i) 0 = nI k := by rw [hc.f hi (by decide)]; exact hk
  have e1 : mi (33 + 3 + i) 1 = nI a := by rw [hc.f hi (by decide)]; exact ea
  have e2 : mi (33 + 3 + i) 2 = nI t := by rw [hc.f hi (by decide)]; exact et
  have e5 : mi (33 + 3 + i) 5 = nI p := by rw [hc.f hi (by decide)]; exact ep
  refine ev_aload_n (p' := 1) i_81_0 rfl rfl ?_
  refine ev_iload_n (p' := 2) i_81_1 rfl rfl ?_
  refine ev_v1I (p' := 5) i_81_2 rfl cl_11_158_11 (by decide) is_1 (Nat.le_of_ble_eq_true rfl) (s_noPiece _ hw hn _) ?_
  refine ev_if_ne (p' := 8) (tg := 15) i_81_5 rfl rfl (fun c5 => absurd c5 (fun z => z (B_f (nj (inn hi h7))))) (fun c5 => ?_)
  refine ev_iload_n (p' := 9) i_81_8 rfl rfl ?_
  refine ev_s1I (p' := 12) i_81_9 rfl cl_11_138_0 (by decide) (Nat.le_of_ble_eq_true rfl) (s_isNoOpening _ _) ?_
  refine ev_if_eq (p' := 15) (tg := 20) i_81_12 rfl rfl (fun c12 => ?_) (fun c12 => absurd (B_f (nj (in0 (m := 12) (by omega) (by decide) rfl))) c12)
  refine ev_iload_n (p' := 21) i_81_20 rfl rfl ?_
  refine ev_tsIn (tg := 61) (off := 40) i_81_21 (by decide) (by decide) (by decide) (by decide) ?_
  refine ev_aload_n (p' := 62) i_81_61 rfl rfl ?_
  refine ev_getr (p' := 65) i_81_62 rfl fl_11_78 rfl is_1 (rf_1_0 hw) ?_
  refine ev_getr (p' := 68) i_81_65 rfl fl_11_97 rfl (is_sp sp_17) (hw.page sp_17) ?_
  refine ev_iload_n (p' := 69) i_81_68 rfl rfl ?_
  refine ev_v1I (p' := 72) i_81_69 rfl cl_11_207_2 (by decide) (is_pg pg_33) (Nat.le_of_ble_eq_true rfl) (s_reaches _ hw pg_33 (by omega) hk6 e0) ?_
  exact ev_iretI i_81_72 rfl (EC.mk (by rw [fK_eq hk6 hk, e1, e2, ea, et]) hw hc)
theorem R_gives1 (L d : Nat) (A : AV) (hA : okA A) {i oo : Nat} (hi : i < A.1.1.1) (ho : oo < 13) : Rst L (d + 24) 181 [.int (nI i), .int (nI oo), .int 1] A (.int (rcN (fK A i) (A.1.1.2.2.2 1 i) (A.1.1.2.2.2 2 i))) (A) := by
  refine R_of (q := q_181) rfl (Nat.le_of_ble_eq_true rfl) rfl (fun π mi ml mr hw hc => ?_)
  have hn := hc.hn
  have h7 := hA.n7
  obtain ⟨⟨k, hk6, hk⟩, ⟨a, ha1, ha, ea⟩, ⟨t, ht1, ht, et⟩, -, -, ⟨p, hp, ep⟩, -⟩ := hA.1.1.2.2.2 i hi
  have e0 : mi 287 i = nI k := (hc.f hi (j := 0) (by decide)).trans hk
  have e1 : mi 288 i = nI a := (hc.f hi (j := 1) (by decide)).trans ea
  have e2 : mi 289 i = nI t := (hc.f hi (j := 2) (by decide)).trans et
  have e5 : mi 292 i = nI p := (hc.f hi (j := 5) (by decide)).trans ep
  refine ev_aload_n (p' := 1) i_181_0 rfl rfl ?_
  refine ev_iload_n (p' := 2) i_181_1 rfl rfl ?_
  refine ev_v1I (p' := 5) i_181_2 rfl cl_12_240_12 (by decide) is_285 (Nat.le_of_ble_eq_true rfl) (s_isPiece (π := π) _ hn _) ?_
  refine ev_if_eq (p' := 8) (tg := 24) i_181_5 rfl rfl (fun c5 => absurd c5 (B_tn (inn hi h7))) (fun c5 => ?_)
  refine ev_iload_n (p' := 9) i_181_8 rfl rfl ?_
  refine ev_s1I (p' := 12) i_181_9 rfl cl_12_228_0 (by decide) (Nat.le_of_ble_eq_true rfl) (s_isOpening _ _) ?_
  refine ev_if_eq (p' := 15) (tg := 24) i_181_12 rfl rfl (fun c12 => absurd c12 (B_tn (in0 (m := 12) (by omega) (by decide) rfl))) (fun c12 => ?_)
  refine ev_iload_n (p' := 16) i_181_15 rfl rfl ?_
  refine ev_iconst (p' := 17) (v := 0) i_181_16 rfl (by decide) ?_
  refine ev_iconst (p' := 18) (v := 2) i_181_17 rfl (by decide) ?_
  refine ev_s3I (p' := 21) i_181_18 rfl cl_12_115_0 (by decide) (Nat.le_of_ble_eq_true rfl) (s_in _ _ _ _) ?_
  refine ev_if_ne (p' := 24) (tg := 29) i_181_21 rfl rfl (fun c21 => ?_) (fun c21 => absurd (B_tn (by decide)) c21)
  refine ev_iload_n (p' := 30) i_181_29 rfl rfl ?_
  refine ev_if_ne (p' := 33) (tg := 58) i_181_30 rfl rfl (fun c30 => ?_) (fun c30 => absurd (by decide) c30)
  refine ev_iload_n (p' := 59) i_181_58 rfl rfl ?_
  refine ev_iconst (p' := 60) (v := 1) i_181_59 rfl (by decide) ?_
  refine ev_icmp_ne (p' := 63) (tg := 71) i_181_60 rfl rfl (fun c60 => absurd c60 (by decide)) (fun c60 => ?_)
  refine ev_aload_n (p' := 64) i_181_63 rfl rfl ?_
  refine ev_iload_n (p' := 65) i_181_64 rfl rfl ?_
  refine ev_v1I (p' := 68) i_181_65 rfl cl_12_246_12 (by decide) is_285 (Nat.le_of_ble_eq_true rfl) (s_mreach _ hw (by omega) hk6 e0) ?_
  refine ev_goto (tg := 80) i_181_68 rfl ?_
  exact ev_iretI i_181_80 rfl (ER.mk (by rw [e1, e2, rcM_eq k hk6 a ha t ht, fK_eq hk6 hk, ea, et]) hc)
theorem C_gives2 (L d : Nat) (A : AV) (hA : okA A) {i oo : Nat} (hi : i < A.1.1.1) (ho : oo < 13) : Cst L (d + 24) 81 [.int (nI i), .int (nI oo), .int 2] A (.int (brN (fK A i))) (A) := by
  refine C_of (q := q_81) rfl (Nat.le_of_ble_eq_true rfl) rfl (fun π mi ml mr hw hc => ?_)
  have hn := hc.hn
  have h7 := hA.n7
  obtain ⟨⟨k, hk6, hk⟩, ⟨a, ha1, ha, ea⟩, ⟨t, ht1, ht, et⟩, -, -, ⟨p, hp, ep⟩, -⟩ := hA.1.1.2.2.2 i hi
  have e0 : mi (33 + 3 + i) 0 = nI k := by rw [hc.f hi (by decide)]; exact hk
  have e1 : mi (33 + 3 + i) 1 = nI a := by rw [hc.f hi (by decide)]; exact ea
  have e2 : mi (33 + 3 + i) 2 = nI t := by rw [hc.f hi (by decide)]; exact et
  have e5 : mi (33 + 3 + i) 5 = nI p := by rw [hc.f hi (by decide)]; exact ep
  refine ev_aload_n (p' := 1) i_81_0 rfl rfl ?_
  refine ev_iload_n (p' := 2) i_81_1 rfl rfl ?_
  refine ev_v1I (p' := 5) i_81_2 rfl cl_11_158_11 (by decide) is_1 (Nat.le_of_ble_eq_true rfl) (s_noPiece _ hw hn _) ?_
  refine ev_if_ne (p' := 8) (tg := 15) i_81_5 rfl rfl (fun c5 => absurd c5 (fun z => z (B_f (nj (inn hi h7))))) (fun c5 => ?_)
  refine ev_iload_n (p' := 9) i_81_8 rfl rfl ?_
  refine ev_s1I (p' := 12) i_81_9 rfl cl_11_138_0 (by decide) (Nat.le_of_ble_eq_true rfl) (s_isNoOpening _ _) ?_
  refine ev_if_eq (p' := 15) (tg := 20) i_81_12 rfl rfl (fun c12 => ?_) (fun c12 => absurd (B_f (nj (in0 (m := 12) (by omega) (by decide) rfl))) c12)
  refine ev_iload_n (p' := 21) i_81_20 rfl rfl ?_
  refine ev_tsIn (tg := 73) (off := 52) i_81_21 (by decide) (by decide) (by decide) (by decide) ?_
  refine ev_aload_n (p' := 74) i_81_73 rfl rfl ?_
  refine ev_getr (p' := 77) i_81_74 rfl fl_11_78 rfl is_1 (rf_1_0 hw) ?_
  refine ev_getr (p' := 80) i_81_77 rfl fl_11_97 rfl (is_sp sp_17) (hw.page sp_17) ?_
  refine ev_getr (p' := 83) i_81_80 rfl fl_11_161 rfl (is_pg pg_33) (hw.pieces pg_33) ?_
  refine ev_iload_n (p' := 84) i_81_83 rfl rfl ?_
  refine ev_aaldN (p' := 85) 25 i_81_84 rfl (is_pgp pg_33) (by decide) (len_pgp pg_33) (by omega) (by decide) (hw.piece pg_33 (by omega)) ?_
  refine ev_geti (p' := 88) i_81_85 rfl fl_11_210 rfl (is_pc pg_33 (by omega)) ?_
  exact ev_iretI i_81_88 rfl (EC.mk (by show Value.int (mi (33 + 3 + i) 7) = _; rw [hc.f hi (by decide)]; rfl) hw hc)
theorem R_gives2 (L d : Nat) (A : AV) (hA : okA A) {i oo : Nat} (hi : i < A.1.1.1) (ho : oo < 13) : Rst L (d + 24) 181 [.int (nI i), .int (nI oo), .int 2] A (.int (brN (fK A i))) (A) := by
  refine R_of (q := q_181) rfl (Nat.le_of_ble_eq_true rfl) rfl (fun π mi ml mr hw hc => ?_)
  have hn := hc.hn
  have h7 := hA.n7
  obtain ⟨⟨k, hk6, hk⟩, ⟨a, ha1, ha, ea⟩, ⟨t, ht1, ht, et⟩, -, -, ⟨p, hp, ep⟩, -⟩ := hA.1.1.2.2.2 i hi
  have e0 : mi 287 i = nI k := (hc.f hi (j := 0) (by decide)).trans hk
  have e1 : mi 288 i = nI a := (hc.f hi (j := 1) (by decide)).trans ea
  have e2 : mi 289 i = nI t := (hc.f hi (j := 2) (by decide)).trans et
  have e5 : mi 292 i = nI p := (hc.f hi (j := 5) (by decide)).trans ep
  refine ev_aload_n (p' := 1) i_181_0 rfl rfl ?_
  refine ev_iload_n (p' := 2) i_181_1 rfl rfl ?_
  refine ev_v1I (p' := 5) i_181_2 rfl cl_12_240_12 (by decide) is_285 (Nat.le_of_ble_eq_true rfl) (s_isPiece (π := π) _ hn _) ?_
  refine ev_if_eq (p' := 8) (tg := 24) i_181_5 rfl rfl (fun c5 => absurd c5 (B_tn (inn hi h7))) (fun c5 => ?_)
  refine ev_iload_n (p' := 9) i_181_8 rfl rfl ?_
  refine ev_s1I (p' := 12) i_181_9 rfl cl_12_228_0 (by decide) (Nat.le_of_ble_eq_true rfl) (s_isOpening _ _) ?_
  refine ev_if_eq (p' := 15) (tg := 24) i_181_12 rfl rfl (fun c12 => absurd c12 (B_tn (in0 (m := 12) (by omega) (by decide) rfl))) (fun c12 => ?_)
  refine ev_iload_n (p' := 16) i_181_15 rfl rfl ?_
  refine ev_iconst (p' := 17) (v := 0) i_181_16 rfl (by decide) ?_
  refine ev_iconst (p' := 18) (v := 2) i_181_17 rfl (by decide) ?_
  refine ev_s3I (p' := 21) i_181_18 rfl cl_12_115_0 (by decide) (Nat.le_of_ble_eq_true rfl) (s_in _ _ _ _) ?_
  refine ev_if_ne (p' := 24) (tg := 29) i_181_21 rfl rfl (fun c21 => ?_) (fun c21 => absurd (B_tn (by decide)) c21)
  refine ev_iload_n (p' := 30) i_181_29 rfl rfl ?_
  refine ev_if_ne (p' := 33) (tg := 58) i_181_30 rfl rfl (fun c30 => ?_) (fun c30 => absurd (by decide) c30)
  refine ev_iload_n (p' := 59) i_181_58 rfl rfl ?_
  refine ev_iconst (p' := 60) (v := 1) i_181_59 rfl (by decide) ?_
  refine ev_icmp_ne (p' := 63) (tg := 71) i_181_60 rfl rfl (fun c60 => ?_) (fun c60 => absurd (by decide) c60)
  refine ev_aload_n (p' := 72) i_181_71 rfl rfl ?_
  refine ev_getr (p' := 75) i_181_72 rfl fl_12_13 rfl is_285 (rf_285_6 hw) ?_
  refine ev_iload_n (p' := 76) i_181_75 rfl rfl ?_
  refine ev_ialdN (p' := 77) i_181_76 rfl is_287 len_287 (by omega) (by decide) ?_
  rw [e0]
  refine ev_s1I (p' := 80) i_181_77 rfl cl_12_199_0 (by decide) (Nat.le_of_ble_eq_true rfl) (s_bearsBy _ hk6) ?_
  exact ev_iretI i_181_80 rfl (ER.mk (by rw [fK_eq hk6 hk]) hc)
theorem Q_gives (L : Nat) (A : AV) (hA : okA A) (y z x : Int32) : SameI L 81 181 [.int y, .int z, .int x] A := by
  by_cases h : (0 ≤ y ∧ y ≤ nI A.1.1.1 - 1) ∧ (0 ≤ z ∧ z ≤ 12) ∧ (0 ≤ x ∧ x ≤ 2)
  · obtain ⟨i, hi, rfl⟩ := ofn hA.n7 h.1
    obtain ⟨j, hj, rfl⟩ := of0 (m := 12) h.2.1 rfl
    rcases in02' h.2.2 with rfl | rfl | rfl
    · exact ⟨_, A, hA, fun d => C_gives0 L d A hA hi (by omega), fun d => R_gives0 L d A hA hi (by omega)⟩
    · exact ⟨_, A, hA, fun d => C_gives1 L d A hA hi (by omega), fun d => R_gives1 L d A hA hi (by omega)⟩
    · exact ⟨_, A, hA, fun d => C_gives2 L d A hA hi (by omega), fun d => R_gives2 L d A hA hi (by omega)⟩
  · exact ⟨_, badA A, hA.bad, fun d => C_gives_bad L d A hA y z x h, fun d => R_gives_bad L d A hA y z x h⟩
