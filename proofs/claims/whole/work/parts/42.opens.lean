/-! ===== pulls, opens ===== -/
theorem RR.page {mi mi' : Nat → Nat → Int32} {ml : Nat → Nat → Int64} {A : AV} {w : PV} (h : RR mi ml A) (hp : RP0 mi' w) (he : ∀ a, a ≠ 285 → ¬ (287 ≤ a ∧ a ≤ 293) → mi' a = mi a) (hj : ∀ j, j ≠ 1 → j ≠ 2 → j ≠ 3 → mi' 285 j = mi 285 j) : RR mi' ml ((w, A.1.2), A.2) :=
  h.pu hp ((hj 25 (by decide) (by decide) (by decide)).trans h.1.2.1.1) (fun k hk => (h.1.2.1.2 k hk).cong (he 301 (by decide) (by omega))) (fun a ha => he a (by omega) (by omega)) (fun j hj' => hj j (by omega) (by omega) (by omega))
def setV (v : PV) (j0 i0 : Nat) (x : Int32) : PV := (v.1, v.2.1, v.2.2.1, fun j i => if i = i0 ∧ j = j0 then x else v.2.2.2 j i)
theorem set_f {v : PV} {j0 i0 j i : Nat} {x : Int32} : (setV v j0 i0 x).2.2.2 j i = if i = i0 ∧ j = j0 then x else v.2.2.2 j i := rfl
theorem CPg.set {mi : Nat → Nat → Int32} {P j0 i0 : Nat} {v : PV} {x : Int32} (h : CPg mi P v) (h0 : j0 ≠ 0) (h7 : j0 < 7) : CPg (pm_u mi (P + 3 + i0) j0 x) P (setV v j0 i0 x) := by
  obtain ⟨a1, a2, a3, a4, a5⟩ := h
  refine ⟨a1, by rw [pm_u_ne (by omega)]; exact a2, by rw [pm_u_ne (by omega)]; exact a3, by rw [pm_u_ne (by omega)]; exact a4, fun i hi j hj => ?_⟩
  unfold fx
  rw [show (setV v j0 i0 x).2.2.2 0 i = v.2.2.2 0 i from if_neg (fun z => h0 z.2.symm), set_f]
  have := a5 i hi j hj
  unfold fx at this
  by_cases hh : i = i0
  · subst hh
    by_cases hjj : j = j0
    · subst hjj
      rw [pm_u_self, if_neg (by omega), if_pos ⟨rfl, rfl⟩]
    · rw [pm_u_oth hjj, if_neg (show ¬ (i = i ∧ j = j0) from fun z => hjj z.2)]
      exact this
  · rw [pm_u_ne (by omega), if_neg (show ¬ (i = i0 ∧ j = j0) from fun z => hh z.1)]
    exact this
theorem RP0.set {mi : Nat → Nat → Int32} {v : PV} {j0 i0 : Nat} {x : Int32} (h : RP0 mi v) : RP0 (pm_u mi (287 + j0) i0 x) (setV v j0 i0 x) := by
  refine ⟨by rw [pm_u_ne (by omega)]; exact h.1, by rw [pm_u_ne (by omega)]; exact h.2.1, by rw [pm_u_ne (by omega)]; exact h.2.2.1, fun i hi j hj => ?_⟩
  rw [set_f]
  by_cases hh : i = i0 ∧ j = j0
  · rw [if_pos hh, hh.1, hh.2, pm_u_self]
  · rw [if_neg hh, u_ne (by omega)]
    exact h.2.2.2 i hi j hj
theorem rem_1 {v : SV} : (remV v).1 = v.1 := by unfold remV; split <;> rfl
theorem C_pulls_bad (L d : Nat) (A : AV) (hA : okA A) (y : Int32) (x : Int32) (hb : ¬ ((0 ≤ y ∧ y ≤ nI A.1.1.1 - 1) ∧ (0 ≤ x ∧ x ≤ 3))) : Cst L (d + 24) 77 [.int y, .int x] A (.int (-2)) (badA A) := by
  refine C_of (q := q_77) rfl (Nat.le_of_ble_eq_true rfl) rfl (fun π mi ml mr hw hc => ?_)
  have hn := hc.hn
  have h7 := hA.n7
  refine ev_aload_n (p' := 1) i_77_0 rfl rfl ?_
  refine ev_iload_n (p' := 2) i_77_1 rfl rfl ?_
  refine ev_v1I (p' := 5) i_77_2 rfl cl_11_158_11 (by decide) is_1 (Nat.le_of_ble_eq_true rfl) (s_noPiece _ hw hn _) ?_
  refine ev_if_ne (p' := 8) (tg := 17) i_77_5 rfl rfl (fun c5 => ?_) (fun c5 => ?_)
  · replace c5 := B1 c5
    refine ev_aload_n (p' := 18) i_77_17 rfl rfl ?_
    refine ev_v0I (p' := 21) i_77_18 rfl cl_11_93_11 (by decide) is_1 (Nat.le_of_ble_eq_true rfl) (s_bad _) ?_
    exact ev_iretI i_77_21 rfl (EC.mk rfl hw (hc.bad hw))
  · replace c5 := B0n c5
    refine ev_iload_n (p' := 9) i_77_8 rfl rfl ?_
    refine ev_iconst (p' := 10) (v := 0) i_77_9 rfl (by decide) ?_
    refine ev_iconst (p' := 11) (v := 3) i_77_10 rfl (by decide) ?_
    refine ev_s3I (p' := 14) i_77_11 rfl cl_11_89_0 (by decide) (Nat.le_of_ble_eq_true rfl) (s_outside _ _ _ _) ?_
    refine ev_if_eq (p' := 17) (tg := 22) i_77_14 rfl rfl (fun c14 => ?_) (fun c14 => ?_)
    · replace c14 := B0 c14
      exact absurd ⟨ni c5, ni c14⟩ hb
    · replace c14 := B1 c14
      refine ev_aload_n (p' := 18) i_77_17 rfl rfl ?_
      refine ev_v0I (p' := 21) i_77_18 rfl cl_11_93_11 (by decide) is_1 (Nat.le_of_ble_eq_true rfl) (s_bad _) ?_
      exact ev_iretI i_77_21 rfl (EC.mk rfl hw (hc.bad hw))
theorem R_pulls_bad (L d : Nat) (A : AV) (hA : okA A) (y : Int32) (x : Int32) (hb : ¬ ((0 ≤ y ∧ y ≤ nI A.1.1.1 - 1) ∧ (0 ≤ x ∧ x ≤ 3))) : Rst L (d + 24) 177 [.int y, .int x] A (.int (-2)) (badA A) := by
  refine R_of (q := q_177) rfl (Nat.le_of_ble_eq_true rfl) rfl (fun π mi ml mr hw hc => ?_)
  have hn := hc.hn
  have h7 := hA.n7
  refine ev_aload_n (p' := 1) i_177_0 rfl rfl ?_
  refine ev_iload_n (p' := 2) i_177_1 rfl rfl ?_
  refine ev_v1I (p' := 5) i_177_2 rfl cl_12_240_12 (by decide) is_285 (Nat.le_of_ble_eq_true rfl) (s_isPiece (π := π) _ hn _) ?_
  refine ev_if_eq (p' := 8) (tg := 17) i_177_5 rfl rfl (fun c5 => ?_) (fun c5 => ?_)
  · replace c5 := B0 c5
    refine ev_aload_n (p' := 18) i_177_17 rfl rfl ?_
    refine ev_v0I (p' := 21) i_177_18 rfl cl_12_119_12 (by decide) is_285 (Nat.le_of_ble_eq_true rfl) (s_mbad _ hw) ?_
    exact ev_iretI i_177_21 rfl (ER.mk rfl (hc.bad h7))
  · replace c5 := B1 c5
    refine ev_iload_n (p' := 9) i_177_8 rfl rfl ?_
    refine ev_iconst (p' := 10) (v := 0) i_177_9 rfl (by decide) ?_
    refine ev_iconst (p' := 11) (v := 3) i_177_10 rfl (by decide) ?_
    refine ev_s3I (p' := 14) i_177_11 rfl cl_12_115_0 (by decide) (Nat.le_of_ble_eq_true rfl) (s_in _ _ _ _) ?_
    refine ev_if_ne (p' := 17) (tg := 22) i_177_14 rfl rfl (fun c14 => ?_) (fun c14 => ?_)
    · replace c14 := B1 c14
      exact absurd ⟨c5, c14⟩ hb
    · replace c14 := B0n c14
      refine ev_aload_n (p' := 18) i_177_17 rfl rfl ?_
      refine ev_v0I (p' := 21) i_177_18 rfl cl_12_119_12 (by decide) is_285 (Nat.le_of_ble_eq_true rfl) (s_mbad _ hw) ?_
      exact ev_iretI i_177_21 rfl (ER.mk rfl (hc.bad h7))
theorem C_pulls_no (L d : Nat) (A : AV) (hA : okA A) {i p : Nat} (hi : i < A.1.1.1) (hp : p ≤ 3) (h5 : A.1.1.2.2.2 5 i = nI p) : Cst L (d + 24) 77 [.int (nI i), .int (nI p)] A (.int (-3)) (noA A) := by
  refine C_of (q := q_77) rfl (Nat.le_of_ble_eq_true rfl) rfl (fun π mi ml mr hw hc => ?_)
  have hn := hc.hn
  have h7 := hA.n7
  have e5 : mi (33 + 3 + i) 5 = A.1.1.2.2.2 5 i := by rw [hc.f hi (by decide)]; rfl
  refine ev_aload_n (p' := 1) i_77_0 rfl rfl ?_
  refine ev_iload_n (p' := 2) i_77_1 rfl rfl ?_
  refine ev_v1I (p' := 5) i_77_2 rfl cl_11_158_11 (by decide) is_1 (Nat.le_of_ble_eq_true rfl) (s_noPiece _ hw hn _) ?_
  refine ev_if_ne (p' := 8) (tg := 17) i_77_5 rfl rfl (fun c5 => absurd c5 (fun z => z (B_f (nj (inn hi h7))))) (fun c5 => ?_)
  refine ev_iload_n (p' := 9) i_77_8 rfl rfl ?_
  refine ev_iconst (p' := 10) (v := 0) i_77_9 rfl (by decide) ?_
  refine ev_iconst (p' := 11) (v := 3) i_77_10 rfl (by decide) ?_
  refine ev_s3I (p' := 14) i_77_11 rfl cl_11_89_0 (by decide) (Nat.le_of_ble_eq_true rfl) (s_outside _ _ _ _) ?_
  refine ev_if_eq (p' := 17) (tg := 22) i_77_14 rfl rfl (fun c14 => ?_) (fun c14 => absurd (B_f (nj (in0 hp (by decide) rfl))) c14)
  refine ev_aload_n (p' := 23) i_77_22 rfl rfl ?_
  refine ev_getr (p' := 26) i_77_23 rfl fl_11_78 rfl is_1 (rf_1_0 hw) ?_
  refine ev_getr (p' := 29) i_77_26 rfl fl_11_97 rfl (is_sp sp_17) (hw.page sp_17) ?_
  refine ev_getr (p' := 32) i_77_29 rfl fl_11_161 rfl (is_pg pg_33) (hw.pieces pg_33) ?_
  refine ev_iload_n (p' := 33) i_77_32 rfl rfl ?_
  refine ev_aaldN (p' := 34) 25 i_77_33 rfl (is_pgp pg_33) (by decide) (len_pgp pg_33) (by omega) (by decide) (hw.piece pg_33 (by omega)) ?_
  refine ev_geti (p' := 37) i_77_34 rfl fl_11_165 rfl (is_pc pg_33 (by omega)) ?_
  refine ev_istore_n (p' := 38) (ls' := [_, _, _, _]) i_77_37 rfl rfl (by decide) rfl ?_
  refine ev_iload_n (p' := 39) i_77_38 rfl rfl ?_
  refine ev_iload_n (p' := 40) i_77_39 rfl rfl ?_
  refine ev_icmp_ne (p' := 43) (tg := 48) i_77_40 rfl rfl (fun c40 => absurd c40 (fun z => z (e5.trans h5))) (fun c40 => ?_)
  refine ev_aload_n (p' := 44) i_77_43 rfl rfl ?_
  refine ev_v0I (p' := 47) i_77_44 rfl cl_11_145_11 (by decide) is_1 (Nat.le_of_ble_eq_true rfl) (s_no _) ?_
  exact ev_iretI i_77_47 rfl (EC.mk rfl hw (hc.no hw))
theorem R_pulls_no (L d : Nat) (A : AV) (hA : okA A) {i p : Nat} (hi : i < A.1.1.1) (hp : p ≤ 3) (h5 : A.1.1.2.2.2 5 i = nI p) : Rst L (d + 24) 177 [.int (nI i), .int (nI p)] A (.int (-3)) (noA A) := by
  refine R_of (q := q_177) rfl (Nat.le_of_ble_eq_true rfl) rfl (fun π mi ml mr hw hc => ?_)
  have hn := hc.hn
  have h7 := hA.n7
  have e5 : mi 292 i = A.1.1.2.2.2 5 i := hc.f hi (j := 5) (by decide)
  refine ev_aload_n (p' := 1) i_177_0 rfl rfl ?_
  refine ev_iload_n (p' := 2) i_177_1 rfl rfl ?_
  refine ev_v1I (p' := 5) i_177_2 rfl cl_12_240_12 (by decide) is_285 (Nat.le_of_ble_eq_true rfl) (s_isPiece (π := π) _ hn _) ?_
  refine ev_if_eq (p' := 8) (tg := 17) i_177_5 rfl rfl (fun c5 => absurd c5 (B_tn (inn hi h7))) (fun c5 => ?_)
  refine ev_iload_n (p' := 9) i_177_8 rfl rfl ?_
  refine ev_iconst (p' := 10) (v := 0) i_177_9 rfl (by decide) ?_
  refine ev_iconst (p' := 11) (v := 3) i_177_10 rfl (by decide) ?_
  refine ev_s3I (p' := 14) i_177_11 rfl cl_12_115_0 (by decide) (Nat.le_of_ble_eq_true rfl) (s_in _ _ _ _) ?_
  refine ev_if_ne (p' := 17) (tg := 22) i_177_14 rfl rfl (fun c14 => ?_) (fun c14 => absurd (B_tn (in0 hp (by decide) rfl)) c14)
  refine ev_aload_n (p' := 23) i_177_22 rfl rfl ?_
  refine ev_getr (p' := 26) i_177_23 rfl fl_12_28 rfl is_285 (rf_285_11 hw) ?_
  refine ev_iload_n (p' := 27) i_177_26 rfl rfl ?_
  refine ev_ialdN (p' := 28) i_177_27 rfl is_292 len_292 (by omega) (by decide) ?_
  refine ev_iload_n (p' := 29) i_177_28 rfl rfl ?_
  refine ev_icmp_ne (p' := 32) (tg := 37) i_177_29 rfl rfl (fun c29 => absurd c29 (fun z => z (e5.trans h5))) (fun c29 => ?_)
  refine ev_aload_n (p' := 33) i_177_32 rfl rfl ?_
  refine ev_v0I (p' := 36) i_177_33 rfl cl_12_231_12 (by decide) is_285 (Nat.le_of_ble_eq_true rfl) (s_mno _ hw) ?_
  exact ev_iretI i_177_36 rfl (ER.mk rfl (hc.no h7))
theorem C_pulls (L d : Nat) (A : AV) (hA : okA A) {i p : Nat} (hi : i < A.1.1.1) (hp : p ≤ 3) (h5 : ¬ A.1.1.2.2.2 5 i = nI p) : Cst L (d + 24) 77 [.int (nI i), .int (nI p)] A (.int (A.1.1.2.2.2 5 i)) (((setV (remV A.1).1 5 i (nI p), (remV A.1).2), A.2)) := by
  refine C_of (q := q_77) rfl (Nat.le_of_ble_eq_true rfl) rfl (fun π mi ml mr hw hc => ?_)
  have hn := hc.hn
  have h7 := hA.n7
  have e5 : mi (33 + 3 + i) 5 = A.1.1.2.2.2 5 i := by rw [hc.f hi (by decide)]; rfl
  refine ev_aload_n (p' := 1) i_77_0 rfl rfl ?_
  refine ev_iload_n (p' := 2) i_77_1 rfl rfl ?_
  refine ev_v1I (p' := 5) i_77_2 rfl cl_11_158_11 (by decide) is_1 (Nat.le_of_ble_eq_true rfl) (s_noPiece _ hw hn _) ?_
  refine ev_if_ne (p' := 8) (tg := 17) i_77_5 rfl rfl (fun c5 => absurd c5 (fun z => z (B_f (nj (inn hi h7))))) (fun c5 => ?_)
  refine ev_iload_n (p' := 9) i_77_8 rfl rfl ?_
  refine ev_iconst (p' := 10) (v := 0) i_77_9 rfl (by decide) ?_
  refine ev_iconst (p' := 11) (v := 3) i_77_10 rfl (by decide) ?_
  refine ev_s3I (p' := 14) i_77_11 rfl cl_11_89_0 (by decide) (Nat.le_of_ble_eq_true rfl) (s_outside _ _ _ _) ?_
  refine ev_if_eq (p' := 17) (tg := 22) i_77_14 rfl rfl (fun c14 => ?_) (fun c14 => absurd (B_f (nj (in0 hp (by decide) rfl))) c14)
  refine ev_aload_n (p' := 23) i_77_22 rfl rfl ?_
  refine ev_getr (p' := 26) i_77_23 rfl fl_11_78 rfl is_1 (rf_1_0 hw) ?_
  refine ev_getr (p' := 29) i_77_26 rfl fl_11_97 rfl (is_sp sp_17) (hw.page sp_17) ?_
  refine ev_getr (p' := 32) i_77_29 rfl fl_11_161 rfl (is_pg pg_33) (hw.pieces pg_33) ?_
  refine ev_iload_n (p' := 33) i_77_32 rfl rfl ?_
  refine ev_aaldN (p' := 34) 25 i_77_33 rfl (is_pgp pg_33) (by decide) (len_pgp pg_33) (by omega) (by decide) (hw.piece pg_33 (by omega)) ?_
  refine ev_geti (p' := 37) i_77_34 rfl fl_11_165 rfl (is_pc pg_33 (by omega)) ?_
  rw [show mi (17 + 16 + 3 + i) 5 = A.1.1.2.2.2 5 i from e5]
  refine ev_istore_n (p' := 38) (ls' := [_, _, _, _]) i_77_37 rfl rfl (by decide) rfl ?_
  refine ev_iload_n (p' := 39) i_77_38 rfl rfl ?_
  refine ev_iload_n (p' := 40) i_77_39 rfl rfl ?_
  refine ev_icmp_ne (p' := 43) (tg := 48) i_77_40 rfl rfl (fun c40 => ?_) (fun c40 => absurd (h5) c40)
  refine ev_aload_n (p' := 49) i_77_48 rfl rfl ?_
  refine ev_getr (p' := 52) i_77_49 rfl fl_11_78 rfl is_1 (rf_1_0 hw) ?_
  obtain ⟨π, mi, mr, e1, hw, hc⟩ := c_rem (L := L) (d + 20) hw hc
  refine ev_v0V (p' := 55) i_77_52 rfl cl_11_148_4 (by decide) (is_sp sp_17) (Nat.le_of_ble_eq_true rfl) (e1) ?_
  refine ev_aload_n (p' := 56) i_77_55 rfl rfl ?_
  refine ev_getr (p' := 59) i_77_56 rfl fl_11_78 rfl is_1 (rf_1_0 hw) ?_
  refine ev_getr (p' := 62) i_77_59 rfl fl_11_97 rfl (is_sp sp_17) (hw.page sp_17) ?_
  refine ev_getr (p' := 65) i_77_62 rfl fl_11_161 rfl (is_pg pg_33) (hw.pieces pg_33) ?_
  refine ev_iload_n (p' := 66) i_77_65 rfl rfl ?_
  refine ev_aaldN (p' := 67) 25 i_77_66 rfl (is_pgp pg_33) (by decide) (len_pgp pg_33) (by omega) (by decide) (hw.piece pg_33 (by omega)) ?_
  refine ev_iload_n (p' := 68) i_77_67 rfl rfl ?_
  refine ev_puti (p' := 71) i_77_68 rfl fl_11_165 rfl (is_pc pg_33 (by omega)) (gc_pc pg_33 (by omega)) rfl ?_
  refine ev_iload_n (p' := 72) i_77_71 rfl rfl ?_
  exact ev_iretI i_77_72 rfl (EC.mk rfl hw (hc.page hw (hc.pg.set (by decide) (by decide)) (fun a ha => pm_u_ne (by omega))))
theorem R_pulls (L d : Nat) (A : AV) (hA : okA A) {i p : Nat} (hi : i < A.1.1.1) (hp : p ≤ 3) (h5 : ¬ A.1.1.2.2.2 5 i = nI p) : Rst L (d + 24) 177 [.int (nI i), .int (nI p)] A (.int (A.1.1.2.2.2 5 i)) (((setV (remV A.1).1 5 i (nI p), (remV A.1).2), A.2)) := by
  refine R_of (q := q_177) rfl (Nat.le_of_ble_eq_true rfl) rfl (fun π mi ml mr hw hc => ?_)
  have hn := hc.hn
  have h7 := hA.n7
  have e5 : mi 292 i = A.1.1.2.2.2 5 i := hc.f hi (j := 5) (by decide)
  refine ev_aload_n (p' := 1) i_177_0 rfl rfl ?_
  refine ev_iload_n (p' := 2) i_177_1 rfl rfl ?_
  refine ev_v1I (p' := 5) i_177_2 rfl cl_12_240_12 (by decide) is_285 (Nat.le_of_ble_eq_true rfl) (s_isPiece (π := π) _ hn _) ?_
  refine ev_if_eq (p' := 8) (tg := 17) i_177_5 rfl rfl (fun c5 => absurd c5 (B_tn (inn hi h7))) (fun c5 => ?_)
  refine ev_iload_n (p' := 9) i_177_8 rfl rfl ?_
  refine ev_iconst (p' := 10) (v := 0) i_177_9 rfl (by decide) ?_
  refine ev_iconst (p' := 11) (v := 3) i_177_10 rfl (by decide) ?_
  refine ev_s3I (p' := 14) i_177_11 rfl cl_12_115_0 (by decide) (Nat.le_of_ble_eq_true rfl) (s_in _ _ _ _) ?_
  refine ev_if_ne (p' := 17) (tg := 22) i_177_14 rfl rfl (fun c14 => ?_) (fun c14 => absurd (B_tn (in0 hp (by decide) rfl)) c14)
  refine ev_aload_n (p' := 23) i_177_22 rfl rfl ?_
  refine ev_getr (p' := 26) i_177_23 rfl fl_12_28 rfl is_285 (rf_285_11 hw) ?_
  refine ev_iload_n (p' := 27) i_177_26 rfl rfl ?_
  refine ev_ialdN (p' := 28) i_177_27 rfl is_292 len_292 (by omega) (by decide) ?_
  refine ev_iload_n (p' := 29) i_177_28 rfl rfl ?_
  refine ev_icmp_ne (p' := 32) (tg := 37) i_177_29 rfl rfl (fun c29 => ?_) (fun c29 => absurd (fun z => h5 (e5.symm.trans z)) c29)
  refine ev_aload_n (p' := 38) i_177_37 rfl rfl ?_
  obtain ⟨mi, e1, hc⟩ := s_notes (L := L) (d + 21) hw hc hA
  refine ev_v0V (p' := 41) i_177_38 rfl cl_12_234_12 (by decide) is_285 (Nat.le_of_ble_eq_true rfl) (e1) ?_
  refine ev_aload_n (p' := 42) i_177_41 rfl rfl ?_
  refine ev_getr (p' := 45) i_177_42 rfl fl_12_28 rfl is_285 (rf_285_11 hw) ?_
  refine ev_iload_n (p' := 46) i_177_45 rfl rfl ?_
  refine ev_ialdN (p' := 47) i_177_46 rfl is_292 len_292 (by omega) (by decide) ?_
  rw [show mi 292 i = A.1.1.2.2.2 5 i from (hc.f (by rw [rem_1]; exact hi) (j := 5) (by decide)).trans (by rw [rem_1])]
  refine ev_istore_n (p' := 48) (ls' := [_, _, _, _]) i_177_47 rfl rfl (by decide) rfl ?_
  refine ev_aload_n (p' := 49) i_177_48 rfl rfl ?_
  refine ev_getr (p' := 52) i_177_49 rfl fl_12_28 rfl is_285 (rf_285_11 hw) ?_
  refine ev_iload_n (p' := 53) i_177_52 rfl rfl ?_
  refine ev_iload_n (p' := 54) i_177_53 rfl rfl ?_
  refine ev_iastN (p' := 55) i_177_54 rfl is_292 len_292 (by omega) (by decide) (gr (by decide)) ?_
  refine ev_iload_n (p' := 56) i_177_55 rfl rfl ?_
  exact ev_iretI i_177_56 rfl (ER.mk rfl (hc.page (hc.1.1.set (j0 := 5)) (fun a h1 h2 => pm_u_ne (by omega)) (fun j _ _ _ => by rw [pm_u_ne (by decide)])))
theorem okPV.set5 {v : PV} {i p : Nat} (h : okPV v) (hp : p < 4) : okPV (setV v 5 i (nI p)) := by
  refine ⟨h.1, h.2.1, h.2.2.1, fun k hk => ?_⟩
  obtain ⟨h1, h2, h3, h4, h5, h6, h8⟩ := h.2.2.2 k hk
  have e : ∀ j, j ≠ 5 → (setV v 5 i (nI p)).2.2.2 j k = v.2.2.2 j k := fun j hj => if_neg (fun z => hj z.2)
  unfold okp
  rw [e 0 (by decide), e 1 (by decide), e 2 (by decide), e 3 (by decide), e 4 (by decide), e 6 (by decide)]
  refine ⟨h1, h2, h3, h4, h5, ?_, h8⟩
  rw [set_f]
  by_cases hh : k = i
  · exact ⟨p, hp, if_pos ⟨hh, rfl⟩⟩
  · rw [if_neg (fun z => hh z.1)]; exact h6
theorem Q_pulls (L : Nat) (A : AV) (hA : okA A) (y x : Int32) : SameI L 77 177 [.int y, .int x] A := by
  by_cases h : (0 ≤ y ∧ y ≤ nI A.1.1.1 - 1) ∧ (0 ≤ x ∧ x ≤ 3)
  · obtain ⟨i, hi, rfl⟩ := ofn hA.n7 h.1
    obtain ⟨p, hp, rfl⟩ := of0 (m := 3) h.2 rfl
    by_cases h5 : A.1.1.2.2.2 5 i = nI p
    · exact ⟨_, noA A, hA.no, fun d => C_pulls_no L d A hA hi hp h5, fun d => R_pulls_no L d A hA hi hp h5⟩
    · exact ⟨_, ((setV (remV A.1).1 5 i (nI p), (remV A.1).2), A.2), ⟨⟨hA.1.rem.1.set5 (by omega), hA.1.rem.2⟩, hA.2⟩, fun d => C_pulls L d A hA hi hp h5, fun d => R_pulls L d A hA hi hp h5⟩
  · exact ⟨_, badA A, hA.bad, fun d => C_pulls_bad L d A hA y x h, fun d => R_pulls_bad L d A hA y x h⟩
/-! opening -/
def opV (v : PV) (o : Int32) : PV := (v.1, v.2.1, o, fun j i => if j = 6 then wr1 (v.2.2.2 6 i) (fx v.2.2.2 7 i) (iabs (o - v.2.2.1)) else v.2.2.2 j i)
theorem op_f {v : PV} {o : Int32} {j i : Nat} : (opV v o).2.2.2 j i = if j = 6 then wr1 (v.2.2.2 6 i) (fx v.2.2.2 7 i) (iabs (o - v.2.2.1)) else v.2.2.2 j i := rfl
theorem CPg.op {mi : Nat → Nat → Int32} {P : Nat} {v : PV} {o : Int32} (h : CPg mi P v) : CPg (pm_u (wm mi P (iabs (o - mi P 4)) v.1) P 4 o) P (opV v o) := by
  obtain ⟨a1, a2, a3, a4, a5⟩ := h
  refine ⟨a1, by rw [pm_u_oth (by decide), wm_pg]; exact a2, by rw [pm_u_oth (by decide), wm_pg]; exact a3, pm_u_self, fun i hi j hj => ?_⟩
  have hi' : i < v.1 := hi
  rw [pm_u_ne (by omega)]
  unfold fx
  rw [op_f, op_f, if_neg (show ¬ (0 : Nat) = 6 by decide)]
  by_cases hj6 : j = 6
  · subst hj6
    rw [wm_6 hi', a5 i hi 6 (by decide), a5 i hi 7 (by decide), a4, if_neg (by decide), if_pos rfl]
    rfl
  · rw [wm_f (by omega), if_neg hj6]
    have := a5 i hi j hj
    unfold fx at this
    exact this
theorem op_cell {mi : Nat → Nat → Int32} {P n a : Nat} {y o : Int32} (hn : n ≤ 7) (ha : a < P ∨ P + 10 ≤ a) : pm_u (wm mi P y n) P 4 o a = mi a := by
  rw [pm_u_ne (by omega)]
  funext j
  unfold wm
  rw [if_neg (by omega)]
theorem gy1 : ∀ o, o < 13 → ∀ c, c < 13 → nI o ≤ nI c → nI c - nI o = iabs (nI o - nI c) := by decide +kernel
theorem gy2 : ∀ o, o < 13 → ∀ c, c < 13 → ¬ nI o ≤ nI c → nI o - nI c = iabs (nI o - nI c) := by decide +kernel
theorem les_eq (z : Int32) : (if 999 < z then 999 else z) = (if z < 999 then z else 999) := by
  by_cases h1 : 999 < z
  · rw [if_pos h1, if_neg (fun h2 => absurd (Int32.lt_trans h1 h2) Int32.lt_irrefl)]
  · rw [if_neg h1]
    by_cases h2 : z < 999
    · rw [if_pos h2]
    · rw [if_neg h2]
      exact Int32.le_antisymm (Int32.not_lt.mp h1) (Int32.not_lt.mp h2)
def GO (mi0 mi : Nat → Nat → Int32) (y : Int32) (i : Nat) : Prop := (∀ a, a ≠ 293 → mi a = mi0 a) ∧ (∀ j, j < i → mi 293 j = wr1 (mi0 293 j) (rf mi0 7 j) y) ∧ ∀ j, i ≤ j → mi 293 j = mi0 293 j
theorem GO.step {mi0 mi : Nat → Nat → Int32} {y x : Int32} {i : Nat} (h : GO mi0 mi y i) (hx : x = wr1 (mi0 293 i) (rf mi0 7 i) y) : GO mi0 (pm_u mi 293 i x) y (i + 1) := by
  obtain ⟨h1, h2, h3⟩ := h
  refine ⟨fun a ha => by rw [pm_u_ne ha, h1 a ha], fun j hj => ?_, fun j hj => by rw [pm_u_oth (by omega), h3 j (by omega)]⟩
  by_cases hh : j = i
  · rw [hh, pm_u_self, hx]
  · rw [pm_u_oth hh, h2 j (by omega)]
theorem GO.ok {mi0 mi : Nat → Nat → Int32} {y : Int32} {i : Nat} (h : GO mi0 mi y i) (ho : okp (RFv mi0) i) : okp (RFv mi) i := okp_cg ho (fun j hj => by
  show mi (287 + j) i = mi0 (287 + j) i
  by_cases hh : j = 6
  · rw [hh]; exact h.2.2 i (Nat.le_refl i)
  · rw [h.1 _ (by omega)])
theorem GO.r7 {mi0 mi : Nat → Nat → Int32} {y : Int32} {i j : Nat} (h : GO mi0 mi y i) : rf mi 7 j = rf mi0 7 j := by
  unfold rf fx
  simp only [if_true]
  rw [h.1 (287 + 0) (by decide)]
theorem GO.r6 {mi0 mi : Nat → Nat → Int32} {y : Int32} {i : Nat} (h : GO mi0 mi y i) : rf mi 6 i = mi0 293 i := h.2.2 i (Nat.le_refl i)
theorem l_goes {L : Nat} {π : Nat → Nat → Nat} {ml : Nat → Nat → Int64} {mr : Nat → Nat → Option Nat} {mi0 : Nat → Nat → Int32} {d : Nat} {E : Option Value → pm_M → Prop} (hw : WR π mr) {n : Nat} (hn7 : n ≤ 7) (hn : mi0 285 1 = nI n) (hok : ∀ i, i < n → okp (RFv mi0) i) {x y : Int32} (hE : ∀ mi, GO mi0 mi y n → E none (WW L, pm_u mi 285 2 x, ml, mr)) : ∀ k i mi, i + k = n → GO mi0 mi y i → Ev gR (pm_ev gR (d + 2)) E q_175 26 [some (.ref 285), some (.int x), some (.int y), some (.int (nI i))] [] (WW L, mi, ml, mr) := by
  intro k
  induction k with
  | zero =>
    intro i mi hi hL
    have hi : i = n := by omega
    subst hi
    refine ev_iload_n (p' := 27) i_175_26 rfl rfl ?_
    refine ev_aload_n (p' := 28) i_175_27 rfl rfl ?_
    refine ev_geti (p' := 31) i_175_28 rfl fl_12_96 rfl is_285 ?_
    refine ev_icmp_ge (p' := 34) (tg := 77) i_175_31 rfl rfl (fun c31 => ?_) (fun c31 => absurd (by rw [hL.1 285 (by decide), hn]; exact nI_le (by omega) (by omega)) c31)
    refine ev_aload_n (p' := 78) i_175_77 rfl rfl ?_
    refine ev_iload_n (p' := 79) i_175_78 rfl rfl ?_
    refine ev_puti (p' := 82) i_175_79 rfl fl_12_100 rfl is_285 (gr (by decide)) rfl ?_
    exact ev_ret i_175_82 rfl (hE _ hL)
  | succ k ih =>
    intro i mi hi hL
    refine ev_iload_n (p' := 27) i_175_26 rfl rfl ?_
    refine ev_aload_n (p' := 28) i_175_27 rfl rfl ?_
    refine ev_geti (p' := 31) i_175_28 rfl fl_12_96 rfl is_285 ?_
    refine ev_icmp_ge (p' := 34) (tg := 77) i_175_31 rfl rfl (fun c31 => absurd c31 (by rw [hL.1 285 (by decide), hn]; exact nI_ge (by omega) (by omega))) (fun c31 => ?_)
    refine ev_aload_n (p' := 35) i_175_34 rfl rfl ?_
    refine ev_getr (p' := 38) i_175_35 rfl fl_12_31 rfl is_285 (rf_285_12 hw) ?_
    refine ev_iload_n (p' := 39) i_175_38 rfl rfl ?_
    refine ev_aload_n (p' := 40) i_175_39 rfl rfl ?_
    refine ev_iload_n (p' := 41) i_175_40 rfl rfl ?_
    refine ev_v1I (p' := 44) i_175_41 rfl cl_12_202_12 (by decide) is_285 (Nat.le_of_ble_eq_true rfl) (s_mStuck _ hw (by omega) (hL.ok (hok i (by omega)))) ?_
    refine ev_if_eq (p' := 47) (tg := 56) i_175_44 rfl rfl (fun c44 => ?_) (fun c44 => ?_)
    · replace c44 := B0 c44
      refine ev_sipush (p' := 59) (v := 999) i_175_56 rfl (by decide) ?_
      refine ev_aload_n (p' := 60) i_175_59 rfl rfl ?_
      refine ev_getr (p' := 63) i_175_60 rfl fl_12_31 rfl is_285 (rf_285_12 hw) ?_
      refine ev_iload_n (p' := 64) i_175_63 rfl rfl ?_
      refine ev_ialdN (p' := 65) i_175_64 rfl is_293 len_293 (by omega) (by decide) ?_
      refine ev_iload_n (p' := 66) i_175_65 rfl rfl ?_
      refine ev_iadd (p' := 67) i_175_66 rfl ?_
      refine ev_s2I (p' := 70) i_175_67 rfl cl_12_225_0 (by decide) (Nat.le_of_ble_eq_true rfl) (s_lesser _ _ _) ?_
      refine ev_iastN (p' := 71) i_175_70 rfl is_293 len_293 (by omega) (by decide) (gr (by decide)) ?_
      refine ev_iinc (p' := 74) (ls' := [_, _, _, _]) i_175_71 rfl rfl rfl (by decide) (nI_inc _) rfl ?_
      refine ev_goto (tg := 26) i_175_74 rfl ?_
      exact ih (i + 1) _ (by omega) (hL.step (by rw [hL.r7, hL.r6] at c44; rw [les_eq, hL.2.2 i (Nat.le_refl i)]; unfold wr1; rw [if_neg c44]))
    · replace c44 := B1 c44
      refine ev_aload_n (p' := 48) i_175_47 rfl rfl ?_
      refine ev_getr (p' := 51) i_175_48 rfl fl_12_31 rfl is_285 (rf_285_12 hw) ?_
      refine ev_iload_n (p' := 52) i_175_51 rfl rfl ?_
      refine ev_ialdN (p' := 53) i_175_52 rfl is_293 len_293 (by omega) (by decide) ?_
      refine ev_goto (tg := 70) i_175_53 rfl ?_
      refine ev_iastN (p' := 71) i_175_70 rfl is_293 len_293 (by omega) (by decide) (gr (by decide)) ?_
      refine ev_iinc (p' := 74) (ls' := [_, _, _, _]) i_175_71 rfl rfl rfl (by decide) (nI_inc _) rfl ?_
      refine ev_goto (tg := 26) i_175_74 rfl ?_
      exact ih (i + 1) _ (by omega) (hL.step (by rw [hL.r7, hL.r6] at c44; rw [hL.2.2 i (Nat.le_refl i)]; unfold wr1; rw [if_pos c44]))
theorem s_goes {L : Nat} {π : Nat → Nat → Nat} {mi : Nat → Nat → Int32} {ml : Nat → Nat → Int64} {mr : Nat → Nat → Option Nat} (d : Nat) (hw : WR π mr) {v : PV} (hp : RP0 mi v) (hv : okPV v) {oo : Nat} (ho : oo < 13) : ∃ mi', pm_ev gR (d + 3) 175 [.ref 285, .int (nI oo)] (WW L, mi, ml, mr) none (WW L, mi', ml, mr) ∧ RP0 mi' (opV v (nI oo)) ∧ (∀ a, a ≠ 285 → a ≠ 293 → mi' a = mi a) ∧ ∀ j, j ≠ 2 → mi' 285 j = mi 285 j := by
  have h7 := hv.1
  have hok := hp.oke hv
  obtain ⟨c, hcc, ec⟩ := hv.2.2.1
  obtain ⟨x, m', ⟨h1, mi1, h2, h3⟩, h5⟩ := ev_some (E := fun x m => x = none ∧ ∃ mi1, m = (WW L, pm_u mi1 285 2 (nI oo), ml, mr) ∧ GO mi mi1 (iabs (nI oo - mi 285 2)) v.1) (g := gR) (d := d + 2) (M := 175) (args := [.ref 285, .int (nI oo)]) (mem := (WW L, mi, ml, mr)) (q := q_175) rfl (Nat.le_of_ble_eq_true rfl) rfl (by
    refine ev_iload_n (p' := 1) i_175_0 rfl rfl ?_
    refine ev_aload_n (p' := 2) i_175_1 rfl rfl ?_
    refine ev_geti (p' := 5) i_175_2 rfl fl_12_100 rfl is_285 ?_
    refine ev_icmp_le (p' := 8) (tg := 17) i_175_5 rfl rfl (fun c5 => ?_) (fun c5 => ?_)
    · refine ev_aload_n (p' := 18) i_175_17 rfl rfl ?_
      refine ev_geti (p' := 21) i_175_18 rfl fl_12_100 rfl is_285 ?_
      refine ev_iload_n (p' := 22) i_175_21 rfl rfl ?_
      refine ev_isub (p' := 23) i_175_22 rfl ?_
      refine ev_istore_n (p' := 24) (ls' := [_, _, _, _]) i_175_23 rfl rfl (by decide) rfl ?_
      refine ev_iconst (p' := 25) (v := nI 0) i_175_24 rfl (by decide) ?_
      refine ev_istore_n (p' := 26) (ls' := [_, _, _, _]) i_175_25 rfl rfl (by decide) rfl ?_
      refine l_goes hw h7 hp.1 hok (mi0 := mi) (fun mi1 hL => ⟨rfl, mi1, rfl, ?_⟩) v.1 0 mi (by omega) ⟨fun _ _ => rfl, fun j hj => absurd hj (Nat.not_lt_zero j), fun _ _ => rfl⟩
      rw [hp.2.1, ec] at hL c5
      rw [gy1 oo ho c hcc c5] at hL
      rw [hp.2.1, ec]
      exact hL
    · refine ev_iload_n (p' := 9) i_175_8 rfl rfl ?_
      refine ev_aload_n (p' := 10) i_175_9 rfl rfl ?_
      refine ev_geti (p' := 13) i_175_10 rfl fl_12_100 rfl is_285 ?_
      refine ev_isub (p' := 14) i_175_13 rfl ?_
      refine ev_goto (tg := 23) i_175_14 rfl ?_
      refine ev_istore_n (p' := 24) (ls' := [_, _, _, _]) i_175_23 rfl rfl (by decide) rfl ?_
      refine ev_iconst (p' := 25) (v := nI 0) i_175_24 rfl (by decide) ?_
      refine ev_istore_n (p' := 26) (ls' := [_, _, _, _]) i_175_25 rfl rfl (by decide) rfl ?_
      refine l_goes hw h7 hp.1 hok (mi0 := mi) (fun mi1 hL => ⟨rfl, mi1, rfl, ?_⟩) v.1 0 mi (by omega) ⟨fun _ _ => rfl, fun j hj => absurd hj (Nat.not_lt_zero j), fun _ _ => rfl⟩
      rw [hp.2.1, ec] at hL c5
      rw [gy2 oo ho c hcc c5] at hL
      rw [hp.2.1, ec]
      exact hL)
  subst h1 h2
  refine ⟨_, h5, ⟨?_, pm_u_self, ?_, fun i hi j hj => ?_⟩, fun a h6 h8 => by rw [pm_u_ne h6, h3.1 a h8], fun j hj => by rw [pm_u_oth hj, h3.1 285 (by decide)]⟩
  · rw [pm_u_oth (by decide), h3.1 285 (by decide)]; exact hp.1
  · rw [pm_u_oth (by decide), h3.1 285 (by decide)]; exact hp.2.2.1
  · have hi' : i < v.1 := hi
    rw [op_f, pm_u_ne (by omega)]
    by_cases hj6 : j = 6
    · subst hj6
      rw [if_pos rfl]
      show mi1 293 i = _
      rw [h3.2.1 i hi', hp.2.1, hp.rfe i hi' 7 (by decide)]
      rw [show mi 293 i = v.2.2.2 6 i from hp.2.2.2 i hi' 6 (by decide)]
    · rw [if_neg hj6, h3.1 _ (by omega)]
      exact hp.2.2.2 i hi' j hj
theorem C_opens_bad (L d : Nat) (A : AV) (hA : okA A) (x : Int32) (hb : ¬ (0 ≤ x ∧ x ≤ 12)) : Cst L (d + 24) 76 [.int x] A (.int (-2)) (badA A) := by
  refine C_of (q := q_76) rfl (Nat.le_of_ble_eq_true rfl) rfl (fun π mi ml mr hw hc => ?_)
  have hn := hc.hn
  have h7 := hA.n7
  refine ev_iload_n (p' := 1) i_76_0 rfl rfl ?_
  refine ev_s1I (p' := 4) i_76_1 rfl cl_11_138_0 (by decide) (Nat.le_of_ble_eq_true rfl) (s_isNoOpening _ _) ?_
  refine ev_if_eq (p' := 7) (tg := 12) i_76_4 rfl rfl (fun c4 => ?_) (fun c4 => ?_)
  · replace c4 := B0 c4
    exact absurd (ni c4) hb
  · replace c4 := B1 c4
    refine ev_aload_n (p' := 8) i_76_7 rfl rfl ?_
    refine ev_v0I (p' := 11) i_76_8 rfl cl_11_93_11 (by decide) is_1 (Nat.le_of_ble_eq_true rfl) (s_bad _) ?_
    exact ev_iretI i_76_11 rfl (EC.mk rfl hw (hc.bad hw))
theorem R_opens_bad (L d : Nat) (A : AV) (hA : okA A) (x : Int32) (hb : ¬ (0 ≤ x ∧ x ≤ 12)) : Rst L (d + 24) 176 [.int x] A (.int (-2)) (badA A) := by
  refine R_of (q := q_176) rfl (Nat.le_of_ble_eq_true rfl) rfl (fun π mi ml mr hw hc => ?_)
  have hn := hc.hn
  have h7 := hA.n7
  refine ev_iload_n (p' := 1) i_176_0 rfl rfl ?_
  refine ev_s1I (p' := 4) i_176_1 rfl cl_12_228_0 (by decide) (Nat.le_of_ble_eq_true rfl) (s_isOpening _ _) ?_
  refine ev_if_ne (p' := 7) (tg := 12) i_176_4 rfl rfl (fun c4 => ?_) (fun c4 => ?_)
  · replace c4 := B1 c4
    exact absurd (c4) hb
  · replace c4 := B0n c4
    refine ev_aload_n (p' := 8) i_176_7 rfl rfl ?_
    refine ev_v0I (p' := 11) i_176_8 rfl cl_12_119_12 (by decide) is_285 (Nat.le_of_ble_eq_true rfl) (s_mbad _ hw) ?_
    exact ev_iretI i_176_11 rfl (ER.mk rfl (hc.bad h7))
theorem C_opens_no (L d : Nat) (A : AV) (hA : okA A) {oo : Nat} (ho : oo < 13) (h5 : A.1.1.2.2.1 = nI oo) : Cst L (d + 24) 76 [.int (nI oo)] A (.int (-3)) (noA A) := by
  refine C_of (q := q_76) rfl (Nat.le_of_ble_eq_true rfl) rfl (fun π mi ml mr hw hc => ?_)
  have hn := hc.hn
  have h7 := hA.n7
  refine ev_iload_n (p' := 1) i_76_0 rfl rfl ?_
  refine ev_s1I (p' := 4) i_76_1 rfl cl_11_138_0 (by decide) (Nat.le_of_ble_eq_true rfl) (s_isNoOpening _ _) ?_
  refine ev_if_eq (p' := 7) (tg := 12) i_76_4 rfl rfl (fun c4 => ?_) (fun c4 => absurd (B_f (nj (in0 (m := 12) (by omega) (by decide) rfl))) c4)
  refine ev_aload_n (p' := 13) i_76_12 rfl rfl ?_
  refine ev_getr (p' := 16) i_76_13 rfl fl_11_78 rfl is_1 (rf_1_0 hw) ?_
  refine ev_getr (p' := 19) i_76_16 rfl fl_11_97 rfl (is_sp sp_17) (hw.page sp_17) ?_
  refine ev_geti (p' := 22) i_76_19 rfl fl_11_142 rfl (is_pg pg_33) ?_
  refine ev_iload_n (p' := 23) i_76_22 rfl rfl ?_
  refine ev_icmp_ne (p' := 26) (tg := 31) i_76_23 rfl rfl (fun c23 => absurd c23 (fun z => z (hc.pg.2.2.2.1.trans h5))) (fun c23 => ?_)
  refine ev_aload_n (p' := 27) i_76_26 rfl rfl ?_
  refine ev_v0I (p' := 30) i_76_27 rfl cl_11_145_11 (by decide) is_1 (Nat.le_of_ble_eq_true rfl) (s_no _) ?_
  exact ev_iretI i_76_30 rfl (EC.mk rfl hw (hc.no hw))
theorem R_opens_no (L d : Nat) (A : AV) (hA : okA A) {oo : Nat} (ho : oo < 13) (h5 : A.1.1.2.2.1 = nI oo) : Rst L (d + 24) 176 [.int (nI oo)] A (.int (-3)) (noA A) := by
  refine R_of (q := q_176) rfl (Nat.le_of_ble_eq_true rfl) rfl (fun π mi ml mr hw hc => ?_)
  have hn := hc.hn
  have h7 := hA.n7
  refine ev_iload_n (p' := 1) i_176_0 rfl rfl ?_
  refine ev_s1I (p' := 4) i_176_1 rfl cl_12_228_0 (by decide) (Nat.le_of_ble_eq_true rfl) (s_isOpening _ _) ?_
  refine ev_if_ne (p' := 7) (tg := 12) i_176_4 rfl rfl (fun c4 => ?_) (fun c4 => absurd (B_tn (in0 (m := 12) (by omega) (by decide) rfl)) c4)
  refine ev_iload_n (p' := 13) i_176_12 rfl rfl ?_
  refine ev_aload_n (p' := 14) i_176_13 rfl rfl ?_
  refine ev_geti (p' := 17) i_176_14 rfl fl_12_100 rfl is_285 ?_
  refine ev_icmp_ne (p' := 20) (tg := 25) i_176_17 rfl rfl (fun c17 => absurd c17 (fun z => z (hc.1.1.2.1.trans h5).symm)) (fun c17 => ?_)
  refine ev_aload_n (p' := 21) i_176_20 rfl rfl ?_
  refine ev_v0I (p' := 24) i_176_21 rfl cl_12_231_12 (by decide) is_285 (Nat.le_of_ble_eq_true rfl) (s_mno _ hw) ?_
  exact ev_iretI i_176_24 rfl (ER.mk rfl (hc.no h7))
theorem wr1_ok : ∀ w, w < 1000 → ∀ k, k < 6 → ∀ y, y < 13 → ∃ w', w' < 1000 ∧ wr1 (nI w) (brN k) (nI y) = nI w' := by
  intro w hw k hk y hy
  unfold wr1
  by_cases h1 : brN k ≤ nI w
  · rw [if_pos h1]; exact ⟨w, hw, rfl⟩
  · rw [if_neg h1, nI_add]
    by_cases h2 : nI (w + y) < 999
    · rw [if_pos h2]
      exact ⟨w + y, by have := (nI_ltI (a := w + y) (b := 999) (by omega) (by decide)).mp h2; omega, rfl⟩
    · rw [if_neg h2]; exact ⟨999, by decide, rfl⟩
theorem gy3 : ∀ o, o < 13 → ∀ c, c < 13 → ∃ y, y < 13 ∧ iabs (nI o - nI c) = nI y := by decide +kernel
theorem okPV.op {v : PV} {oo : Nat} (h : okPV v) (ho : oo < 13) : okPV (opV v (nI oo)) := by
  refine ⟨h.1, h.2.1, ⟨oo, ho, rfl⟩, fun i hi => ?_⟩
  obtain ⟨⟨k, h1, e1⟩, h2, h3, h4, h5, h6, ⟨w, h8, e8⟩⟩ := h.2.2.2 i hi
  obtain ⟨c, hcc, ec⟩ := h.2.2.1
  have e : ∀ j, j ≠ 6 → (opV v (nI oo)).2.2.2 j i = v.2.2.2 j i := fun j hj => if_neg hj
  unfold okp
  rw [e 0 (by decide), e 1 (by decide), e 2 (by decide), e 3 (by decide), e 4 (by decide), e 5 (by decide)]
  refine ⟨⟨k, h1, e1⟩, h2, h3, h4, h5, h6, ?_⟩
  rw [op_f, if_pos rfl, ec, e8]
  obtain ⟨y, hy, ey⟩ := gy3 oo ho c hcc
  rw [ey, show fx v.2.2.2 7 i = brN k by unfold fx; rw [if_pos rfl, e1, nI_clamp (by omega)]]
  exact wr1_ok w h8 k h1 y hy
theorem C_opens (L d : Nat) (A : AV) (hA : okA A) {oo : Nat} (ho : oo < 13) (h5 : ¬ A.1.1.2.2.1 = nI oo) : Cst L (d + 24) 76 [.int (nI oo)] A (.int (VS (opV (remV A.1).1 (nI oo)) (nI oo) 0)) (((opV (remV A.1).1 (nI oo), (remV A.1).2), A.2)) := by
  refine C_of (q := q_76) rfl (Nat.le_of_ble_eq_true rfl) rfl (fun π mi ml mr hw hc => ?_)
  have hn := hc.hn
  have h7 := hA.n7
  refine ev_iload_n (p' := 1) i_76_0 rfl rfl ?_
  refine ev_s1I (p' := 4) i_76_1 rfl cl_11_138_0 (by decide) (Nat.le_of_ble_eq_true rfl) (s_isNoOpening _ _) ?_
  refine ev_if_eq (p' := 7) (tg := 12) i_76_4 rfl rfl (fun c4 => ?_) (fun c4 => absurd (B_f (nj (in0 (m := 12) (by omega) (by decide) rfl))) c4)
  refine ev_aload_n (p' := 13) i_76_12 rfl rfl ?_
  refine ev_getr (p' := 16) i_76_13 rfl fl_11_78 rfl is_1 (rf_1_0 hw) ?_
  refine ev_getr (p' := 19) i_76_16 rfl fl_11_97 rfl (is_sp sp_17) (hw.page sp_17) ?_
  refine ev_geti (p' := 22) i_76_19 rfl fl_11_142 rfl (is_pg pg_33) ?_
  refine ev_iload_n (p' := 23) i_76_22 rfl rfl ?_
  refine ev_icmp_ne (p' := 26) (tg := 31) i_76_23 rfl rfl (fun c23 => ?_) (fun c23 => absurd (fun z => h5 (hc.pg.2.2.2.1.symm.trans z)) c23)
  refine ev_aload_n (p' := 32) i_76_31 rfl rfl ?_
  refine ev_getr (p' := 35) i_76_32 rfl fl_11_78 rfl is_1 (rf_1_0 hw) ?_
  obtain ⟨π, mi, mr, e1, hw, hc⟩ := c_rem (L := L) (d + 20) hw hc
  refine ev_v0V (p' := 38) i_76_35 rfl cl_11_148_4 (by decide) (is_sp sp_17) (Nat.le_of_ble_eq_true rfl) (e1) ?_
  refine ev_aload_n (p' := 39) i_76_38 rfl rfl ?_
  refine ev_getr (p' := 42) i_76_39 rfl fl_11_78 rfl is_1 (rf_1_0 hw) ?_
  refine ev_getr (p' := 45) i_76_42 rfl fl_11_97 rfl (is_sp sp_17) (hw.page sp_17) ?_
  refine ev_iload_n (p' := 46) i_76_45 rfl rfl ?_
  refine ev_v1V (p' := 49) i_76_46 rfl cl_11_151_2 (by decide) (is_pg pg_33) (Nat.le_of_ble_eq_true rfl) (s_open _ hw pg_33 hc.pg.1 hc.pg.2.1 _) ?_
  have hc : CR π (pm_u (wm mi 33 (iabs (nI oo - mi 33 4)) (remV A.1).1.1) 33 4 (nI oo)) ml ((opV (remV A.1).1 (nI oo), (remV A.1).2), A.2) := hc.page hw hc.pg.op (fun a ha => op_cell hc.pg.1 (by omega))
  refine ev_aload_n (p' := 50) i_76_49 rfl rfl ?_
  refine ev_getr (p' := 53) i_76_50 rfl fl_11_78 rfl is_1 (rf_1_0 hw) ?_
  refine ev_getr (p' := 56) i_76_53 rfl fl_11_97 rfl (is_sp sp_17) (hw.page sp_17) ?_
  refine ev_iload_n (p' := 57) i_76_56 rfl rfl ?_
  refine ev_iconst (p' := 58) (v := 0) i_76_57 rfl (by decide) ?_
  refine ev_v2I (p' := 61) i_76_58 rfl cl_11_154_2 (by decide) (is_pg pg_33) (Nat.le_of_ble_eq_true rfl) (v_vis _ hw pg_33 hc.pg (hA.1.rem.1.op ho) _ _) ?_
  exact ev_iretI i_76_61 rfl (EC.mk rfl hw (hc.hm hw pg_33))
theorem R_opens (L d : Nat) (A : AV) (hA : okA A) {oo : Nat} (ho : oo < 13) (h5 : ¬ A.1.1.2.2.1 = nI oo) : Rst L (d + 24) 176 [.int (nI oo)] A (.int (VS (opV (remV A.1).1 (nI oo)) (nI oo) 0)) (((opV (remV A.1).1 (nI oo), (remV A.1).2), A.2)) := by
  refine R_of (q := q_176) rfl (Nat.le_of_ble_eq_true rfl) rfl (fun π mi ml mr hw hc => ?_)
  have hn := hc.hn
  have h7 := hA.n7
  refine ev_iload_n (p' := 1) i_176_0 rfl rfl ?_
  refine ev_s1I (p' := 4) i_176_1 rfl cl_12_228_0 (by decide) (Nat.le_of_ble_eq_true rfl) (s_isOpening _ _) ?_
  refine ev_if_ne (p' := 7) (tg := 12) i_176_4 rfl rfl (fun c4 => ?_) (fun c4 => absurd (B_tn (in0 (m := 12) (by omega) (by decide) rfl)) c4)
  refine ev_iload_n (p' := 13) i_176_12 rfl rfl ?_
  refine ev_aload_n (p' := 14) i_176_13 rfl rfl ?_
  refine ev_geti (p' := 17) i_176_14 rfl fl_12_100 rfl is_285 ?_
  refine ev_icmp_ne (p' := 20) (tg := 25) i_176_17 rfl rfl (fun c17 => ?_) (fun c17 => absurd (fun z => h5 (hc.1.1.2.1.symm.trans z.symm)) c17)
  refine ev_aload_n (p' := 26) i_176_25 rfl rfl ?_
  obtain ⟨mi, e1, hc⟩ := s_notes (L := L) (d + 21) hw hc hA
  refine ev_v0V (p' := 29) i_176_26 rfl cl_12_234_12 (by decide) is_285 (Nat.le_of_ble_eq_true rfl) (e1) ?_
  refine ev_aload_n (p' := 30) i_176_29 rfl rfl ?_
  refine ev_iload_n (p' := 31) i_176_30 rfl rfl ?_
  obtain ⟨mi2, e2, hP, he, hj⟩ := s_goes (L := L) (ml := ml) (d + 20) hw hc.1.1 hA.1.rem.1 ho
  have hA2 : okA ((opV (remV A.1).1 (nI oo), (remV A.1).2), A.2) := ⟨⟨hA.1.rem.1.op ho, hA.1.rem.2⟩, hA.2⟩
  refine ev_v1V (p' := 34) i_176_31 rfl cl_12_167_12 (by decide) is_285 (Nat.le_of_ble_eq_true rfl) (e2) ?_
  have hc := hc.page hP (fun a h1 h2 => he a h1 (by omega)) (fun j h1 h2 h3 => hj j h2)
  refine ev_aload_n (p' := 35) i_176_34 rfl rfl ?_
  refine ev_aload_n (p' := 36) i_176_35 rfl rfl ?_
  refine ev_geti (p' := 39) i_176_36 rfl fl_12_100 rfl is_285 ?_
  rw [show mi2 285 2 = nI oo from hP.2.1]
  refine ev_v1I (p' := 42) i_176_39 rfl cl_12_237_12 (by decide) is_285 (Nat.le_of_ble_eq_true rfl) (v_mSeen _ hw hc hA2 ho) ?_
  exact ev_iretI i_176_42 rfl (ER.mk rfl (hc.hr hA2.n7))
theorem Q_opens (L : Nat) (A : AV) (hA : okA A) (x : Int32) : SameI L 76 176 [.int x] A := by
  by_cases h : 0 ≤ x ∧ x ≤ 12
  · obtain ⟨oo, ho, rfl⟩ := of0 (m := 12) h rfl
    have ho : oo < 13 := by omega
    by_cases h5 : A.1.1.2.2.1 = nI oo
    · exact ⟨_, noA A, hA.no, fun d => C_opens_no L d A hA ho h5, fun d => R_opens_no L d A hA ho h5⟩
    · exact ⟨_, ((opV (remV A.1).1 (nI oo), (remV A.1).2), A.2), ⟨⟨hA.1.rem.1.op ho, hA.1.rem.2⟩, hA.2⟩, fun d => C_opens L d A hA ho h5, fun d => R_opens L d A hA ho h5⟩
  · exact ⟨_, badA A, hA.bad, fun d => C_opens_bad L d A hA x h, fun d => R_opens_bad L d A hA x h⟩
