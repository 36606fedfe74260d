/-! ===== read ===== -/
theorem CR.af {π : Nat → Nat → Nat} {mi mi' : Nat → Nat → Int32} {ml : Nat → Nat → Int64} {mr : Nat → Nat → Option Nat} {A : AV} (hw : WR π mr) (h : CR π mi ml A) (he : AF mi mi') (h1 : mi' 4 1 = mi 4 1) : CR π mi' ml A := by
  obtain ⟨a1, a2, a3, a4, a5⟩ := h
  refine ⟨a1.cong hw sp_17 (fun a h1 h2 => he a (by omega) (by omega)), fun i hi => ⟨by rw [he 3 (by decide) (by omega)]; exact (a2 i hi).1, fun hk => ((a2 i hi).2 hk).cong hw (sp_img hi) (fun a h1 h2 => he a (by omega) (by omega))⟩, ⟨a3.1, by rw [h1]; exact a3.2.1, fun i hi => by rw [he 5 (by decide) (by omega)]; exact a3.2.2 i hi⟩, a4, by rw [he 1 (by decide) (by omega)]; exact a5⟩
theorem CR.tb {π : Nat → Nat → Nat} {mi : Nat → Nat → Int32} {ml : Nat → Nat → Int64} {A : AV} (h : CR π mi ml A) (hA : okA A) : TB mi A.2.2.1.2 A.2.2.1.1 := ⟨h.2.2.1.1, h.2.2.1.2.1, h.2.2.1.2.2, hA.2.2.2⟩
theorem RR.mt {mi : Nat → Nat → Int32} {ml : Nat → Nat → Int64} {A : AV} (h : RR mi ml A) (hA : okA A) : MT mi A.2.2.1.2 A.2.2.1.1 := ⟨hA.2.2.1, h.2.2.1.1, h.2.2.1.2⟩
theorem m10 : ∀ p, p < 151 → (-10 : Int32) - nI p < 0 := by decide +kernel
theorem nw6_ne {mi : Nat → Nat → Int32} {w : Int32} {a : Nat} (h : a ≠ 33) (h2 : a ≠ 17) : nw6 mi w a = mi a := by
  unfold nw6
  rw [pm_u_ne h2, pm_u_ne h2, pm_u_ne h2, pm_u_ne h, pm_u_ne h, pm_u_ne h]
noncomputable def rdA (A : AV) : AV := (((BOOK A.2.2.1.2 A.2.2.1.1).2.1, (0, A.1.2.1.2), (0, A.1.2.2.1.2), (0, A.1.2.2.2.2)), A.2)
theorem okA.rd {A : AV} (h : okA A) (hb : (BOOK A.2.2.1.2 A.2.2.1.1).1.1 = true) : okA (rdA A) := ⟨⟨BOOK_ok.2.2 hb, ⟨Nat.zero_le _, fun i hi => absurd hi (Nat.not_lt_zero i)⟩, ⟨Nat.zero_le _, fun i hi => absurd hi (Nat.not_lt_zero i)⟩, Nat.zero_le _, fun i hi => absurd hi (Nat.not_lt_zero i)⟩, h.2⟩
theorem C_read_t (L d : Nat) (A : AV) (hA : okA A) (hb : (BOOK A.2.2.1.2 A.2.2.1.1).1.1 = true) : Cst L (d + 24) 75 [] A (.int (RES (BOOK A.2.2.1.2 A.2.2.1.1))) (rdA A) := by
  refine C_of (q := q_75) rfl (Nat.le_of_ble_eq_true rfl) rfl (fun π mi ml mr hw hc => ?_)
  have hn := hc.hn
  have h7 := hA.n7
  have h150 : A.2.2.1.1 ≤ 150 := hA.2.2.1
  have hbk := @BOOK_ok A.2.2.1.2 A.2.2.1.1
  refine ev_aload_n (p' := 1) i_75_0 rfl rfl ?_
  refine ev_getr (p' := 4) i_75_1 rfl fl_11_22 rfl is_1 (rf_1_3 hw) ?_
  refine ev_aload_n (p' := 5) i_75_4 rfl rfl ?_
  refine ev_getr (p' := 8) i_75_5 rfl fl_11_85 rfl is_1 (rf_1_4 hw) ?_
  obtain ⟨mi1, e1, hB1, hS1, hP1, hA1⟩ := s_tellTo (L := L) (ml := ml) (d + 13) hw (hc.tb hA)
  have hc1 : CR π mi1 ml A := hc.af hw hA1 (hB1.2.1.trans (hc.tb hA).2.1.symm)
  refine ev_v1I (p' := 11) i_75_8 rfl cl_11_127_7 (by decide) is_4 (Nat.le_of_ble_eq_true rfl) (e1) ?_
  refine ev_istore_n (p' := 12) (ls' := [_, _]) i_75_11 rfl rfl (by decide) rfl ?_
  refine ev_iload_n (p' := 13) i_75_12 rfl rfl ?_
  refine ev_if_lt (p' := 16) (tg := 44) i_75_13 rfl rfl (fun c13 => absurd c13 (by rw [show RES (BOOK A.2.2.1.2 A.2.2.1.1) = nI (BOOK A.2.2.1.2 A.2.2.1.1).2.2 from if_pos hb]; exact nI_pos (by omega))) (fun c13 => ?_)
  refine ev_aload_n (p' := 17) i_75_16 rfl rfl ?_
  refine ev_getr (p' := 20) i_75_17 rfl fl_11_78 rfl is_1 (rf_1_0 hw) ?_
  refine ev_aload_n (p' := 21) i_75_20 rfl rfl ?_
  refine ev_getr (p' := 24) i_75_21 rfl fl_11_85 rfl is_1 (rf_1_4 hw) ?_
  have hp2 : CPg (nw6 mi1 (mi1 275 3)) 275 (BOOK A.2.2.1.2 A.2.2.1.1).2.1 := (hP1 hb).fr (nw6_ne (by decide) (by decide)) (fun i _ => nw6_ne (by omega) (by omega))
  refine ev_geti (p' := 27) i_75_24 rfl fl_11_131 rfl (is_pg pg_275) ?_
  refine ev_v1V (p' := 30) i_75_27 rfl cl_11_103_4 (by decide) (is_sp sp_17) (Nat.le_of_ble_eq_true rfl) (s_spNew _ hw sp_17 _) ?_
  refine ev_aload_n (p' := 31) i_75_30 rfl rfl ?_
  refine ev_getr (p' := 34) i_75_31 rfl fl_11_78 rfl is_1 (rf_1_0 hw) ?_
  refine ev_getr (p' := 37) i_75_34 rfl fl_11_97 rfl (is_sp sp_17) (hw.page sp_17) ?_
  refine ev_aload_n (p' := 38) i_75_37 rfl rfl ?_
  refine ev_getr (p' := 41) i_75_38 rfl fl_11_85 rfl is_1 (rf_1_4 hw) ?_
  refine ev_v1V (p' := 44) i_75_41 rfl cl_11_134_2 (by decide) (is_pg pg_33) (Nat.le_of_ble_eq_true rfl) (s_pgc _ hw pg_33 pg_275 (by decide) hp2.1 hp2.2.1) ?_
  refine ev_iload_n (p' := 45) i_75_44 rfl rfl ?_
  exact ev_iretI i_75_45 rfl (EC.mk rfl hw ((hc1.new hw (w := mi1 275 3)).page hw hp2.copied (fun a ha => cg_fr hp2.1 (by omega))))
theorem C_read_f (L d : Nat) (A : AV) (hA : okA A) (hb : ¬ (BOOK A.2.2.1.2 A.2.2.1.1).1.1 = true) : Cst L (d + 24) 75 [] A (.int (RES (BOOK A.2.2.1.2 A.2.2.1.1))) (A) := by
  refine C_of (q := q_75) rfl (Nat.le_of_ble_eq_true rfl) rfl (fun π mi ml mr hw hc => ?_)
  have hn := hc.hn
  have h7 := hA.n7
  have h150 : A.2.2.1.1 ≤ 150 := hA.2.2.1
  have hbk := @BOOK_ok A.2.2.1.2 A.2.2.1.1
  refine ev_aload_n (p' := 1) i_75_0 rfl rfl ?_
  refine ev_getr (p' := 4) i_75_1 rfl fl_11_22 rfl is_1 (rf_1_3 hw) ?_
  refine ev_aload_n (p' := 5) i_75_4 rfl rfl ?_
  refine ev_getr (p' := 8) i_75_5 rfl fl_11_85 rfl is_1 (rf_1_4 hw) ?_
  obtain ⟨mi1, e1, hB1, hS1, hP1, hA1⟩ := s_tellTo (L := L) (ml := ml) (d + 13) hw (hc.tb hA)
  have hc1 : CR π mi1 ml A := hc.af hw hA1 (hB1.2.1.trans (hc.tb hA).2.1.symm)
  refine ev_v1I (p' := 11) i_75_8 rfl cl_11_127_7 (by decide) is_4 (Nat.le_of_ble_eq_true rfl) (e1) ?_
  refine ev_istore_n (p' := 12) (ls' := [_, _]) i_75_11 rfl rfl (by decide) rfl ?_
  refine ev_iload_n (p' := 13) i_75_12 rfl rfl ?_
  refine ev_if_lt (p' := 16) (tg := 44) i_75_13 rfl rfl (fun c13 => ?_) (fun c13 => absurd (by rw [show RES (BOOK A.2.2.1.2 A.2.2.1.1) = -10 - nI (BOOK A.2.2.1.2 A.2.2.1.1).1.2 from if_neg hb]; exact m10 _ (by omega)) c13)
  refine ev_iload_n (p' := 45) i_75_44 rfl rfl ?_
  exact ev_iretI i_75_45 rfl (EC.mk rfl hw hc1)
theorem R_read_t (L d : Nat) (A : AV) (hA : okA A) (hb : (BOOK A.2.2.1.2 A.2.2.1.1).1.1 = true) : Rst L (d + 24) 164 [] A (.int (RES (BOOK A.2.2.1.2 A.2.2.1.1))) (rdA A) := by
  refine R_of (q := q_164) rfl (Nat.le_of_ble_eq_true rfl) rfl (fun π mi ml mr hw hc => ?_)
  have hn := hc.hn
  have h7 := hA.n7
  have h150 : A.2.2.1.1 ≤ 150 := hA.2.2.1
  have hbk := @BOOK_ok A.2.2.1.2 A.2.2.1.1
  refine ev_aload_n (p' := 1) i_164_0 rfl rfl ?_
  refine ev_aload_n (p' := 2) i_164_1 rfl rfl ?_
  refine ev_getr (p' := 5) i_164_2 rfl fl_12_49 rfl is_285 (rf_285_21 hw) ?_
  refine ev_iconst (p' := 6) (v := nI 0) i_164_5 rfl (by decide) ?_
  obtain ⟨mi1, e1, h1, h2, h3⟩ := s_layAll (L := L) (mi := mi) (ml := ml) (d + 21) hw (R := 299) (b := 0) (by decide) (by decide) (gr (by decide)) (fun _ => is_299) len_299 (by decide) (by decide) (v := A.1) hc.1 hA.1
  refine ev_v2V (p' := 9) i_164_6 rfl cl_12_189_12 (by decide) is_285 (Nat.le_of_ble_eq_true rfl) (e1) ?_
  refine ev_aload_n (p' := 10) i_164_9 rfl rfl ?_
  have hM1 : MT mi1 A.2.2.1.2 A.2.2.1.1 := (hc.mt hA).fr (by rw [h1 285 (by decide)]) (h1 297 (by decide))
  obtain ⟨mi2, e2, j2, p2, q2⟩ := s_mBook (L := L) (ml := ml) (d + 17) hw hM1
  refine ev_v0I (p' := 13) i_164_10 rfl cl_12_193_12 (by decide) is_285 (Nat.le_of_ble_eq_true rfl) (e2) ?_
  rw [show (if (BOOK A.2.2.1.2 A.2.2.1.1).1.1 = true then nI (BOOK A.2.2.1.2 A.2.2.1.1).2.2 else -1) = nI (BOOK A.2.2.1.2 A.2.2.1.1).2.2 from if_pos hb]
  obtain ⟨y1, y2, y3⟩ := p2 hb
  refine ev_istore_n (p' := 14) (ls' := [_, _]) i_164_13 rfl rfl (by decide) rfl ?_
  refine ev_iload_n (p' := 15) i_164_14 rfl rfl ?_
  refine ev_if_ge (p' := 18) (tg := 35) i_164_15 rfl rfl (fun c15 => ?_) (fun c15 => absurd (nI_pos' (by omega)) c15)
  refine ev_aload_n (p' := 36) i_164_35 rfl rfl ?_
  refine ev_iconst (p' := 37) (v := 0) i_164_36 rfl (by decide) ?_
  refine ev_puti (p' := 40) i_164_37 rfl fl_12_112 rfl is_285 (gr (by decide)) rfl ?_
  refine ev_iload_n (p' := 41) i_164_40 rfl rfl ?_
  exact ev_iretI i_164_41 rfl (ER.mk (by rw [show RES (BOOK A.2.2.1.2 A.2.2.1.1) = nI (BOOK A.2.2.1.2 A.2.2.1.1).2.2 from if_pos hb]) (hc.up (v := (rdA A).1) ⟨y1.cong (pm_u_oth (by decide)) (pm_u_oth (by decide)) (pm_u_oth (by decide)) (fun a z1 z2 => pm_u_ne (by omega)), ⟨pm_u_self, fun i hi => absurd hi (Nat.not_lt_zero i)⟩, ⟨by rw [pm_u_oth (by decide)]; exact y2, fun i hi => absurd hi (Nat.not_lt_zero i)⟩, by rw [pm_u_oth (by decide)]; exact y3, fun i hi => absurd hi (Nat.not_lt_zero i)⟩ (fun a ha => by rw [pm_u_ne (by omega), j2.1 a (by omega) (by omega) (by omega), h1 a (by omega)]) (by rw [pm_u_oth (by decide), j2.2.1, h1 285 (by decide)]) (by rw [pm_u_oth (by decide), j2.2.2, h1 285 (by decide)])))
theorem R_read_f (L d : Nat) (A : AV) (hA : okA A) (hb : ¬ (BOOK A.2.2.1.2 A.2.2.1.1).1.1 = true) : Rst L (d + 24) 164 [] A (.int (RES (BOOK A.2.2.1.2 A.2.2.1.1))) (A) := by
  refine R_of (q := q_164) rfl (Nat.le_of_ble_eq_true rfl) rfl (fun π mi ml mr hw hc => ?_)
  have hn := hc.hn
  have h7 := hA.n7
  have h150 : A.2.2.1.1 ≤ 150 := hA.2.2.1
  have hbk := @BOOK_ok A.2.2.1.2 A.2.2.1.1
  refine ev_aload_n (p' := 1) i_164_0 rfl rfl ?_
  refine ev_aload_n (p' := 2) i_164_1 rfl rfl ?_
  refine ev_getr (p' := 5) i_164_2 rfl fl_12_49 rfl is_285 (rf_285_21 hw) ?_
  refine ev_iconst (p' := 6) (v := nI 0) i_164_5 rfl (by decide) ?_
  obtain ⟨mi1, e1, h1, h2, h3⟩ := s_layAll (L := L) (mi := mi) (ml := ml) (d + 21) hw (R := 299) (b := 0) (by decide) (by decide) (gr (by decide)) (fun _ => is_299) len_299 (by decide) (by decide) (v := A.1) hc.1 hA.1
  refine ev_v2V (p' := 9) i_164_6 rfl cl_12_189_12 (by decide) is_285 (Nat.le_of_ble_eq_true rfl) (e1) ?_
  refine ev_aload_n (p' := 10) i_164_9 rfl rfl ?_
  have hM1 : MT mi1 A.2.2.1.2 A.2.2.1.1 := (hc.mt hA).fr (by rw [h1 285 (by decide)]) (h1 297 (by decide))
  obtain ⟨mi2, e2, j2, p2, q2⟩ := s_mBook (L := L) (ml := ml) (d + 17) hw hM1
  refine ev_v0I (p' := 13) i_164_10 rfl cl_12_193_12 (by decide) is_285 (Nat.le_of_ble_eq_true rfl) (e2) ?_
  rw [show (if (BOOK A.2.2.1.2 A.2.2.1.1).1.1 = true then nI (BOOK A.2.2.1.2 A.2.2.1.1).2.2 else -1) = -1 from if_neg hb]
  refine ev_istore_n (p' := 14) (ls' := [_, _]) i_164_13 rfl rfl (by decide) rfl ?_
  refine ev_iload_n (p' := 15) i_164_14 rfl rfl ?_
  refine ev_if_ge (p' := 18) (tg := 35) i_164_15 rfl rfl (fun c15 => absurd c15 (by decide)) (fun c15 => ?_)
  refine ev_aload_n (p' := 19) i_164_18 rfl rfl ?_
  refine ev_aload_n (p' := 20) i_164_19 rfl rfl ?_
  refine ev_getr (p' := 23) i_164_20 rfl fl_12_49 rfl is_285 (rf_285_21 hw) ?_
  refine ev_iconst (p' := 24) (v := nI 0) i_164_23 rfl (by decide) ?_
  obtain ⟨mi3, e3, s3, f3, g3⟩ := s_takeAll (L := L) (mi := mi2) (ml := ml) (d + 21) hw (R := 299) (b := 0) (by decide) (by decide) (gr (by decide)) (fun _ => is_299) len_299 (by decide) (by decide) (v := A.1) (h3.cong (j2.1 299 (by decide) (by decide) (by decide))) hA.1
  refine ev_v2V (p' := 27) i_164_24 rfl cl_12_196_12 (by decide) is_285 (Nat.le_of_ble_eq_true rfl) (e3) ?_
  refine ev_bipush (p' := 29) (v := -10) i_164_27 rfl (by decide) ?_
  refine ev_aload_n (p' := 30) i_164_29 rfl rfl ?_
  refine ev_geti (p' := 33) i_164_30 rfl fl_12_133 rfl is_285 ?_
  rw [g3 18 (by decide) (by decide) (by decide) (by decide) (by decide) (by decide), q2 hb]
  refine ev_isub (p' := 34) i_164_33 rfl ?_
  exact ev_iretI i_164_34 rfl (ER.mk (by rw [show RES (BOOK A.2.2.1.2 A.2.2.1.1) = -10 - nI (BOOK A.2.2.1.2 A.2.2.1.1).1.2 from if_neg hb]) (hc.up (v := A.1) s3 (fun a ha => by rw [f3 a (by omega) (by omega) (by omega), j2.1 a (by omega) (by omega) (by omega), h1 a (by omega)]) (by rw [g3 17 (by decide) (by decide) (by decide) (by decide) (by decide) (by decide), j2.2.1, h1 285 (by decide)]) (by rw [g3 22 (by decide) (by decide) (by decide) (by decide) (by decide) (by decide), j2.2.2, h1 285 (by decide)])))
theorem Q_read (L : Nat) (A : AV) (hA : okA A) : SameI L 75 164 [] A := by
  by_cases hb : (BOOK A.2.2.1.2 A.2.2.1.1).1.1 = true
  · exact ⟨_, rdA A, hA.rd hb, fun d => C_read_t L d A hA hb, fun d => R_read_t L d A hA hb⟩
  · exact ⟨_, A, hA, fun d => C_read_f L d A hA hb, fun d => R_read_f L d A hA hb⟩
