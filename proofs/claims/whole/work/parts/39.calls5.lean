/-! ===== type, piece ===== -/
def typeA (A : AV) (c : Int32) : AV := (A.1, A.2.1, (A.2.2.1.1 + 1, fun i => if i = A.2.2.1.1 then c else A.2.2.1.2 i), A.2.2.2)
theorem CR.type {π : Nat → Nat → Nat} {mi : Nat → Nat → Int32} {ml : Nat → Nat → Int64} {mr : Nat → Nat → Option Nat} {A : AV} {m : Nat} {c : Int32} (hw : WR π mr) (h : CR π mi ml A) (hm : A.2.2.1.1 = m) (h6 : m < 150) : CR π (pm_u (pm_u mi 5 m c) 4 1 (nI (m + 1))) ml (typeA A c) := by
  subst hm
  obtain ⟨a1, a2, a3, a4, a5⟩ := h
  have he : ∀ a, a ≠ 4 → a ≠ 5 → pm_u (pm_u mi 5 A.2.2.1.1 c) 4 1 (nI (A.2.2.1.1 + 1)) a = mi a := fun a h1 h2 => by rw [pm_u_ne h1, pm_u_ne h2]
  refine ⟨a1.cong hw sp_17 (fun a _ _ => he a (by omega) (by omega)), fun i hi => ⟨by rw [he 3 (by decide) (by decide)]; exact (a2 i hi).1, fun hk => ((a2 i hi).2 hk).cong hw (sp_img hi) (fun a _ _ => he a (by omega) (by omega))⟩, ⟨h6, pm_u_self, fun i hi => ?_⟩, a4, by rw [he 1 (by decide) (by decide)]; exact a5⟩
  rw [pm_u_ne (by decide)]
  show _ = if i = A.2.2.1.1 then c else A.2.2.1.2 i
  by_cases hh : i = A.2.2.1.1
  · rw [if_pos hh, hh]; exact pm_u_self
  · rw [if_neg hh, pm_u_oth hh]
    have hi' : i < A.2.2.1.1 + 1 := hi
    exact a3.2.2 i (by omega)
theorem RS0.cong2 {mi mi' : Nat → Nat → Int32} {v : SV} (h : RS0 mi v) (he : ∀ a, a = 285 ∨ (287 ≤ a ∧ a ≤ 296) ∨ a = 301 → mi' a = mi a) (hv : v.1.1 ≤ 7) : RS0 mi' v := by
  obtain ⟨⟨b1, b2, b3, b4⟩, ⟨a1, a2⟩, ⟨a3, a4⟩, a5, a6⟩ := h
  have e := he 285 (by omega)
  refine ⟨⟨by rw [e]; exact b1, by rw [e]; exact b2, by rw [e]; exact b3, fun i hi j hj => by rw [he (287 + j) (by omega)]; exact b4 i hi j hj⟩, ⟨by rw [e]; exact a1, fun k hk => (a2 k hk).cong (he 301 (by omega))⟩, ⟨by rw [e]; exact a3, fun i hi j hj => by rw [he 294 (by omega)]; exact a4 i hi j hj⟩, by rw [e]; exact a5, fun i hi => by rw [he 295 (by omega), he 296 (by omega)]; exact a6 i hi⟩
theorem RR.type {mi : Nat → Nat → Int32} {ml : Nat → Nat → Int64} {A : AV} {m : Nat} {c : Int32} (h : RR mi ml A) (h7 : A.1.1.1 ≤ 7) (hm : A.2.2.1.1 = m) : RR (pm_u (pm_u mi 297 m c) 285 17 (nI (m + 1))) ml (typeA A c) := by
  subst hm
  obtain ⟨a1, a2, a3, a4, a5, a6⟩ := h
  have he : ∀ a, a ≠ 285 → a ≠ 297 → pm_u (pm_u mi 297 A.2.2.1.1 c) 285 17 (nI (A.2.2.1.1 + 1)) a = mi a := fun a h1 h2 => by rw [pm_u_ne h1, pm_u_ne h2]
  refine ⟨(a1.cong2 (mi' := pm_u mi 297 A.2.2.1.1 c) (fun a h1 => pm_u_ne (by omega)) h7).u285 (by decide), fun i hi => ⟨by rw [he 311 (by decide) (by decide)]; exact (a2 i hi).1, fun hk => ((a2 i hi).2 hk).cong (he 310 (by decide) (by decide))⟩, ⟨pm_u_self, fun i hi => ?_⟩, a4, by rw [he 286 (by decide) (by decide)]; exact a5, by rw [pm_u_oth (by decide), pm_u_ne (by decide)]; exact a6⟩
  rw [pm_u_ne (by decide)]
  show _ = if i = A.2.2.1.1 then c else A.2.2.1.2 i
  by_cases hh : i = A.2.2.1.1
  · rw [if_pos hh, hh]; exact pm_u_self
  · rw [if_neg hh, pm_u_oth hh]
    have hi' : i < A.2.2.1.1 + 1 := hi
    exact a3.2 i (by omega)
theorem byte_id : ∀ c, c < 128 → vp_nar .byte ((nI c).toInt8.toInt32) = nI c := by decide +kernel
theorem s_append {L : Nat} {π : Nat → Nat → Nat} {mi : Nat → Nat → Int32} {ml : Nat → Nat → Int64} {mr : Nat → Nat → Option Nat} (d : Nat) (hw : WR π mr) {c m : Nat} (hc : c < 128) (hm : mi 4 1 = nI m) (hm5 : m < 150) : pm_ev gC (d + 1) 45 [.ref 4, .int (nI c)] (WW L, mi, ml, mr) none (WW L, pm_u (pm_u mi 5 m (nI c)) 4 1 (nI (m + 1)), ml, mr) := by
  refine ev_enter (q := q_45) rfl (Nat.le_of_ble_eq_true rfl) rfl ?_
  refine ev_aload_n (p' := 1) i_45_0 rfl rfl ?_
  refine ev_geti (p' := 4) i_45_1 rfl fl_7_15 rfl is_4 ?_
  refine ev_sipush (p' := 7) (v := 150) i_45_4 rfl (by decide) ?_
  refine ev_icmp_ge (p' := 10) (tg := 31) i_45_7 rfl rfl (fun c7 => absurd c7 (by rw [hm]; exact nI_ge (b := 150) hm5 (by decide))) (fun c7 => ?_)
  refine ev_aload_n (p' := 11) i_45_10 rfl rfl ?_
  refine ev_getr (p' := 14) i_45_11 rfl fl_7_9 rfl is_4 (rf_4_0 hw) ?_
  refine ev_aload_n (p' := 15) i_45_14 rfl rfl ?_
  refine ev_geti (p' := 18) i_45_15 rfl fl_7_15 rfl is_4 ?_
  rw [hm]
  refine ev_iload_n (p' := 19) i_45_18 rfl rfl ?_
  refine ev_i2b (p' := 20) i_45_19 rfl ?_
  have hin : vp_in (nI m) (SH L 5).2 := by rw [len_5]; exact nI_in hm5 (by decide)
  refine ev_bast (p' := 21) i_45_20 rfl hin is_5 (gc (by decide)) ?_
  rw [byte_id c hc, nI_clamp (by omega)]
  refine ev_aload_n (p' := 22) i_45_21 rfl rfl ?_
  refine ev_dup (p' := 23) i_45_22 rfl rfl ?_
  refine ev_geti (p' := 26) i_45_23 rfl fl_7_15 rfl is_4 ?_
  refine ev_iconst (p' := 27) (v := 1) i_45_26 rfl (by decide) ?_
  refine ev_iadd (p' := 28) i_45_27 rfl ?_
  rw [pm_u_ne (by decide), hm, nI_1]
  refine ev_puti (p' := 31) i_45_28 rfl fl_7_15 rfl is_4 (gc (by decide)) rfl ?_
  exact ev_ret i_45_31 rfl ⟨rfl, rfl⟩
theorem C_type_bad (L d : Nat) (A : AV) (hA : okA A) (x : Int32) (hb : ¬ (0 ≤ x ∧ x ≤ 127)) : Cst L (d + 24) 73 [.int x] A (.int (-2)) (badA A) := by
  refine C_of (q := q_73) rfl (Nat.le_of_ble_eq_true rfl) rfl (fun π mi ml mr hw hc => ?_)
  have hn := hc.hn
  have h7 := hA.n7
  refine ev_iload_n (p' := 1) i_73_0 rfl rfl ?_
  refine ev_iconst (p' := 2) (v := 0) i_73_1 rfl (by decide) ?_
  refine ev_bipush (p' := 4) (v := 127) i_73_2 rfl (by decide) ?_
  refine ev_s3I (p' := 7) i_73_4 rfl cl_11_89_0 (by decide) (Nat.le_of_ble_eq_true rfl) (s_outside _ _ _ _) ?_
  refine ev_if_eq (p' := 10) (tg := 15) i_73_7 rfl rfl (fun c7 => ?_) (fun c7 => ?_)
  · replace c7 := B0 c7
    exact absurd (ni c7) hb
  · replace c7 := B1 c7
    refine ev_aload_n (p' := 11) i_73_10 rfl rfl ?_
    refine ev_v0I (p' := 14) i_73_11 rfl cl_11_93_11 (by decide) is_1 (Nat.le_of_ble_eq_true rfl) (s_bad _) ?_
    exact ev_iretI i_73_14 rfl (EC.mk rfl hw (hc.bad hw))
theorem R_type_bad (L d : Nat) (A : AV) (hA : okA A) (x : Int32) (hb : ¬ (0 ≤ x ∧ x ≤ 127)) : Rst L (d + 24) 147 [.int x] A (.int (-2)) (badA A) := by
  refine R_of (q := q_147) rfl (Nat.le_of_ble_eq_true rfl) rfl (fun π mi ml mr hw hc => ?_)
  have hn := hc.hn
  have h7 := hA.n7
  refine ev_iload_n (p' := 1) i_147_0 rfl rfl ?_
  refine ev_iconst (p' := 2) (v := 0) i_147_1 rfl (by decide) ?_
  refine ev_bipush (p' := 4) (v := 127) i_147_2 rfl (by decide) ?_
  refine ev_s3I (p' := 7) i_147_4 rfl cl_12_115_0 (by decide) (Nat.le_of_ble_eq_true rfl) (s_in _ _ _ _) ?_
  refine ev_if_ne (p' := 10) (tg := 15) i_147_7 rfl rfl (fun c7 => ?_) (fun c7 => ?_)
  · replace c7 := B1 c7
    exact absurd (c7) hb
  · replace c7 := B0n c7
    refine ev_aload_n (p' := 11) i_147_10 rfl rfl ?_
    refine ev_v0I (p' := 14) i_147_11 rfl cl_12_119_12 (by decide) is_285 (Nat.le_of_ble_eq_true rfl) (s_mbad _ hw) ?_
    exact ev_iretI i_147_14 rfl (ER.mk rfl (hc.bad h7))
theorem C_type_full (L d : Nat) (A : AV) (hA : okA A) {c m : Nat} (hcc : c < 128) (hm : A.2.2.1.1 = m) (h6 : m = 150) : Cst L (d + 24) 73 [.int (nI c)] A (.int (-4)) (fullA A) := by
  refine C_of (q := q_73) rfl (Nat.le_of_ble_eq_true rfl) rfl (fun π mi ml mr hw hc => ?_)
  have hn := hc.hn
  have h7 := hA.n7
  have hm5 : mi 4 1 = nI m := hm ▸ hc.2.2.1.2.1
  refine ev_iload_n (p' := 1) i_73_0 rfl rfl ?_
  refine ev_iconst (p' := 2) (v := 0) i_73_1 rfl (by decide) ?_
  refine ev_bipush (p' := 4) (v := 127) i_73_2 rfl (by decide) ?_
  refine ev_s3I (p' := 7) i_73_4 rfl cl_11_89_0 (by decide) (Nat.le_of_ble_eq_true rfl) (s_outside _ _ _ _) ?_
  refine ev_if_eq (p' := 10) (tg := 15) i_73_7 rfl rfl (fun c7 => ?_) (fun c7 => absurd (B_f (nj (in0 (m := 127) (by omega) (by decide) rfl))) c7)
  refine ev_aload_n (p' := 16) i_73_15 rfl rfl ?_
  refine ev_getr (p' := 19) i_73_16 rfl fl_11_22 rfl is_1 (rf_1_3 hw) ?_
  refine ev_geti (p' := 22) i_73_19 rfl fl_11_121 rfl is_4 ?_
  refine ev_sipush (p' := 25) (v := 150) i_73_22 rfl (by decide) ?_
  refine ev_icmp_lt (p' := 28) (tg := 33) i_73_25 rfl rfl (fun c25 => absurd c25 (by rw [hm5, h6]; decide)) (fun c25 => ?_)
  refine ev_aload_n (p' := 29) i_73_28 rfl rfl ?_
  refine ev_v0I (p' := 32) i_73_29 rfl cl_11_111_11 (by decide) is_1 (Nat.le_of_ble_eq_true rfl) (s_full _) ?_
  exact ev_iretI i_73_32 rfl (EC.mk rfl hw (hc.full hw))
theorem R_type_full (L d : Nat) (A : AV) (hA : okA A) {c m : Nat} (hcc : c < 128) (hm : A.2.2.1.1 = m) (h6 : m = 150) : Rst L (d + 24) 147 [.int (nI c)] A (.int (-4)) (fullA A) := by
  refine R_of (q := q_147) rfl (Nat.le_of_ble_eq_true rfl) rfl (fun π mi ml mr hw hc => ?_)
  have hn := hc.hn
  have h7 := hA.n7
  have hm5 : mi 285 17 = nI m := hm ▸ hc.2.2.1.1
  refine ev_iload_n (p' := 1) i_147_0 rfl rfl ?_
  refine ev_iconst (p' := 2) (v := 0) i_147_1 rfl (by decide) ?_
  refine ev_bipush (p' := 4) (v := 127) i_147_2 rfl (by decide) ?_
  refine ev_s3I (p' := 7) i_147_4 rfl cl_12_115_0 (by decide) (Nat.le_of_ble_eq_true rfl) (s_in _ _ _ _) ?_
  refine ev_if_ne (p' := 10) (tg := 15) i_147_7 rfl rfl (fun c7 => ?_) (fun c7 => absurd (B_tn (in0 (m := 127) (by omega) (by decide) rfl)) c7)
  refine ev_aload_n (p' := 16) i_147_15 rfl rfl ?_
  refine ev_geti (p' := 19) i_147_16 rfl fl_12_130 rfl is_285 ?_
  refine ev_sipush (p' := 22) (v := 150) i_147_19 rfl (by decide) ?_
  refine ev_icmp_ne (p' := 25) (tg := 30) i_147_22 rfl rfl (fun c22 => absurd c22 (by rw [hm5, h6]; decide)) (fun c22 => ?_)
  refine ev_aload_n (p' := 26) i_147_25 rfl rfl ?_
  refine ev_v0I (p' := 29) i_147_26 rfl cl_12_123_12 (by decide) is_285 (Nat.le_of_ble_eq_true rfl) (s_mfull _ hw) ?_
  exact ev_iretI i_147_29 rfl (ER.mk rfl (hc.full h7))
theorem C_type (L d : Nat) (A : AV) (hA : okA A) {c m : Nat} (hcc : c < 128) (hm : A.2.2.1.1 = m) (h6 : m < 150) : Cst L (d + 24) 73 [.int (nI c)] A (.int (nI (m + 1))) (typeA A (nI c)) := by
  refine C_of (q := q_73) rfl (Nat.le_of_ble_eq_true rfl) rfl (fun π mi ml mr hw hc => ?_)
  have hn := hc.hn
  have h7 := hA.n7
  have hm5 : mi 4 1 = nI m := hm ▸ hc.2.2.1.2.1
  refine ev_iload_n (p' := 1) i_73_0 rfl rfl ?_
  refine ev_iconst (p' := 2) (v := 0) i_73_1 rfl (by decide) ?_
  refine ev_bipush (p' := 4) (v := 127) i_73_2 rfl (by decide) ?_
  refine ev_s3I (p' := 7) i_73_4 rfl cl_11_89_0 (by decide) (Nat.le_of_ble_eq_true rfl) (s_outside _ _ _ _) ?_
  refine ev_if_eq (p' := 10) (tg := 15) i_73_7 rfl rfl (fun c7 => ?_) (fun c7 => absurd (B_f (nj (in0 (m := 127) (by omega) (by decide) rfl))) c7)
  refine ev_aload_n (p' := 16) i_73_15 rfl rfl ?_
  refine ev_getr (p' := 19) i_73_16 rfl fl_11_22 rfl is_1 (rf_1_3 hw) ?_
  refine ev_geti (p' := 22) i_73_19 rfl fl_11_121 rfl is_4 ?_
  refine ev_sipush (p' := 25) (v := 150) i_73_22 rfl (by decide) ?_
  refine ev_icmp_lt (p' := 28) (tg := 33) i_73_25 rfl rfl (fun c25 => ?_) (fun c25 => absurd (by rw [hm5]; exact nI_lt (b := 150) h6 (by decide)) c25)
  refine ev_aload_n (p' := 34) i_73_33 rfl rfl ?_
  refine ev_getr (p' := 37) i_73_34 rfl fl_11_22 rfl is_1 (rf_1_3 hw) ?_
  refine ev_iload_n (p' := 38) i_73_37 rfl rfl ?_
  refine ev_v1V (p' := 41) i_73_38 rfl cl_11_124_7 (by decide) is_4 (Nat.le_of_ble_eq_true rfl) (s_append _ hw hcc hm5 h6) ?_
  refine ev_aload_n (p' := 42) i_73_41 rfl rfl ?_
  refine ev_getr (p' := 45) i_73_42 rfl fl_11_22 rfl is_1 (rf_1_3 hw) ?_
  refine ev_geti (p' := 48) i_73_45 rfl fl_11_121 rfl is_4 ?_
  exact ev_iretI i_73_48 rfl (EC.mk (by rw [pm_u_self]) hw (hc.type hw hm h6))
theorem R_type (L d : Nat) (A : AV) (hA : okA A) {c m : Nat} (hcc : c < 128) (hm : A.2.2.1.1 = m) (h6 : m < 150) : Rst L (d + 24) 147 [.int (nI c)] A (.int (nI (m + 1))) (typeA A (nI c)) := by
  refine R_of (q := q_147) rfl (Nat.le_of_ble_eq_true rfl) rfl (fun π mi ml mr hw hc => ?_)
  have hn := hc.hn
  have h7 := hA.n7
  have hm5 : mi 285 17 = nI m := hm ▸ hc.2.2.1.1
  refine ev_iload_n (p' := 1) i_147_0 rfl rfl ?_
  refine ev_iconst (p' := 2) (v := 0) i_147_1 rfl (by decide) ?_
  refine ev_bipush (p' := 4) (v := 127) i_147_2 rfl (by decide) ?_
  refine ev_s3I (p' := 7) i_147_4 rfl cl_12_115_0 (by decide) (Nat.le_of_ble_eq_true rfl) (s_in _ _ _ _) ?_
  refine ev_if_ne (p' := 10) (tg := 15) i_147_7 rfl rfl (fun c7 => ?_) (fun c7 => absurd (B_tn (in0 (m := 127) (by omega) (by decide) rfl)) c7)
  refine ev_aload_n (p' := 16) i_147_15 rfl rfl ?_
  refine ev_geti (p' := 19) i_147_16 rfl fl_12_130 rfl is_285 ?_
  refine ev_sipush (p' := 22) (v := 150) i_147_19 rfl (by decide) ?_
  refine ev_icmp_ne (p' := 25) (tg := 30) i_147_22 rfl rfl (fun c22 => ?_) (fun c22 => absurd (by rw [hm5]; exact fun z => absurd ((nI_eq (b := 150) (by omega) (by decide)).mp z) (by omega)) c22)
  refine ev_aload_n (p' := 31) i_147_30 rfl rfl ?_
  refine ev_getr (p' := 34) i_147_31 rfl fl_12_43 rfl is_285 (rf_285_16 hw) ?_
  refine ev_aload_n (p' := 35) i_147_34 rfl rfl ?_
  refine ev_geti (p' := 38) i_147_35 rfl fl_12_130 rfl is_285 ?_
  rw [hm5]
  refine ev_iload_n (p' := 39) i_147_38 rfl rfl ?_
  refine ev_iastN (p' := 40) i_147_39 rfl is_297 len_297 (by omega) (by decide) (gr (by decide)) ?_
  refine ev_aload_n (p' := 41) i_147_40 rfl rfl ?_
  refine ev_dup (p' := 42) i_147_41 rfl rfl ?_
  refine ev_geti (p' := 45) i_147_42 rfl fl_12_130 rfl is_285 ?_
  refine ev_iconst (p' := 46) (v := 1) i_147_45 rfl (by decide) ?_
  refine ev_iadd (p' := 47) i_147_46 rfl ?_
  rw [pm_u_ne (by decide), hm5, nI_1]
  refine ev_puti (p' := 50) i_147_47 rfl fl_12_130 rfl is_285 (gr (by decide)) rfl ?_
  refine ev_aload_n (p' := 51) i_147_50 rfl rfl ?_
  refine ev_geti (p' := 54) i_147_51 rfl fl_12_130 rfl is_285 ?_
  exact ev_iretI i_147_54 rfl (ER.mk (by rw [pm_u_self]) (hc.type h7 hm))
theorem Q_type (L : Nat) (A : AV) (hA : okA A) (x : Int32) : SameI L 73 147 [.int x] A := by
  by_cases h : 0 ≤ x ∧ x ≤ 127
  · obtain ⟨c, hcc, rfl⟩ := of0 (m := 127) h rfl
    by_cases h6 : A.2.2.1.1 = 150
    · exact ⟨_, fullA A, hA.full, fun d => C_type_full L d A hA (by omega) rfl h6, fun d => R_type_full L d A hA (by omega) rfl h6⟩
    · have h6' : A.2.2.1.1 < 150 := by have := hA.2.2.1; omega
      refine ⟨_, typeA A (nI c), ⟨hA.1, hA.2.1, h6', fun i hi => ?_⟩, fun d => C_type L d A hA (by omega) rfl h6', fun d => R_type L d A hA (by omega) rfl h6'⟩
      show ∃ c', c' < 128 ∧ (if i = A.2.2.1.1 then nI c else A.2.2.1.2 i) = nI c'
      by_cases hh : i = A.2.2.1.1
      · exact ⟨c, by omega, if_pos hh⟩
      · obtain ⟨c', h1, h2⟩ := hA.2.2.2 i (by have hi' : i < A.2.2.1.1 + 1 := hi; omega)
        exact ⟨c', h1, by rw [if_neg hh]; exact h2⟩
  · exact ⟨_, badA A, hA.bad, fun d => C_type_bad L d A hA x h, fun d => R_type_bad L d A hA x h⟩
/-! piece -/
def g7 (k a t r on : Int32) : Nat → Int32
  | 0 => k
  | 1 => a
  | 2 => t
  | 3 => r
  | 4 => on
  | _ => 0
def glueV (v : PV) (k a t r on : Int32) : PV := (v.1 + 1, v.2.1, v.2.2.1, fun j i => if i = v.1 then g7 k a t r on j else v.2.2.2 j i)
theorem glue_fx {v : PV} {k a t r on : Int32} {i j : Nat} (h : i ≠ v.1) : fx (glueV v k a t r on).2.2.2 j i = fx v.2.2.2 j i := by
  unfold fx glueV
  simp only [if_neg h]
theorem CPg.glue {mi : Nat → Nat → Int32} {P k : Nat} {v : PV} {a t r on : Int32} (h : CPg mi P v) (hn : v.1 < 7) (hk6 : k < 6) : CPg (glm mi P v.1 (nI k) a t r on (brN k)) P (glueV v (nI k) a t r on) := by
  obtain ⟨a1, a2, a3, a4, a5⟩ := h
  have e : ∀ j, j ≠ 5 → glm mi P v.1 (nI k) a t r on (brN k) P j = mi P j := fun j hj => by unfold glm; rw [if_neg (by omega), if_neg (by omega)]
  refine ⟨hn, ?_, (e 3 (by decide)).trans a3, (e 4 (by decide)).trans a4, fun i hi j hj => ?_⟩
  · unfold glm; rw [if_neg (by omega), if_pos ⟨rfl, rfl⟩]; rfl
  · have hi' : i < v.1 + 1 := hi
    by_cases hh : i = v.1
    · subst hh
      unfold glm
      rw [if_pos ⟨rfl, hj⟩]
      unfold fx glueV
      simp only [if_true]
      match j, hj with
      | 0, _ => rfl
      | 1, _ => rfl
      | 2, _ => rfl
      | 3, _ => rfl
      | 4, _ => rfl
      | 5, _ => rfl
      | 6, _ => rfl
      | 7, _ => show brN k = brN (nI k).toNatClampNeg; rw [nI_clamp (by omega)]
      | j + 8, h => omega
    · rw [glue_fx hh]
      unfold glm
      rw [if_neg (by omega), if_neg (by omega)]
      exact a5 i (by omega) j hj
theorem CSp.page {π : Nat → Nat → Nat} {mi mi' : Nat → Nat → Int32} {S : Nat} {v : SV} {w : PV} {mr : Nat → Nat → Option Nat} (hw : WR π mr) (h : CSp π mi S v) (hp : CPg mi' (S + 16) w) (he : ∀ a, a < S + 16 ∨ S + 26 ≤ a → mi' a = mi a) : CSp π mi' S (w, v.2) := by
  obtain ⟨a1, ⟨a2, a3, a4⟩, ⟨a5, a6, a7⟩, a8, a9, a10⟩ := h
  exact ⟨hp, ⟨a2, by rw [he S (by omega)]; exact a3, fun i hi => (a4 i hi).fr (he _ (by omega)) (fun k hk => he _ (by omega))⟩, ⟨a5, by rw [he S (by omega)]; exact a6, fun i hi j hj => by have hi' : i < v.2.2.1.1 := hi; rw [he _ (by omega)]; exact a7 i hi j hj⟩, a8, by rw [he S (by omega)]; exact a9, fun i hi j hj => by have hi' : i < v.2.2.2.1 := hi; rw [he _ (by omega)]; exact a10 i hi j hj⟩
theorem CR.page {π : Nat → Nat → Nat} {mi mi' : Nat → Nat → Int32} {ml : Nat → Nat → Int64} {mr : Nat → Nat → Option Nat} {A : AV} {w : PV} (hw : WR π mr) (h : CR π mi ml A) (hp : CPg mi' 33 w) (he : ∀ a, a < 33 ∨ 43 ≤ a → mi' a = mi a) : CR π mi' ml ((w, A.1.2), A.2) :=
  h.up hw (h.1.page hw hp he) (fun _ _ => rfl) (fun a ha => he a (by omega))
theorem CR.u0 {π : Nat → Nat → Nat} {mi : Nat → Nat → Int32} {ml : Nat → Nat → Int64} {mr : Nat → Nat → Option Nat} {A : AV} (hw : WR π mr) (h : CR π mi ml A) : CR π (pm_u mi 17 4 0) ml ((A.1.1, (0, A.1.2.1.2), A.1.2.2), A.2) := by
  obtain ⟨a1, ⟨a2, a3, a4⟩, ⟨a5, a6, a7⟩, a8, a9, a10⟩ := h.1
  exact h.up hw ⟨a1.fr (pm_u_ne (by decide)) (fun i hi => pm_u_ne (by omega)), ⟨Nat.zero_le _, pm_u_self, fun i hi => absurd hi (Nat.not_lt_zero i)⟩, ⟨a5, by rw [pm_u_oth (by decide)]; exact a6, fun i hi j hj => by rw [pm_u_ne (by omega)]; exact a7 i hi j hj⟩, a8, by rw [pm_u_oth (by decide)]; exact a9, fun i hi j hj => by rw [pm_u_ne (by omega)]; exact a10 i hi j hj⟩ (fun _ _ => rfl) (fun a ha => pm_u_ne (by omega))
theorem glm_ne {mi : Nat → Nat → Int32} {P n a : Nat} {x0 x1 x2 x3 x4 x7 : Int32} (h1 : a ≠ P) (h2 : a ≠ P + 3 + n) : glm mi P n x0 x1 x2 x3 x4 x7 a = mi a := by
  funext j
  unfold glm
  rw [if_neg (fun z => h2 z.1), if_neg (fun z => h1 z.1)]
def r9 (mi : Nat → Nat → Int32) (n : Nat) (k a t r on : Int32) : Nat → Nat → Int32 := pm_u (pm_u (pm_u (pm_u (pm_u (pm_u (pm_u mi 287 n k) 288 n a) 289 n t) 290 n r) 291 n on) 292 n 0) 293 n 0
theorem r9_ne {mi : Nat → Nat → Int32} {n b : Nat} {k a t r on : Int32} (h : b < 287 ∨ 293 < b) : r9 mi n k a t r on b = mi b := by
  unfold r9
  rw [pm_u_ne (by omega), pm_u_ne (by omega), pm_u_ne (by omega), pm_u_ne (by omega), pm_u_ne (by omega), pm_u_ne (by omega), pm_u_ne (by omega)]
theorem r9_in {mi : Nat → Nat → Int32} {n : Nat} {k a t r on : Int32} : ∀ j, j < 7 → r9 mi n k a t r on (287 + j) n = g7 k a t r on j := by
  intro j hj
  match j, hj with
  | 0, _ => simp [r9, pm_u, g7]
  | 1, _ => simp [r9, pm_u, g7]
  | 2, _ => simp [r9, pm_u, g7]
  | 3, _ => simp [r9, pm_u, g7]
  | 4, _ => simp [r9, pm_u, g7]
  | 5, _ => simp [r9, pm_u, g7]
  | 6, _ => simp [r9, pm_u, g7]
  | j + 7, h => omega
theorem r9_out {mi : Nat → Nat → Int32} {n i : Nat} {k a t r on : Int32} (hi : i ≠ n) (b : Nat) : r9 mi n k a t r on b i = mi b i := by
  unfold r9
  rw [u_ne (fun z => hi z.2), u_ne (fun z => hi z.2), u_ne (fun z => hi z.2), u_ne (fun z => hi z.2), u_ne (fun z => hi z.2), u_ne (fun z => hi z.2), u_ne (fun z => hi z.2)]
theorem RP0.glue {mi mi' : Nat → Nat → Int32} {v : PV} {k a t r on : Int32} (h : RP0 mi v) (h1 : mi' 285 1 = nI (v.1 + 1)) (h2 : mi' 285 2 = mi 285 2) (h3 : mi' 285 3 = mi 285 3) (hf : ∀ j, j < 7 → mi' (287 + j) = r9 mi v.1 k a t r on (287 + j)) : RP0 mi' (glueV v k a t r on) := by
  obtain ⟨a1, a2, a3, a4⟩ := h
  refine ⟨h1, h2.trans a2, h3.trans a3, fun i hi j hj => ?_⟩
  rw [hf j hj]
  show _ = if i = v.1 then g7 k a t r on j else v.2.2.2 j i
  by_cases hh : i = v.1
  · rw [if_pos hh, hh, r9_in j hj]
  · rw [if_neg hh, r9_out hh]
    have hi' : i < v.1 + 1 := hi
    exact a4 i (by omega) j hj
theorem s_addPiece {L : Nat} {π : Nat → Nat → Nat} {mi : Nat → Nat → Int32} {ml : Nat → Nat → Int64} {mr : Nat → Nat → Option Nat} (d : Nat) (hw : WR π mr) {n : Nat} (hn : mi 285 1 = nI n) (hn6 : n < 7) (k a t r on : Int32) : pm_ev gR (d + 1) 145 [.ref 285, .int k, .int a, .int t, .int r, .int on] (WW L, mi, ml, mr) (some (.int (nI n))) (WW L, pm_u (pm_u (r9 mi n k a t r on) 285 1 (nI (n + 1))) 285 25 0, ml, mr) := by
  refine ev_enter (q := q_145) rfl (Nat.le_of_ble_eq_true rfl) rfl ?_
  refine ev_aload_n (p' := 1) i_145_0 rfl rfl ?_
  refine ev_getr (p' := 4) i_145_1 rfl fl_12_13 rfl is_285 (rf_285_6 hw) ?_
  refine ev_aload_n (p' := 5) i_145_4 rfl rfl ?_
  refine ev_geti (p' := 8) i_145_5 rfl fl_12_96 rfl is_285 ?_
  rw [hn]
  refine ev_iload_n (p' := 9) i_145_8 rfl rfl ?_
  refine ev_iastN (p' := 10) i_145_9 rfl is_287 len_287 (by omega) (by decide) (gr (by decide)) ?_
  refine ev_aload_n (p' := 11) i_145_10 rfl rfl ?_
  refine ev_getr (p' := 14) i_145_11 rfl fl_12_16 rfl is_285 (rf_285_7 hw) ?_
  refine ev_aload_n (p' := 15) i_145_14 rfl rfl ?_
  refine ev_geti (p' := 18) i_145_15 rfl fl_12_96 rfl is_285 ?_
  rw [pm_u_ne (a := 285) (k := 287) (by decide), hn]
  refine ev_iload_n (p' := 19) i_145_18 rfl rfl ?_
  refine ev_iastN (p' := 20) i_145_19 rfl is_288 len_288 (by omega) (by decide) (gr (by decide)) ?_
  refine ev_aload_n (p' := 21) i_145_20 rfl rfl ?_
  refine ev_getr (p' := 24) i_145_21 rfl fl_12_19 rfl is_285 (rf_285_8 hw) ?_
  refine ev_aload_n (p' := 25) i_145_24 rfl rfl ?_
  refine ev_geti (p' := 28) i_145_25 rfl fl_12_96 rfl is_285 ?_
  rw [pm_u_ne (a := 285) (k := 288) (by decide), pm_u_ne (a := 285) (k := 287) (by decide), hn]
  refine ev_iload_n (p' := 29) i_145_28 rfl rfl ?_
  refine ev_iastN (p' := 30) i_145_29 rfl is_289 len_289 (by omega) (by decide) (gr (by decide)) ?_
  refine ev_aload_n (p' := 31) i_145_30 rfl rfl ?_
  refine ev_getr (p' := 34) i_145_31 rfl fl_12_22 rfl is_285 (rf_285_9 hw) ?_
  refine ev_aload_n (p' := 35) i_145_34 rfl rfl ?_
  refine ev_geti (p' := 38) i_145_35 rfl fl_12_96 rfl is_285 ?_
  rw [pm_u_ne (a := 285) (k := 289) (by decide), pm_u_ne (a := 285) (k := 288) (by decide), pm_u_ne (a := 285) (k := 287) (by decide), hn]
  refine ev_iload (p' := 40) i_145_38 rfl rfl ?_
  refine ev_iastN (p' := 41) i_145_40 rfl is_290 len_290 (by omega) (by decide) (gr (by decide)) ?_
  refine ev_aload_n (p' := 42) i_145_41 rfl rfl ?_
  refine ev_getr (p' := 45) i_145_42 rfl fl_12_25 rfl is_285 (rf_285_10 hw) ?_
  refine ev_aload_n (p' := 46) i_145_45 rfl rfl ?_
  refine ev_geti (p' := 49) i_145_46 rfl fl_12_96 rfl is_285 ?_
  rw [pm_u_ne (a := 285) (k := 290) (by decide), pm_u_ne (a := 285) (k := 289) (by decide), pm_u_ne (a := 285) (k := 288) (by decide), pm_u_ne (a := 285) (k := 287) (by decide), hn]
  refine ev_iload (p' := 51) i_145_49 rfl rfl ?_
  refine ev_iastN (p' := 52) i_145_51 rfl is_291 len_291 (by omega) (by decide) (gr (by decide)) ?_
  refine ev_aload_n (p' := 53) i_145_52 rfl rfl ?_
  refine ev_getr (p' := 56) i_145_53 rfl fl_12_28 rfl is_285 (rf_285_11 hw) ?_
  refine ev_aload_n (p' := 57) i_145_56 rfl rfl ?_
  refine ev_geti (p' := 60) i_145_57 rfl fl_12_96 rfl is_285 ?_
  rw [pm_u_ne (a := 285) (k := 291) (by decide), pm_u_ne (a := 285) (k := 290) (by decide), pm_u_ne (a := 285) (k := 289) (by decide), pm_u_ne (a := 285) (k := 288) (by decide), pm_u_ne (a := 285) (k := 287) (by decide), hn]
  refine ev_iconst (p' := 61) (v := 0) i_145_60 rfl (by decide) ?_
  refine ev_iastN (p' := 62) i_145_61 rfl is_292 len_292 (by omega) (by decide) (gr (by decide)) ?_
  refine ev_aload_n (p' := 63) i_145_62 rfl rfl ?_
  refine ev_getr (p' := 66) i_145_63 rfl fl_12_31 rfl is_285 (rf_285_12 hw) ?_
  refine ev_aload_n (p' := 67) i_145_66 rfl rfl ?_
  refine ev_geti (p' := 70) i_145_67 rfl fl_12_96 rfl is_285 ?_
  rw [pm_u_ne (a := 285) (k := 292) (by decide), pm_u_ne (a := 285) (k := 291) (by decide), pm_u_ne (a := 285) (k := 290) (by decide), pm_u_ne (a := 285) (k := 289) (by decide), pm_u_ne (a := 285) (k := 288) (by decide), pm_u_ne (a := 285) (k := 287) (by decide), hn]
  refine ev_iconst (p' := 71) (v := 0) i_145_70 rfl (by decide) ?_
  refine ev_iastN (p' := 72) i_145_71 rfl is_293 len_293 (by omega) (by decide) (gr (by decide)) ?_
  refine ev_aload_n (p' := 73) i_145_72 rfl rfl ?_
  refine ev_dup (p' := 74) i_145_73 rfl rfl ?_
  refine ev_geti (p' := 77) i_145_74 rfl fl_12_96 rfl is_285 ?_
  refine ev_iconst (p' := 78) (v := 1) i_145_77 rfl (by decide) ?_
  refine ev_iadd (p' := 79) i_145_78 rfl ?_
  rw [pm_u_ne (a := 285) (k := 293) (by decide), pm_u_ne (a := 285) (k := 292) (by decide), pm_u_ne (a := 285) (k := 291) (by decide), pm_u_ne (a := 285) (k := 290) (by decide), pm_u_ne (a := 285) (k := 289) (by decide), pm_u_ne (a := 285) (k := 288) (by decide), pm_u_ne (a := 285) (k := 287) (by decide), hn, nI_1]
  refine ev_puti (p' := 82) i_145_79 rfl fl_12_96 rfl is_285 (gr (by decide)) rfl ?_
  refine ev_aload_n (p' := 83) i_145_82 rfl rfl ?_
  refine ev_iconst (p' := 84) (v := 0) i_145_83 rfl (by decide) ?_
  refine ev_puti (p' := 87) i_145_84 rfl fl_12_112 rfl is_285 (gr (by decide)) rfl ?_
  refine ev_aload_n (p' := 88) i_145_87 rfl rfl ?_
  refine ev_geti (p' := 91) i_145_88 rfl fl_12_96 rfl is_285 ?_
  refine ev_iconst (p' := 92) (v := 1) i_145_91 rfl (by decide) ?_
  rw [pm_u_oth (by decide), pm_u_self]
  refine ev_isub (p' := 93) i_145_92 rfl ?_
  exact ev_iretI i_145_93 rfl ⟨by rw [nI_pred], rfl⟩
theorem C_piece_bad (L d : Nat) (A : AV) (hA : okA A) (k : Int32) (a : Int32) (t : Int32) (r : Int32) (x : Int32) (hb : ¬ ((0 ≤ k ∧ k ≤ 5) ∧ (1 ≤ a ∧ a ≤ 9) ∧ (1 ≤ t ∧ t ≤ 9) ∧ (0 ≤ r ∧ r ≤ 9) ∧ (-1 ≤ x ∧ x ≤ nI A.1.1.1 - 1))) : Cst L (d + 24) 72 [.int k, .int a, .int t, .int r, .int x] A (.int (-2)) (badA A) := by
  refine C_of (q := q_72) rfl (Nat.le_of_ble_eq_true rfl) rfl (fun π mi ml mr hw hc => ?_)
  have hn := hc.hn
  have h7 := hA.n7
  refine ev_iload_n (p' := 1) i_72_0 rfl rfl ?_
  refine ev_iconst (p' := 2) (v := 0) i_72_1 rfl (by decide) ?_
  refine ev_iconst (p' := 3) (v := 5) i_72_2 rfl (by decide) ?_
  refine ev_s3I (p' := 6) i_72_3 rfl cl_11_89_0 (by decide) (Nat.le_of_ble_eq_true rfl) (s_outside _ _ _ _) ?_
  refine ev_if_ne (p' := 9) (tg := 61) i_72_6 rfl rfl (fun c6 => ?_) (fun c6 => ?_)
  · replace c6 := B1 c6
    refine ev_aload_n (p' := 62) i_72_61 rfl rfl ?_
    refine ev_v0I (p' := 65) i_72_62 rfl cl_11_93_11 (by decide) is_1 (Nat.le_of_ble_eq_true rfl) (s_bad _) ?_
    exact ev_iretI i_72_65 rfl (EC.mk rfl hw (hc.bad hw))
  · replace c6 := B0n c6
    refine ev_iload_n (p' := 10) i_72_9 rfl rfl ?_
    refine ev_iconst (p' := 11) (v := 1) i_72_10 rfl (by decide) ?_
    refine ev_bipush (p' := 13) (v := 9) i_72_11 rfl (by decide) ?_
    refine ev_s3I (p' := 16) i_72_13 rfl cl_11_89_0 (by decide) (Nat.le_of_ble_eq_true rfl) (s_outside _ _ _ _) ?_
    refine ev_if_ne (p' := 19) (tg := 61) i_72_16 rfl rfl (fun c16 => ?_) (fun c16 => ?_)
    · replace c16 := B1 c16
      refine ev_aload_n (p' := 62) i_72_61 rfl rfl ?_
      refine ev_v0I (p' := 65) i_72_62 rfl cl_11_93_11 (by decide) is_1 (Nat.le_of_ble_eq_true rfl) (s_bad _) ?_
      exact ev_iretI i_72_65 rfl (EC.mk rfl hw (hc.bad hw))
    · replace c16 := B0n c16
      refine ev_iload_n (p' := 20) i_72_19 rfl rfl ?_
      refine ev_iconst (p' := 21) (v := 1) i_72_20 rfl (by decide) ?_
      refine ev_bipush (p' := 23) (v := 9) i_72_21 rfl (by decide) ?_
      refine ev_s3I (p' := 26) i_72_23 rfl cl_11_89_0 (by decide) (Nat.le_of_ble_eq_true rfl) (s_outside _ _ _ _) ?_
      refine ev_if_ne (p' := 29) (tg := 61) i_72_26 rfl rfl (fun c26 => ?_) (fun c26 => ?_)
      · replace c26 := B1 c26
        refine ev_aload_n (p' := 62) i_72_61 rfl rfl ?_
        refine ev_v0I (p' := 65) i_72_62 rfl cl_11_93_11 (by decide) is_1 (Nat.le_of_ble_eq_true rfl) (s_bad _) ?_
        exact ev_iretI i_72_65 rfl (EC.mk rfl hw (hc.bad hw))
      · replace c26 := B0n c26
        refine ev_iload (p' := 31) i_72_29 rfl rfl ?_
        refine ev_iconst (p' := 32) (v := 0) i_72_31 rfl (by decide) ?_
        refine ev_bipush (p' := 34) (v := 9) i_72_32 rfl (by decide) ?_
        refine ev_s3I (p' := 37) i_72_34 rfl cl_11_89_0 (by decide) (Nat.le_of_ble_eq_true rfl) (s_outside _ _ _ _) ?_
        refine ev_if_ne (p' := 40) (tg := 61) i_72_37 rfl rfl (fun c37 => ?_) (fun c37 => ?_)
        · replace c37 := B1 c37
          refine ev_aload_n (p' := 62) i_72_61 rfl rfl ?_
          refine ev_v0I (p' := 65) i_72_62 rfl cl_11_93_11 (by decide) is_1 (Nat.le_of_ble_eq_true rfl) (s_bad _) ?_
          exact ev_iretI i_72_65 rfl (EC.mk rfl hw (hc.bad hw))
        · replace c37 := B0n c37
          refine ev_iload (p' := 42) i_72_40 rfl rfl ?_
          refine ev_iconst (p' := 43) (v := -1) i_72_42 rfl (by decide) ?_
          refine ev_aload_n (p' := 44) i_72_43 rfl rfl ?_
          refine ev_getr (p' := 47) i_72_44 rfl fl_11_78 rfl is_1 (rf_1_0 hw) ?_
          refine ev_getr (p' := 50) i_72_47 rfl fl_11_97 rfl (is_sp sp_17) (hw.page sp_17) ?_
          refine ev_geti (p' := 53) i_72_50 rfl fl_11_100 rfl (is_pg pg_33) ?_
          rw [hn]
          refine ev_iconst (p' := 54) (v := 1) i_72_53 rfl (by decide) ?_
          refine ev_isub (p' := 55) i_72_54 rfl ?_
          refine ev_s3I (p' := 58) i_72_55 rfl cl_11_89_0 (by decide) (Nat.le_of_ble_eq_true rfl) (s_outside _ _ _ _) ?_
          refine ev_if_eq (p' := 61) (tg := 66) i_72_58 rfl rfl (fun c58 => ?_) (fun c58 => ?_)
          · replace c58 := B0 c58
            exact absurd ⟨ni c6, ni c16, ni c26, ni c37, ni c58⟩ hb
          · replace c58 := B1 c58
            refine ev_aload_n (p' := 62) i_72_61 rfl rfl ?_
            refine ev_v0I (p' := 65) i_72_62 rfl cl_11_93_11 (by decide) is_1 (Nat.le_of_ble_eq_true rfl) (s_bad _) ?_
            exact ev_iretI i_72_65 rfl (EC.mk rfl hw (hc.bad hw))
theorem R_piece_bad (L d : Nat) (A : AV) (hA : okA A) (k : Int32) (a : Int32) (t : Int32) (r : Int32) (x : Int32) (hb : ¬ ((0 ≤ k ∧ k ≤ 5) ∧ (1 ≤ a ∧ a ≤ 9) ∧ (1 ≤ t ∧ t ≤ 9) ∧ (0 ≤ r ∧ r ≤ 9) ∧ (-1 ≤ x ∧ x ≤ nI A.1.1.1 - 1))) : Rst L (d + 24) 146 [.int k, .int a, .int t, .int r, .int x] A (.int (-2)) (badA A) := by
  refine R_of (q := q_146) rfl (Nat.le_of_ble_eq_true rfl) rfl (fun π mi ml mr hw hc => ?_)
  have hn := hc.hn
  have h7 := hA.n7
  refine ev_iload_n (p' := 1) i_146_0 rfl rfl ?_
  refine ev_iconst (p' := 2) (v := 0) i_146_1 rfl (by decide) ?_
  refine ev_iconst (p' := 3) (v := 5) i_146_2 rfl (by decide) ?_
  refine ev_s3I (p' := 6) i_146_3 rfl cl_12_115_0 (by decide) (Nat.le_of_ble_eq_true rfl) (s_in _ _ _ _) ?_
  refine ev_if_eq (p' := 9) (tg := 55) i_146_6 rfl rfl (fun c6 => ?_) (fun c6 => ?_)
  · replace c6 := B0 c6
    refine ev_aload_n (p' := 56) i_146_55 rfl rfl ?_
    refine ev_v0I (p' := 59) i_146_56 rfl cl_12_119_12 (by decide) is_285 (Nat.le_of_ble_eq_true rfl) (s_mbad _ hw) ?_
    exact ev_iretI i_146_59 rfl (ER.mk rfl (hc.bad h7))
  · replace c6 := B1 c6
    refine ev_iload_n (p' := 10) i_146_9 rfl rfl ?_
    refine ev_iconst (p' := 11) (v := 1) i_146_10 rfl (by decide) ?_
    refine ev_bipush (p' := 13) (v := 9) i_146_11 rfl (by decide) ?_
    refine ev_s3I (p' := 16) i_146_13 rfl cl_12_115_0 (by decide) (Nat.le_of_ble_eq_true rfl) (s_in _ _ _ _) ?_
    refine ev_if_eq (p' := 19) (tg := 55) i_146_16 rfl rfl (fun c16 => ?_) (fun c16 => ?_)
    · replace c16 := B0 c16
      refine ev_aload_n (p' := 56) i_146_55 rfl rfl ?_
      refine ev_v0I (p' := 59) i_146_56 rfl cl_12_119_12 (by decide) is_285 (Nat.le_of_ble_eq_true rfl) (s_mbad _ hw) ?_
      exact ev_iretI i_146_59 rfl (ER.mk rfl (hc.bad h7))
    · replace c16 := B1 c16
      refine ev_iload_n (p' := 20) i_146_19 rfl rfl ?_
      refine ev_iconst (p' := 21) (v := 1) i_146_20 rfl (by decide) ?_
      refine ev_bipush (p' := 23) (v := 9) i_146_21 rfl (by decide) ?_
      refine ev_s3I (p' := 26) i_146_23 rfl cl_12_115_0 (by decide) (Nat.le_of_ble_eq_true rfl) (s_in _ _ _ _) ?_
      refine ev_if_eq (p' := 29) (tg := 55) i_146_26 rfl rfl (fun c26 => ?_) (fun c26 => ?_)
      · replace c26 := B0 c26
        refine ev_aload_n (p' := 56) i_146_55 rfl rfl ?_
        refine ev_v0I (p' := 59) i_146_56 rfl cl_12_119_12 (by decide) is_285 (Nat.le_of_ble_eq_true rfl) (s_mbad _ hw) ?_
        exact ev_iretI i_146_59 rfl (ER.mk rfl (hc.bad h7))
      · replace c26 := B1 c26
        refine ev_iload (p' := 31) i_146_29 rfl rfl ?_
        refine ev_iconst (p' := 32) (v := 0) i_146_31 rfl (by decide) ?_
        refine ev_bipush (p' := 34) (v := 9) i_146_32 rfl (by decide) ?_
        refine ev_s3I (p' := 37) i_146_34 rfl cl_12_115_0 (by decide) (Nat.le_of_ble_eq_true rfl) (s_in _ _ _ _) ?_
        refine ev_if_eq (p' := 40) (tg := 55) i_146_37 rfl rfl (fun c37 => ?_) (fun c37 => ?_)
        · replace c37 := B0 c37
          refine ev_aload_n (p' := 56) i_146_55 rfl rfl ?_
          refine ev_v0I (p' := 59) i_146_56 rfl cl_12_119_12 (by decide) is_285 (Nat.le_of_ble_eq_true rfl) (s_mbad _ hw) ?_
          exact ev_iretI i_146_59 rfl (ER.mk rfl (hc.bad h7))
        · replace c37 := B1 c37
          refine ev_iload (p' := 42) i_146_40 rfl rfl ?_
          refine ev_iconst (p' := 43) (v := -1) i_146_42 rfl (by decide) ?_
          refine ev_aload_n (p' := 44) i_146_43 rfl rfl ?_
          refine ev_geti (p' := 47) i_146_44 rfl fl_12_96 rfl is_285 ?_
          rw [hn]
          refine ev_iconst (p' := 48) (v := 1) i_146_47 rfl (by decide) ?_
          refine ev_isub (p' := 49) i_146_48 rfl ?_
          refine ev_s3I (p' := 52) i_146_49 rfl cl_12_115_0 (by decide) (Nat.le_of_ble_eq_true rfl) (s_in _ _ _ _) ?_
          refine ev_if_ne (p' := 55) (tg := 60) i_146_52 rfl rfl (fun c52 => ?_) (fun c52 => ?_)
          · replace c52 := B1 c52
            exact absurd ⟨c6, c16, c26, c37, c52⟩ hb
          · replace c52 := B0n c52
            refine ev_aload_n (p' := 56) i_146_55 rfl rfl ?_
            refine ev_v0I (p' := 59) i_146_56 rfl cl_12_119_12 (by decide) is_285 (Nat.le_of_ble_eq_true rfl) (s_mbad _ hw) ?_
            exact ev_iretI i_146_59 rfl (ER.mk rfl (hc.bad h7))
theorem C_piece_full (L d : Nat) (A : AV) (hA : okA A) {k a t r : Nat} (x : Int32) (hk : k ≤ 5) (ha1 : 1 ≤ a) (ha : a ≤ 9) (ht1 : 1 ≤ t) (ht : t ≤ 9) (hr : r ≤ 9) (hx : -1 ≤ x ∧ x ≤ nI A.1.1.1 - 1) (h6 : A.1.1.1 = 7) : Cst L (d + 24) 72 [.int (nI k), .int (nI a), .int (nI t), .int (nI r), .int x] A (.int (-4)) (fullA A) := by
  refine C_of (q := q_72) rfl (Nat.le_of_ble_eq_true rfl) rfl (fun π mi ml mr hw hc => ?_)
  have hn := hc.hn
  have h7 := hA.n7
  refine ev_iload_n (p' := 1) i_72_0 rfl rfl ?_
  refine ev_iconst (p' := 2) (v := 0) i_72_1 rfl (by decide) ?_
  refine ev_iconst (p' := 3) (v := 5) i_72_2 rfl (by decide) ?_
  refine ev_s3I (p' := 6) i_72_3 rfl cl_11_89_0 (by decide) (Nat.le_of_ble_eq_true rfl) (s_outside _ _ _ _) ?_
  refine ev_if_ne (p' := 9) (tg := 61) i_72_6 rfl rfl (fun c6 => absurd c6 (fun z => z (B_f (nj (in0 hk (by decide) rfl))))) (fun c6 => ?_)
  refine ev_iload_n (p' := 10) i_72_9 rfl rfl ?_
  refine ev_iconst (p' := 11) (v := 1) i_72_10 rfl (by decide) ?_
  refine ev_bipush (p' := 13) (v := 9) i_72_11 rfl (by decide) ?_
  refine ev_s3I (p' := 16) i_72_13 rfl cl_11_89_0 (by decide) (Nat.le_of_ble_eq_true rfl) (s_outside _ _ _ _) ?_
  refine ev_if_ne (p' := 19) (tg := 61) i_72_16 rfl rfl (fun c16 => absurd c16 (fun z => z (B_f (nj (in1 ha1 ha (by decide) rfl))))) (fun c16 => ?_)
  refine ev_iload_n (p' := 20) i_72_19 rfl rfl ?_
  refine ev_iconst (p' := 21) (v := 1) i_72_20 rfl (by decide) ?_
  refine ev_bipush (p' := 23) (v := 9) i_72_21 rfl (by decide) ?_
  refine ev_s3I (p' := 26) i_72_23 rfl cl_11_89_0 (by decide) (Nat.le_of_ble_eq_true rfl) (s_outside _ _ _ _) ?_
  refine ev_if_ne (p' := 29) (tg := 61) i_72_26 rfl rfl (fun c26 => absurd c26 (fun z => z (B_f (nj (in1 ht1 ht (by decide) rfl))))) (fun c26 => ?_)
  refine ev_iload (p' := 31) i_72_29 rfl rfl ?_
  refine ev_iconst (p' := 32) (v := 0) i_72_31 rfl (by decide) ?_
  refine ev_bipush (p' := 34) (v := 9) i_72_32 rfl (by decide) ?_
  refine ev_s3I (p' := 37) i_72_34 rfl cl_11_89_0 (by decide) (Nat.le_of_ble_eq_true rfl) (s_outside _ _ _ _) ?_
  refine ev_if_ne (p' := 40) (tg := 61) i_72_37 rfl rfl (fun c37 => absurd c37 (fun z => z (B_f (nj (in0 hr (by decide) rfl))))) (fun c37 => ?_)
  refine ev_iload (p' := 42) i_72_40 rfl rfl ?_
  refine ev_iconst (p' := 43) (v := -1) i_72_42 rfl (by decide) ?_
  refine ev_aload_n (p' := 44) i_72_43 rfl rfl ?_
  refine ev_getr (p' := 47) i_72_44 rfl fl_11_78 rfl is_1 (rf_1_0 hw) ?_
  refine ev_getr (p' := 50) i_72_47 rfl fl_11_97 rfl (is_sp sp_17) (hw.page sp_17) ?_
  refine ev_geti (p' := 53) i_72_50 rfl fl_11_100 rfl (is_pg pg_33) ?_
  rw [hn]
  refine ev_iconst (p' := 54) (v := 1) i_72_53 rfl (by decide) ?_
  refine ev_isub (p' := 55) i_72_54 rfl ?_
  refine ev_s3I (p' := 58) i_72_55 rfl cl_11_89_0 (by decide) (Nat.le_of_ble_eq_true rfl) (s_outside _ _ _ _) ?_
  refine ev_if_eq (p' := 61) (tg := 66) i_72_58 rfl rfl (fun c58 => ?_) (fun c58 => absurd (B_f (nj hx)) c58)
  refine ev_aload_n (p' := 67) i_72_66 rfl rfl ?_
  refine ev_getr (p' := 70) i_72_67 rfl fl_11_78 rfl is_1 (rf_1_0 hw) ?_
  refine ev_getr (p' := 73) i_72_70 rfl fl_11_97 rfl (is_sp sp_17) (hw.page sp_17) ?_
  refine ev_v0I (p' := 76) i_72_73 rfl cl_11_107_2 (by decide) (is_pg pg_33) (Nat.le_of_ble_eq_true rfl) (s_isFull (π := π) _ pg_33) ?_
  refine ev_if_eq (p' := 79) (tg := 84) i_72_76 rfl rfl (fun c76 => absurd c76 (B_tn (by rw [hn, h6]; decide))) (fun c76 => ?_)
  refine ev_aload_n (p' := 80) i_72_79 rfl rfl ?_
  refine ev_v0I (p' := 83) i_72_80 rfl cl_11_111_11 (by decide) is_1 (Nat.le_of_ble_eq_true rfl) (s_full _) ?_
  exact ev_iretI i_72_83 rfl (EC.mk rfl hw (hc.full hw))
theorem R_piece_full (L d : Nat) (A : AV) (hA : okA A) {k a t r : Nat} (x : Int32) (hk : k ≤ 5) (ha1 : 1 ≤ a) (ha : a ≤ 9) (ht1 : 1 ≤ t) (ht : t ≤ 9) (hr : r ≤ 9) (hx : -1 ≤ x ∧ x ≤ nI A.1.1.1 - 1) (h6 : A.1.1.1 = 7) : Rst L (d + 24) 146 [.int (nI k), .int (nI a), .int (nI t), .int (nI r), .int x] A (.int (-4)) (fullA A) := by
  refine R_of (q := q_146) rfl (Nat.le_of_ble_eq_true rfl) rfl (fun π mi ml mr hw hc => ?_)
  have hn := hc.hn
  have h7 := hA.n7
  refine ev_iload_n (p' := 1) i_146_0 rfl rfl ?_
  refine ev_iconst (p' := 2) (v := 0) i_146_1 rfl (by decide) ?_
  refine ev_iconst (p' := 3) (v := 5) i_146_2 rfl (by decide) ?_
  refine ev_s3I (p' := 6) i_146_3 rfl cl_12_115_0 (by decide) (Nat.le_of_ble_eq_true rfl) (s_in _ _ _ _) ?_
  refine ev_if_eq (p' := 9) (tg := 55) i_146_6 rfl rfl (fun c6 => absurd c6 (B_tn (in0 hk (by decide) rfl))) (fun c6 => ?_)
  refine ev_iload_n (p' := 10) i_146_9 rfl rfl ?_
  refine ev_iconst (p' := 11) (v := 1) i_146_10 rfl (by decide) ?_
  refine ev_bipush (p' := 13) (v := 9) i_146_11 rfl (by decide) ?_
  refine ev_s3I (p' := 16) i_146_13 rfl cl_12_115_0 (by decide) (Nat.le_of_ble_eq_true rfl) (s_in _ _ _ _) ?_
  refine ev_if_eq (p' := 19) (tg := 55) i_146_16 rfl rfl (fun c16 => absurd c16 (B_tn (in1 ha1 ha (by decide) rfl))) (fun c16 => ?_)
  refine ev_iload_n (p' := 20) i_146_19 rfl rfl ?_
  refine ev_iconst (p' := 21) (v := 1) i_146_20 rfl (by decide) ?_
  refine ev_bipush (p' := 23) (v := 9) i_146_21 rfl (by decide) ?_
  refine ev_s3I (p' := 26) i_146_23 rfl cl_12_115_0 (by decide) (Nat.le_of_ble_eq_true rfl) (s_in _ _ _ _) ?_
  refine ev_if_eq (p' := 29) (tg := 55) i_146_26 rfl rfl (fun c26 => absurd c26 (B_tn (in1 ht1 ht (by decide) rfl))) (fun c26 => ?_)
  refine ev_iload (p' := 31) i_146_29 rfl rfl ?_
  refine ev_iconst (p' := 32) (v := 0) i_146_31 rfl (by decide) ?_
  refine ev_bipush (p' := 34) (v := 9) i_146_32 rfl (by decide) ?_
  refine ev_s3I (p' := 37) i_146_34 rfl cl_12_115_0 (by decide) (Nat.le_of_ble_eq_true rfl) (s_in _ _ _ _) ?_
  refine ev_if_eq (p' := 40) (tg := 55) i_146_37 rfl rfl (fun c37 => absurd c37 (B_tn (in0 hr (by decide) rfl))) (fun c37 => ?_)
  refine ev_iload (p' := 42) i_146_40 rfl rfl ?_
  refine ev_iconst (p' := 43) (v := -1) i_146_42 rfl (by decide) ?_
  refine ev_aload_n (p' := 44) i_146_43 rfl rfl ?_
  refine ev_geti (p' := 47) i_146_44 rfl fl_12_96 rfl is_285 ?_
  rw [hn]
  refine ev_iconst (p' := 48) (v := 1) i_146_47 rfl (by decide) ?_
  refine ev_isub (p' := 49) i_146_48 rfl ?_
  refine ev_s3I (p' := 52) i_146_49 rfl cl_12_115_0 (by decide) (Nat.le_of_ble_eq_true rfl) (s_in _ _ _ _) ?_
  refine ev_if_ne (p' := 55) (tg := 60) i_146_52 rfl rfl (fun c52 => ?_) (fun c52 => absurd (B_tn hx) c52)
  refine ev_aload_n (p' := 61) i_146_60 rfl rfl ?_
  refine ev_geti (p' := 64) i_146_61 rfl fl_12_96 rfl is_285 ?_
  refine ev_bipush (p' := 66) (v := 7) i_146_64 rfl (by decide) ?_
  refine ev_icmp_ne (p' := 69) (tg := 76) i_146_66 rfl rfl (fun c66 => absurd c66 (by rw [hn, h6]; decide)) (fun c66 => ?_)
  refine ev_aload_n (p' := 70) i_146_69 rfl rfl ?_
  refine ev_v0I (p' := 73) i_146_70 rfl cl_12_123_12 (by decide) is_285 (Nat.le_of_ble_eq_true rfl) (s_mfull _ hw) ?_
  refine ev_goto (tg := 87) i_146_73 rfl ?_
  exact ev_iretI i_146_87 rfl (ER.mk rfl (hc.full h7))
theorem C_piece (L d : Nat) (A : AV) (hA : okA A) {k a t r : Nat} (x : Int32) (hk : k ≤ 5) (ha1 : 1 ≤ a) (ha : a ≤ 9) (ht1 : 1 ≤ t) (ht : t ≤ 9) (hr : r ≤ 9) (hx : -1 ≤ x ∧ x ≤ nI A.1.1.1 - 1) (h6 : A.1.1.1 < 7) : Cst L (d + 24) 72 [.int (nI k), .int (nI a), .int (nI t), .int (nI r), .int x] A (.int (nI A.1.1.1)) (((glueV A.1.1 (nI k) (nI a) (nI t) (nI r) x, (0, A.1.2.1.2), A.1.2.2), A.2)) := by
  refine C_of (q := q_72) rfl (Nat.le_of_ble_eq_true rfl) rfl (fun π mi ml mr hw hc => ?_)
  have hn := hc.hn
  have h7 := hA.n7
  refine ev_iload_n (p' := 1) i_72_0 rfl rfl ?_
  refine ev_iconst (p' := 2) (v := 0) i_72_1 rfl (by decide) ?_
  refine ev_iconst (p' := 3) (v := 5) i_72_2 rfl (by decide) ?_
  refine ev_s3I (p' := 6) i_72_3 rfl cl_11_89_0 (by decide) (Nat.le_of_ble_eq_true rfl) (s_outside _ _ _ _) ?_
  refine ev_if_ne (p' := 9) (tg := 61) i_72_6 rfl rfl (fun c6 => absurd c6 (fun z => z (B_f (nj (in0 hk (by decide) rfl))))) (fun c6 => ?_)
  refine ev_iload_n (p' := 10) i_72_9 rfl rfl ?_
  refine ev_iconst (p' := 11) (v := 1) i_72_10 rfl (by decide) ?_
  refine ev_bipush (p' := 13) (v := 9) i_72_11 rfl (by decide) ?_
  refine ev_s3I (p' := 16) i_72_13 rfl cl_11_89_0 (by decide) (Nat.le_of_ble_eq_true rfl) (s_outside _ _ _ _) ?_
  refine ev_if_ne (p' := 19) (tg := 61) i_72_16 rfl rfl (fun c16 => absurd c16 (fun z => z (B_f (nj (in1 ha1 ha (by decide) rfl))))) (fun c16 => ?_)
  refine ev_iload_n (p' := 20) i_72_19 rfl rfl ?_
  refine ev_iconst (p' := 21) (v := 1) i_72_20 rfl (by decide) ?_
  refine ev_bipush (p' := 23) (v := 9) i_72_21 rfl (by decide) ?_
  refine ev_s3I (p' := 26) i_72_23 rfl cl_11_89_0 (by decide) (Nat.le_of_ble_eq_true rfl) (s_outside _ _ _ _) ?_
  refine ev_if_ne (p' := 29) (tg := 61) i_72_26 rfl rfl (fun c26 => absurd c26 (fun z => z (B_f (nj (in1 ht1 ht (by decide) rfl))))) (fun c26 => ?_)
  refine ev_iload (p' := 31) i_72_29 rfl rfl ?_
  refine ev_iconst (p' := 32) (v := 0) i_72_31 rfl (by decide) ?_
  refine ev_bipush (p' := 34) (v := 9) i_72_32 rfl (by decide) ?_
  refine ev_s3I (p' := 37) i_72_34 rfl cl_11_89_0 (by decide) (Nat.le_of_ble_eq_true rfl) (s_outside _ _ _ _) ?_
  refine ev_if_ne (p' := 40) (tg := 61) i_72_37 rfl rfl (fun c37 => absurd c37 (fun z => z (B_f (nj (in0 hr (by decide) rfl))))) (fun c37 => ?_)
  refine ev_iload (p' := 42) i_72_40 rfl rfl ?_
  refine ev_iconst (p' := 43) (v := -1) i_72_42 rfl (by decide) ?_
  refine ev_aload_n (p' := 44) i_72_43 rfl rfl ?_
  refine ev_getr (p' := 47) i_72_44 rfl fl_11_78 rfl is_1 (rf_1_0 hw) ?_
  refine ev_getr (p' := 50) i_72_47 rfl fl_11_97 rfl (is_sp sp_17) (hw.page sp_17) ?_
  refine ev_geti (p' := 53) i_72_50 rfl fl_11_100 rfl (is_pg pg_33) ?_
  rw [hn]
  refine ev_iconst (p' := 54) (v := 1) i_72_53 rfl (by decide) ?_
  refine ev_isub (p' := 55) i_72_54 rfl ?_
  refine ev_s3I (p' := 58) i_72_55 rfl cl_11_89_0 (by decide) (Nat.le_of_ble_eq_true rfl) (s_outside _ _ _ _) ?_
  refine ev_if_eq (p' := 61) (tg := 66) i_72_58 rfl rfl (fun c58 => ?_) (fun c58 => absurd (B_f (nj hx)) c58)
  refine ev_aload_n (p' := 67) i_72_66 rfl rfl ?_
  refine ev_getr (p' := 70) i_72_67 rfl fl_11_78 rfl is_1 (rf_1_0 hw) ?_
  refine ev_getr (p' := 73) i_72_70 rfl fl_11_97 rfl (is_sp sp_17) (hw.page sp_17) ?_
  refine ev_v0I (p' := 76) i_72_73 rfl cl_11_107_2 (by decide) (is_pg pg_33) (Nat.le_of_ble_eq_true rfl) (s_isFull (π := π) _ pg_33) ?_
  refine ev_if_eq (p' := 79) (tg := 84) i_72_76 rfl rfl (fun c76 => ?_) (fun c76 => absurd (B_f (fun z => z (by rw [hn]; exact nI_lt (b := 7) h6 (by decide)))) c76)
  refine ev_aload_n (p' := 85) i_72_84 rfl rfl ?_
  refine ev_getr (p' := 88) i_72_85 rfl fl_11_78 rfl is_1 (rf_1_0 hw) ?_
  refine ev_iconst (p' := 89) (v := 0) i_72_88 rfl (by decide) ?_
  refine ev_puti (p' := 92) i_72_89 rfl fl_11_114 rfl (is_sp sp_17) (gc_sp sp_17) rfl ?_
  refine ev_aload_n (p' := 93) i_72_92 rfl rfl ?_
  refine ev_getr (p' := 96) i_72_93 rfl fl_11_78 rfl is_1 (rf_1_0 hw) ?_
  refine ev_getr (p' := 99) i_72_96 rfl fl_11_97 rfl (is_sp sp_17) (hw.page sp_17) ?_
  refine ev_iload_n (p' := 100) i_72_99 rfl rfl ?_
  refine ev_iload_n (p' := 101) i_72_100 rfl rfl ?_
  refine ev_iload_n (p' := 102) i_72_101 rfl rfl ?_
  refine ev_iload (p' := 104) i_72_102 rfl rfl ?_
  refine ev_iload (p' := 106) i_72_104 rfl rfl ?_
  refine ev_v5I (p' := 109) i_72_106 rfl cl_11_117_2 (by decide) (is_pg pg_33) (Nat.le_of_ble_eq_true rfl) (s_glue _ hw pg_33 (by omega) (by rw [pm_u_ne (by decide)]; exact hn) (by omega) h6 _ _ _ _) ?_
  exact ev_iretI i_72_109 rfl (EC.mk rfl hw ((hc.u0 hw).page (w := glueV A.1.1 (nI k) (nI a) (nI t) (nI r) x) hw ((hc.u0 hw).pg.glue h6 (by omega)) (fun b hb => glm_ne (by omega) (by omega))))
theorem RR.addP {mi : Nat → Nat → Int32} {ml : Nat → Nat → Int64} {A : AV} {k a t r on : Int32} (h : RR mi ml A) (h6 : A.1.1.1 < 7) : RR (pm_u (pm_u (r9 mi A.1.1.1 k a t r on) 285 1 (nI (A.1.1.1 + 1))) 285 25 0) ml ((glueV A.1.1 k a t r on, (0, A.1.2.1.2), A.1.2.2), A.2) := by
  have he : ∀ b, b ≠ 285 → (b < 287 ∨ 293 < b) → pm_u (pm_u (r9 mi A.1.1.1 k a t r on) 285 1 (nI (A.1.1.1 + 1))) 285 25 0 b = mi b := fun b h1 h2 => by rw [pm_u_ne h1, pm_u_ne h1, r9_ne h2]
  have hj : ∀ j, j ≠ 1 → j ≠ 25 → pm_u (pm_u (r9 mi A.1.1.1 k a t r on) 285 1 (nI (A.1.1.1 + 1))) 285 25 0 285 j = mi 285 j := fun j h1 h2 => by rw [pm_u_oth h2, pm_u_oth h1, r9_ne (by omega)]
  refine h.up ⟨h.1.1.glue (by rw [pm_u_oth (by decide), pm_u_self]) (hj 2 (by decide) (by decide)) (hj 3 (by decide) (by decide)) (fun j hj => by rw [pm_u_ne (by omega), pm_u_ne (by omega)]), ⟨pm_u_self, fun i hi => absurd hi (Nat.not_lt_zero i)⟩, ⟨(hj 4 (by decide) (by decide)).trans h.1.2.2.1.1, fun i hi j hj' => by rw [he 294 (by decide) (by omega)]; exact h.1.2.2.1.2 i hi j hj'⟩, (hj 5 (by decide) (by decide)).trans h.1.2.2.2.1, fun i hi => by rw [he 295 (by decide) (by omega), he 296 (by decide) (by omega)]; exact h.1.2.2.2.2 i hi⟩ (fun b hb => he b (by omega) (by omega)) (hj 17 (by decide) (by decide)) (hj 22 (by decide) (by decide))
theorem R_piece (L d : Nat) (A : AV) (hA : okA A) {k a t r : Nat} (x : Int32) (hk : k ≤ 5) (ha1 : 1 ≤ a) (ha : a ≤ 9) (ht1 : 1 ≤ t) (ht : t ≤ 9) (hr : r ≤ 9) (hx : -1 ≤ x ∧ x ≤ nI A.1.1.1 - 1) (h6 : A.1.1.1 < 7) : Rst L (d + 24) 146 [.int (nI k), .int (nI a), .int (nI t), .int (nI r), .int x] A (.int (nI A.1.1.1)) (((glueV A.1.1 (nI k) (nI a) (nI t) (nI r) x, (0, A.1.2.1.2), A.1.2.2), A.2)) := by
  refine R_of (q := q_146) rfl (Nat.le_of_ble_eq_true rfl) rfl (fun π mi ml mr hw hc => ?_)
  have hn := hc.hn
  have h7 := hA.n7
  refine ev_iload_n (p' := 1) i_146_0 rfl rfl ?_
  refine ev_iconst (p' := 2) (v := 0) i_146_1 rfl (by decide) ?_
  refine ev_iconst (p' := 3) (v := 5) i_146_2 rfl (by decide) ?_
  refine ev_s3I (p' := 6) i_146_3 rfl cl_12_115_0 (by decide) (Nat.le_of_ble_eq_true rfl) (s_in _ _ _ _) ?_
  refine ev_if_eq (p' := 9) (tg := 55) i_146_6 rfl rfl (fun c6 => absurd c6 (B_tn (in0 hk (by decide) rfl))) (fun c6 => ?_)
  refine ev_iload_n (p' := 10) i_146_9 rfl rfl ?_
  refine ev_iconst (p' := 11) (v := 1) i_146_10 rfl (by decide) ?_
  refine ev_bipush (p' := 13) (v := 9) i_146_11 rfl (by decide) ?_
  refine ev_s3I (p' := 16) i_146_13 rfl cl_12_115_0 (by decide) (Nat.le_of_ble_eq_true rfl) (s_in _ _ _ _) ?_
  refine ev_if_eq (p' := 19) (tg := 55) i_146_16 rfl rfl (fun c16 => absurd c16 (B_tn (in1 ha1 ha (by decide) rfl))) (fun c16 => ?_)
  refine ev_iload_n (p' := 20) i_146_19 rfl rfl ?_
  refine ev_iconst (p' := 21) (v := 1) i_146_20 rfl (by decide) ?_
  refine ev_bipush (p' := 23) (v := 9) i_146_21 rfl (by decide) ?_
  refine ev_s3I (p' := 26) i_146_23 rfl cl_12_115_0 (by decide) (Nat.le_of_ble_eq_true rfl) (s_in _ _ _ _) ?_
  refine ev_if_eq (p' := 29) (tg := 55) i_146_26 rfl rfl (fun c26 => absurd c26 (B_tn (in1 ht1 ht (by decide) rfl))) (fun c26 => ?_)
  refine ev_iload (p' := 31) i_146_29 rfl rfl ?_
  refine ev_iconst (p' := 32) (v := 0) i_146_31 rfl (by decide) ?_
  refine ev_bipush (p' := 34) (v := 9) i_146_32 rfl (by decide) ?_
  refine ev_s3I (p' := 37) i_146_34 rfl cl_12_115_0 (by decide) (Nat.le_of_ble_eq_true rfl) (s_in _ _ _ _) ?_
  refine ev_if_eq (p' := 40) (tg := 55) i_146_37 rfl rfl (fun c37 => absurd c37 (B_tn (in0 hr (by decide) rfl))) (fun c37 => ?_)
  refine ev_iload (p' := 42) i_146_40 rfl rfl ?_
  refine ev_iconst (p' := 43) (v := -1) i_146_42 rfl (by decide) ?_
  refine ev_aload_n (p' := 44) i_146_43 rfl rfl ?_
  refine ev_geti (p' := 47) i_146_44 rfl fl_12_96 rfl is_285 ?_
  rw [hn]
  refine ev_iconst (p' := 48) (v := 1) i_146_47 rfl (by decide) ?_
  refine ev_isub (p' := 49) i_146_48 rfl ?_
  refine ev_s3I (p' := 52) i_146_49 rfl cl_12_115_0 (by decide) (Nat.le_of_ble_eq_true rfl) (s_in _ _ _ _) ?_
  refine ev_if_ne (p' := 55) (tg := 60) i_146_52 rfl rfl (fun c52 => ?_) (fun c52 => absurd (B_tn hx) c52)
  refine ev_aload_n (p' := 61) i_146_60 rfl rfl ?_
  refine ev_geti (p' := 64) i_146_61 rfl fl_12_96 rfl is_285 ?_
  refine ev_bipush (p' := 66) (v := 7) i_146_64 rfl (by decide) ?_
  refine ev_icmp_ne (p' := 69) (tg := 76) i_146_66 rfl rfl (fun c66 => ?_) (fun c66 => absurd (by rw [hn]; exact fun z => absurd ((nI_eq (b := 7) (by omega) (by decide)).mp z) (by omega)) c66)
  refine ev_aload_n (p' := 77) i_146_76 rfl rfl ?_
  refine ev_iload_n (p' := 78) i_146_77 rfl rfl ?_
  refine ev_iload_n (p' := 79) i_146_78 rfl rfl ?_
  refine ev_iload_n (p' := 80) i_146_79 rfl rfl ?_
  refine ev_iload (p' := 82) i_146_80 rfl rfl ?_
  refine ev_iload (p' := 84) i_146_82 rfl rfl ?_
  refine ev_v5I (p' := 87) i_146_84 rfl cl_12_126_12 (by decide) is_285 (Nat.le_of_ble_eq_true rfl) (s_addPiece _ hw hn h6 _ _ _ _ _) ?_
  exact ev_iretI i_146_87 rfl (ER.mk rfl (hc.addP h6))
theorem okp.glue {v : PV} {k a t r : Nat} {x : Int32} (h : okPV v) (h6 : v.1 < 7) (hk : k ≤ 5) (ha1 : 1 ≤ a) (ha : a ≤ 9) (ht1 : 1 ≤ t) (ht : t ≤ 9) (hr : r ≤ 9) (hx : x = -1 ∨ ∃ j, j < v.1 ∧ x = nI j) : okPV (glueV v (nI k) (nI a) (nI t) (nI r) x) := by
  refine ⟨h6, h.2.1, h.2.2.1, fun i hi => ?_⟩
  have hi' : i < v.1 + 1 := hi
  by_cases hh : i = v.1
  · have e : ∀ j, (glueV v (nI k) (nI a) (nI t) (nI r) x).2.2.2 j i = g7 (nI k) (nI a) (nI t) (nI r) x j := fun j => if_pos hh
    refine ⟨⟨k, by omega, e 0⟩, ⟨a, ha1, by omega, e 1⟩, ⟨t, ht1, by omega, e 2⟩, ⟨r, by omega, e 3⟩, ?_, ⟨0, by decide, e 5⟩, ⟨0, by decide, e 6⟩⟩
    rw [e 4]
    rcases hx with hx | ⟨j, hj, hx⟩
    · exact Or.inl hx
    · exact Or.inr ⟨j, by omega, hx⟩
  · exact okp_cg (h.2.2.2 i (by omega)) (fun j _ => if_neg hh)
theorem ofm1 {x : Int32} {n : Nat} (hn : n ≤ 7) (h : -1 ≤ x ∧ x ≤ nI n - 1) : x = -1 ∨ ∃ j, j < n ∧ x = nI j := by
  by_cases h0 : x < 0
  · refine Or.inl (Int32.toInt_inj.mp ?_)
    have h1 : (-1 : Int32).toInt ≤ x.toInt := Int32.le_iff_toInt_le.mp h.1
    have h2 : x.toInt < (0 : Int32).toInt := Int32.lt_iff_toInt_lt.mp h0
    rw [show (-1 : Int32).toInt = -1 from rfl] at *
    rw [show (0 : Int32).toInt = 0 from rfl] at *
    omega
  · exact Or.inr (ofn hn ⟨Int32.not_lt.mp h0, h.2⟩)
theorem Q_piece (L : Nat) (A : AV) (hA : okA A) (k a t r x : Int32) : SameI L 72 146 [.int k, .int a, .int t, .int r, .int x] A := by
  by_cases h : (0 ≤ k ∧ k ≤ 5) ∧ (1 ≤ a ∧ a ≤ 9) ∧ (1 ≤ t ∧ t ≤ 9) ∧ (0 ≤ r ∧ r ≤ 9) ∧ (-1 ≤ x ∧ x ≤ nI A.1.1.1 - 1)
  · obtain ⟨k, hk, rfl⟩ := of0 (m := 5) h.1 rfl
    obtain ⟨a, ha1, ha, rfl⟩ := of1 (m := 9) h.2.1 rfl
    obtain ⟨t, ht1, ht, rfl⟩ := of1 (m := 9) h.2.2.1 rfl
    obtain ⟨r, hr, rfl⟩ := of0 (m := 9) h.2.2.2.1 rfl
    have hx := h.2.2.2.2
    by_cases h6 : A.1.1.1 = 7
    · exact ⟨_, fullA A, hA.full, fun d => C_piece_full L d A hA x hk ha1 ha ht1 ht hr hx h6, fun d => R_piece_full L d A hA x hk ha1 ha ht1 ht hr hx h6⟩
    · have h6' : A.1.1.1 < 7 := by have := hA.n7; omega
      exact ⟨_, ((glueV A.1.1 (nI k) (nI a) (nI t) (nI r) x, (0, A.1.2.1.2), A.1.2.2), A.2), ⟨⟨okp.glue hA.1.1 h6' hk ha1 ha ht1 ht hr (ofm1 hA.n7 hx), ⟨Nat.zero_le _, fun i hi => absurd hi (Nat.not_lt_zero i)⟩, hA.1.2.2⟩, hA.2⟩, fun d => C_piece L d A hA x hk ha1 ha ht1 ht hr hx h6', fun d => R_piece L d A hA x hk ha1 ha ht1 ht hr hx h6'⟩
  · exact ⟨_, badA A, hA.bad, fun d => C_piece_bad L d A hA k a t r x h, fun d => R_piece_bad L d A hA k a t r x h⟩
