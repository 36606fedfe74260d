/-- copyFrom: the spread S is as T then -/
theorem s_spcopy {L : Nat} {π : Nat → Nat → Nat} {mi : Nat → Nat → Int32} {ml : Nat → Nat → Int64} {mr : Nat → Nat → Option Nat} (d : Nat) (hw : WR π mr) {S T : Nat} (hS : S ∈ k_sp) (hT : T ∈ k_sp) (hST : S ≠ T) {v : SV} (h0 : CSp π mi T v) : ∃ mi', pm_ev gC (d + 3) 38 [.ref S, .ref T] (WW L, mi, ml, mr) none (WW L, mi', ml, mr) ∧ CSp π mi' S v ∧ CSp π mi' T v ∧ ∀ a, (a < S ∨ S + 86 ≤ a) → mi' a = mi a := by
  have hf := sp_far S hS T hT hST
  have ho : ∀ a, (a < S + 16 ∨ S + 16 + 9 < a) → cg mi (S + 16) (T + 16) v.1.1 a = mi a := fun a ha => cg_fr h0.1.1 ha
  have key : ∃ r m, (r = none ∧ ∃ mi', m = (WW L, mi', ml, mr) ∧ CSp π mi' S v ∧ CSp π mi' T v ∧ ∀ a, (a < S ∨ S + 86 ≤ a) → mi' a = mi a) ∧ pm_ev gC (d + 3) 38 [.ref S, .ref T] (WW L, mi, ml, mr) r m := by
    refine ev_some (q := q_38) rfl (Nat.le_of_ble_eq_true rfl) rfl ?_
    refine ev_aload_n (p' := 1) i_38_0 rfl rfl ?_
    refine ev_getr (p' := 4) i_38_1 rfl fl_4_38 rfl (is_sp hS) (hw.page hS) ?_
    refine ev_aload_n (p' := 5) i_38_4 rfl rfl ?_
    refine ev_getr (p' := 8) i_38_5 rfl fl_4_38 rfl (is_sp hT) (hw.page hT) ?_
    refine ev_v1V (p' := 11) i_38_8 rfl cl_4_49_2 (by decide) (is_pg (sh_sp _ hS).2.2.2.2.2.2.1) (Nat.le_of_ble_eq_true rfl) (s_pgc _ hw (pg_sp hS) (pg_sp hT) (by omega) h0.1.1 h0.1.2.1) ?_
    refine ev_aload_n (p' := 12) i_38_11 rfl rfl ?_
    refine ev_aload_n (p' := 13) i_38_12 rfl rfl ?_
    refine ev_geti (p' := 16) i_38_13 rfl fl_4_25 rfl (is_sp hT) ?_
    refine ev_puti (p' := 19) i_38_16 rfl fl_4_25 rfl (is_sp hS) (gc_sp hS) rfl ?_
    refine ev_iconst (p' := 20) (v := nI 0) i_38_19 rfl (by decide) ?_
    refine ev_istore_n (p' := 21) (ls' := [_, _, _]) i_38_20 rfl rfl (by decide) rfl ?_
    rw [ho _ (by omega), h0.2.1.2.1]
    refine l_spc1 (mi0 := mi) hw hS hT hST ?_ h0.2.2.2.1 h0.2.1.1 h0.2.2.1.1 v.2.1.1 0 _ (by omega) ?_ pm_u_self
    · intro mi' hI h4 h5 h6
      exact ⟨rfl, mi', rfl, ⟨hI.2.1, ⟨h0.2.1.1, h4, hI.2.2.1⟩, ⟨h0.2.2.1.1, h5, hI.2.2.2.1⟩, ⟨h0.2.2.2.1, h6, hI.2.2.2.2.1⟩⟩, hI.1, hI.2.2.2.2.2⟩
    · refine SI.mono (mi := cg mi (S + 16) (T + 16) v.1.1) hS hT hST hw ?_ (by omega) _ _ rfl
      exact ⟨h0.out hw hT (fun a h1 h2 => ho a (by omega)), h0.1.copied, fun j hj => absurd hj (by omega), fun j hj => absurd hj (by omega), fun j hj => absurd hj (by omega), fun a ha => ho a (by omega)⟩
  obtain ⟨r, m, ⟨rfl, mi', rfl, h1, h2, h3⟩, h4⟩ := key
  exact ⟨mi', h4, h1, h2, h3⟩
/-- a piece glued on as number n -/
def glm (mi : Nat → Nat → Int32) (P n : Nat) (x0 x1 x2 x3 x4 x7 : Int32) : Nat → Nat → Int32 := fun a j => if a = P + 3 + n ∧ j < 8 then (match j with | 0 => x0 | 1 => x1 | 2 => x2 | 3 => x3 | 4 => x4 | 5 => 0 | 6 => 0 | _ => x7) else if a = P ∧ j = 5 then nI (n + 1) else mi a j
theorem glm_eq {mi : Nat → Nat → Int32} {P n : Nat} {x0 x1 x2 x3 x4 x7 : Int32} : pm_u (pm_u (pm_u (pm_u (pm_u (pm_u (pm_u (pm_u (pm_u mi (P + 3 + n) 0 x0) (P + 3 + n) 1 x1) (P + 3 + n) 2 x2) (P + 3 + n) 3 x3) (P + 3 + n) 4 x4) (P + 3 + n) 5 0) (P + 3 + n) 6 0) (P + 3 + n) 7 x7) P 5 (nI (n + 1)) = glm mi P n x0 x1 x2 x3 x4 x7 := by
  funext a j
  unfold glm
  by_cases ha : a = P + 3 + n
  · subst ha
    by_cases hj : j < 8
    · rw [if_pos ⟨rfl, hj⟩, pm_u_ne (by omega)]
      match j, hj with
      | 0, _ => simp [pm_u]
      | 1, _ => simp [pm_u]
      | 2, _ => simp [pm_u]
      | 3, _ => simp [pm_u]
      | 4, _ => simp [pm_u]
      | 5, _ => simp [pm_u]
      | 6, _ => simp [pm_u]
      | 7, _ => simp [pm_u]
      | j + 8, h => omega
    · rw [if_neg (fun z => hj z.2), if_neg (by omega), pm_u_ne (by omega)]
      unfold pm_u
      rw [if_neg (by omega), if_neg (by omega), if_neg (by omega), if_neg (by omega), if_neg (by omega), if_neg (by omega), if_neg (by omega), if_neg (by omega)]
  · rw [if_neg (fun z => ha z.1)]
    by_cases hp : a = P ∧ j = 5
    · rw [if_pos hp, hp.1, hp.2, pm_u_self]
    · rw [if_neg hp]
      unfold pm_u
      rw [if_neg hp, if_neg (fun z => ha z.1), if_neg (fun z => ha z.1), if_neg (fun z => ha z.1), if_neg (fun z => ha z.1), if_neg (fun z => ha z.1), if_neg (fun z => ha z.1), if_neg (fun z => ha z.1), if_neg (fun z => ha z.1)]
theorem e_glue66 {L : Nat} {π : Nat → Nat → Nat} {mi : Nat → Nat → Int32} {ml : Nat → Nat → Int64} {mr : Nat → Nat → Option Nat} {d : Nat} {E : Option Value → pm_M → Prop} (hw : WR π mr) {P : Nat} (hP : P ∈ k_pg) {k Q : Nat} {a t rw_ on : Int32} (hk6 : k < 6) (kk : Ev gC (pm_ev gC (d + 3)) E q_11 75 [some (.ref P), some (.int (nI k)), some (.int a), some (.int t), some (.int rw_), some (.int on), some (.ref Q)] [.int (brN k), .ref Q] (WW L, mi, ml, mr)) : Ev gC (pm_ev gC (d + 3)) E q_11 66 [some (.ref P), some (.int (nI k)), some (.int a), some (.int t), some (.int rw_), some (.int on), some (.ref Q)] [.ref Q] (WW L, mi, ml, mr) := by
  match k, hk6, kk with
  | 0, _, kk =>
    refine ev_aload_n (p' := 67) i_11_66 rfl rfl ?_
    refine ev_getr (p' := 70) i_11_67 rfl fl_2_31 rfl (is_pg hP) (hw.kinds hP) ?_
    refine ev_iload_n (p' := 71) i_11_70 rfl rfl ?_
    refine ev_aaldN (p' := 72) 26 i_11_71 rfl is_10 (by decide) len_10 (by decide) (by decide) (rf_10_0 hw) ?_
    refine ev_v0I (p' := 75) i_11_72 rfl cl_2_65_8 (by decide) is_11 (Nat.le_of_ble_eq_true rfl) (s_veeB_8 _ is_11) ?_
    exact kk
  | 1, _, kk =>
    refine ev_aload_n (p' := 67) i_11_66 rfl rfl ?_
    refine ev_getr (p' := 70) i_11_67 rfl fl_2_31 rfl (is_pg hP) (hw.kinds hP) ?_
    refine ev_iload_n (p' := 71) i_11_70 rfl rfl ?_
    refine ev_aaldN (p' := 72) 26 i_11_71 rfl is_10 (by decide) len_10 (by decide) (by decide) (rf_10_1 hw) ?_
    refine ev_v0I (p' := 75) i_11_72 rfl cl_2_65_6 (by decide) is_12 (Nat.le_of_ble_eq_true rfl) (s_veeB_6 _ is_12) ?_
    exact kk
  | 2, _, kk =>
    refine ev_aload_n (p' := 67) i_11_66 rfl rfl ?_
    refine ev_getr (p' := 70) i_11_67 rfl fl_2_31 rfl (is_pg hP) (hw.kinds hP) ?_
    refine ev_iload_n (p' := 71) i_11_70 rfl rfl ?_
    refine ev_aaldN (p' := 72) 26 i_11_71 rfl is_10 (by decide) len_10 (by decide) (by decide) (rf_10_2 hw) ?_
    refine ev_v0I (p' := 75) i_11_72 rfl cl_2_65_0 (by decide) is_13 (Nat.le_of_ble_eq_true rfl) (s_boxB_0 _ is_13) ?_
    exact kk
  | 3, _, kk =>
    refine ev_aload_n (p' := 67) i_11_66 rfl rfl ?_
    refine ev_getr (p' := 70) i_11_67 rfl fl_2_31 rfl (is_pg hP) (hw.kinds hP) ?_
    refine ev_iload_n (p' := 71) i_11_70 rfl rfl ?_
    refine ev_aaldN (p' := 72) 26 i_11_71 rfl is_10 (by decide) len_10 (by decide) (by decide) (rf_10_3 hw) ?_
    refine ev_v0I (p' := 75) i_11_72 rfl cl_2_65_1 (by decide) is_14 (Nat.le_of_ble_eq_true rfl) (s_veeB_1 _ is_14) ?_
    exact kk
  | 4, _, kk =>
    refine ev_aload_n (p' := 67) i_11_66 rfl rfl ?_
    refine ev_getr (p' := 70) i_11_67 rfl fl_2_31 rfl (is_pg hP) (hw.kinds hP) ?_
    refine ev_iload_n (p' := 71) i_11_70 rfl rfl ?_
    refine ev_aaldN (p' := 72) 26 i_11_71 rfl is_10 (by decide) len_10 (by decide) (by decide) (rf_10_4 hw) ?_
    refine ev_v0I (p' := 75) i_11_72 rfl cl_2_65_5 (by decide) is_15 (Nat.le_of_ble_eq_true rfl) (s_stageB_5 _ is_15) ?_
    exact kk
  | 5, _, kk =>
    refine ev_aload_n (p' := 67) i_11_66 rfl rfl ?_
    refine ev_getr (p' := 70) i_11_67 rfl fl_2_31 rfl (is_pg hP) (hw.kinds hP) ?_
    refine ev_iload_n (p' := 71) i_11_70 rfl rfl ?_
    refine ev_aaldN (p' := 72) 26 i_11_71 rfl is_10 (by decide) len_10 (by decide) (by decide) (rf_10_5 hw) ?_
    refine ev_v0I (p' := 75) i_11_72 rfl cl_2_65_10 (by decide) is_16 (Nat.le_of_ble_eq_true rfl) (s_wheelB_10 _ is_16) ?_
    exact kk
  | k + 6, h, _ => exact absurd h (by omega)
theorem s_glue {L : Nat} {π : Nat → Nat → Nat} {mi : Nat → Nat → Int32} {ml : Nat → Nat → Int64} {mr : Nat → Nat → Option Nat} (d : Nat) (hw : WR π mr) {P : Nat} (hP : P ∈ k_pg) {n : Nat} (hn7 : n ≤ 7) (hn : mi P 5 = nI n) {k : Nat} (hk6 : k < 6) (hn6 : n < 7) (a t rw_ on : Int32) : pm_ev gC (d + 4) 11 [.ref P, .int (nI k), .int a, .int t, .int rw_, .int on] (WW L, mi, ml, mr) (some (.int (nI n))) (WW L, glm mi P n (nI k) a t rw_ on (brN k), ml, mr) := by
  refine ev_enter (q := q_11) rfl (Nat.le_of_ble_eq_true rfl) rfl ?_
  refine ev_aload_n (p' := 1) i_11_0 rfl rfl ?_
  refine ev_v0I (p' := 4) i_11_1 rfl cl_2_40_2 (by decide) (is_pg hP) (Nat.le_of_ble_eq_true rfl) (s_isFull (π := π) _ hP) ?_
  refine ev_if_eq (p' := 7) (tg := 9) i_11_4 rfl rfl (fun c4 => ?_) (fun c4 => absurd (B_f (fun z => z (by rw [hn]; have := nI_lt (a := n) (b := 7) (by omega) (by omega); exact this))) c4)
  refine ev_aload_n (p' := 10) i_11_9 rfl rfl ?_
  refine ev_getr (p' := 13) i_11_10 rfl fl_2_11 rfl (is_pg hP) (hw.pieces hP) ?_
  refine ev_aload_n (p' := 14) i_11_13 rfl rfl ?_
  refine ev_geti (p' := 17) i_11_14 rfl fl_2_28 rfl (is_pg hP) ?_
  rw [hn]
  refine ev_aaldN (p' := 18) 25 i_11_17 rfl (is_pgp hP) (by decide) (len_pgp hP) (by omega) (by decide) (hw.piece hP (by omega)) ?_
  refine ev_astore (p' := 20) (ls' := [_, _, _, _, _, _, _]) i_11_18 rfl rfl (by decide) rfl ?_
  refine ev_aload (p' := 22) i_11_20 rfl rfl ?_
  refine ev_iload_n (p' := 23) i_11_22 rfl rfl ?_
  refine ev_puti (p' := 26) i_11_23 rfl fl_2_44 rfl (is_pc hP (by omega)) (gc_pc hP (by omega)) rfl ?_
  refine ev_aload (p' := 28) i_11_26 rfl rfl ?_
  refine ev_iload_n (p' := 29) i_11_28 rfl rfl ?_
  refine ev_puti (p' := 32) i_11_29 rfl fl_2_47 rfl (is_pc hP (by omega)) (gc_pc hP (by omega)) rfl ?_
  refine ev_aload (p' := 34) i_11_32 rfl rfl ?_
  refine ev_iload_n (p' := 35) i_11_34 rfl rfl ?_
  refine ev_puti (p' := 38) i_11_35 rfl fl_2_50 rfl (is_pc hP (by omega)) (gc_pc hP (by omega)) rfl ?_
  refine ev_aload (p' := 40) i_11_38 rfl rfl ?_
  refine ev_iload (p' := 42) i_11_40 rfl rfl ?_
  refine ev_puti (p' := 45) i_11_42 rfl fl_2_53 rfl (is_pc hP (by omega)) (gc_pc hP (by omega)) rfl ?_
  refine ev_aload (p' := 47) i_11_45 rfl rfl ?_
  refine ev_iload (p' := 49) i_11_47 rfl rfl ?_
  refine ev_puti (p' := 52) i_11_49 rfl fl_2_56 rfl (is_pc hP (by omega)) (gc_pc hP (by omega)) rfl ?_
  refine ev_aload (p' := 54) i_11_52 rfl rfl ?_
  refine ev_iconst (p' := 55) (v := 0) i_11_54 rfl (by decide) ?_
  refine ev_puti (p' := 58) i_11_55 rfl fl_2_59 rfl (is_pc hP (by omega)) (gc_pc hP (by omega)) rfl ?_
  refine ev_aload (p' := 60) i_11_58 rfl rfl ?_
  refine ev_iconst (p' := 61) (v := 0) i_11_60 rfl (by decide) ?_
  refine ev_puti (p' := 64) i_11_61 rfl fl_2_62 rfl (is_pc hP (by omega)) (gc_pc hP (by omega)) rfl ?_
  refine ev_aload (p' := 66) i_11_64 rfl rfl ?_
  refine e_glue66 hw hP hk6 ?_
  refine ev_puti (p' := 78) i_11_75 rfl fl_2_71 rfl (is_pc hP (show n < 7 by omega)) (gc_pc hP (show n < 7 by omega)) rfl ?_
  refine ev_aload_n (p' := 79) i_11_78 rfl rfl ?_
  refine ev_dup (p' := 80) i_11_79 rfl rfl ?_
  refine ev_geti (p' := 83) i_11_80 rfl fl_2_28 rfl (is_pg hP) ?_
  rw [u_ne (by omega), u_ne (by omega), u_ne (by omega), u_ne (by omega), u_ne (by omega), u_ne (by omega), u_ne (by omega), u_ne (by omega), hn]
  refine ev_iconst (p' := 84) (v := 1) i_11_83 rfl (by decide) ?_
  refine ev_iadd (p' := 85) i_11_84 rfl ?_
  rw [nI_1]
  refine ev_puti (p' := 88) i_11_85 rfl fl_2_28 rfl (is_pg hP) (gc_pg hP) rfl ?_
  refine ev_aload_n (p' := 89) i_11_88 rfl rfl ?_
  refine ev_geti (p' := 92) i_11_89 rfl fl_2_28 rfl (is_pg hP) ?_
  rw [u_eq ⟨rfl, rfl⟩]
  refine ev_iconst (p' := 93) (v := 1) i_11_92 rfl (by decide) ?_
  refine ev_isub (p' := 94) i_11_93 rfl ?_
  rw [nI_pred, glm_eq]
  exact ev_iretI i_11_94 rfl ⟨rfl, rfl⟩
