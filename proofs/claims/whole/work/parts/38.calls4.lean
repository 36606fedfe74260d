/-! ===== forget, book, note, stood, type, piece ===== -/
theorem CSp.nt {π : Nat → Nat → Nat} {mi mi' : Nat → Nat → Int32} {S m : Nat} {v : SV} {f : Nat → Nat → Int32} {mr : Nat → Nat → Option Nat} (hw : WR π mr) (h : CSp π mi S v) (hm : m ≤ 6) (h5 : mi' S 5 = nI m) (hr : ∀ i, i < m → ∀ j, j < 5 → mi' (S + 3 + i) j = f i j) (he : ∀ a, a ≠ S → ¬ (S + 3 ≤ a ∧ a < S + 9) → mi' a = mi a) (h4 : mi' S 4 = mi S 4) (h6 : mi' S 6 = mi S 6) : CSp π mi' S (v.1, v.2.1, (m, f), v.2.2.2) := by
  obtain ⟨a1, ⟨a2, a3, a4⟩, -, a8, a9, a10⟩ := h
  exact ⟨a1.fr (he _ (by omega) (by omega)) (fun i hi => he _ (by omega) (by omega)), ⟨a2, h4.trans a3, fun i hi => (a4 i hi).fr (he _ (by omega) (by omega)) (fun k hk => he _ (by omega) (by omega))⟩, ⟨hm, h5, hr⟩, a8, h6.trans a9, fun i hi j hj => by rw [he _ (by omega) (by omega)]; exact a10 i hi j hj⟩
theorem CSp.so {π : Nat → Nat → Nat} {mi mi' : Nat → Nat → Int32} {S m : Nat} {v : SV} {f : Nat → Nat → Int32} {mr : Nat → Nat → Option Nat} (hw : WR π mr) (h : CSp π mi S v) (hm : m ≤ 6) (h6 : mi' S 6 = nI m) (hr : ∀ i, i < m → ∀ j, j < 2 → mi' (S + 10 + i) j = f i j) (he : ∀ a, a ≠ S → ¬ (S + 10 ≤ a ∧ a < S + 16) → mi' a = mi a) (h4 : mi' S 4 = mi S 4) (h5 : mi' S 5 = mi S 5) : CSp π mi' S (v.1, v.2.1, v.2.2.1, (m, f)) := by
  obtain ⟨a1, ⟨a2, a3, a4⟩, ⟨a5, a6, a7⟩, -⟩ := h
  exact ⟨a1.fr (he _ (by omega) (by omega)) (fun i hi => he _ (by omega) (by omega)), ⟨a2, h4.trans a3, fun i hi => (a4 i hi).fr (he _ (by omega) (by omega)) (fun k hk => he _ (by omega) (by omega))⟩, ⟨a5, h5.trans a6, fun i hi j hj => by have hi' : i < v.2.2.1.1 := hi; rw [he _ (by omega) (by omega)]; exact a7 i hi j hj⟩, hm, h6, hr⟩
theorem RS0.nt {mi mi' : Nat → Nat → Int32} {m : Nat} {v : SV} {f : Nat → Nat → Int32} (h : RS0 mi v) (h7 : v.1.1 ≤ 7) (h4 : mi' 285 4 = nI m) (hr : ∀ i, i < m → ∀ j, j < 5 → mi' 294 (5 * i + j) = f i j) (he : ∀ a, a ≠ 285 → a ≠ 294 → mi' a = mi a) (hj : ∀ j, j ≠ 4 → mi' 285 j = mi 285 j) : RS0 mi' (v.1, v.2.1, (m, f), v.2.2.2) := by
  obtain ⟨⟨b1, b2, b3, b4⟩, ⟨a1, a2⟩, -, a5, a6⟩ := h
  exact ⟨⟨by rw [hj 1 (by decide)]; exact b1, by rw [hj 2 (by decide)]; exact b2, by rw [hj 3 (by decide)]; exact b3, fun i hi j hj => by rw [he (287 + j) (by omega) (by omega)]; exact b4 i hi j hj⟩, ⟨by rw [hj 25 (by decide)]; exact a1, fun k hk => (a2 k hk).cong (he _ (by decide) (by decide))⟩, ⟨h4, hr⟩, by rw [hj 5 (by decide)]; exact a5, fun i hi => by rw [he 295 (by decide) (by decide), he 296 (by decide) (by decide)]; exact a6 i hi⟩
theorem RS0.so {mi mi' : Nat → Nat → Int32} {m : Nat} {v : SV} {f : Nat → Nat → Int32} (h : RS0 mi v) (h7 : v.1.1 ≤ 7) (h5 : mi' 285 5 = nI m) (hr : ∀ i, i < m → mi' 295 i = f i 0 ∧ mi' 296 i = f i 1) (he : ∀ a, a ≠ 285 → a ≠ 295 → a ≠ 296 → mi' a = mi a) (hj : ∀ j, j ≠ 5 → mi' 285 j = mi 285 j) : RS0 mi' (v.1, v.2.1, v.2.2.1, (m, f)) := by
  obtain ⟨⟨b1, b2, b3, b4⟩, ⟨a1, a2⟩, ⟨a3, a4⟩, -⟩ := h
  exact ⟨⟨by rw [hj 1 (by decide)]; exact b1, by rw [hj 2 (by decide)]; exact b2, by rw [hj 3 (by decide)]; exact b3, fun i hi j hj => by rw [he (287 + j) (by omega) (by omega) (by omega)]; exact b4 i hi j hj⟩, ⟨by rw [hj 25 (by decide)]; exact a1, fun k hk => (a2 k hk).cong (he _ (by decide) (by decide) (by decide))⟩, ⟨by rw [hj 4 (by decide)]; exact a3, fun i hi j hj => by rw [he 294 (by decide) (by decide) (by decide)]; exact a4 i hi j hj⟩, h5, hr⟩
def fgA0 (A : AV) : AV := ((A.1.1, A.1.2.1, (0, A.1.2.2.1.2), A.1.2.2.2), A.2)
def fgA1 (A : AV) : AV := ((A.1.1, A.1.2.1, A.1.2.2.1, (0, A.1.2.2.2.2)), A.2)
theorem okA.fg0 {A : AV} (h : okA A) : okA (fgA0 A) := ⟨⟨h.1.1, h.1.2.1, ⟨Nat.zero_le _, fun i hi => absurd hi (Nat.not_lt_zero i)⟩, h.1.2.2.2⟩, h.2⟩
theorem okA.fg1 {A : AV} (h : okA A) : okA (fgA1 A) := ⟨⟨h.1.1, h.1.2.1, h.1.2.2.1, ⟨Nat.zero_le _, fun i hi => absurd hi (Nat.not_lt_zero i)⟩⟩, h.2⟩
theorem CR.u17 {π : Nat → Nat → Nat} {mi mi' : Nat → Nat → Int32} {a : Nat} (h : ∀ a, a ≠ 17 → mi' a = mi a) (ha : a < 17 ∨ 103 ≤ a) : mi' a = mi a := h a (by omega)
theorem CR.fg0 {π : Nat → Nat → Nat} {mi : Nat → Nat → Int32} {ml : Nat → Nat → Int64} {mr : Nat → Nat → Option Nat} {A : AV} (hw : WR π mr) (h : CR π mi ml A) : CR π (pm_u mi 17 5 0) ml (fgA0 A) :=
  h.up hw (h.1.nt hw (Nat.zero_le _) pm_u_self (fun i hi => absurd hi (Nat.not_lt_zero i)) (fun a h1 _ => pm_u_ne h1) (pm_u_oth (by decide)) (pm_u_oth (by decide))) (fun _ _ => rfl) (fun a ha => pm_u_ne (by omega))
theorem CR.fg1 {π : Nat → Nat → Nat} {mi : Nat → Nat → Int32} {ml : Nat → Nat → Int64} {mr : Nat → Nat → Option Nat} {A : AV} (hw : WR π mr) (h : CR π mi ml A) : CR π (pm_u mi 17 6 0) ml (fgA1 A) :=
  h.up hw (h.1.so hw (Nat.zero_le _) pm_u_self (fun i hi => absurd hi (Nat.not_lt_zero i)) (fun a h1 _ => pm_u_ne h1) (pm_u_oth (by decide)) (pm_u_oth (by decide))) (fun _ _ => rfl) (fun a ha => pm_u_ne (by omega))
theorem pm_u_same {f : Nat → Nat → Int32} {k j : Nat} : pm_u f k j (f k j) = f := by
  funext a i
  unfold pm_u
  split
  · rename_i h; rw [h.1, h.2]
  · rfl
theorem RR.fg0 {mi : Nat → Nat → Int32} {ml : Nat → Nat → Int64} {A : AV} (h7 : A.1.1.1 ≤ 7) (h : RR mi ml A) : RR (pm_u mi 285 4 0) ml (fgA0 A) :=
  h.up (h.1.nt h7 pm_u_self (fun i hi => absurd hi (Nat.not_lt_zero i)) (fun a h1 _ => pm_u_ne h1) (fun j hj => pm_u_oth hj)) (fun a ha => pm_u_ne (by omega)) (pm_u_oth (by decide)) (pm_u_oth (by decide))
theorem RR.fg1 {mi : Nat → Nat → Int32} {ml : Nat → Nat → Int64} {A : AV} (h7 : A.1.1.1 ≤ 7) (h : RR mi ml A) : RR (pm_u mi 285 5 0) ml (fgA1 A) :=
  h.up (h.1.so h7 pm_u_self (fun i hi => absurd hi (Nat.not_lt_zero i)) (fun a h1 _ _ => pm_u_ne h1) (fun j hj => pm_u_oth hj)) (fun a ha => pm_u_ne (by omega)) (pm_u_oth (by decide)) (pm_u_oth (by decide))
theorem C_forget_bad (L d : Nat) (A : AV) (hA : okA A) (x : Int32) (hb : ¬ (0 ≤ x ∧ x ≤ 1)) : Cst L (d + 24) 93 [.int x] A (.int (-2)) (badA A) := by
  refine C_of (q := q_93) rfl (Nat.le_of_ble_eq_true rfl) rfl (fun π mi ml mr hw hc => ?_)
  have hn := hc.hn
  have h7 := hA.n7
  refine ev_iload_n (p' := 1) i_93_0 rfl rfl ?_
  by_cases hx0 : x = 0
  · subst hx0
    refine ev_ls (tg := 28) i_93_1 (by decide) (by decide) ?_
    exact absurd (by decide) hb
  by_cases hx1 : x = 1
  · subst hx1
    refine ev_ls (tg := 46) i_93_1 (by decide) (by decide) ?_
    exact absurd (by decide) hb
  · refine ev_ls (tg := 64) i_93_1 (by decide) (by rw [lv_osw hx0 (by decide), lv_osw hx1 (by decide)]; rfl) ?_
    refine ev_aload_n (p' := 65) i_93_64 rfl rfl ?_
    refine ev_v0I (p' := 68) i_93_65 rfl cl_11_93_11 (by decide) is_1 (Nat.le_of_ble_eq_true rfl) (s_bad _) ?_
    exact ev_iretI i_93_68 rfl (EC.mk rfl hw (hc.bad hw))
theorem R_forget_bad (L d : Nat) (A : AV) (hA : okA A) (x : Int32) (hb : ¬ (0 ≤ x ∧ x ≤ 1)) : Rst L (d + 24) 201 [.int x] A (.int (-2)) (badA A) := by
  refine R_of (q := q_201) rfl (Nat.le_of_ble_eq_true rfl) rfl (fun π mi ml mr hw hc => ?_)
  have hn := hc.hn
  have h7 := hA.n7
  refine ev_iload_n (p' := 1) i_201_0 rfl rfl ?_
  refine ev_iconst (p' := 2) (v := 0) i_201_1 rfl (by decide) ?_
  refine ev_iconst (p' := 3) (v := 1) i_201_2 rfl (by decide) ?_
  refine ev_s3I (p' := 6) i_201_3 rfl cl_12_115_0 (by decide) (Nat.le_of_ble_eq_true rfl) (s_in _ _ _ _) ?_
  refine ev_if_ne (p' := 9) (tg := 14) i_201_6 rfl rfl (fun c6 => ?_) (fun c6 => ?_)
  · replace c6 := B1 c6
    exact absurd c6 hb
  · replace c6 := B0n c6
    refine ev_aload_n (p' := 10) i_201_9 rfl rfl ?_
    refine ev_v0I (p' := 13) i_201_10 rfl cl_12_119_12 (by decide) is_285 (Nat.le_of_ble_eq_true rfl) (s_mbad _ hw) ?_
    exact ev_iretI i_201_13 rfl (ER.mk rfl (hc.bad h7))
theorem C_forget0 (L d : Nat) (A : AV) (hA : okA A)  : Cst L (d + 24) 93 [.int 0] A (.int (nI A.1.2.2.1.1)) (fgA0 A) := by
  refine C_of (q := q_93) rfl (Nat.le_of_ble_eq_true rfl) rfl (fun π mi ml mr hw hc => ?_)
  have hn := hc.hn
  have h7 := hA.n7
  refine ev_iload_n (p' := 1) i_93_0 rfl rfl ?_
  refine ev_ls (tg := 28) i_93_1 (by decide) (by decide) ?_
  refine ev_aload_n (p' := 29) i_93_28 rfl rfl ?_
  refine ev_getr (p' := 32) i_93_29 rfl fl_11_78 rfl is_1 (rf_1_0 hw) ?_
  refine ev_geti (p' := 35) i_93_32 rfl fl_11_170 rfl (is_sp sp_17) ?_
  refine ev_istore_n (p' := 36) (ls' := [_, _, _]) i_93_35 rfl rfl (by decide) rfl ?_
  refine ev_aload_n (p' := 37) i_93_36 rfl rfl ?_
  refine ev_getr (p' := 40) i_93_37 rfl fl_11_78 rfl is_1 (rf_1_0 hw) ?_
  refine ev_iconst (p' := 41) (v := 0) i_93_40 rfl (by decide) ?_
  refine ev_puti (p' := 44) i_93_41 rfl fl_11_170 rfl (is_sp sp_17) (gc_sp sp_17) rfl ?_
  refine ev_iload_n (p' := 45) i_93_44 rfl rfl ?_
  exact ev_iretI i_93_45 rfl (EC.mk (congrArg Value.int hc.1.2.2.1.2.1) hw (hc.fg0 hw))
theorem R_forget0 (L d : Nat) (A : AV) (hA : okA A)  : Rst L (d + 24) 201 [.int 0] A (.int (nI A.1.2.2.1.1)) (fgA0 A) := by
  refine R_of (q := q_201) rfl (Nat.le_of_ble_eq_true rfl) rfl (fun π mi ml mr hw hc => ?_)
  have hn := hc.hn
  have h7 := hA.n7
  refine ev_iload_n (p' := 1) i_201_0 rfl rfl ?_
  refine ev_iconst (p' := 2) (v := 0) i_201_1 rfl (by decide) ?_
  refine ev_iconst (p' := 3) (v := 1) i_201_2 rfl (by decide) ?_
  refine ev_s3I (p' := 6) i_201_3 rfl cl_12_115_0 (by decide) (Nat.le_of_ble_eq_true rfl) (s_in _ _ _ _) ?_
  refine ev_if_ne (p' := 9) (tg := 14) i_201_6 rfl rfl (fun c6 => ?_) (fun c6 => absurd (B_tn (by decide)) c6)
  refine ev_iload_n (p' := 15) i_201_14 rfl rfl ?_
  refine ev_if_ne (p' := 18) (tg := 25) i_201_15 rfl rfl (fun c15 => absurd c15 (by decide)) (fun c15 => ?_)
  refine ev_aload_n (p' := 19) i_201_18 rfl rfl ?_
  refine ev_geti (p' := 22) i_201_19 rfl fl_12_106 rfl is_285 ?_
  refine ev_goto (tg := 29) i_201_22 rfl ?_
  refine ev_istore_n (p' := 30) (ls' := [_, _, _]) i_201_29 rfl rfl (by decide) rfl ?_
  refine ev_aload_n (p' := 31) i_201_30 rfl rfl ?_
  refine ev_iload_n (p' := 32) i_201_31 rfl rfl ?_
  refine ev_if_ne (p' := 35) (tg := 39) i_201_32 rfl rfl (fun c32 => absurd c32 (by decide)) (fun c32 => ?_)
  refine ev_iconst (p' := 36) (v := 0) i_201_35 rfl (by decide) ?_
  refine ev_goto (tg := 43) i_201_36 rfl ?_
  refine ev_puti (p' := 46) i_201_43 rfl fl_12_106 rfl is_285 (gr (by decide)) rfl ?_
  refine ev_aload_n (p' := 47) i_201_46 rfl rfl ?_
  refine ev_iload_n (p' := 48) i_201_47 rfl rfl ?_
  refine ev_iconst (p' := 49) (v := 1) i_201_48 rfl (by decide) ?_
  refine ev_icmp_ne (p' := 52) (tg := 56) i_201_49 rfl rfl (fun c49 => ?_) (fun c49 => absurd (by decide) c49)
  refine ev_aload_n (p' := 57) i_201_56 rfl rfl ?_
  refine ev_geti (p' := 60) i_201_57 rfl fl_12_109 rfl is_285 ?_
  refine ev_puti (p' := 63) i_201_60 rfl fl_12_109 rfl is_285 (gr (by decide)) rfl ?_
  refine ev_iload_n (p' := 64) i_201_63 rfl rfl ?_
  exact ev_iretI i_201_64 rfl (ER.mk (congrArg Value.int hc.1.2.2.1.1) (by rw [show pm_u (pm_u mi 285 4 0) 285 5 (pm_u mi 285 4 0 285 5) = pm_u mi 285 4 0 from pm_u_same]; exact hc.fg0 h7))
theorem C_forget1 (L d : Nat) (A : AV) (hA : okA A)  : Cst L (d + 24) 93 [.int 1] A (.int (nI A.1.2.2.2.1)) (fgA1 A) := by
  refine C_of (q := q_93) rfl (Nat.le_of_ble_eq_true rfl) rfl (fun π mi ml mr hw hc => ?_)
  have hn := hc.hn
  have h7 := hA.n7
  refine ev_iload_n (p' := 1) i_93_0 rfl rfl ?_
  refine ev_ls (tg := 46) i_93_1 (by decide) (by decide) ?_
  refine ev_aload_n (p' := 47) i_93_46 rfl rfl ?_
  refine ev_getr (p' := 50) i_93_47 rfl fl_11_78 rfl is_1 (rf_1_0 hw) ?_
  refine ev_geti (p' := 53) i_93_50 rfl fl_11_173 rfl (is_sp sp_17) ?_
  refine ev_istore_n (p' := 54) (ls' := [_, _, _]) i_93_53 rfl rfl (by decide) rfl ?_
  refine ev_aload_n (p' := 55) i_93_54 rfl rfl ?_
  refine ev_getr (p' := 58) i_93_55 rfl fl_11_78 rfl is_1 (rf_1_0 hw) ?_
  refine ev_iconst (p' := 59) (v := 0) i_93_58 rfl (by decide) ?_
  refine ev_puti (p' := 62) i_93_59 rfl fl_11_173 rfl (is_sp sp_17) (gc_sp sp_17) rfl ?_
  refine ev_iload_n (p' := 63) i_93_62 rfl rfl ?_
  exact ev_iretI i_93_63 rfl (EC.mk (congrArg Value.int hc.1.2.2.2.2.1) hw (hc.fg1 hw))
theorem R_forget1 (L d : Nat) (A : AV) (hA : okA A)  : Rst L (d + 24) 201 [.int 1] A (.int (nI A.1.2.2.2.1)) (fgA1 A) := by
  refine R_of (q := q_201) rfl (Nat.le_of_ble_eq_true rfl) rfl (fun π mi ml mr hw hc => ?_)
  have hn := hc.hn
  have h7 := hA.n7
  refine ev_iload_n (p' := 1) i_201_0 rfl rfl ?_
  refine ev_iconst (p' := 2) (v := 0) i_201_1 rfl (by decide) ?_
  refine ev_iconst (p' := 3) (v := 1) i_201_2 rfl (by decide) ?_
  refine ev_s3I (p' := 6) i_201_3 rfl cl_12_115_0 (by decide) (Nat.le_of_ble_eq_true rfl) (s_in _ _ _ _) ?_
  refine ev_if_ne (p' := 9) (tg := 14) i_201_6 rfl rfl (fun c6 => ?_) (fun c6 => absurd (B_tn (by decide)) c6)
  refine ev_iload_n (p' := 15) i_201_14 rfl rfl ?_
  refine ev_if_ne (p' := 18) (tg := 25) i_201_15 rfl rfl (fun c15 => ?_) (fun c15 => absurd (by decide) c15)
  refine ev_aload_n (p' := 26) i_201_25 rfl rfl ?_
  refine ev_geti (p' := 29) i_201_26 rfl fl_12_109 rfl is_285 ?_
  refine ev_istore_n (p' := 30) (ls' := [_, _, _]) i_201_29 rfl rfl (by decide) rfl ?_
  refine ev_aload_n (p' := 31) i_201_30 rfl rfl ?_
  refine ev_iload_n (p' := 32) i_201_31 rfl rfl ?_
  refine ev_if_ne (p' := 35) (tg := 39) i_201_32 rfl rfl (fun c32 => ?_) (fun c32 => absurd (by decide) c32)
  refine ev_aload_n (p' := 40) i_201_39 rfl rfl ?_
  refine ev_geti (p' := 43) i_201_40 rfl fl_12_106 rfl is_285 ?_
  refine ev_puti (p' := 46) i_201_43 rfl fl_12_106 rfl is_285 (gr (by decide)) rfl ?_
  refine ev_aload_n (p' := 47) i_201_46 rfl rfl ?_
  refine ev_iload_n (p' := 48) i_201_47 rfl rfl ?_
  refine ev_iconst (p' := 49) (v := 1) i_201_48 rfl (by decide) ?_
  refine ev_icmp_ne (p' := 52) (tg := 56) i_201_49 rfl rfl (fun c49 => absurd c49 (by decide)) (fun c49 => ?_)
  refine ev_iconst (p' := 53) (v := 0) i_201_52 rfl (by decide) ?_
  refine ev_goto (tg := 60) i_201_53 rfl ?_
  refine ev_puti (p' := 63) i_201_60 rfl fl_12_109 rfl is_285 (gr (by decide)) rfl ?_
  refine ev_iload_n (p' := 64) i_201_63 rfl rfl ?_
  exact ev_iretI i_201_64 rfl (ER.mk (congrArg Value.int hc.1.2.2.2.1) (by rw [pm_u_same]; exact hc.fg1 h7))
theorem Q_forget (L : Nat) (A : AV) (hA : okA A) (x : Int32) : SameI L 93 201 [.int x] A := by
  by_cases h : 0 ≤ x ∧ x ≤ 1
  · rcases in01 h with rfl | rfl
    · exact ⟨_, fgA0 A, hA.fg0, fun d => C_forget0 L d A hA, fun d => R_forget0 L d A hA⟩
    · exact ⟨_, fgA1 A, hA.fg1, fun d => C_forget1 L d A hA, fun d => R_forget1 L d A hA⟩
  · exact ⟨_, badA A, hA.bad, fun d => C_forget_bad L d A hA x h, fun d => R_forget_bad L d A hA x h⟩
def newS (v : SV) (w : Int32) : SV := ((0, w, 0, v.1.2.2.2), (0, v.2.1.2), (0, v.2.2.1.2), (0, v.2.2.2.2))
theorem CSp.new {π : Nat → Nat → Nat} {mi' : Nat → Nat → Int32} {S : Nat} {v : SV} {w : Int32} (h1 : mi' (S + 16) 3 = w) (h2 : mi' (S + 16) 4 = 0) (h3 : mi' (S + 16) 5 = 0) (h4 : mi' S 4 = 0) (h5 : mi' S 5 = 0) (h6 : mi' S 6 = 0) : CSp π mi' S (newS v w) :=
  ⟨⟨Nat.zero_le _, h3, h1, h2, fun i hi => absurd hi (Nat.not_lt_zero i)⟩, ⟨Nat.zero_le _, h4, fun i hi => absurd hi (Nat.not_lt_zero i)⟩, ⟨Nat.zero_le _, h5, fun i hi => absurd hi (Nat.not_lt_zero i)⟩, Nat.zero_le _, h6, fun i hi => absurd hi (Nat.not_lt_zero i)⟩
theorem RS0.new {mi' : Nat → Nat → Int32} {v : SV} {w : Int32} (h1 : mi' 285 1 = 0) (h2 : mi' 285 2 = 0) (h3 : mi' 285 3 = w) (h4 : mi' 285 4 = 0) (h5 : mi' 285 5 = 0) (h6 : mi' 285 25 = 0) : RS0 mi' (newS v w) :=
  ⟨⟨h1, h2, h3, fun i hi => absurd hi (Nat.not_lt_zero i)⟩, ⟨h6, fun i hi => absurd hi (Nat.not_lt_zero i)⟩, ⟨h4, fun i hi => absurd hi (Nat.not_lt_zero i)⟩, h5, fun i hi => absurd hi (Nat.not_lt_zero i)⟩
theorem okSV.new {v : SV} {w : Nat} (h1 : 6 ≤ w) (h2 : w ≤ 40) : okSV (newS v (nI w)) :=
  ⟨⟨Nat.zero_le _, ⟨w, h1, h2, rfl⟩, ⟨0, by decide, rfl⟩, fun i hi => absurd hi (Nat.not_lt_zero i)⟩, ⟨Nat.zero_le _, fun i hi => absurd hi (Nat.not_lt_zero i)⟩, ⟨Nat.zero_le _, fun i hi => absurd hi (Nat.not_lt_zero i)⟩, Nat.zero_le _, fun i hi => absurd hi (Nat.not_lt_zero i)⟩
def nw6 (mi : Nat → Nat → Int32) (w : Int32) : Nat → Nat → Int32 := pm_u (pm_u (pm_u (pm_u (pm_u (pm_u mi (17 + 16) 3 w) (17 + 16) 4 0) (17 + 16) 5 0) 17 4 0) 17 5 0) 17 6 0
theorem CR.new {π : Nat → Nat → Nat} {mi : Nat → Nat → Int32} {ml : Nat → Nat → Int64} {mr : Nat → Nat → Option Nat} {A : AV} {w : Int32} (hw : WR π mr) (h : CR π mi ml A) : CR π (nw6 mi w) ml (newS A.1 w, A.2) :=
  h.up hw (CSp.new (by simp [nw6, pm_u]) (by simp [nw6, pm_u]) (by simp [nw6, pm_u]) (by simp [nw6, pm_u]) (by simp [nw6, pm_u]) (by simp [nw6, pm_u])) (fun _ _ => rfl) (fun a ha => by unfold nw6; rw [pm_u_ne (by omega), pm_u_ne (by omega), pm_u_ne (by omega), pm_u_ne (by omega), pm_u_ne (by omega), pm_u_ne (by omega)])
def rn6 (mi : Nat → Nat → Int32) (w : Int32) : Nat → Nat → Int32 := pm_u (pm_u (pm_u (pm_u (pm_u (pm_u mi 285 1 0) 285 2 0) 285 3 w) 285 4 0) 285 5 0) 285 25 0
theorem RR.new {mi : Nat → Nat → Int32} {ml : Nat → Nat → Int64} {A : AV} {w : Int32} (h : RR mi ml A) : RR (rn6 mi w) ml (newS A.1 w, A.2) :=
  h.up (RS0.new (by simp [rn6, pm_u]) (by simp [rn6, pm_u]) (by simp [rn6, pm_u]) (by simp [rn6, pm_u]) (by simp [rn6, pm_u]) (by simp [rn6, pm_u])) (fun a ha => by unfold rn6; rw [pm_u_ne (by omega), pm_u_ne (by omega), pm_u_ne (by omega), pm_u_ne (by omega), pm_u_ne (by omega), pm_u_ne (by omega)]) (by simp [rn6, pm_u]) (by simp [rn6, pm_u])
theorem s_begin {L : Nat} {mi : Nat → Nat → Int32} {ml : Nat → Nat → Int64} {mr : Nat → Nat → Option Nat} (d : Nat) (w : Int32) : pm_ev gR (d + 1) 140 [.ref 285, .int w] (WW L, mi, ml, mr) none (WW L, rn6 mi w, ml, mr) := by
  refine ev_enter (q := q_140) rfl (Nat.le_of_ble_eq_true rfl) rfl ?_
  refine ev_aload_n (p' := 1) i_140_0 rfl rfl ?_
  refine ev_iconst (p' := 2) (v := 0) i_140_1 rfl (by decide) ?_
  refine ev_puti (p' := 5) i_140_2 rfl fl_12_96 rfl is_285 (gr (by decide)) rfl ?_
  refine ev_aload_n (p' := 6) i_140_5 rfl rfl ?_
  refine ev_iconst (p' := 7) (v := 0) i_140_6 rfl (by decide) ?_
  refine ev_puti (p' := 10) i_140_7 rfl fl_12_100 rfl is_285 (gr (by decide)) rfl ?_
  refine ev_aload_n (p' := 11) i_140_10 rfl rfl ?_
  refine ev_iload_n (p' := 12) i_140_11 rfl rfl ?_
  refine ev_puti (p' := 15) i_140_12 rfl fl_12_103 rfl is_285 (gr (by decide)) rfl ?_
  refine ev_aload_n (p' := 16) i_140_15 rfl rfl ?_
  refine ev_iconst (p' := 17) (v := 0) i_140_16 rfl (by decide) ?_
  refine ev_puti (p' := 20) i_140_17 rfl fl_12_106 rfl is_285 (gr (by decide)) rfl ?_
  refine ev_aload_n (p' := 21) i_140_20 rfl rfl ?_
  refine ev_iconst (p' := 22) (v := 0) i_140_21 rfl (by decide) ?_
  refine ev_puti (p' := 25) i_140_22 rfl fl_12_109 rfl is_285 (gr (by decide)) rfl ?_
  refine ev_aload_n (p' := 26) i_140_25 rfl rfl ?_
  refine ev_iconst (p' := 27) (v := 0) i_140_26 rfl (by decide) ?_
  refine ev_puti (p' := 30) i_140_27 rfl fl_12_112 rfl is_285 (gr (by decide)) rfl ?_
  exact ev_ret i_140_30 rfl ⟨rfl, rfl⟩
theorem C_book_bad (L d : Nat) (A : AV) (hA : okA A) (x : Int32) (hb : ¬ (6 ≤ x ∧ x ≤ 40)) : Cst L (d + 24) 71 [.int x] A (.int (-2)) (badA A) := by
  refine C_of (q := q_71) rfl (Nat.le_of_ble_eq_true rfl) rfl (fun π mi ml mr hw hc => ?_)
  have hn := hc.hn
  have h7 := hA.n7
  refine ev_iload_n (p' := 1) i_71_0 rfl rfl ?_
  refine ev_bipush (p' := 3) (v := 6) i_71_1 rfl (by decide) ?_
  refine ev_bipush (p' := 5) (v := 40) i_71_3 rfl (by decide) ?_
  refine ev_s3I (p' := 8) i_71_5 rfl cl_11_89_0 (by decide) (Nat.le_of_ble_eq_true rfl) (s_outside _ _ _ _) ?_
  refine ev_if_eq (p' := 11) (tg := 16) i_71_8 rfl rfl (fun c8 => ?_) (fun c8 => ?_)
  · replace c8 := B0 c8
    exact absurd (ni c8) hb
  · replace c8 := B1 c8
    refine ev_aload_n (p' := 12) i_71_11 rfl rfl ?_
    refine ev_v0I (p' := 15) i_71_12 rfl cl_11_93_11 (by decide) is_1 (Nat.le_of_ble_eq_true rfl) (s_bad _) ?_
    exact ev_iretI i_71_15 rfl (EC.mk rfl hw (hc.bad hw))
theorem R_book_bad (L d : Nat) (A : AV) (hA : okA A) (x : Int32) (hb : ¬ (6 ≤ x ∧ x ≤ 40)) : Rst L (d + 24) 144 [.int x] A (.int (-2)) (badA A) := by
  refine R_of (q := q_144) rfl (Nat.le_of_ble_eq_true rfl) rfl (fun π mi ml mr hw hc => ?_)
  have hn := hc.hn
  have h7 := hA.n7
  refine ev_iload_n (p' := 1) i_144_0 rfl rfl ?_
  refine ev_bipush (p' := 3) (v := 6) i_144_1 rfl (by decide) ?_
  refine ev_bipush (p' := 5) (v := 40) i_144_3 rfl (by decide) ?_
  refine ev_s3I (p' := 8) i_144_5 rfl cl_12_115_0 (by decide) (Nat.le_of_ble_eq_true rfl) (s_in _ _ _ _) ?_
  refine ev_if_ne (p' := 11) (tg := 16) i_144_8 rfl rfl (fun c8 => ?_) (fun c8 => ?_)
  · replace c8 := B1 c8
    exact absurd (c8) hb
  · replace c8 := B0n c8
    refine ev_aload_n (p' := 12) i_144_11 rfl rfl ?_
    refine ev_v0I (p' := 15) i_144_12 rfl cl_12_119_12 (by decide) is_285 (Nat.le_of_ble_eq_true rfl) (s_mbad _ hw) ?_
    exact ev_iretI i_144_15 rfl (ER.mk rfl (hc.bad h7))
theorem C_book (L d : Nat) (A : AV) (hA : okA A) (x : Int32) (hx : 6 ≤ x ∧ x ≤ 40) : Cst L (d + 24) 71 [.int x] A (.int (nI A.1.1.1)) ((newS A.1 x, A.2)) := by
  refine C_of (q := q_71) rfl (Nat.le_of_ble_eq_true rfl) rfl (fun π mi ml mr hw hc => ?_)
  have hn := hc.hn
  have h7 := hA.n7
  refine ev_iload_n (p' := 1) i_71_0 rfl rfl ?_
  refine ev_bipush (p' := 3) (v := 6) i_71_1 rfl (by decide) ?_
  refine ev_bipush (p' := 5) (v := 40) i_71_3 rfl (by decide) ?_
  refine ev_s3I (p' := 8) i_71_5 rfl cl_11_89_0 (by decide) (Nat.le_of_ble_eq_true rfl) (s_outside _ _ _ _) ?_
  refine ev_if_eq (p' := 11) (tg := 16) i_71_8 rfl rfl (fun c8 => ?_) (fun c8 => absurd (B_f (nj hx)) c8)
  refine ev_aload_n (p' := 17) i_71_16 rfl rfl ?_
  refine ev_getr (p' := 20) i_71_17 rfl fl_11_78 rfl is_1 (rf_1_0 hw) ?_
  refine ev_getr (p' := 23) i_71_20 rfl fl_11_97 rfl (is_sp sp_17) (hw.page sp_17) ?_
  refine ev_geti (p' := 26) i_71_23 rfl fl_11_100 rfl (is_pg pg_33) ?_
  refine ev_istore_n (p' := 27) (ls' := [_, _, _]) i_71_26 rfl rfl (by decide) rfl ?_
  refine ev_aload_n (p' := 28) i_71_27 rfl rfl ?_
  refine ev_getr (p' := 31) i_71_28 rfl fl_11_78 rfl is_1 (rf_1_0 hw) ?_
  refine ev_iload_n (p' := 32) i_71_31 rfl rfl ?_
  refine ev_v1V (p' := 35) i_71_32 rfl cl_11_103_4 (by decide) (is_sp sp_17) (Nat.le_of_ble_eq_true rfl) (s_spNew _ hw sp_17 _) ?_
  refine ev_iload_n (p' := 36) i_71_35 rfl rfl ?_
  exact ev_iretI i_71_36 rfl (EC.mk (congrArg Value.int hn) hw (hc.new hw))
theorem R_book (L d : Nat) (A : AV) (hA : okA A) (x : Int32) (hx : 6 ≤ x ∧ x ≤ 40) : Rst L (d + 24) 144 [.int x] A (.int (nI A.1.1.1)) ((newS A.1 x, A.2)) := by
  refine R_of (q := q_144) rfl (Nat.le_of_ble_eq_true rfl) rfl (fun π mi ml mr hw hc => ?_)
  have hn := hc.hn
  have h7 := hA.n7
  refine ev_iload_n (p' := 1) i_144_0 rfl rfl ?_
  refine ev_bipush (p' := 3) (v := 6) i_144_1 rfl (by decide) ?_
  refine ev_bipush (p' := 5) (v := 40) i_144_3 rfl (by decide) ?_
  refine ev_s3I (p' := 8) i_144_5 rfl cl_12_115_0 (by decide) (Nat.le_of_ble_eq_true rfl) (s_in _ _ _ _) ?_
  refine ev_if_ne (p' := 11) (tg := 16) i_144_8 rfl rfl (fun c8 => ?_) (fun c8 => absurd (B_tn hx) c8)
  refine ev_aload_n (p' := 17) i_144_16 rfl rfl ?_
  refine ev_geti (p' := 20) i_144_17 rfl fl_12_96 rfl is_285 ?_
  refine ev_istore_n (p' := 21) (ls' := [_, _, _]) i_144_20 rfl rfl (by decide) rfl ?_
  refine ev_aload_n (p' := 22) i_144_21 rfl rfl ?_
  refine ev_iload_n (p' := 23) i_144_22 rfl rfl ?_
  refine ev_v1V (p' := 26) i_144_23 rfl cl_12_92_12 (by decide) is_285 (Nat.le_of_ble_eq_true rfl) (s_begin _ _) ?_
  refine ev_iload_n (p' := 27) i_144_26 rfl rfl ?_
  exact ev_iretI i_144_27 rfl (ER.mk (congrArg Value.int hn) hc.new)
theorem of6 {v : Int32} (h : 6 ≤ v ∧ v ≤ 40) : ∃ w, 6 ≤ w ∧ w ≤ 40 ∧ v = nI w := by
  obtain ⟨j, h1, h2, e⟩ := of1 (m := 40) ⟨Int32.le_trans (by decide : (1 : Int32) ≤ 6) h.1, h.2⟩ rfl
  subst e
  exact ⟨j, by have := (nI_leI (a := 6) (b := j) (by omega) (by omega)).mp h.1; omega, h2, rfl⟩
theorem Q_book (L : Nat) (A : AV) (hA : okA A) (x : Int32) : SameI L 71 144 [.int x] A := by
  by_cases h : 6 ≤ x ∧ x ≤ 40
  · refine ⟨_, (newS A.1 x, A.2), ⟨?_, hA.2⟩, fun d => C_book L d A hA x h, fun d => R_book L d A hA x h⟩
    obtain ⟨w, h1, h2, rfl⟩ := of6 h
    exact okSV.new h1 h2
  · exact ⟨_, badA A, hA.bad, fun d => C_book_bad L d A hA x h, fun d => R_book_bad L d A hA x h⟩
def nt5 (x0 x1 x2 x3 x4 : Int32) : Nat → Int32
  | 0 => x0
  | 1 => x1
  | 2 => x2
  | 3 => x3
  | _ => x4
def nt2 (x0 x1 : Int32) : Nat → Int32
  | 0 => x0
  | _ => x1
def noteV (v : SV) (x0 x1 x2 x3 x4 : Int32) : SV := (v.1, v.2.1, (v.2.2.1.1 + 1, fun i j => if i = v.2.2.1.1 then nt5 x0 x1 x2 x3 x4 j else v.2.2.1.2 i j), v.2.2.2)
def stoodV (v : SV) (x0 x1 : Int32) : SV := (v.1, v.2.1, v.2.2.1, (v.2.2.2.1 + 1, fun i j => if i = v.2.2.2.1 then nt2 x0 x1 j else v.2.2.2.2 i j))
def u5 (mi : Nat → Nat → Int32) (R b : Nat) (x0 x1 x2 x3 x4 : Int32) : Nat → Nat → Int32 := pm_u (pm_u (pm_u (pm_u (pm_u mi R b x0) R (b + 1) x1) R (b + 2) x2) R (b + 3) x3) R (b + 4) x4
def u2 (mi : Nat → Nat → Int32) (R b : Nat) (x0 x1 : Int32) : Nat → Nat → Int32 := pm_u (pm_u mi R b x0) R (b + 1) x1
theorem u5_ne {mi : Nat → Nat → Int32} {R b a : Nat} {x0 x1 x2 x3 x4 : Int32} (h : a ≠ R) : u5 mi R b x0 x1 x2 x3 x4 a = mi a := by
  unfold u5
  rw [pm_u_ne h, pm_u_ne h, pm_u_ne h, pm_u_ne h, pm_u_ne h]
theorem u5_in {mi : Nat → Nat → Int32} {R b : Nat} {x0 x1 x2 x3 x4 : Int32} : ∀ j, j < 5 → u5 mi R b x0 x1 x2 x3 x4 R (b + j) = nt5 x0 x1 x2 x3 x4 j := by
  intro j hj
  unfold u5
  match j, hj with
  | 0, _ => rw [pm_u_oth (by omega), pm_u_oth (by omega), pm_u_oth (by omega), pm_u_oth (by omega)]; exact pm_u_self
  | 1, _ => rw [pm_u_oth (by omega), pm_u_oth (by omega), pm_u_oth (by omega)]; exact pm_u_self
  | 2, _ => rw [pm_u_oth (by omega), pm_u_oth (by omega)]; exact pm_u_self
  | 3, _ => rw [pm_u_oth (by omega)]; exact pm_u_self
  | 4, _ => exact pm_u_self
  | j + 5, h => omega
theorem u5_out {mi : Nat → Nat → Int32} {R b k : Nat} {x0 x1 x2 x3 x4 : Int32} (h : k < b) : u5 mi R b x0 x1 x2 x3 x4 R k = mi R k := by
  unfold u5
  rw [pm_u_oth (by omega), pm_u_oth (by omega), pm_u_oth (by omega), pm_u_oth (by omega), pm_u_oth (by omega)]
theorem CR.note {π : Nat → Nat → Nat} {mi : Nat → Nat → Int32} {ml : Nat → Nat → Int64} {mr : Nat → Nat → Option Nat} {A : AV} {m : Nat} {x0 x1 x2 x3 x4 : Int32} (hw : WR π mr) (h : CR π mi ml A) (hm : A.1.2.2.1.1 = m) (h6 : m < 6) : CR π (pm_u (u5 mi (17 + 3 + m) 0 x0 x1 x2 x3 x4) 17 5 (nI (m + 1))) ml (noteV A.1 x0 x1 x2 x3 x4, A.2) := by
  subst hm
  refine h.up hw (h.1.nt hw (by omega) pm_u_self (fun i hi j hj => ?_) (fun a h1 h2 => by rw [pm_u_ne h1, u5_ne (by omega)]) (by rw [pm_u_oth (by decide), u5_ne (by omega)]) (by rw [pm_u_oth (by decide), u5_ne (by omega)])) (fun _ _ => rfl) (fun a ha => by rw [pm_u_ne (by omega), u5_ne (by omega)])
  rw [pm_u_ne (by omega)]
  by_cases hh : i = A.1.2.2.1.1
  · rw [if_pos hh, hh]
    have := u5_in (mi := mi) (R := 17 + 3 + A.1.2.2.1.1) (b := 0) (x0 := x0) (x1 := x1) (x2 := x2) (x3 := x3) (x4 := x4) j hj
    rw [Nat.zero_add] at this
    exact this
  · rw [if_neg hh, u5_ne (by omega)]
    exact h.1.2.2.1.2.2 i (by omega) j hj
theorem RR.note {mi : Nat → Nat → Int32} {ml : Nat → Nat → Int64} {A : AV} {m : Nat} {x0 x1 x2 x3 x4 : Int32} (h : RR mi ml A) (h7 : A.1.1.1 ≤ 7) (hm : A.1.2.2.1.1 = m) (h6 : m < 6) : RR (pm_u (u5 mi 294 (5 * m) x0 x1 x2 x3 x4) 285 4 (nI (m + 1))) ml (noteV A.1 x0 x1 x2 x3 x4, A.2) := by
  subst hm
  refine h.up (h.1.nt h7 pm_u_self (fun i hi j hj => ?_) (fun a h1 h2 => by rw [pm_u_ne h1, u5_ne h2]) (fun j hj => by rw [pm_u_oth hj, u5_ne (by decide)])) (fun a ha => by rw [pm_u_ne (by omega), u5_ne (by omega)]) (by rw [pm_u_oth (by decide), u5_ne (by decide)]) (by rw [pm_u_oth (by decide), u5_ne (by decide)])
  rw [pm_u_ne (by decide)]
  by_cases hh : i = A.1.2.2.1.1
  · rw [if_pos hh, hh]
    exact u5_in j hj
  · rw [if_neg hh, u5_out (by omega)]
    exact h.1.2.2.1.2 i (by omega) j hj
theorem okSV.note {v : SV} {x0 x1 x2 x3 x4 : Nat} (h : okSV v) (h6 : v.2.2.1.1 < 6) (h0 : x0 < 7) (h1 : 1 ≤ x1) (h1' : x1 < 10) (h2 : x2 < 13) (h3 : x3 < 4) (h4 : x4 < 21) : okSV (noteV v (nI x0) (nI x1) (nI x2) (nI x3) (nI x4)) := by
  refine ⟨h.1, h.2.1, ⟨h6, fun i hi => ?_⟩, h.2.2.2⟩
  show (∃ k, k < 7 ∧ (if i = v.2.2.1.1 then nt5 (nI x0) (nI x1) (nI x2) (nI x3) (nI x4) 0 else v.2.2.1.2 i 0) = nI k) ∧ (∃ t, 1 ≤ t ∧ t < 10 ∧ (if i = v.2.2.1.1 then nt5 (nI x0) (nI x1) (nI x2) (nI x3) (nI x4) 1 else v.2.2.1.2 i 1) = nI t) ∧ (∃ o, o < 13 ∧ (if i = v.2.2.1.1 then nt5 (nI x0) (nI x1) (nI x2) (nI x3) (nI x4) 2 else v.2.2.1.2 i 2) = nI o) ∧ (∃ p, p < 4 ∧ (if i = v.2.2.1.1 then nt5 (nI x0) (nI x1) (nI x2) (nI x3) (nI x4) 3 else v.2.2.1.2 i 3) = nI p) ∧ ∃ x, x < 21 ∧ (if i = v.2.2.1.1 then nt5 (nI x0) (nI x1) (nI x2) (nI x3) (nI x4) 4 else v.2.2.1.2 i 4) = nI x
  by_cases hh : i = v.2.2.1.1
  · simp only [if_pos hh]
    exact ⟨⟨x0, h0, rfl⟩, ⟨x1, h1, h1', rfl⟩, ⟨x2, h2, rfl⟩, ⟨x3, h3, rfl⟩, ⟨x4, h4, rfl⟩⟩
  · simp only [if_neg hh]
    have hi' : i < v.2.2.1.1 + 1 := hi
    exact h.2.2.1.2 i (by omega)
theorem C_note_bad (L d : Nat) (A : AV) (hA : okA A) (y : Int32) (t : Int32) (z : Int32) (p : Int32) (x : Int32) (hb : ¬ ((0 ≤ y ∧ y ≤ nI A.1.1.1 - 1) ∧ (1 ≤ t ∧ t ≤ 9) ∧ (0 ≤ z ∧ z ≤ 12) ∧ (0 ≤ p ∧ p ≤ 3) ∧ (0 ≤ x ∧ x ≤ 20))) : Cst L (d + 24) 91 [.int y, .int t, .int z, .int p, .int x] A (.int (-2)) (badA A) := by
  refine C_of (q := q_91) rfl (Nat.le_of_ble_eq_true rfl) rfl (fun π mi ml mr hw hc => ?_)
  have hn := hc.hn
  have h7 := hA.n7
  refine ev_aload_n (p' := 1) i_91_0 rfl rfl ?_
  refine ev_iload_n (p' := 2) i_91_1 rfl rfl ?_
  refine ev_v1I (p' := 5) i_91_2 rfl cl_11_158_11 (by decide) is_1 (Nat.le_of_ble_eq_true rfl) (s_noPiece _ hw hn _) ?_
  refine ev_if_ne (p' := 8) (tg := 46) i_91_5 rfl rfl (fun c5 => ?_) (fun c5 => ?_)
  · replace c5 := B1 c5
    refine ev_aload_n (p' := 47) i_91_46 rfl rfl ?_
    refine ev_v0I (p' := 50) i_91_47 rfl cl_11_93_11 (by decide) is_1 (Nat.le_of_ble_eq_true rfl) (s_bad _) ?_
    exact ev_iretI i_91_50 rfl (EC.mk rfl hw (hc.bad hw))
  · replace c5 := B0n c5
    refine ev_iload_n (p' := 9) i_91_8 rfl rfl ?_
    refine ev_iconst (p' := 10) (v := 1) i_91_9 rfl (by decide) ?_
    refine ev_bipush (p' := 12) (v := 9) i_91_10 rfl (by decide) ?_
    refine ev_s3I (p' := 15) i_91_12 rfl cl_11_89_0 (by decide) (Nat.le_of_ble_eq_true rfl) (s_outside _ _ _ _) ?_
    refine ev_if_ne (p' := 18) (tg := 46) i_91_15 rfl rfl (fun c15 => ?_) (fun c15 => ?_)
    · replace c15 := B1 c15
      refine ev_aload_n (p' := 47) i_91_46 rfl rfl ?_
      refine ev_v0I (p' := 50) i_91_47 rfl cl_11_93_11 (by decide) is_1 (Nat.le_of_ble_eq_true rfl) (s_bad _) ?_
      exact ev_iretI i_91_50 rfl (EC.mk rfl hw (hc.bad hw))
    · replace c15 := B0n c15
      refine ev_iload_n (p' := 19) i_91_18 rfl rfl ?_
      refine ev_s1I (p' := 22) i_91_19 rfl cl_11_138_0 (by decide) (Nat.le_of_ble_eq_true rfl) (s_isNoOpening _ _) ?_
      refine ev_if_ne (p' := 25) (tg := 46) i_91_22 rfl rfl (fun c22 => ?_) (fun c22 => ?_)
      · replace c22 := B1 c22
        refine ev_aload_n (p' := 47) i_91_46 rfl rfl ?_
        refine ev_v0I (p' := 50) i_91_47 rfl cl_11_93_11 (by decide) is_1 (Nat.le_of_ble_eq_true rfl) (s_bad _) ?_
        exact ev_iretI i_91_50 rfl (EC.mk rfl hw (hc.bad hw))
      · replace c22 := B0n c22
        refine ev_iload (p' := 27) i_91_25 rfl rfl ?_
        refine ev_iconst (p' := 28) (v := 0) i_91_27 rfl (by decide) ?_
        refine ev_iconst (p' := 29) (v := 3) i_91_28 rfl (by decide) ?_
        refine ev_s3I (p' := 32) i_91_29 rfl cl_11_89_0 (by decide) (Nat.le_of_ble_eq_true rfl) (s_outside _ _ _ _) ?_
        refine ev_if_ne (p' := 35) (tg := 46) i_91_32 rfl rfl (fun c32 => ?_) (fun c32 => ?_)
        · replace c32 := B1 c32
          refine ev_aload_n (p' := 47) i_91_46 rfl rfl ?_
          refine ev_v0I (p' := 50) i_91_47 rfl cl_11_93_11 (by decide) is_1 (Nat.le_of_ble_eq_true rfl) (s_bad _) ?_
          exact ev_iretI i_91_50 rfl (EC.mk rfl hw (hc.bad hw))
        · replace c32 := B0n c32
          refine ev_iload (p' := 37) i_91_35 rfl rfl ?_
          refine ev_iconst (p' := 38) (v := 0) i_91_37 rfl (by decide) ?_
          refine ev_bipush (p' := 40) (v := 20) i_91_38 rfl (by decide) ?_
          refine ev_s3I (p' := 43) i_91_40 rfl cl_11_89_0 (by decide) (Nat.le_of_ble_eq_true rfl) (s_outside _ _ _ _) ?_
          refine ev_if_eq (p' := 46) (tg := 51) i_91_43 rfl rfl (fun c43 => ?_) (fun c43 => ?_)
          · replace c43 := B0 c43
            exact absurd ⟨ni c5, ni c15, ni c22, ni c32, ni c43⟩ hb
          · replace c43 := B1 c43
            refine ev_aload_n (p' := 47) i_91_46 rfl rfl ?_
            refine ev_v0I (p' := 50) i_91_47 rfl cl_11_93_11 (by decide) is_1 (Nat.le_of_ble_eq_true rfl) (s_bad _) ?_
            exact ev_iretI i_91_50 rfl (EC.mk rfl hw (hc.bad hw))
theorem R_note_bad (L d : Nat) (A : AV) (hA : okA A) (y : Int32) (t : Int32) (z : Int32) (p : Int32) (x : Int32) (hb : ¬ ((0 ≤ y ∧ y ≤ nI A.1.1.1 - 1) ∧ (1 ≤ t ∧ t ≤ 9) ∧ (0 ≤ z ∧ z ≤ 12) ∧ (0 ≤ p ∧ p ≤ 3) ∧ (0 ≤ x ∧ x ≤ 20))) : Rst L (d + 24) 199 [.int y, .int t, .int z, .int p, .int x] A (.int (-2)) (badA A) := by
  refine R_of (q := q_199) rfl (Nat.le_of_ble_eq_true rfl) rfl (fun π mi ml mr hw hc => ?_)
  have hn := hc.hn
  have h7 := hA.n7
  refine ev_aload_n (p' := 1) i_199_0 rfl rfl ?_
  refine ev_iload_n (p' := 2) i_199_1 rfl rfl ?_
  refine ev_v1I (p' := 5) i_199_2 rfl cl_12_240_12 (by decide) is_285 (Nat.le_of_ble_eq_true rfl) (s_isPiece (π := π) _ hn _) ?_
  refine ev_if_eq (p' := 8) (tg := 46) i_199_5 rfl rfl (fun c5 => ?_) (fun c5 => ?_)
  · replace c5 := B0 c5
    refine ev_aload_n (p' := 47) i_199_46 rfl rfl ?_
    refine ev_v0I (p' := 50) i_199_47 rfl cl_12_119_12 (by decide) is_285 (Nat.le_of_ble_eq_true rfl) (s_mbad _ hw) ?_
    exact ev_iretI i_199_50 rfl (ER.mk rfl (hc.bad h7))
  · replace c5 := B1 c5
    refine ev_iload_n (p' := 9) i_199_8 rfl rfl ?_
    refine ev_iconst (p' := 10) (v := 1) i_199_9 rfl (by decide) ?_
    refine ev_bipush (p' := 12) (v := 9) i_199_10 rfl (by decide) ?_
    refine ev_s3I (p' := 15) i_199_12 rfl cl_12_115_0 (by decide) (Nat.le_of_ble_eq_true rfl) (s_in _ _ _ _) ?_
    refine ev_if_eq (p' := 18) (tg := 46) i_199_15 rfl rfl (fun c15 => ?_) (fun c15 => ?_)
    · replace c15 := B0 c15
      refine ev_aload_n (p' := 47) i_199_46 rfl rfl ?_
      refine ev_v0I (p' := 50) i_199_47 rfl cl_12_119_12 (by decide) is_285 (Nat.le_of_ble_eq_true rfl) (s_mbad _ hw) ?_
      exact ev_iretI i_199_50 rfl (ER.mk rfl (hc.bad h7))
    · replace c15 := B1 c15
      refine ev_iload_n (p' := 19) i_199_18 rfl rfl ?_
      refine ev_s1I (p' := 22) i_199_19 rfl cl_12_228_0 (by decide) (Nat.le_of_ble_eq_true rfl) (s_isOpening _ _) ?_
      refine ev_if_eq (p' := 25) (tg := 46) i_199_22 rfl rfl (fun c22 => ?_) (fun c22 => ?_)
      · replace c22 := B0 c22
        refine ev_aload_n (p' := 47) i_199_46 rfl rfl ?_
        refine ev_v0I (p' := 50) i_199_47 rfl cl_12_119_12 (by decide) is_285 (Nat.le_of_ble_eq_true rfl) (s_mbad _ hw) ?_
        exact ev_iretI i_199_50 rfl (ER.mk rfl (hc.bad h7))
      · replace c22 := B1 c22
        refine ev_iload (p' := 27) i_199_25 rfl rfl ?_
        refine ev_iconst (p' := 28) (v := 0) i_199_27 rfl (by decide) ?_
        refine ev_iconst (p' := 29) (v := 3) i_199_28 rfl (by decide) ?_
        refine ev_s3I (p' := 32) i_199_29 rfl cl_12_115_0 (by decide) (Nat.le_of_ble_eq_true rfl) (s_in _ _ _ _) ?_
        refine ev_if_eq (p' := 35) (tg := 46) i_199_32 rfl rfl (fun c32 => ?_) (fun c32 => ?_)
        · replace c32 := B0 c32
          refine ev_aload_n (p' := 47) i_199_46 rfl rfl ?_
          refine ev_v0I (p' := 50) i_199_47 rfl cl_12_119_12 (by decide) is_285 (Nat.le_of_ble_eq_true rfl) (s_mbad _ hw) ?_
          exact ev_iretI i_199_50 rfl (ER.mk rfl (hc.bad h7))
        · replace c32 := B1 c32
          refine ev_iload (p' := 37) i_199_35 rfl rfl ?_
          refine ev_iconst (p' := 38) (v := 0) i_199_37 rfl (by decide) ?_
          refine ev_bipush (p' := 40) (v := 20) i_199_38 rfl (by decide) ?_
          refine ev_s3I (p' := 43) i_199_40 rfl cl_12_115_0 (by decide) (Nat.le_of_ble_eq_true rfl) (s_in _ _ _ _) ?_
          refine ev_if_ne (p' := 46) (tg := 51) i_199_43 rfl rfl (fun c43 => ?_) (fun c43 => ?_)
          · replace c43 := B1 c43
            exact absurd ⟨c5, c15, c22, c32, c43⟩ hb
          · replace c43 := B0n c43
            refine ev_aload_n (p' := 47) i_199_46 rfl rfl ?_
            refine ev_v0I (p' := 50) i_199_47 rfl cl_12_119_12 (by decide) is_285 (Nat.le_of_ble_eq_true rfl) (s_mbad _ hw) ?_
            exact ev_iretI i_199_50 rfl (ER.mk rfl (hc.bad h7))
theorem C_note_full (L d : Nat) (A : AV) (hA : okA A) {i t oo p x m : Nat} (hi : i < A.1.1.1) (ht1 : 1 ≤ t) (ht : t ≤ 9) (ho : oo < 13) (hp : p ≤ 3) (hx : x ≤ 20) (hm : A.1.2.2.1.1 = m) (h6 : m = 6) : Cst L (d + 24) 91 [.int (nI i), .int (nI t), .int (nI oo), .int (nI p), .int (nI x)] A (.int (-4)) (fullA A) := by
  refine C_of (q := q_91) rfl (Nat.le_of_ble_eq_true rfl) rfl (fun π mi ml mr hw hc => ?_)
  have hn := hc.hn
  have h7 := hA.n7
  have hm5 : mi 17 5 = nI m := hm ▸ hc.1.2.2.1.2.1
  refine ev_aload_n (p' := 1) i_91_0 rfl rfl ?_
  refine ev_iload_n (p' := 2) i_91_1 rfl rfl ?_
  refine ev_v1I (p' := 5) i_91_2 rfl cl_11_158_11 (by decide) is_1 (Nat.le_of_ble_eq_true rfl) (s_noPiece _ hw hn _) ?_
  refine ev_if_ne (p' := 8) (tg := 46) i_91_5 rfl rfl (fun c5 => absurd c5 (fun z => z (B_f (nj (inn hi h7))))) (fun c5 => ?_)
  refine ev_iload_n (p' := 9) i_91_8 rfl rfl ?_
  refine ev_iconst (p' := 10) (v := 1) i_91_9 rfl (by decide) ?_
  refine ev_bipush (p' := 12) (v := 9) i_91_10 rfl (by decide) ?_
  refine ev_s3I (p' := 15) i_91_12 rfl cl_11_89_0 (by decide) (Nat.le_of_ble_eq_true rfl) (s_outside _ _ _ _) ?_
  refine ev_if_ne (p' := 18) (tg := 46) i_91_15 rfl rfl (fun c15 => absurd c15 (fun z => z (B_f (nj (in1 ht1 ht (by decide) rfl))))) (fun c15 => ?_)
  refine ev_iload_n (p' := 19) i_91_18 rfl rfl ?_
  refine ev_s1I (p' := 22) i_91_19 rfl cl_11_138_0 (by decide) (Nat.le_of_ble_eq_true rfl) (s_isNoOpening _ _) ?_
  refine ev_if_ne (p' := 25) (tg := 46) i_91_22 rfl rfl (fun c22 => absurd c22 (fun z => z (B_f (nj (in0 (m := 12) (by omega) (by decide) rfl))))) (fun c22 => ?_)
  refine ev_iload (p' := 27) i_91_25 rfl rfl ?_
  refine ev_iconst (p' := 28) (v := 0) i_91_27 rfl (by decide) ?_
  refine ev_iconst (p' := 29) (v := 3) i_91_28 rfl (by decide) ?_
  refine ev_s3I (p' := 32) i_91_29 rfl cl_11_89_0 (by decide) (Nat.le_of_ble_eq_true rfl) (s_outside _ _ _ _) ?_
  refine ev_if_ne (p' := 35) (tg := 46) i_91_32 rfl rfl (fun c32 => absurd c32 (fun z => z (B_f (nj (in0 hp (by decide) rfl))))) (fun c32 => ?_)
  refine ev_iload (p' := 37) i_91_35 rfl rfl ?_
  refine ev_iconst (p' := 38) (v := 0) i_91_37 rfl (by decide) ?_
  refine ev_bipush (p' := 40) (v := 20) i_91_38 rfl (by decide) ?_
  refine ev_s3I (p' := 43) i_91_40 rfl cl_11_89_0 (by decide) (Nat.le_of_ble_eq_true rfl) (s_outside _ _ _ _) ?_
  refine ev_if_eq (p' := 46) (tg := 51) i_91_43 rfl rfl (fun c43 => ?_) (fun c43 => absurd (B_f (nj (in0 hx (by decide) rfl))) c43)
  refine ev_aload_n (p' := 52) i_91_51 rfl rfl ?_
  refine ev_getr (p' := 55) i_91_52 rfl fl_11_78 rfl is_1 (rf_1_0 hw) ?_
  refine ev_geti (p' := 58) i_91_55 rfl fl_11_170 rfl (is_sp sp_17) ?_
  refine ev_bipush (p' := 60) (v := 6) i_91_58 rfl (by decide) ?_
  refine ev_icmp_lt (p' := 63) (tg := 68) i_91_60 rfl rfl (fun c60 => absurd c60 (by rw [hm5, h6]; decide)) (fun c60 => ?_)
  refine ev_aload_n (p' := 64) i_91_63 rfl rfl ?_
  refine ev_v0I (p' := 67) i_91_64 rfl cl_11_111_11 (by decide) is_1 (Nat.le_of_ble_eq_true rfl) (s_full _) ?_
  exact ev_iretI i_91_67 rfl (EC.mk rfl hw (hc.full hw))
theorem R_note_full (L d : Nat) (A : AV) (hA : okA A) {i t oo p x m : Nat} (hi : i < A.1.1.1) (ht1 : 1 ≤ t) (ht : t ≤ 9) (ho : oo < 13) (hp : p ≤ 3) (hx : x ≤ 20) (hm : A.1.2.2.1.1 = m) (h6 : m = 6) : Rst L (d + 24) 199 [.int (nI i), .int (nI t), .int (nI oo), .int (nI p), .int (nI x)] A (.int (-4)) (fullA A) := by
  refine R_of (q := q_199) rfl (Nat.le_of_ble_eq_true rfl) rfl (fun π mi ml mr hw hc => ?_)
  have hn := hc.hn
  have h7 := hA.n7
  have hm5 : mi 285 4 = nI m := hm ▸ hc.1.2.2.1.1
  refine ev_aload_n (p' := 1) i_199_0 rfl rfl ?_
  refine ev_iload_n (p' := 2) i_199_1 rfl rfl ?_
  refine ev_v1I (p' := 5) i_199_2 rfl cl_12_240_12 (by decide) is_285 (Nat.le_of_ble_eq_true rfl) (s_isPiece (π := π) _ hn _) ?_
  refine ev_if_eq (p' := 8) (tg := 46) i_199_5 rfl rfl (fun c5 => absurd c5 (B_tn (inn hi h7))) (fun c5 => ?_)
  refine ev_iload_n (p' := 9) i_199_8 rfl rfl ?_
  refine ev_iconst (p' := 10) (v := 1) i_199_9 rfl (by decide) ?_
  refine ev_bipush (p' := 12) (v := 9) i_199_10 rfl (by decide) ?_
  refine ev_s3I (p' := 15) i_199_12 rfl cl_12_115_0 (by decide) (Nat.le_of_ble_eq_true rfl) (s_in _ _ _ _) ?_
  refine ev_if_eq (p' := 18) (tg := 46) i_199_15 rfl rfl (fun c15 => absurd c15 (B_tn (in1 ht1 ht (by decide) rfl))) (fun c15 => ?_)
  refine ev_iload_n (p' := 19) i_199_18 rfl rfl ?_
  refine ev_s1I (p' := 22) i_199_19 rfl cl_12_228_0 (by decide) (Nat.le_of_ble_eq_true rfl) (s_isOpening _ _) ?_
  refine ev_if_eq (p' := 25) (tg := 46) i_199_22 rfl rfl (fun c22 => absurd c22 (B_tn (in0 (m := 12) (by omega) (by decide) rfl))) (fun c22 => ?_)
  refine ev_iload (p' := 27) i_199_25 rfl rfl ?_
  refine ev_iconst (p' := 28) (v := 0) i_199_27 rfl (by decide) ?_
  refine ev_iconst (p' := 29) (v := 3) i_199_28 rfl (by decide) ?_
  refine ev_s3I (p' := 32) i_199_29 rfl cl_12_115_0 (by decide) (Nat.le_of_ble_eq_true rfl) (s_in _ _ _ _) ?_
  refine ev_if_eq (p' := 35) (tg := 46) i_199_32 rfl rfl (fun c32 => absurd c32 (B_tn (in0 hp (by decide) rfl))) (fun c32 => ?_)
  refine ev_iload (p' := 37) i_199_35 rfl rfl ?_
  refine ev_iconst (p' := 38) (v := 0) i_199_37 rfl (by decide) ?_
  refine ev_bipush (p' := 40) (v := 20) i_199_38 rfl (by decide) ?_
  refine ev_s3I (p' := 43) i_199_40 rfl cl_12_115_0 (by decide) (Nat.le_of_ble_eq_true rfl) (s_in _ _ _ _) ?_
  refine ev_if_ne (p' := 46) (tg := 51) i_199_43 rfl rfl (fun c43 => ?_) (fun c43 => absurd (B_tn (in0 hx (by decide) rfl)) c43)
  refine ev_aload_n (p' := 52) i_199_51 rfl rfl ?_
  refine ev_geti (p' := 55) i_199_52 rfl fl_12_106 rfl is_285 ?_
  refine ev_bipush (p' := 57) (v := 6) i_199_55 rfl (by decide) ?_
  refine ev_icmp_ne (p' := 60) (tg := 65) i_199_57 rfl rfl (fun c57 => absurd c57 (by rw [hm5, h6]; decide)) (fun c57 => ?_)
  refine ev_aload_n (p' := 61) i_199_60 rfl rfl ?_
  refine ev_v0I (p' := 64) i_199_61 rfl cl_12_123_12 (by decide) is_285 (Nat.le_of_ble_eq_true rfl) (s_mfull _ hw) ?_
  exact ev_iretI i_199_64 rfl (ER.mk rfl (hc.full h7))
theorem C_note (L d : Nat) (A : AV) (hA : okA A) {i t oo p x m : Nat} (hi : i < A.1.1.1) (ht1 : 1 ≤ t) (ht : t ≤ 9) (ho : oo < 13) (hp : p ≤ 3) (hx : x ≤ 20) (hm : A.1.2.2.1.1 = m) (h6 : m < 6) : Cst L (d + 24) 91 [.int (nI i), .int (nI t), .int (nI oo), .int (nI p), .int (nI x)] A (.int (nI (m + 1))) ((noteV A.1 (nI i) (nI t) (nI oo) (nI p) (nI x), A.2)) := by
  refine C_of (q := q_91) rfl (Nat.le_of_ble_eq_true rfl) rfl (fun π mi ml mr hw hc => ?_)
  have hn := hc.hn
  have h7 := hA.n7
  have hm5 : mi 17 5 = nI m := hm ▸ hc.1.2.2.1.2.1
  refine ev_aload_n (p' := 1) i_91_0 rfl rfl ?_
  refine ev_iload_n (p' := 2) i_91_1 rfl rfl ?_
  refine ev_v1I (p' := 5) i_91_2 rfl cl_11_158_11 (by decide) is_1 (Nat.le_of_ble_eq_true rfl) (s_noPiece _ hw hn _) ?_
  refine ev_if_ne (p' := 8) (tg := 46) i_91_5 rfl rfl (fun c5 => absurd c5 (fun z => z (B_f (nj (inn hi h7))))) (fun c5 => ?_)
  refine ev_iload_n (p' := 9) i_91_8 rfl rfl ?_
  refine ev_iconst (p' := 10) (v := 1) i_91_9 rfl (by decide) ?_
  refine ev_bipush (p' := 12) (v := 9) i_91_10 rfl (by decide) ?_
  refine ev_s3I (p' := 15) i_91_12 rfl cl_11_89_0 (by decide) (Nat.le_of_ble_eq_true rfl) (s_outside _ _ _ _) ?_
  refine ev_if_ne (p' := 18) (tg := 46) i_91_15 rfl rfl (fun c15 => absurd c15 (fun z => z (B_f (nj (in1 ht1 ht (by decide) rfl))))) (fun c15 => ?_)
  refine ev_iload_n (p' := 19) i_91_18 rfl rfl ?_
  refine ev_s1I (p' := 22) i_91_19 rfl cl_11_138_0 (by decide) (Nat.le_of_ble_eq_true rfl) (s_isNoOpening _ _) ?_
  refine ev_if_ne (p' := 25) (tg := 46) i_91_22 rfl rfl (fun c22 => absurd c22 (fun z => z (B_f (nj (in0 (m := 12) (by omega) (by decide) rfl))))) (fun c22 => ?_)
  refine ev_iload (p' := 27) i_91_25 rfl rfl ?_
  refine ev_iconst (p' := 28) (v := 0) i_91_27 rfl (by decide) ?_
  refine ev_iconst (p' := 29) (v := 3) i_91_28 rfl (by decide) ?_
  refine ev_s3I (p' := 32) i_91_29 rfl cl_11_89_0 (by decide) (Nat.le_of_ble_eq_true rfl) (s_outside _ _ _ _) ?_
  refine ev_if_ne (p' := 35) (tg := 46) i_91_32 rfl rfl (fun c32 => absurd c32 (fun z => z (B_f (nj (in0 hp (by decide) rfl))))) (fun c32 => ?_)
  refine ev_iload (p' := 37) i_91_35 rfl rfl ?_
  refine ev_iconst (p' := 38) (v := 0) i_91_37 rfl (by decide) ?_
  refine ev_bipush (p' := 40) (v := 20) i_91_38 rfl (by decide) ?_
  refine ev_s3I (p' := 43) i_91_40 rfl cl_11_89_0 (by decide) (Nat.le_of_ble_eq_true rfl) (s_outside _ _ _ _) ?_
  refine ev_if_eq (p' := 46) (tg := 51) i_91_43 rfl rfl (fun c43 => ?_) (fun c43 => absurd (B_f (nj (in0 hx (by decide) rfl))) c43)
  refine ev_aload_n (p' := 52) i_91_51 rfl rfl ?_
  refine ev_getr (p' := 55) i_91_52 rfl fl_11_78 rfl is_1 (rf_1_0 hw) ?_
  refine ev_geti (p' := 58) i_91_55 rfl fl_11_170 rfl (is_sp sp_17) ?_
  refine ev_bipush (p' := 60) (v := 6) i_91_58 rfl (by decide) ?_
  refine ev_icmp_lt (p' := 63) (tg := 68) i_91_60 rfl rfl (fun c60 => ?_) (fun c60 => absurd (by rw [hm5]; exact nI_lt (b := 6) h6 (by decide)) c60)
  refine ev_aload_n (p' := 69) i_91_68 rfl rfl ?_
  refine ev_getr (p' := 72) i_91_69 rfl fl_11_78 rfl is_1 (rf_1_0 hw) ?_
  refine ev_getr (p' := 75) i_91_72 rfl fl_11_265 rfl (is_sp sp_17) (hw.notes sp_17) ?_
  refine ev_aload_n (p' := 76) i_91_75 rfl rfl ?_
  refine ev_getr (p' := 79) i_91_76 rfl fl_11_78 rfl is_1 (rf_1_0 hw) ?_
  refine ev_geti (p' := 82) i_91_79 rfl fl_11_170 rfl (is_sp sp_17) ?_
  rw [hm5]
  refine ev_aaldN (p' := 83) 27 i_91_82 rfl (is_nt sp_17) (by decide) (len_nt sp_17) (by omega) (by decide) (hw.note sp_17 (by omega)) ?_
  refine ev_astore (p' := 85) (ls' := [_, _, _, _, _, _, _]) i_91_83 rfl rfl (by decide) rfl ?_
  refine ev_aload (p' := 87) i_91_85 rfl rfl ?_
  refine ev_iconst (p' := 88) (v := nI 0) i_91_87 rfl (by decide) ?_
  refine ev_iload_n (p' := 89) i_91_88 rfl rfl ?_
  refine ev_iastN (p' := 90) i_91_89 rfl (is_ntr sp_17 (by omega)) (len_ntr sp_17 (by omega)) (by omega) (by decide) (gc (by omega)) ?_
  refine ev_aload (p' := 92) i_91_90 rfl rfl ?_
  refine ev_iconst (p' := 93) (v := nI 1) i_91_92 rfl (by decide) ?_
  refine ev_iload_n (p' := 94) i_91_93 rfl rfl ?_
  refine ev_iastN (p' := 95) i_91_94 rfl (is_ntr sp_17 (by omega)) (len_ntr sp_17 (by omega)) (by omega) (by decide) (gc (by omega)) ?_
  refine ev_aload (p' := 97) i_91_95 rfl rfl ?_
  refine ev_iconst (p' := 98) (v := nI 2) i_91_97 rfl (by decide) ?_
  refine ev_iload_n (p' := 99) i_91_98 rfl rfl ?_
  refine ev_iastN (p' := 100) i_91_99 rfl (is_ntr sp_17 (by omega)) (len_ntr sp_17 (by omega)) (by omega) (by decide) (gc (by omega)) ?_
  refine ev_aload (p' := 102) i_91_100 rfl rfl ?_
  refine ev_iconst (p' := 103) (v := nI 3) i_91_102 rfl (by decide) ?_
  refine ev_iload (p' := 105) i_91_103 rfl rfl ?_
  refine ev_iastN (p' := 106) i_91_105 rfl (is_ntr sp_17 (by omega)) (len_ntr sp_17 (by omega)) (by omega) (by decide) (gc (by omega)) ?_
  refine ev_aload (p' := 108) i_91_106 rfl rfl ?_
  refine ev_iconst (p' := 109) (v := nI 4) i_91_108 rfl (by decide) ?_
  refine ev_iload (p' := 111) i_91_109 rfl rfl ?_
  refine ev_iastN (p' := 112) i_91_111 rfl (is_ntr sp_17 (by omega)) (len_ntr sp_17 (by omega)) (by omega) (by decide) (gc (by omega)) ?_
  refine ev_aload_n (p' := 113) i_91_112 rfl rfl ?_
  refine ev_getr (p' := 116) i_91_113 rfl fl_11_78 rfl is_1 (rf_1_0 hw) ?_
  refine ev_dup (p' := 117) i_91_116 rfl rfl ?_
  refine ev_geti (p' := 120) i_91_117 rfl fl_11_170 rfl (is_sp sp_17) ?_
  refine ev_iconst (p' := 121) (v := 1) i_91_120 rfl (by decide) ?_
  refine ev_iadd (p' := 122) i_91_121 rfl ?_
  refine ev_puti (p' := 125) i_91_122 rfl fl_11_170 rfl (is_sp sp_17) (gc_sp sp_17) rfl ?_
  refine ev_aload_n (p' := 126) i_91_125 rfl rfl ?_
  refine ev_getr (p' := 129) i_91_126 rfl fl_11_78 rfl is_1 (rf_1_0 hw) ?_
  refine ev_geti (p' := 132) i_91_129 rfl fl_11_170 rfl (is_sp sp_17) ?_
  exact ev_iretI i_91_132 rfl (EC.mk (by rw [pm_u_self]; show Value.int (u5 mi (17 + 3 + m) 0 _ _ _ _ _ 17 5 + 1) = _; rw [u5_ne (by omega), hm5, nI_1]) hw (by show CR π (pm_u (u5 mi (17 + 3 + m) 0 _ _ _ _ _) 17 5 (u5 mi (17 + 3 + m) 0 _ _ _ _ _ 17 5 + 1)) ml _; rw [u5_ne (by omega), hm5, nI_1]; exact hc.note hw hm h6))
theorem R_note (L d : Nat) (A : AV) (hA : okA A) {i t oo p x m : Nat} (hi : i < A.1.1.1) (ht1 : 1 ≤ t) (ht : t ≤ 9) (ho : oo < 13) (hp : p ≤ 3) (hx : x ≤ 20) (hm : A.1.2.2.1.1 = m) (h6 : m < 6) : Rst L (d + 24) 199 [.int (nI i), .int (nI t), .int (nI oo), .int (nI p), .int (nI x)] A (.int (nI (m + 1))) ((noteV A.1 (nI i) (nI t) (nI oo) (nI p) (nI x), A.2)) := by
  refine R_of (q := q_199) rfl (Nat.le_of_ble_eq_true rfl) rfl (fun π mi ml mr hw hc => ?_)
  have hn := hc.hn
  have h7 := hA.n7
  have hm5 : mi 285 4 = nI m := hm ▸ hc.1.2.2.1.1
  refine ev_aload_n (p' := 1) i_199_0 rfl rfl ?_
  refine ev_iload_n (p' := 2) i_199_1 rfl rfl ?_
  refine ev_v1I (p' := 5) i_199_2 rfl cl_12_240_12 (by decide) is_285 (Nat.le_of_ble_eq_true rfl) (s_isPiece (π := π) _ hn _) ?_
  refine ev_if_eq (p' := 8) (tg := 46) i_199_5 rfl rfl (fun c5 => absurd c5 (B_tn (inn hi h7))) (fun c5 => ?_)
  refine ev_iload_n (p' := 9) i_199_8 rfl rfl ?_
  refine ev_iconst (p' := 10) (v := 1) i_199_9 rfl (by decide) ?_
  refine ev_bipush (p' := 12) (v := 9) i_199_10 rfl (by decide) ?_
  refine ev_s3I (p' := 15) i_199_12 rfl cl_12_115_0 (by decide) (Nat.le_of_ble_eq_true rfl) (s_in _ _ _ _) ?_
  refine ev_if_eq (p' := 18) (tg := 46) i_199_15 rfl rfl (fun c15 => absurd c15 (B_tn (in1 ht1 ht (by decide) rfl))) (fun c15 => ?_)
  refine ev_iload_n (p' := 19) i_199_18 rfl rfl ?_
  refine ev_s1I (p' := 22) i_199_19 rfl cl_12_228_0 (by decide) (Nat.le_of_ble_eq_true rfl) (s_isOpening _ _) ?_
  refine ev_if_eq (p' := 25) (tg := 46) i_199_22 rfl rfl (fun c22 => absurd c22 (B_tn (in0 (m := 12) (by omega) (by decide) rfl))) (fun c22 => ?_)
  refine ev_iload (p' := 27) i_199_25 rfl rfl ?_
  refine ev_iconst (p' := 28) (v := 0) i_199_27 rfl (by decide) ?_
  refine ev_iconst (p' := 29) (v := 3) i_199_28 rfl (by decide) ?_
  refine ev_s3I (p' := 32) i_199_29 rfl cl_12_115_0 (by decide) (Nat.le_of_ble_eq_true rfl) (s_in _ _ _ _) ?_
  refine ev_if_eq (p' := 35) (tg := 46) i_199_32 rfl rfl (fun c32 => absurd c32 (B_tn (in0 hp (by decide) rfl))) (fun c32 => ?_)
  refine ev_iload (p' := 37) i_199_35 rfl rfl ?_
  refine ev_iconst (p' := 38) (v := 0) i_199_37 rfl (by decide) ?_
  refine ev_bipush (p' := 40) (v := 20) i_199_38 rfl (by decide) ?_
  refine ev_s3I (p' := 43) i_199_40 rfl cl_12_115_0 (by decide) (Nat.le_of_ble_eq_true rfl) (s_in _ _ _ _) ?_
  refine ev_if_ne (p' := 46) (tg := 51) i_199_43 rfl rfl (fun c43 => ?_) (fun c43 => absurd (B_tn (in0 hx (by decide) rfl)) c43)
  refine ev_aload_n (p' := 52) i_199_51 rfl rfl ?_
  refine ev_geti (p' := 55) i_199_52 rfl fl_12_106 rfl is_285 ?_
  refine ev_bipush (p' := 57) (v := 6) i_199_55 rfl (by decide) ?_
  refine ev_icmp_ne (p' := 60) (tg := 65) i_199_57 rfl rfl (fun c57 => ?_) (fun c57 => absurd (by rw [hm5]; exact fun z => absurd ((nI_eq (b := 6) (by omega) (by decide)).mp z) (by omega)) c57)
  refine ev_iconst (p' := 66) (v := nI 5) i_199_65 rfl (by decide) ?_
  refine ev_aload_n (p' := 67) i_199_66 rfl rfl ?_
  refine ev_geti (p' := 70) i_199_67 rfl fl_12_106 rfl is_285 ?_
  rw [hm5]
  refine ev_imulN (p' := 71) i_199_70 rfl ?_
  refine ev_istore (p' := 73) (ls' := [_, _, _, _, _, _, _]) i_199_71 rfl rfl (by decide) rfl ?_
  refine ev_aload_n (p' := 74) i_199_73 rfl rfl ?_
  refine ev_getr (p' := 77) i_199_74 rfl fl_12_34 rfl is_285 (rf_285_13 hw) ?_
  refine ev_iload (p' := 79) i_199_77 rfl rfl ?_
  refine ev_iload_n (p' := 80) i_199_79 rfl rfl ?_
  refine ev_iastN (p' := 81) i_199_80 rfl is_294 len_294 (by omega) (by decide) (gr (by decide)) ?_
  refine ev_aload_n (p' := 82) i_199_81 rfl rfl ?_
  refine ev_getr (p' := 85) i_199_82 rfl fl_12_34 rfl is_285 (rf_285_13 hw) ?_
  refine ev_iload (p' := 87) i_199_85 rfl rfl ?_
  refine ev_iconst (p' := 88) (v := nI 1) i_199_87 rfl (by decide) ?_
  refine ev_iaddN (p' := 89) i_199_88 rfl ?_
  refine ev_iload_n (p' := 90) i_199_89 rfl rfl ?_
  refine ev_iastN (p' := 91) i_199_90 rfl is_294 len_294 (by omega) (by decide) (gr (by decide)) ?_
  refine ev_aload_n (p' := 92) i_199_91 rfl rfl ?_
  refine ev_getr (p' := 95) i_199_92 rfl fl_12_34 rfl is_285 (rf_285_13 hw) ?_
  refine ev_iload (p' := 97) i_199_95 rfl rfl ?_
  refine ev_iconst (p' := 98) (v := nI 2) i_199_97 rfl (by decide) ?_
  refine ev_iaddN (p' := 99) i_199_98 rfl ?_
  refine ev_iload_n (p' := 100) i_199_99 rfl rfl ?_
  refine ev_iastN (p' := 101) i_199_100 rfl is_294 len_294 (by omega) (by decide) (gr (by decide)) ?_
  refine ev_aload_n (p' := 102) i_199_101 rfl rfl ?_
  refine ev_getr (p' := 105) i_199_102 rfl fl_12_34 rfl is_285 (rf_285_13 hw) ?_
  refine ev_iload (p' := 107) i_199_105 rfl rfl ?_
  refine ev_iconst (p' := 108) (v := nI 3) i_199_107 rfl (by decide) ?_
  refine ev_iaddN (p' := 109) i_199_108 rfl ?_
  refine ev_iload (p' := 111) i_199_109 rfl rfl ?_
  refine ev_iastN (p' := 112) i_199_111 rfl is_294 len_294 (by omega) (by decide) (gr (by decide)) ?_
  refine ev_aload_n (p' := 113) i_199_112 rfl rfl ?_
  refine ev_getr (p' := 116) i_199_113 rfl fl_12_34 rfl is_285 (rf_285_13 hw) ?_
  refine ev_iload (p' := 118) i_199_116 rfl rfl ?_
  refine ev_iconst (p' := 119) (v := nI 4) i_199_118 rfl (by decide) ?_
  refine ev_iaddN (p' := 120) i_199_119 rfl ?_
  refine ev_iload (p' := 122) i_199_120 rfl rfl ?_
  refine ev_iastN (p' := 123) i_199_122 rfl is_294 len_294 (by omega) (by decide) (gr (by decide)) ?_
  refine ev_aload_n (p' := 124) i_199_123 rfl rfl ?_
  refine ev_dup (p' := 125) i_199_124 rfl rfl ?_
  refine ev_geti (p' := 128) i_199_125 rfl fl_12_106 rfl is_285 ?_
  refine ev_iconst (p' := 129) (v := 1) i_199_128 rfl (by decide) ?_
  refine ev_iadd (p' := 130) i_199_129 rfl ?_
  refine ev_puti (p' := 133) i_199_130 rfl fl_12_106 rfl is_285 (gr (by decide)) rfl ?_
  refine ev_aload_n (p' := 134) i_199_133 rfl rfl ?_
  refine ev_geti (p' := 137) i_199_134 rfl fl_12_106 rfl is_285 ?_
  exact ev_iretI i_199_137 rfl (ER.mk (by rw [pm_u_self]; show Value.int (u5 mi 294 (5 * m) _ _ _ _ _ 285 4 + 1) = _; rw [u5_ne (by omega), hm5, nI_1]) (by show RR (pm_u (u5 mi 294 (5 * m) _ _ _ _ _) 285 4 (u5 mi 294 (5 * m) _ _ _ _ _ 285 4 + 1)) ml _; rw [u5_ne (by omega), hm5, nI_1]; exact hc.note h7 hm h6))
theorem Q_note (L : Nat) (A : AV) (hA : okA A) (y t z p x : Int32) : SameI L 91 199 [.int y, .int t, .int z, .int p, .int x] A := by
  by_cases h : (0 ≤ y ∧ y ≤ nI A.1.1.1 - 1) ∧ (1 ≤ t ∧ t ≤ 9) ∧ (0 ≤ z ∧ z ≤ 12) ∧ (0 ≤ p ∧ p ≤ 3) ∧ (0 ≤ x ∧ x ≤ 20)
  · obtain ⟨i, hi, rfl⟩ := ofn hA.n7 h.1
    obtain ⟨t, ht1, ht, rfl⟩ := of1 (m := 9) h.2.1 rfl
    obtain ⟨oo, ho, rfl⟩ := of0 (m := 12) h.2.2.1 rfl
    obtain ⟨p, hp, rfl⟩ := of0 (m := 3) h.2.2.2.1 rfl
    obtain ⟨x, hx, rfl⟩ := of0 (m := 20) h.2.2.2.2 rfl
    by_cases h6 : A.1.2.2.1.1 = 6
    · exact ⟨_, fullA A, hA.full, fun d => C_note_full L d A hA hi ht1 ht (by omega) hp hx rfl h6, fun d => R_note_full L d A hA hi ht1 ht (by omega) hp hx rfl h6⟩
    · have h6' : A.1.2.2.1.1 < 6 := by have := hA.1.2.2.1.1; omega
      exact ⟨_, (noteV A.1 (nI i) (nI t) (nI oo) (nI p) (nI x), A.2), ⟨hA.1.note h6' (by have := hA.n7; omega) ht1 (by omega) (by omega) (by omega) (by omega), hA.2⟩, fun d => C_note L d A hA hi ht1 ht (by omega) hp hx rfl h6', fun d => R_note L d A hA hi ht1 ht (by omega) hp hx rfl h6'⟩
  · exact ⟨_, badA A, hA.bad, fun d => C_note_bad L d A hA y t z p x h, fun d => R_note_bad L d A hA y t z p x h⟩
theorem CR.stood {π : Nat → Nat → Nat} {mi : Nat → Nat → Int32} {ml : Nat → Nat → Int64} {mr : Nat → Nat → Option Nat} {A : AV} {m : Nat} {x0 x1 : Int32} (hw : WR π mr) (h : CR π mi ml A) (hm : A.1.2.2.2.1 = m) (h6 : m < 6) : CR π (pm_u (pm_u (pm_u mi (17 + 10 + m) 0 x0) (17 + 10 + m) 1 x1) 17 6 (nI (m + 1))) ml (stoodV A.1 x0 x1, A.2) := by
  subst hm
  refine h.up hw (h.1.so hw (by omega) pm_u_self (fun i hi j hj => ?_) (fun a h1 h2 => by rw [pm_u_ne h1, pm_u_ne (by omega), pm_u_ne (by omega)]) (by rw [pm_u_oth (by decide), pm_u_ne (by omega), pm_u_ne (by omega)]) (by rw [pm_u_oth (by decide), pm_u_ne (by omega), pm_u_ne (by omega)])) (fun _ _ => rfl) (fun a ha => by rw [pm_u_ne (by omega), pm_u_ne (by omega), pm_u_ne (by omega)])
  rw [pm_u_ne (by omega)]
  by_cases hh : i = A.1.2.2.2.1
  · rw [if_pos hh, hh]
    match j, hj with
    | 0, _ => rw [pm_u_oth (by decide)]; exact pm_u_self
    | 1, _ => exact pm_u_self
    | j + 2, h => omega
  · rw [if_neg hh, pm_u_ne (by omega), pm_u_ne (by omega)]
    exact h.1.2.2.2.2.2 i (by omega) j hj
theorem RR.stood {mi : Nat → Nat → Int32} {ml : Nat → Nat → Int64} {A : AV} {m : Nat} {x0 x1 : Int32} (h : RR mi ml A) (h7 : A.1.1.1 ≤ 7) (hm : A.1.2.2.2.1 = m) (h6 : m < 6) : RR (pm_u (pm_u (pm_u mi 295 m x0) 296 m x1) 285 5 (nI (m + 1))) ml (stoodV A.1 x0 x1, A.2) := by
  subst hm
  refine h.up (h.1.so h7 pm_u_self (fun i hi => ?_) (fun a h1 h2 h3 => by rw [pm_u_ne h1, pm_u_ne h3, pm_u_ne h2]) (fun j hj => by rw [pm_u_oth hj, pm_u_ne (by decide), pm_u_ne (by decide)])) (fun a ha => by rw [pm_u_ne (by omega), pm_u_ne (by omega), pm_u_ne (by omega)]) (by rw [pm_u_oth (by decide), pm_u_ne (by decide), pm_u_ne (by decide)]) (by rw [pm_u_oth (by decide), pm_u_ne (by decide), pm_u_ne (by decide)])
  rw [pm_u_ne (by decide), pm_u_ne (by decide), pm_u_ne (a := 296) (k := 285) (by decide)]
  by_cases hh : i = A.1.2.2.2.1
  · rw [if_pos hh, if_pos hh, hh]
    exact ⟨pm_u_self, pm_u_self⟩
  · rw [if_neg hh, if_neg hh, pm_u_oth hh, pm_u_oth hh, pm_u_ne (by decide)]
    exact h.1.2.2.2.2 i (by omega)
theorem okSV.stood {v : SV} {x0 x1 : Nat} (h : okSV v) (h6 : v.2.2.2.1 < 6) (h0 : x0 < 13) (h1 : x1 < 128) : okSV (stoodV v (nI x0) (nI x1)) := by
  refine ⟨h.1, h.2.1, h.2.2.1, ⟨h6, fun i hi => ?_⟩⟩
  show (∃ o, o < 13 ∧ (if i = v.2.2.2.1 then nt2 (nI x0) (nI x1) 0 else v.2.2.2.2 i 0) = nI o) ∧ ∃ s, s < 128 ∧ (if i = v.2.2.2.1 then nt2 (nI x0) (nI x1) 1 else v.2.2.2.2 i 1) = nI s
  by_cases hh : i = v.2.2.2.1
  · simp only [if_pos hh]
    exact ⟨⟨x0, h0, rfl⟩, ⟨x1, h1, rfl⟩⟩
  · simp only [if_neg hh]
    have hi' : i < v.2.2.2.1 + 1 := hi
    exact h.2.2.2.2 i (by omega)
theorem C_stood_bad (L d : Nat) (A : AV) (hA : okA A) (z : Int32) (x : Int32) (hb : ¬ ((0 ≤ z ∧ z ≤ 12) ∧ (0 ≤ x ∧ x ≤ 1 <<< (nI A.1.1.1 &&& 31) - 1))) : Cst L (d + 24) 92 [.int z, .int x] A (.int (-2)) (badA A) := by
  refine C_of (q := q_92) rfl (Nat.le_of_ble_eq_true rfl) rfl (fun π mi ml mr hw hc => ?_)
  have hn := hc.hn
  have h7 := hA.n7
  refine ev_iload_n (p' := 1) i_92_0 rfl rfl ?_
  refine ev_s1I (p' := 4) i_92_1 rfl cl_11_138_0 (by decide) (Nat.le_of_ble_eq_true rfl) (s_isNoOpening _ _) ?_
  refine ev_if_ne (p' := 7) (tg := 15) i_92_4 rfl rfl (fun c4 => ?_) (fun c4 => ?_)
  · replace c4 := B1 c4
    refine ev_aload_n (p' := 16) i_92_15 rfl rfl ?_
    refine ev_v0I (p' := 19) i_92_16 rfl cl_11_93_11 (by decide) is_1 (Nat.le_of_ble_eq_true rfl) (s_bad _) ?_
    exact ev_iretI i_92_19 rfl (EC.mk rfl hw (hc.bad hw))
  · replace c4 := B0n c4
    refine ev_aload_n (p' := 8) i_92_7 rfl rfl ?_
    refine ev_iload_n (p' := 9) i_92_8 rfl rfl ?_
    refine ev_v1I (p' := 12) i_92_9 rfl cl_11_236_11 (by decide) is_1 (Nat.le_of_ble_eq_true rfl) (s_noPieces _ hw hn _) ?_
    refine ev_if_eq (p' := 15) (tg := 20) i_92_12 rfl rfl (fun c12 => ?_) (fun c12 => ?_)
    · replace c12 := B0 c12
      exact absurd ⟨ni c4, ni c12⟩ hb
    · replace c12 := B1 c12
      refine ev_aload_n (p' := 16) i_92_15 rfl rfl ?_
      refine ev_v0I (p' := 19) i_92_16 rfl cl_11_93_11 (by decide) is_1 (Nat.le_of_ble_eq_true rfl) (s_bad _) ?_
      exact ev_iretI i_92_19 rfl (EC.mk rfl hw (hc.bad hw))
theorem R_stood_bad (L d : Nat) (A : AV) (hA : okA A) (z : Int32) (x : Int32) (hb : ¬ ((0 ≤ z ∧ z ≤ 12) ∧ (0 ≤ x ∧ x ≤ 1 <<< (nI A.1.1.1 &&& 31) - 1))) : Rst L (d + 24) 200 [.int z, .int x] A (.int (-2)) (badA A) := by
  refine R_of (q := q_200) rfl (Nat.le_of_ble_eq_true rfl) rfl (fun π mi ml mr hw hc => ?_)
  have hn := hc.hn
  have h7 := hA.n7
  refine ev_iload_n (p' := 1) i_200_0 rfl rfl ?_
  refine ev_s1I (p' := 4) i_200_1 rfl cl_12_228_0 (by decide) (Nat.le_of_ble_eq_true rfl) (s_isOpening _ _) ?_
  refine ev_if_eq (p' := 7) (tg := 15) i_200_4 rfl rfl (fun c4 => ?_) (fun c4 => ?_)
  · replace c4 := B0 c4
    refine ev_aload_n (p' := 16) i_200_15 rfl rfl ?_
    refine ev_v0I (p' := 19) i_200_16 rfl cl_12_119_12 (by decide) is_285 (Nat.le_of_ble_eq_true rfl) (s_mbad _ hw) ?_
    exact ev_iretI i_200_19 rfl (ER.mk rfl (hc.bad h7))
  · replace c4 := B1 c4
    refine ev_aload_n (p' := 8) i_200_7 rfl rfl ?_
    refine ev_iload_n (p' := 9) i_200_8 rfl rfl ?_
    refine ev_v1I (p' := 12) i_200_9 rfl cl_12_264_12 (by decide) is_285 (Nat.le_of_ble_eq_true rfl) (s_isSet (π := π) _ hn _) ?_
    refine ev_if_ne (p' := 15) (tg := 20) i_200_12 rfl rfl (fun c12 => ?_) (fun c12 => ?_)
    · replace c12 := B1 c12
      exact absurd ⟨c4, c12⟩ hb
    · replace c12 := B0n c12
      refine ev_aload_n (p' := 16) i_200_15 rfl rfl ?_
      refine ev_v0I (p' := 19) i_200_16 rfl cl_12_119_12 (by decide) is_285 (Nat.le_of_ble_eq_true rfl) (s_mbad _ hw) ?_
      exact ev_iretI i_200_19 rfl (ER.mk rfl (hc.bad h7))
theorem C_stood_full (L d : Nat) (A : AV) (hA : okA A) {oo s m : Nat} (ho : oo < 13) (hs : s < 2 ^ A.1.1.1) (hm : A.1.2.2.2.1 = m) (h6 : m = 6) : Cst L (d + 24) 92 [.int (nI oo), .int (nI s)] A (.int (-4)) (fullA A) := by
  refine C_of (q := q_92) rfl (Nat.le_of_ble_eq_true rfl) rfl (fun π mi ml mr hw hc => ?_)
  have hn := hc.hn
  have h7 := hA.n7
  have hm5 : mi 17 6 = nI m := hm ▸ hc.1.2.2.2.2.1
  refine ev_iload_n (p' := 1) i_92_0 rfl rfl ?_
  refine ev_s1I (p' := 4) i_92_1 rfl cl_11_138_0 (by decide) (Nat.le_of_ble_eq_true rfl) (s_isNoOpening _ _) ?_
  refine ev_if_ne (p' := 7) (tg := 15) i_92_4 rfl rfl (fun c4 => absurd c4 (fun z => z (B_f (nj (in0 (m := 12) (by omega) (by decide) rfl))))) (fun c4 => ?_)
  refine ev_aload_n (p' := 8) i_92_7 rfl rfl ?_
  refine ev_iload_n (p' := 9) i_92_8 rfl rfl ?_
  refine ev_v1I (p' := 12) i_92_9 rfl cl_11_236_11 (by decide) is_1 (Nat.le_of_ble_eq_true rfl) (s_noPieces _ hw hn _) ?_
  refine ev_if_eq (p' := 15) (tg := 20) i_92_12 rfl rfl (fun c12 => ?_) (fun c12 => absurd (B_f (nj (ins h7 hs))) c12)
  refine ev_aload_n (p' := 21) i_92_20 rfl rfl ?_
  refine ev_getr (p' := 24) i_92_21 rfl fl_11_78 rfl is_1 (rf_1_0 hw) ?_
  refine ev_geti (p' := 27) i_92_24 rfl fl_11_173 rfl (is_sp sp_17) ?_
  refine ev_bipush (p' := 29) (v := 6) i_92_27 rfl (by decide) ?_
  refine ev_icmp_lt (p' := 32) (tg := 37) i_92_29 rfl rfl (fun c29 => absurd c29 (by rw [hm5, h6]; decide)) (fun c29 => ?_)
  refine ev_aload_n (p' := 33) i_92_32 rfl rfl ?_
  refine ev_v0I (p' := 36) i_92_33 rfl cl_11_111_11 (by decide) is_1 (Nat.le_of_ble_eq_true rfl) (s_full _) ?_
  exact ev_iretI i_92_36 rfl (EC.mk rfl hw (hc.full hw))
theorem R_stood_full (L d : Nat) (A : AV) (hA : okA A) {oo s m : Nat} (ho : oo < 13) (hs : s < 2 ^ A.1.1.1) (hm : A.1.2.2.2.1 = m) (h6 : m = 6) : Rst L (d + 24) 200 [.int (nI oo), .int (nI s)] A (.int (-4)) (fullA A) := by
  refine R_of (q := q_200) rfl (Nat.le_of_ble_eq_true rfl) rfl (fun π mi ml mr hw hc => ?_)
  have hn := hc.hn
  have h7 := hA.n7
  have hm5 : mi 285 5 = nI m := hm ▸ hc.1.2.2.2.1
  refine ev_iload_n (p' := 1) i_200_0 rfl rfl ?_
  refine ev_s1I (p' := 4) i_200_1 rfl cl_12_228_0 (by decide) (Nat.le_of_ble_eq_true rfl) (s_isOpening _ _) ?_
  refine ev_if_eq (p' := 7) (tg := 15) i_200_4 rfl rfl (fun c4 => absurd c4 (B_tn (in0 (m := 12) (by omega) (by decide) rfl))) (fun c4 => ?_)
  refine ev_aload_n (p' := 8) i_200_7 rfl rfl ?_
  refine ev_iload_n (p' := 9) i_200_8 rfl rfl ?_
  refine ev_v1I (p' := 12) i_200_9 rfl cl_12_264_12 (by decide) is_285 (Nat.le_of_ble_eq_true rfl) (s_isSet (π := π) _ hn _) ?_
  refine ev_if_ne (p' := 15) (tg := 20) i_200_12 rfl rfl (fun c12 => ?_) (fun c12 => absurd (B_tn (ins h7 hs)) c12)
  refine ev_aload_n (p' := 21) i_200_20 rfl rfl ?_
  refine ev_geti (p' := 24) i_200_21 rfl fl_12_109 rfl is_285 ?_
  refine ev_bipush (p' := 26) (v := 6) i_200_24 rfl (by decide) ?_
  refine ev_icmp_ne (p' := 29) (tg := 34) i_200_26 rfl rfl (fun c26 => absurd c26 (by rw [hm5, h6]; decide)) (fun c26 => ?_)
  refine ev_aload_n (p' := 30) i_200_29 rfl rfl ?_
  refine ev_v0I (p' := 33) i_200_30 rfl cl_12_123_12 (by decide) is_285 (Nat.le_of_ble_eq_true rfl) (s_mfull _ hw) ?_
  exact ev_iretI i_200_33 rfl (ER.mk rfl (hc.full h7))
theorem C_stood (L d : Nat) (A : AV) (hA : okA A) {oo s m : Nat} (ho : oo < 13) (hs : s < 2 ^ A.1.1.1) (hm : A.1.2.2.2.1 = m) (h6 : m < 6) : Cst L (d + 24) 92 [.int (nI oo), .int (nI s)] A (.int (nI (m + 1))) ((stoodV A.1 (nI oo) (nI s), A.2)) := by
  refine C_of (q := q_92) rfl (Nat.le_of_ble_eq_true rfl) rfl (fun π mi ml mr hw hc => ?_)
  have hn := hc.hn
  have h7 := hA.n7
  have hm5 : mi 17 6 = nI m := hm ▸ hc.1.2.2.2.2.1
  refine ev_iload_n (p' := 1) i_92_0 rfl rfl ?_
  refine ev_s1I (p' := 4) i_92_1 rfl cl_11_138_0 (by decide) (Nat.le_of_ble_eq_true rfl) (s_isNoOpening _ _) ?_
  refine ev_if_ne (p' := 7) (tg := 15) i_92_4 rfl rfl (fun c4 => absurd c4 (fun z => z (B_f (nj (in0 (m := 12) (by omega) (by decide) rfl))))) (fun c4 => ?_)
  refine ev_aload_n (p' := 8) i_92_7 rfl rfl ?_
  refine ev_iload_n (p' := 9) i_92_8 rfl rfl ?_
  refine ev_v1I (p' := 12) i_92_9 rfl cl_11_236_11 (by decide) is_1 (Nat.le_of_ble_eq_true rfl) (s_noPieces _ hw hn _) ?_
  refine ev_if_eq (p' := 15) (tg := 20) i_92_12 rfl rfl (fun c12 => ?_) (fun c12 => absurd (B_f (nj (ins h7 hs))) c12)
  refine ev_aload_n (p' := 21) i_92_20 rfl rfl ?_
  refine ev_getr (p' := 24) i_92_21 rfl fl_11_78 rfl is_1 (rf_1_0 hw) ?_
  refine ev_geti (p' := 27) i_92_24 rfl fl_11_173 rfl (is_sp sp_17) ?_
  refine ev_bipush (p' := 29) (v := 6) i_92_27 rfl (by decide) ?_
  refine ev_icmp_lt (p' := 32) (tg := 37) i_92_29 rfl rfl (fun c29 => ?_) (fun c29 => absurd (by rw [hm5]; exact nI_lt (b := 6) h6 (by decide)) c29)
  refine ev_aload_n (p' := 38) i_92_37 rfl rfl ?_
  refine ev_getr (p' := 41) i_92_38 rfl fl_11_78 rfl is_1 (rf_1_0 hw) ?_
  refine ev_getr (p' := 44) i_92_41 rfl fl_11_269 rfl (is_sp sp_17) (hw.stood sp_17) ?_
  refine ev_aload_n (p' := 45) i_92_44 rfl rfl ?_
  refine ev_getr (p' := 48) i_92_45 rfl fl_11_78 rfl is_1 (rf_1_0 hw) ?_
  refine ev_geti (p' := 51) i_92_48 rfl fl_11_173 rfl (is_sp sp_17) ?_
  rw [hm5]
  refine ev_aaldN (p' := 52) 27 i_92_51 rfl (is_so sp_17) (by decide) (len_so sp_17) (by omega) (by decide) (hw.stood1 sp_17 (by omega)) ?_
  refine ev_astore_n (p' := 53) (ls' := [_, _, _, _]) i_92_52 rfl rfl (by decide) rfl ?_
  refine ev_aload_n (p' := 54) i_92_53 rfl rfl ?_
  refine ev_iconst (p' := 55) (v := nI 0) i_92_54 rfl (by decide) ?_
  refine ev_iload_n (p' := 56) i_92_55 rfl rfl ?_
  refine ev_iastN (p' := 57) i_92_56 rfl (is_sor sp_17 (by omega)) (len_sor sp_17 (by omega)) (by omega) (by decide) (gc (by omega)) ?_
  refine ev_aload_n (p' := 58) i_92_57 rfl rfl ?_
  refine ev_iconst (p' := 59) (v := nI 1) i_92_58 rfl (by decide) ?_
  refine ev_iload_n (p' := 60) i_92_59 rfl rfl ?_
  refine ev_iastN (p' := 61) i_92_60 rfl (is_sor sp_17 (by omega)) (len_sor sp_17 (by omega)) (by omega) (by decide) (gc (by omega)) ?_
  refine ev_aload_n (p' := 62) i_92_61 rfl rfl ?_
  refine ev_getr (p' := 65) i_92_62 rfl fl_11_78 rfl is_1 (rf_1_0 hw) ?_
  refine ev_dup (p' := 66) i_92_65 rfl rfl ?_
  refine ev_geti (p' := 69) i_92_66 rfl fl_11_173 rfl (is_sp sp_17) ?_
  refine ev_iconst (p' := 70) (v := 1) i_92_69 rfl (by decide) ?_
  refine ev_iadd (p' := 71) i_92_70 rfl ?_
  refine ev_puti (p' := 74) i_92_71 rfl fl_11_173 rfl (is_sp sp_17) (gc_sp sp_17) rfl ?_
  refine ev_aload_n (p' := 75) i_92_74 rfl rfl ?_
  refine ev_getr (p' := 78) i_92_75 rfl fl_11_78 rfl is_1 (rf_1_0 hw) ?_
  refine ev_geti (p' := 81) i_92_78 rfl fl_11_173 rfl (is_sp sp_17) ?_
  exact ev_iretI i_92_81 rfl (EC.mk (by rw [pm_u_self, pm_u_ne (by omega), pm_u_ne (by omega), hm5, nI_1]) hw (by rw [pm_u_ne (a := 17) (by omega), pm_u_ne (a := 17) (by omega), hm5, nI_1]; exact hc.stood hw hm h6))
theorem R_stood (L d : Nat) (A : AV) (hA : okA A) {oo s m : Nat} (ho : oo < 13) (hs : s < 2 ^ A.1.1.1) (hm : A.1.2.2.2.1 = m) (h6 : m < 6) : Rst L (d + 24) 200 [.int (nI oo), .int (nI s)] A (.int (nI (m + 1))) ((stoodV A.1 (nI oo) (nI s), A.2)) := by
  refine R_of (q := q_200) rfl (Nat.le_of_ble_eq_true rfl) rfl (fun π mi ml mr hw hc => ?_)
  have hn := hc.hn
  have h7 := hA.n7
  have hm5 : mi 285 5 = nI m := hm ▸ hc.1.2.2.2.1
  refine ev_iload_n (p' := 1) i_200_0 rfl rfl ?_
  refine ev_s1I (p' := 4) i_200_1 rfl cl_12_228_0 (by decide) (Nat.le_of_ble_eq_true rfl) (s_isOpening _ _) ?_
  refine ev_if_eq (p' := 7) (tg := 15) i_200_4 rfl rfl (fun c4 => absurd c4 (B_tn (in0 (m := 12) (by omega) (by decide) rfl))) (fun c4 => ?_)
  refine ev_aload_n (p' := 8) i_200_7 rfl rfl ?_
  refine ev_iload_n (p' := 9) i_200_8 rfl rfl ?_
  refine ev_v1I (p' := 12) i_200_9 rfl cl_12_264_12 (by decide) is_285 (Nat.le_of_ble_eq_true rfl) (s_isSet (π := π) _ hn _) ?_
  refine ev_if_ne (p' := 15) (tg := 20) i_200_12 rfl rfl (fun c12 => ?_) (fun c12 => absurd (B_tn (ins h7 hs)) c12)
  refine ev_aload_n (p' := 21) i_200_20 rfl rfl ?_
  refine ev_geti (p' := 24) i_200_21 rfl fl_12_109 rfl is_285 ?_
  refine ev_bipush (p' := 26) (v := 6) i_200_24 rfl (by decide) ?_
  refine ev_icmp_ne (p' := 29) (tg := 34) i_200_26 rfl rfl (fun c26 => ?_) (fun c26 => absurd (by rw [hm5]; exact fun z => absurd ((nI_eq (b := 6) (by omega) (by decide)).mp z) (by omega)) c26)
  refine ev_aload_n (p' := 35) i_200_34 rfl rfl ?_
  refine ev_getr (p' := 38) i_200_35 rfl fl_12_37 rfl is_285 (rf_285_14 hw) ?_
  refine ev_aload_n (p' := 39) i_200_38 rfl rfl ?_
  refine ev_geti (p' := 42) i_200_39 rfl fl_12_109 rfl is_285 ?_
  rw [hm5]
  refine ev_iload_n (p' := 43) i_200_42 rfl rfl ?_
  refine ev_iastN (p' := 44) i_200_43 rfl is_295 len_295 (by omega) (by decide) (gr (by decide)) ?_
  refine ev_aload_n (p' := 45) i_200_44 rfl rfl ?_
  refine ev_getr (p' := 48) i_200_45 rfl fl_12_40 rfl is_285 (rf_285_15 hw) ?_
  refine ev_aload_n (p' := 49) i_200_48 rfl rfl ?_
  refine ev_geti (p' := 52) i_200_49 rfl fl_12_109 rfl is_285 ?_
  rw [pm_u_ne (by decide), hm5]
  refine ev_iload_n (p' := 53) i_200_52 rfl rfl ?_
  refine ev_iastN (p' := 54) i_200_53 rfl is_296 len_296 (by omega) (by decide) (gr (by decide)) ?_
  refine ev_aload_n (p' := 55) i_200_54 rfl rfl ?_
  refine ev_dup (p' := 56) i_200_55 rfl rfl ?_
  refine ev_geti (p' := 59) i_200_56 rfl fl_12_109 rfl is_285 ?_
  refine ev_iconst (p' := 60) (v := 1) i_200_59 rfl (by decide) ?_
  refine ev_iadd (p' := 61) i_200_60 rfl ?_
  refine ev_puti (p' := 64) i_200_61 rfl fl_12_109 rfl is_285 (gr (by decide)) rfl ?_
  refine ev_aload_n (p' := 65) i_200_64 rfl rfl ?_
  refine ev_geti (p' := 68) i_200_65 rfl fl_12_109 rfl is_285 ?_
  exact ev_iretI i_200_68 rfl (ER.mk (by rw [pm_u_self, pm_u_ne (by omega), pm_u_ne (by omega), hm5, nI_1]) (by rw [pm_u_ne (a := 285) (by decide), pm_u_ne (a := 285) (by decide), hm5, nI_1]; exact hc.stood h7 hm h6))
theorem Q_stood (L : Nat) (A : AV) (hA : okA A) (z x : Int32) : SameI L 92 200 [.int z, .int x] A := by
  by_cases h : (0 ≤ z ∧ z ≤ 12) ∧ (0 ≤ x ∧ x ≤ 1 <<< (nI A.1.1.1 &&& 31) - 1)
  · obtain ⟨oo, ho, rfl⟩ := of0 (m := 12) h.1 rfl
    obtain ⟨s, hs, rfl⟩ := ofs hA.n7 h.2
    by_cases h6 : A.1.2.2.2.1 = 6
    · exact ⟨_, fullA A, hA.full, fun d => C_stood_full L d A hA (by omega) hs rfl h6, fun d => R_stood_full L d A hA (by omega) hs rfl h6⟩
    · have h6' : A.1.2.2.2.1 < 6 := by have := hA.1.2.2.2.1; omega
      have hs2 : s < 128 := Nat.lt_of_lt_of_le hs (Nat.pow_le_pow_right (by decide) hA.n7)
      exact ⟨_, (stoodV A.1 (nI oo) (nI s), A.2), ⟨hA.1.stood h6' (by omega) hs2, hA.2⟩, fun d => C_stood L d A hA (by omega) hs rfl h6', fun d => R_stood L d A hA (by omega) hs rfl h6'⟩
  · exact ⟨_, badA A, hA.bad, fun d => C_stood_bad L d A hA z x h, fun d => R_stood_bad L d A hA z x h⟩
