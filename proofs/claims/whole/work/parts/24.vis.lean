/-! ===== visibleAt and what stands on it ===== -/
def sees (f : Nat → Nat → Int32) (n : Nat) (o h : Int32) (i : Nat) : Prop := ¬ hgt f o h i < 1 ∧ ¬ ∃ j, j < n ∧ f 3 j < f 3 i ∧ hgt f o h i ≤ hgt f o h j
noncomputable def vis (f : Nat → Nat → Int32) (n : Nat) (o h : Int32) (m : Nat) : Int32 := fold (fun i b => @ite _ (sees f n o h i) (Classical.propDecidable _) (b ||| (1 <<< (nI i &&& 31))) b) m 0
theorem vis_t {f : Nat → Nat → Int32} {n i : Nat} {o h : Int32} (hs : sees f n o h i) : vis f n o h (i + 1) = vis f n o h i ||| (1 <<< (nI i &&& 31)) := @if_pos _ (Classical.propDecidable _) hs _ _ _
theorem vis_f {f : Nat → Nat → Int32} {n i : Nat} {o h : Int32} (hs : ¬ sees f n o h i) : vis f n o h (i + 1) = vis f n o h i := @if_neg _ (Classical.propDecidable _) hs _ _ _
theorem hid_iff {mi : Nat → Nat → Int32} {P n i0 : Nat} {o h : Int32} (hi : i0 < n) : (∃ j, j < n ∧ hm mi P o h n (P + 3 + j) 3 < hm mi P o h n (P + 3 + i0) 3 ∧ hm mi P o h n (P + 2) i0 ≤ hm mi P o h n (P + 2) j) ↔ ∃ j, j < n ∧ pf mi P 3 j < pf mi P 3 i0 ∧ hgt (pf mi P) o h i0 ≤ hgt (pf mi P) o h j := by
  constructor
  · rintro ⟨j, h1, h2, h3⟩
    rw [hm_pc, hm_pc] at h2
    rw [hm_h hi, hm_h h1] at h3
    exact ⟨j, h1, h2, h3⟩
  · rintro ⟨j, h1, h2, h3⟩
    refine ⟨j, h1, ?_, ?_⟩
    · rw [hm_pc, hm_pc]
      exact h2
    · rw [hm_h hi, hm_h h1]
      exact h3
theorem l_vis {L : Nat} {π : Nat → Nat → Nat} {mi : Nat → Nat → Int32} {ml : Nat → Nat → Int64} {mr : Nat → Nat → Option Nat} (hw : WR π mr) {P : Nat} (hP : P ∈ k_pg) {n : Nat} (hn7 : n ≤ 7) (hn : mi P 5 = nI n) (hks : ∀ i, i < n → ∃ k, k < 6 ∧ mi (P + 3 + i) 0 = nI k) {d : Nat} {E : Option Value → pm_M → Prop} {o h : Int32} (hE : E (some (.int (vis (pf mi P) n o h n))) (WW L, hm mi P o h n, ml, mr)) : ∀ k i, i + k = n → Ev gC (pm_ev gC (d + 4)) E q_21 11 [some (.ref P), some (.int o), some (.int h), some (.int (vis (pf mi P) n o h i)), some (.int (nI i))] [] (WW L, hm mi P o h n, ml, mr) := by
  intro k
  induction k with
  | zero =>
    intro i hi
    have hi : i = n := by omega
    subst hi
    refine ev_iload (p' := 13) i_21_11 rfl rfl ?_
    refine ev_aload_n (p' := 14) i_21_13 rfl rfl ?_
    refine ev_geti (p' := 17) i_21_14 rfl fl_2_28 rfl (is_pg hP) ?_
    refine ev_icmp_ge (p' := 20) (tg := 53) i_21_17 rfl rfl (fun c17 => ?_) (fun c17 => absurd ((by rw [hm_pg, hn]; exact nI_le (by omega) (by omega))) c17)
    refine ev_iload_n (p' := 54) i_21_53 rfl rfl ?_
    exact ev_iretI i_21_54 rfl hE
  | succ k ih =>
    intro i hi
    refine ev_iload (p' := 13) i_21_11 rfl rfl ?_
    refine ev_aload_n (p' := 14) i_21_13 rfl rfl ?_
    refine ev_geti (p' := 17) i_21_14 rfl fl_2_28 rfl (is_pg hP) ?_
    refine ev_icmp_ge (p' := 20) (tg := 53) i_21_17 rfl rfl (fun c17 => absurd c17 ((by rw [hm_pg, hn]; exact nI_ge (by omega) (by omega)))) (fun c17 => ?_)
    refine ev_aload_n (p' := 21) i_21_20 rfl rfl ?_
    refine ev_getr (p' := 24) i_21_21 rfl fl_2_17 rfl (is_pg hP) (hw.heights hP) ?_
    refine ev_iload (p' := 26) i_21_24 rfl rfl ?_
    refine ev_ialdN (p' := 27) i_21_26 rfl (is_pgh hP) (len_pgh hP) (by omega) (by decide) ?_
    rw [hm_h (show i < n by omega)]
    refine ev_iconst (p' := 28) (v := 1) i_21_27 rfl (by decide) ?_
    refine ev_icmp_lt (p' := 31) (tg := 47) i_21_28 rfl rfl (fun c28 => ?_) (fun c28 => ?_)
    · refine ev_iinc (p' := 50) (ls' := [_, _, _, _, _]) i_21_47 rfl rfl rfl (by decide) (nI_inc _) rfl ?_
      refine ev_goto (tg := 11) i_21_50 rfl ?_
      refine ev_cast (by rw [show vis (pf mi P) n o h (i + 1) = _ from vis_f (fun z => z.1 c28)]) rfl rfl (ih (i + 1) (by omega))
    · refine ev_aload_n (p' := 32) i_21_31 rfl rfl ?_
      refine ev_iload (p' := 34) i_21_32 rfl rfl ?_
      refine ev_v1I (p' := 37) i_21_34 rfl cl_2_110_2 (by decide) (is_pg hP) (Nat.le_of_ble_eq_true rfl) (s_hid _ hw hP hn7 (by rw [hm_pg]; exact hn) (by omega)) ?_
      refine ev_if_ne (p' := 40) (tg := 47) i_21_37 rfl rfl (fun c37 => ?_) (fun c37 => ?_)
      · replace c37 := B1 c37
        refine ev_iinc (p' := 50) (ls' := [_, _, _, _, _]) i_21_47 rfl rfl rfl (by decide) (nI_inc _) rfl ?_
        refine ev_goto (tg := 11) i_21_50 rfl ?_
        refine ev_cast (by rw [show vis (pf mi P) n o h (i + 1) = _ from vis_f (fun z => z.2 ((hid_iff (by omega)).mp c37))]) rfl rfl (ih (i + 1) (by omega))
      · replace c37 := B0n c37
        refine ev_iload_n (p' := 41) i_21_40 rfl rfl ?_
        refine ev_iconst (p' := 42) (v := 1) i_21_41 rfl (by decide) ?_
        refine ev_iload (p' := 44) i_21_42 rfl rfl ?_
        refine ev_ishl (p' := 45) i_21_44 rfl ?_
        refine ev_ior (p' := 46) i_21_45 rfl ?_
        refine ev_istore_n (p' := 47) (ls' := [_, _, _, _, _]) i_21_46 rfl rfl (by decide) rfl ?_
        refine ev_iinc (p' := 50) (ls' := [_, _, _, _, _]) i_21_47 rfl rfl rfl (by decide) (nI_inc _) rfl ?_
        refine ev_goto (tg := 11) i_21_50 rfl ?_
        refine ev_cast (by rw [show vis (pf mi P) n o h (i + 1) = _ from vis_t ⟨c28, fun z => c37 ((hid_iff (by omega)).mpr z)⟩]) rfl rfl (ih (i + 1) (by omega))
theorem s_vis {L : Nat} {π : Nat → Nat → Nat} {mi : Nat → Nat → Int32} {ml : Nat → Nat → Int64} {mr : Nat → Nat → Option Nat} (d : Nat) (hw : WR π mr) {P : Nat} (hP : P ∈ k_pg) {n : Nat} (hn7 : n ≤ 7) (hn : mi P 5 = nI n) (hks : ∀ i, i < n → ∃ k, k < 6 ∧ mi (P + 3 + i) 0 = nI k) (o h : Int32) : pm_ev gC (d + 5) 21 [.ref P, .int o, .int h] (WW L, mi, ml, mr) (some (.int (vis (pf mi P) n o h n))) (WW L, hm mi P o h n, ml, mr) := by
  refine ev_enter (q := q_21) rfl (Nat.le_of_ble_eq_true rfl) rfl ?_
  refine ev_aload_n (p' := 1) i_21_0 rfl rfl ?_
  refine ev_iload_n (p' := 2) i_21_1 rfl rfl ?_
  refine ev_iload_n (p' := 3) i_21_2 rfl rfl ?_
  refine ev_v2V (p' := 6) i_21_3 rfl cl_2_106_2 (by decide) (is_pg hP) (Nat.le_of_ble_eq_true rfl) (s_meas _ hw hP hn7 hn hks _ _) ?_
  refine ev_iconst (p' := 7) (v := 0) i_21_6 rfl (by decide) ?_
  refine ev_istore_n (p' := 8) (ls' := [_, _, _, _, _]) i_21_7 rfl rfl (by decide) rfl ?_
  refine ev_iconst (p' := 9) (v := nI 0) i_21_8 rfl (by decide) ?_
  refine ev_istore (p' := 11) (ls' := [_, _, _, _, _]) i_21_9 rfl rfl (by decide) rfl ?_
  exact l_vis hw hP hn7 hn hks ⟨rfl, rfl⟩ n 0 (by omega)
theorem s_visMany {L : Nat} {π : Nat → Nat → Nat} {mi : Nat → Nat → Int32} {ml : Nat → Nat → Int64} {mr : Nat → Nat → Option Nat} (d : Nat) (hw : WR π mr) {P : Nat} (hP : P ∈ k_pg) {n : Nat} (hn7 : n ≤ 7) (hn : mi P 5 = nI n) (hks : ∀ i, i < n → ∃ k, k < 6 ∧ mi (P + 3 + i) 0 = nI k) (o : Int32) : pm_ev gC (d + 6) 23 [.ref P, .int o] (WW L, mi, ml, mr) (some (.int (bcnt (vis (pf mi P) n o 0 n)))) (WW L, hm mi P o 0 n, ml, mr) := by
  refine ev_enter (q := q_23) rfl (Nat.le_of_ble_eq_true rfl) rfl ?_
  refine ev_aload_n (p' := 1) i_23_0 rfl rfl ?_
  refine ev_iload_n (p' := 2) i_23_1 rfl rfl ?_
  refine ev_iconst (p' := 3) (v := 0) i_23_2 rfl (by decide) ?_
  refine ev_v2I (p' := 6) i_23_3 rfl cl_2_114_2 (by decide) (is_pg hP) (Nat.le_of_ble_eq_true rfl) (s_vis _ hw hP hn7 hn hks _ _) ?_
  refine ev_s1I (p' := 9) i_23_6 rfl cl_2_94_0 (by decide) (Nat.le_of_ble_eq_true rfl) (s_bitCount _ _) ?_
  exact ev_iretI i_23_9 rfl ⟨rfl, rfl⟩
def high (f : Nat → Nat → Int32) (o : Int32) (m : Nat) : Int32 := fold (fun i a => if a < hgt f o 0 i then hgt f o 0 i else a) m 0
theorem l_high {L : Nat} {π : Nat → Nat → Nat} {mi : Nat → Nat → Int32} {ml : Nat → Nat → Int64} {mr : Nat → Nat → Option Nat} (hw : WR π mr) {P : Nat} (hP : P ∈ k_pg) {n : Nat} (hn7 : n ≤ 7) (hn : mi P 5 = nI n) {C : Nat → List Value → pm_M → Option Value → pm_M → Prop} {E : Option Value → pm_M → Prop} {o : Int32} (hE : E (some (.int (high (pf mi P) o n))) (WW L, hm mi P o 0 n, ml, mr)) : ∀ k i, i + k = n → Ev gC C E q_24 10 [some (.ref P), some (.int o), some (.int (high (pf mi P) o i)), some (.int (nI i))] [] (WW L, hm mi P o 0 n, ml, mr) := by
  intro k
  induction k with
  | zero =>
    intro i hi
    have hi : i = n := by omega
    subst hi
    refine ev_iload_n (p' := 11) i_24_10 rfl rfl ?_
    refine ev_aload_n (p' := 12) i_24_11 rfl rfl ?_
    refine ev_geti (p' := 15) i_24_12 rfl fl_2_28 rfl (is_pg hP) ?_
    refine ev_icmp_ge (p' := 18) (tg := 35) i_24_15 rfl rfl (fun c15 => ?_) (fun c15 => absurd ((by rw [hm_pg, hn]; exact nI_le (by omega) (by omega))) c15)
    refine ev_iload_n (p' := 36) i_24_35 rfl rfl ?_
    exact ev_iretI i_24_36 rfl hE
  | succ k ih =>
    intro i hi
    refine ev_iload_n (p' := 11) i_24_10 rfl rfl ?_
    refine ev_aload_n (p' := 12) i_24_11 rfl rfl ?_
    refine ev_geti (p' := 15) i_24_12 rfl fl_2_28 rfl (is_pg hP) ?_
    refine ev_icmp_ge (p' := 18) (tg := 35) i_24_15 rfl rfl (fun c15 => absurd c15 ((by rw [hm_pg, hn]; exact nI_ge (by omega) (by omega)))) (fun c15 => ?_)
    refine ev_iload_n (p' := 19) i_24_18 rfl rfl ?_
    refine ev_aload_n (p' := 20) i_24_19 rfl rfl ?_
    refine ev_getr (p' := 23) i_24_20 rfl fl_2_17 rfl (is_pg hP) (hw.heights hP) ?_
    refine ev_iload_n (p' := 24) i_24_23 rfl rfl ?_
    refine ev_ialdN (p' := 25) i_24_24 rfl (is_pgh hP) (len_pgh hP) (by omega) (by decide) ?_
    rw [hm_h (show i < n by omega)]
    refine ev_max (p' := 28) i_24_25 rfl cl_2_117_0 (Nat.le_of_ble_eq_true rfl) ?_
    refine ev_istore_n (p' := 29) (ls' := [_, _, _, _]) i_24_28 rfl rfl (by decide) rfl ?_
    refine ev_iinc (p' := 32) (ls' := [_, _, _, _]) i_24_29 rfl rfl rfl (by decide) (nI_inc _) rfl ?_
    refine ev_goto (tg := 10) i_24_32 rfl ?_
    exact ih (i + 1) (by omega)
theorem s_high {L : Nat} {π : Nat → Nat → Nat} {mi : Nat → Nat → Int32} {ml : Nat → Nat → Int64} {mr : Nat → Nat → Option Nat} (d : Nat) (hw : WR π mr) {P : Nat} (hP : P ∈ k_pg) {n : Nat} (hn7 : n ≤ 7) (hn : mi P 5 = nI n) (hks : ∀ i, i < n → ∃ k, k < 6 ∧ mi (P + 3 + i) 0 = nI k) (o : Int32) : pm_ev gC (d + 5) 24 [.ref P, .int o] (WW L, mi, ml, mr) (some (.int (high (pf mi P) o n))) (WW L, hm mi P o 0 n, ml, mr) := by
  refine ev_enter (q := q_24) rfl (Nat.le_of_ble_eq_true rfl) rfl ?_
  refine ev_aload_n (p' := 1) i_24_0 rfl rfl ?_
  refine ev_iload_n (p' := 2) i_24_1 rfl rfl ?_
  refine ev_iconst (p' := 3) (v := 0) i_24_2 rfl (by decide) ?_
  refine ev_v2V (p' := 6) i_24_3 rfl cl_2_106_2 (by decide) (is_pg hP) (Nat.le_of_ble_eq_true rfl) (s_meas _ hw hP hn7 hn hks _ _) ?_
  refine ev_iconst (p' := 7) (v := 0) i_24_6 rfl (by decide) ?_
  refine ev_istore_n (p' := 8) (ls' := [_, _, _, _]) i_24_7 rfl rfl (by decide) rfl ?_
  refine ev_iconst (p' := 9) (v := nI 0) i_24_8 rfl (by decide) ?_
  refine ev_istore_n (p' := 10) (ls' := [_, _, _, _]) i_24_9 rfl rfl (by decide) rfl ?_
  exact l_high hw hP hn7 hn ⟨rfl, rfl⟩ n 0 (by omega)
/-- opening: who isn't stuck wears -/
def wr1 (f6 f7 by_ : Int32) : Int32 := if f7 ≤ f6 then f6 else if f6 + by_ < 999 then f6 + by_ else 999
def wm (mi : Nat → Nat → Int32) (P : Nat) (by_ : Int32) (i : Nat) : Nat → Nat → Int32 := fun a j => if j = 6 ∧ P + 3 ≤ a ∧ a < P + 3 + i then wr1 (mi a 6) (mi a 7) by_ else mi a j
section WM
variable {mi : Nat → Nat → Int32} {P : Nat} {y : Int32} {i j k : Nat}
theorem wm_0 : wm mi P y 0 = mi := by
  funext a j
  exact if_neg (by omega)
theorem wm_pg : wm mi P y i P j = mi P j := if_neg (by omega)
theorem wm_f (h : ¬ (j = 6 ∧ k < i)) : wm mi P y i (P + 3 + k) j = mi (P + 3 + k) j := if_neg (by omega)
theorem wm_6 (h : k < i) : wm mi P y i (P + 3 + k) 6 = wr1 (mi (P + 3 + k) 6) (mi (P + 3 + k) 7) y := if_pos (by omega)
theorem wm_stay (h : mi (P + 3 + i) 7 ≤ mi (P + 3 + i) 6) : wm mi P y i = wm mi P y (i + 1) := by
  funext a j
  unfold wm
  by_cases h1 : j = 6 ∧ P + 3 ≤ a ∧ a < P + 3 + i
  · rw [if_pos h1, if_pos (by omega)]
  · rw [if_neg h1]
    by_cases h2 : j = 6 ∧ a = P + 3 + i
    · obtain ⟨rfl, rfl⟩ := h2
      rw [if_pos (by omega)]
      unfold wr1
      rw [if_pos h]
    · rw [if_neg (by omega)]
theorem wm_up (h : ¬ mi (P + 3 + i) 7 ≤ mi (P + 3 + i) 6) : pm_u (wm mi P y i) (P + 3 + i) 6 (if mi (P + 3 + i) 6 + y < 999 then mi (P + 3 + i) 6 + y else 999) = wm mi P y (i + 1) := by
  funext a j
  unfold pm_u wm
  by_cases h2 : a = P + 3 + i ∧ j = 6
  · obtain ⟨rfl, rfl⟩ := h2
    rw [if_pos ⟨rfl, rfl⟩, if_pos (c := 6 = 6 ∧ P + 3 ≤ P + 3 + i ∧ P + 3 + i < P + 3 + (i + 1)) ⟨rfl, by omega, by omega⟩]
    unfold wr1
    rw [if_neg h]
  · rw [if_neg h2]
    by_cases h1 : j = 6 ∧ P + 3 ≤ a ∧ a < P + 3 + i
    · rw [if_pos h1, if_pos (by omega)]
    · rw [if_neg h1, if_neg (by omega)]
end WM
theorem l_open {L : Nat} {π : Nat → Nat → Nat} {mi : Nat → Nat → Int32} {ml : Nat → Nat → Int64} {mr : Nat → Nat → Option Nat} (hw : WR π mr) {P : Nat} (hP : P ∈ k_pg) {n : Nat} (hn7 : n ≤ 7) (hn : mi P 5 = nI n) {d : Nat} {E : Option Value → pm_M → Prop} {o y : Int32} (hE : E none (WW L, pm_u (wm mi P y n) P 4 o, ml, mr)) : ∀ k i, i + k = n → Ev gC (pm_ev gC (d + 1)) E q_12 12 [some (.ref P), some (.int o), some (.int y), some (.int (nI i))] [] (WW L, wm mi P y i, ml, mr) := by
  intro k
  induction k with
  | zero =>
    intro i hi
    have hi : i = n := by omega
    subst hi
    refine ev_iload_n (p' := 13) i_12_12 rfl rfl ?_
    refine ev_aload_n (p' := 14) i_12_13 rfl rfl ?_
    refine ev_geti (p' := 17) i_12_14 rfl fl_2_28 rfl (is_pg hP) ?_
    refine ev_icmp_ge (p' := 20) (tg := 64) i_12_17 rfl rfl (fun c17 => ?_) (fun c17 => absurd ((by rw [wm_pg, hn]; exact nI_le (by omega) (by omega))) c17)
    refine ev_aload_n (p' := 65) i_12_64 rfl rfl ?_
    refine ev_iload_n (p' := 66) i_12_65 rfl rfl ?_
    refine ev_puti (p' := 69) i_12_66 rfl fl_2_25 rfl (is_pg hP) (gc_pg hP) rfl ?_
    exact ev_ret i_12_69 rfl hE
  | succ k ih =>
    intro i hi
    refine ev_iload_n (p' := 13) i_12_12 rfl rfl ?_
    refine ev_aload_n (p' := 14) i_12_13 rfl rfl ?_
    refine ev_geti (p' := 17) i_12_14 rfl fl_2_28 rfl (is_pg hP) ?_
    refine ev_icmp_ge (p' := 20) (tg := 64) i_12_17 rfl rfl (fun c17 => absurd c17 ((by rw [wm_pg, hn]; exact nI_ge (by omega) (by omega)))) (fun c17 => ?_)
    refine ev_aload_n (p' := 21) i_12_20 rfl rfl ?_
    refine ev_getr (p' := 24) i_12_21 rfl fl_2_11 rfl (is_pg hP) (hw.pieces hP) ?_
    refine ev_iload_n (p' := 25) i_12_24 rfl rfl ?_
    refine ev_aaldN (p' := 26) 25 i_12_25 rfl (is_pgp hP) (by decide) (len_pgp hP) (by omega) (by decide) (hw.piece hP (by omega)) ?_
    refine ev_v0I (p' := 29) i_12_26 rfl cl_2_80_3 (by decide) (is_pc hP (by omega)) (Nat.le_of_ble_eq_true rfl) (s_isStuck _ (is_pc hP (by omega))) ?_
    refine ev_if_ne (p' := 32) (tg := 58) i_12_29 rfl rfl (fun c29 => ?_) (fun c29 => ?_)
    · replace c29 := B1 c29
      refine ev_iinc (p' := 61) (ls' := [_, _, _, _]) i_12_58 rfl rfl rfl (by decide) (nI_inc _) rfl ?_
      refine ev_goto (tg := 12) i_12_61 rfl ?_
      rw [wm_f (by omega), wm_f (by omega)] at c29
      rw [wm_stay c29]
      exact ih (i + 1) (by omega)
    · replace c29 := B0n c29
      refine ev_aload_n (p' := 33) i_12_32 rfl rfl ?_
      refine ev_getr (p' := 36) i_12_33 rfl fl_2_11 rfl (is_pg hP) (hw.pieces hP) ?_
      refine ev_iload_n (p' := 37) i_12_36 rfl rfl ?_
      refine ev_aaldN (p' := 38) 25 i_12_37 rfl (is_pgp hP) (by decide) (len_pgp hP) (by omega) (by decide) (hw.piece hP (by omega)) ?_
      refine ev_sipush (p' := 41) (v := 999) i_12_38 rfl (by decide) ?_
      refine ev_aload_n (p' := 42) i_12_41 rfl rfl ?_
      refine ev_getr (p' := 45) i_12_42 rfl fl_2_11 rfl (is_pg hP) (hw.pieces hP) ?_
      refine ev_iload_n (p' := 46) i_12_45 rfl rfl ?_
      refine ev_aaldN (p' := 47) 25 i_12_46 rfl (is_pgp hP) (by decide) (len_pgp hP) (by omega) (by decide) (hw.piece hP (by omega)) ?_
      refine ev_geti (p' := 50) i_12_47 rfl fl_2_62 rfl (is_pc hP (by omega)) ?_
      refine ev_iload_n (p' := 51) i_12_50 rfl rfl ?_
      refine ev_iadd (p' := 52) i_12_51 rfl ?_
      refine ev_min (p' := 55) i_12_52 rfl cl_2_83_0 (Nat.le_of_ble_eq_true rfl) ?_
      refine ev_puti (p' := 58) i_12_55 rfl fl_2_62 rfl (is_pc hP (by omega)) (gc_pc hP (by omega)) rfl ?_
      refine ev_iinc (p' := 61) (ls' := [_, _, _, _]) i_12_58 rfl rfl rfl (by decide) (nI_inc _) rfl ?_
      refine ev_goto (tg := 12) i_12_61 rfl ?_
      rw [wm_f (by omega), wm_f (by omega)] at c29
      rw [wm_f (by omega), wm_up c29]
      exact ih (i + 1) (by omega)
def iabs (x : Int32) : Int32 := if 0 ≤ x then x else 0 - x
theorem s_open {L : Nat} {π : Nat → Nat → Nat} {mi : Nat → Nat → Int32} {ml : Nat → Nat → Int64} {mr : Nat → Nat → Option Nat} (d : Nat) (hw : WR π mr) {P : Nat} (hP : P ∈ k_pg) {n : Nat} (hn7 : n ≤ 7) (hn : mi P 5 = nI n) (o : Int32) : pm_ev gC (d + 2) 12 [.ref P, .int o] (WW L, mi, ml, mr) none (WW L, pm_u (wm mi P (iabs (o - mi P 4)) n) P 4 o, ml, mr) := by
  refine ev_enter (q := q_12) rfl (Nat.le_of_ble_eq_true rfl) rfl ?_
  refine ev_iload_n (p' := 1) i_12_0 rfl rfl ?_
  refine ev_aload_n (p' := 2) i_12_1 rfl rfl ?_
  refine ev_geti (p' := 5) i_12_2 rfl fl_2_25 rfl (is_pg hP) ?_
  refine ev_isub (p' := 6) i_12_5 rfl ?_
  refine ev_abs (p' := 9) i_12_6 rfl cl_2_74_0 (Nat.le_of_ble_eq_true rfl) ?_
  refine ev_istore_n (p' := 10) (ls' := [_, _, _, _]) i_12_9 rfl rfl (by decide) rfl ?_
  refine ev_iconst (p' := 11) (v := nI 0) i_12_10 rfl (by decide) ?_
  refine ev_istore_n (p' := 12) (ls' := [_, _, _, _]) i_12_11 rfl rfl (by decide) rfl ?_
  rw [show (WW L, mi, ml, mr) = ((WW L, wm mi P (iabs (o - mi P 4)) 0, ml, mr) : pm_M) by rw [wm_0]]
  exact l_open hw hP hn7 hn ⟨rfl, rfl⟩ n 0 (by omega)
