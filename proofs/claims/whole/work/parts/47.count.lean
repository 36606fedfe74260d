/-! ===== count, digest ===== -/
theorem wearN_cg {f f' : Nat → Nat → Int32} {n : Nat} (he : ∀ i, i < n → ∀ j, j < 8 → f' j i = f j i) : wearN f' n = wearN f n :=
  fold_congr (fun i hi x => congrArg (fun z => x + z) (he i hi 6 (by decide)))
theorem looseN_cg {f f' : Nat → Nat → Int32} {n : Nat} (he : ∀ i, i < n → ∀ j, j < 8 → f' j i = f j i) : looseN f' n = looseN f n :=
  fold_congr (fun i hi x => by
    show (if f' 7 i ≤ f' 6 i then x else x ||| (1 <<< (nI i &&& 31))) = (if f 7 i ≤ f 6 i then x else x ||| (1 <<< (nI i &&& 31)))
    rw [he i hi 7 (by decide), he i hi 6 (by decide)])
def stuckN (f : Nat → Nat → Int32) (m : Nat) : Int32 := fold (fun i c => c + (if f 7 i ≤ f 6 i then 1 else 0)) m 0
theorem stuckN_cg {f f' : Nat → Nat → Int32} {n : Nat} (he : ∀ i, i < n → ∀ j, j < 8 → f' j i = f j i) : stuckN f' n = stuckN f n :=
  fold_congr (fun i hi x => by
    show x + (if f' 7 i ≤ f' 6 i then 1 else 0) = x + (if f 7 i ≤ f 6 i then 1 else 0)
    rw [he i hi 7 (by decide), he i hi 6 (by decide)])
theorem bc_up : ∀ i, i < 7 → ∀ s, s < 2 ^ i → bcnt (nI (s + 2 ^ i)) = bcnt (nI s) + 1 := by decide +kernel
theorem loose_stuck (f : Nat → Nat → Int32) : ∀ m, m ≤ 7 → ∃ s, s < 2 ^ m ∧ looseN f m = nI s ∧ stuckN f m + bcnt (nI s) = nI m := by
  intro m
  induction m with
  | zero => intro _; exact ⟨0, by decide, rfl, show (0 : Int32) + bcnt (nI 0) = nI 0 by decide⟩
  | succ m ih =>
    intro hm
    obtain ⟨s, h1, h2, h3⟩ := ih (by omega)
    by_cases h : f 7 m ≤ f 6 m
    · refine ⟨s, by rw [Nat.pow_succ]; omega, ?_, ?_⟩
      · show (if f 7 m ≤ f 6 m then looseN f m else looseN f m ||| (1 <<< (nI m &&& 31))) = _
        rw [if_pos h, h2]
      · show stuckN f m + (if f 7 m ≤ f 6 m then 1 else 0) + bcnt (nI s) = _
        rw [if_pos h, ← nI_1, ← h3, Int32.add_assoc, Int32.add_comm 1, ← Int32.add_assoc]
    · refine ⟨s + 2 ^ m, by rw [Nat.pow_succ]; omega, ?_, ?_⟩
      · show (if f 7 m ≤ f 6 m then looseN f m else looseN f m ||| (1 <<< (nI m &&& 31))) = _
        rw [if_neg h, h2, or_up m (by omega) s h1]
      · show stuckN f m + (if f 7 m ≤ f 6 m then 1 else 0) + bcnt (nI (s + 2 ^ m)) = _
        rw [if_neg h, bc_up m (by omega) s h1, Int32.add_zero, ← nI_1, ← h3, Int32.add_assoc]
theorem stuck_eq {f : Nat → Nat → Int32} {n : Nat} (h7 : n ≤ 7) : nI n - bcnt (looseN f n) = stuckN f n := by
  obtain ⟨s, -, h2, h3⟩ := loose_stuck f n h7
  rw [h2, ← h3, Int32.add_sub_cancel]
noncomputable def CNT (A : AV) : Nat → Int32
  | 0 => nI A.1.1.1
  | 1 => A.1.1.2.2.1
  | 2 => A.1.1.2.1
  | 3 => bcnt (VS A.1.1 A.1.1.2.2.1 0)
  | 4 => stuckN (fx A.1.1.2.2.2) A.1.1.1
  | 5 => wearN (fx A.1.1.2.2.2) A.1.1.1
  | 6 => nI A.1.2.2.1.1
  | 7 => nI A.1.2.2.2.1
  | 8 => nI A.1.2.1.1
  | _ => nI A.2.2.1.1
theorem s_cnt0 {L : Nat} {π : Nat → Nat → Nat} {ml : Nat → Nat → Int64} {mr : Nat → Nat → Option Nat} {mi : Nat → Nat → Int32} (d : Nat) (hw : WR π mr) {A : AV} (hA : okA A)  (hc : CR π mi ml A) : ∃ mi', pm_ev gC (d + 7) 104 [.ref 1, .int (nI 0)] (WW L, mi, ml, mr) (some (.int (CNT A 0))) (WW L, mi', ml, mr) ∧ CR π mi' ml A := by
  have h7 := hA.n7
  obtain ⟨x, m', ⟨h1, mi1, h2, h3⟩, h5⟩ := ev_some (E := fun x m => x = some (.int (CNT A 0)) ∧ ∃ mi', m = (WW L, mi', ml, mr) ∧ CR π mi' ml A) (g := gC) (d := d + 6) (M := 104) (args := [.ref 1, .int (nI 0)]) (mem := (WW L, mi, ml, mr)) (q := q_104) rfl (Nat.le_of_ble_eq_true rfl) rfl (by
    refine ev_aload_n (p' := 1) i_104_0 rfl rfl ?_
    refine ev_getr (p' := 4) i_104_1 rfl fl_11_78 rfl is_1 (rf_1_0 hw) ?_
    refine ev_getr (p' := 7) i_104_4 rfl fl_11_97 rfl (is_sp sp_17) (hw.page sp_17) ?_
    refine ev_astore_n (p' := 8) (ls' := [_, _, _]) i_104_7 rfl rfl (by decide) rfl ?_
    refine ev_iload_n (p' := 9) i_104_8 rfl rfl ?_
    refine ev_tsIn (tg := 64) (off := 55) i_104_9 (by decide) (by decide) (by decide) (by decide) ?_
    refine ev_aload_n (p' := 65) i_104_64 rfl rfl ?_
    refine ev_geti (p' := 68) i_104_65 rfl fl_11_100 rfl (is_pg pg_33) ?_
    exact ev_iretI i_104_68 rfl ⟨by rw [hc.hn]; rfl, _, rfl, hc⟩)
  subst h1 h2
  exact ⟨mi1, h5, h3⟩
theorem s_cnt1 {L : Nat} {π : Nat → Nat → Nat} {ml : Nat → Nat → Int64} {mr : Nat → Nat → Option Nat} {mi : Nat → Nat → Int32} (d : Nat) (hw : WR π mr) {A : AV} (hA : okA A)  (hc : CR π mi ml A) : ∃ mi', pm_ev gC (d + 7) 104 [.ref 1, .int (nI 1)] (WW L, mi, ml, mr) (some (.int (CNT A 1))) (WW L, mi', ml, mr) ∧ CR π mi' ml A := by
  have h7 := hA.n7
  obtain ⟨x, m', ⟨h1, mi1, h2, h3⟩, h5⟩ := ev_some (E := fun x m => x = some (.int (CNT A 1)) ∧ ∃ mi', m = (WW L, mi', ml, mr) ∧ CR π mi' ml A) (g := gC) (d := d + 6) (M := 104) (args := [.ref 1, .int (nI 1)]) (mem := (WW L, mi, ml, mr)) (q := q_104) rfl (Nat.le_of_ble_eq_true rfl) rfl (by
    refine ev_aload_n (p' := 1) i_104_0 rfl rfl ?_
    refine ev_getr (p' := 4) i_104_1 rfl fl_11_78 rfl is_1 (rf_1_0 hw) ?_
    refine ev_getr (p' := 7) i_104_4 rfl fl_11_97 rfl (is_sp sp_17) (hw.page sp_17) ?_
    refine ev_astore_n (p' := 8) (ls' := [_, _, _]) i_104_7 rfl rfl (by decide) rfl ?_
    refine ev_iload_n (p' := 9) i_104_8 rfl rfl ?_
    refine ev_tsIn (tg := 69) (off := 60) i_104_9 (by decide) (by decide) (by decide) (by decide) ?_
    refine ev_aload_n (p' := 70) i_104_69 rfl rfl ?_
    refine ev_geti (p' := 73) i_104_70 rfl fl_11_142 rfl (is_pg pg_33) ?_
    exact ev_iretI i_104_73 rfl ⟨by rw [hc.pg.2.2.2.1]; rfl, _, rfl, hc⟩)
  subst h1 h2
  exact ⟨mi1, h5, h3⟩
theorem s_cnt2 {L : Nat} {π : Nat → Nat → Nat} {ml : Nat → Nat → Int64} {mr : Nat → Nat → Option Nat} {mi : Nat → Nat → Int32} (d : Nat) (hw : WR π mr) {A : AV} (hA : okA A)  (hc : CR π mi ml A) : ∃ mi', pm_ev gC (d + 7) 104 [.ref 1, .int (nI 2)] (WW L, mi, ml, mr) (some (.int (CNT A 2))) (WW L, mi', ml, mr) ∧ CR π mi' ml A := by
  have h7 := hA.n7
  obtain ⟨x, m', ⟨h1, mi1, h2, h3⟩, h5⟩ := ev_some (E := fun x m => x = some (.int (CNT A 2)) ∧ ∃ mi', m = (WW L, mi', ml, mr) ∧ CR π mi' ml A) (g := gC) (d := d + 6) (M := 104) (args := [.ref 1, .int (nI 2)]) (mem := (WW L, mi, ml, mr)) (q := q_104) rfl (Nat.le_of_ble_eq_true rfl) rfl (by
    refine ev_aload_n (p' := 1) i_104_0 rfl rfl ?_
    refine ev_getr (p' := 4) i_104_1 rfl fl_11_78 rfl is_1 (rf_1_0 hw) ?_
    refine ev_getr (p' := 7) i_104_4 rfl fl_11_97 rfl (is_sp sp_17) (hw.page sp_17) ?_
    refine ev_astore_n (p' := 8) (ls' := [_, _, _]) i_104_7 rfl rfl (by decide) rfl ?_
    refine ev_iload_n (p' := 9) i_104_8 rfl rfl ?_
    refine ev_tsIn (tg := 74) (off := 65) i_104_9 (by decide) (by decide) (by decide) (by decide) ?_
    refine ev_aload_n (p' := 75) i_104_74 rfl rfl ?_
    refine ev_geti (p' := 78) i_104_75 rfl fl_11_131 rfl (is_pg pg_33) ?_
    exact ev_iretI i_104_78 rfl ⟨by rw [hc.pg.2.2.1]; rfl, _, rfl, hc⟩)
  subst h1 h2
  exact ⟨mi1, h5, h3⟩
theorem s_cnt3 {L : Nat} {π : Nat → Nat → Nat} {ml : Nat → Nat → Int64} {mr : Nat → Nat → Option Nat} {mi : Nat → Nat → Int32} (d : Nat) (hw : WR π mr) {A : AV} (hA : okA A)  (hc : CR π mi ml A) : ∃ mi', pm_ev gC (d + 7) 104 [.ref 1, .int (nI 3)] (WW L, mi, ml, mr) (some (.int (CNT A 3))) (WW L, mi', ml, mr) ∧ CR π mi' ml A := by
  have h7 := hA.n7
  obtain ⟨x, m', ⟨h1, mi1, h2, h3⟩, h5⟩ := ev_some (E := fun x m => x = some (.int (CNT A 3)) ∧ ∃ mi', m = (WW L, mi', ml, mr) ∧ CR π mi' ml A) (g := gC) (d := d + 6) (M := 104) (args := [.ref 1, .int (nI 3)]) (mem := (WW L, mi, ml, mr)) (q := q_104) rfl (Nat.le_of_ble_eq_true rfl) rfl (by
    refine ev_aload_n (p' := 1) i_104_0 rfl rfl ?_
    refine ev_getr (p' := 4) i_104_1 rfl fl_11_78 rfl is_1 (rf_1_0 hw) ?_
    refine ev_getr (p' := 7) i_104_4 rfl fl_11_97 rfl (is_sp sp_17) (hw.page sp_17) ?_
    refine ev_astore_n (p' := 8) (ls' := [_, _, _]) i_104_7 rfl rfl (by decide) rfl ?_
    refine ev_iload_n (p' := 9) i_104_8 rfl rfl ?_
    refine ev_tsIn (tg := 79) (off := 70) i_104_9 (by decide) (by decide) (by decide) (by decide) ?_
    refine ev_aload_n (p' := 80) i_104_79 rfl rfl ?_
    refine ev_aload_n (p' := 81) i_104_80 rfl rfl ?_
    refine ev_geti (p' := 84) i_104_81 rfl fl_11_142 rfl (is_pg pg_33) ?_
    rw [hc.pg.2.2.2.1]
    refine ev_iconst (p' := 85) (v := 0) i_104_84 rfl (by decide) ?_
    refine ev_v2I (p' := 88) i_104_85 rfl cl_11_154_2 (by decide) (is_pg pg_33) (Nat.le_of_ble_eq_true rfl) (v_vis _ hw pg_33 hc.pg hA.1.1 _ _) ?_
    refine ev_s1I (p' := 91) i_104_88 rfl cl_11_290_0 (by decide) (Nat.le_of_ble_eq_true rfl) (s_bitCount _ _) ?_
    exact ev_iretI i_104_91 rfl ⟨by rfl, _, rfl, hc.hm hw pg_33⟩)
  subst h1 h2
  exact ⟨mi1, h5, h3⟩
theorem s_cnt4 {L : Nat} {π : Nat → Nat → Nat} {ml : Nat → Nat → Int64} {mr : Nat → Nat → Option Nat} {mi : Nat → Nat → Int32} (d : Nat) (hw : WR π mr) {A : AV} (hA : okA A)  (hc : CR π mi ml A) : ∃ mi', pm_ev gC (d + 7) 104 [.ref 1, .int (nI 4)] (WW L, mi, ml, mr) (some (.int (CNT A 4))) (WW L, mi', ml, mr) ∧ CR π mi' ml A := by
  have h7 := hA.n7
  obtain ⟨x, m', ⟨h1, mi1, h2, h3⟩, h5⟩ := ev_some (E := fun x m => x = some (.int (CNT A 4)) ∧ ∃ mi', m = (WW L, mi', ml, mr) ∧ CR π mi' ml A) (g := gC) (d := d + 6) (M := 104) (args := [.ref 1, .int (nI 4)]) (mem := (WW L, mi, ml, mr)) (q := q_104) rfl (Nat.le_of_ble_eq_true rfl) rfl (by
    refine ev_aload_n (p' := 1) i_104_0 rfl rfl ?_
    refine ev_getr (p' := 4) i_104_1 rfl fl_11_78 rfl is_1 (rf_1_0 hw) ?_
    refine ev_getr (p' := 7) i_104_4 rfl fl_11_97 rfl (is_sp sp_17) (hw.page sp_17) ?_
    refine ev_astore_n (p' := 8) (ls' := [_, _, _]) i_104_7 rfl rfl (by decide) rfl ?_
    refine ev_iload_n (p' := 9) i_104_8 rfl rfl ?_
    refine ev_tsIn (tg := 92) (off := 83) i_104_9 (by decide) (by decide) (by decide) (by decide) ?_
    refine ev_aload_n (p' := 93) i_104_92 rfl rfl ?_
    refine ev_geti (p' := 96) i_104_93 rfl fl_11_100 rfl (is_pg pg_33) ?_
    refine ev_aload_n (p' := 97) i_104_96 rfl rfl ?_
    refine ev_v0I (p' := 100) i_104_97 rfl cl_11_287_2 (by decide) (is_pg pg_33) (Nat.le_of_ble_eq_true rfl) (s_loose _ hw pg_33 hc.pg.1 hc.pg.2.1) ?_
    refine ev_s1I (p' := 103) i_104_100 rfl cl_11_290_0 (by decide) (Nat.le_of_ble_eq_true rfl) (s_bitCount _ _) ?_
    refine ev_isub (p' := 104) i_104_103 rfl ?_
    exact ev_iretI i_104_104 rfl ⟨by rw [hc.hn, looseN_cg hc.pg.pfe, stuck_eq hc.pg.1]; rfl, _, rfl, hc⟩)
  subst h1 h2
  exact ⟨mi1, h5, h3⟩
theorem s_cnt5 {L : Nat} {π : Nat → Nat → Nat} {ml : Nat → Nat → Int64} {mr : Nat → Nat → Option Nat} {mi : Nat → Nat → Int32} (d : Nat) (hw : WR π mr) {A : AV} (hA : okA A)  (hc : CR π mi ml A) : ∃ mi', pm_ev gC (d + 7) 104 [.ref 1, .int (nI 5)] (WW L, mi, ml, mr) (some (.int (CNT A 5))) (WW L, mi', ml, mr) ∧ CR π mi' ml A := by
  have h7 := hA.n7
  obtain ⟨x, m', ⟨h1, mi1, h2, h3⟩, h5⟩ := ev_some (E := fun x m => x = some (.int (CNT A 5)) ∧ ∃ mi', m = (WW L, mi', ml, mr) ∧ CR π mi' ml A) (g := gC) (d := d + 6) (M := 104) (args := [.ref 1, .int (nI 5)]) (mem := (WW L, mi, ml, mr)) (q := q_104) rfl (Nat.le_of_ble_eq_true rfl) rfl (by
    refine ev_aload_n (p' := 1) i_104_0 rfl rfl ?_
    refine ev_getr (p' := 4) i_104_1 rfl fl_11_78 rfl is_1 (rf_1_0 hw) ?_
    refine ev_getr (p' := 7) i_104_4 rfl fl_11_97 rfl (is_sp sp_17) (hw.page sp_17) ?_
    refine ev_astore_n (p' := 8) (ls' := [_, _, _]) i_104_7 rfl rfl (by decide) rfl ?_
    refine ev_iload_n (p' := 9) i_104_8 rfl rfl ?_
    refine ev_tsIn (tg := 105) (off := 96) i_104_9 (by decide) (by decide) (by decide) (by decide) ?_
    refine ev_aload_n (p' := 106) i_104_105 rfl rfl ?_
    refine ev_v0I (p' := 109) i_104_106 rfl cl_11_317_2 (by decide) (is_pg pg_33) (Nat.le_of_ble_eq_true rfl) (s_wear _ hw pg_33 hc.pg.1 hc.pg.2.1) ?_
    exact ev_iretI i_104_109 rfl ⟨by rw [wearN_cg hc.pg.pfe]; rfl, _, rfl, hc⟩)
  subst h1 h2
  exact ⟨mi1, h5, h3⟩
theorem s_cnt6 {L : Nat} {π : Nat → Nat → Nat} {ml : Nat → Nat → Int64} {mr : Nat → Nat → Option Nat} {mi : Nat → Nat → Int32} (d : Nat) (hw : WR π mr) {A : AV} (hA : okA A)  (hc : CR π mi ml A) : ∃ mi', pm_ev gC (d + 7) 104 [.ref 1, .int (nI 6)] (WW L, mi, ml, mr) (some (.int (CNT A 6))) (WW L, mi', ml, mr) ∧ CR π mi' ml A := by
  have h7 := hA.n7
  obtain ⟨x, m', ⟨h1, mi1, h2, h3⟩, h5⟩ := ev_some (E := fun x m => x = some (.int (CNT A 6)) ∧ ∃ mi', m = (WW L, mi', ml, mr) ∧ CR π mi' ml A) (g := gC) (d := d + 6) (M := 104) (args := [.ref 1, .int (nI 6)]) (mem := (WW L, mi, ml, mr)) (q := q_104) rfl (Nat.le_of_ble_eq_true rfl) rfl (by
    refine ev_aload_n (p' := 1) i_104_0 rfl rfl ?_
    refine ev_getr (p' := 4) i_104_1 rfl fl_11_78 rfl is_1 (rf_1_0 hw) ?_
    refine ev_getr (p' := 7) i_104_4 rfl fl_11_97 rfl (is_sp sp_17) (hw.page sp_17) ?_
    refine ev_astore_n (p' := 8) (ls' := [_, _, _]) i_104_7 rfl rfl (by decide) rfl ?_
    refine ev_iload_n (p' := 9) i_104_8 rfl rfl ?_
    refine ev_tsIn (tg := 110) (off := 101) i_104_9 (by decide) (by decide) (by decide) (by decide) ?_
    refine ev_aload_n (p' := 111) i_104_110 rfl rfl ?_
    refine ev_getr (p' := 114) i_104_111 rfl fl_11_78 rfl is_1 (rf_1_0 hw) ?_
    refine ev_geti (p' := 117) i_104_114 rfl fl_11_170 rfl (is_sp sp_17) ?_
    exact ev_iretI i_104_117 rfl ⟨by rw [hc.1.2.2.1.2.1]; rfl, _, rfl, hc⟩)
  subst h1 h2
  exact ⟨mi1, h5, h3⟩
theorem s_cnt7 {L : Nat} {π : Nat → Nat → Nat} {ml : Nat → Nat → Int64} {mr : Nat → Nat → Option Nat} {mi : Nat → Nat → Int32} (d : Nat) (hw : WR π mr) {A : AV} (hA : okA A)  (hc : CR π mi ml A) : ∃ mi', pm_ev gC (d + 7) 104 [.ref 1, .int (nI 7)] (WW L, mi, ml, mr) (some (.int (CNT A 7))) (WW L, mi', ml, mr) ∧ CR π mi' ml A := by
  have h7 := hA.n7
  obtain ⟨x, m', ⟨h1, mi1, h2, h3⟩, h5⟩ := ev_some (E := fun x m => x = some (.int (CNT A 7)) ∧ ∃ mi', m = (WW L, mi', ml, mr) ∧ CR π mi' ml A) (g := gC) (d := d + 6) (M := 104) (args := [.ref 1, .int (nI 7)]) (mem := (WW L, mi, ml, mr)) (q := q_104) rfl (Nat.le_of_ble_eq_true rfl) rfl (by
    refine ev_aload_n (p' := 1) i_104_0 rfl rfl ?_
    refine ev_getr (p' := 4) i_104_1 rfl fl_11_78 rfl is_1 (rf_1_0 hw) ?_
    refine ev_getr (p' := 7) i_104_4 rfl fl_11_97 rfl (is_sp sp_17) (hw.page sp_17) ?_
    refine ev_astore_n (p' := 8) (ls' := [_, _, _]) i_104_7 rfl rfl (by decide) rfl ?_
    refine ev_iload_n (p' := 9) i_104_8 rfl rfl ?_
    refine ev_tsIn (tg := 118) (off := 109) i_104_9 (by decide) (by decide) (by decide) (by decide) ?_
    refine ev_aload_n (p' := 119) i_104_118 rfl rfl ?_
    refine ev_getr (p' := 122) i_104_119 rfl fl_11_78 rfl is_1 (rf_1_0 hw) ?_
    refine ev_geti (p' := 125) i_104_122 rfl fl_11_173 rfl (is_sp sp_17) ?_
    exact ev_iretI i_104_125 rfl ⟨by rw [hc.1.2.2.2.2.1]; rfl, _, rfl, hc⟩)
  subst h1 h2
  exact ⟨mi1, h5, h3⟩
theorem s_cnt8 {L : Nat} {π : Nat → Nat → Nat} {ml : Nat → Nat → Int64} {mr : Nat → Nat → Option Nat} {mi : Nat → Nat → Int32} (d : Nat) (hw : WR π mr) {A : AV} (hA : okA A)  (hc : CR π mi ml A) : ∃ mi', pm_ev gC (d + 7) 104 [.ref 1, .int (nI 8)] (WW L, mi, ml, mr) (some (.int (CNT A 8))) (WW L, mi', ml, mr) ∧ CR π mi' ml A := by
  have h7 := hA.n7
  obtain ⟨x, m', ⟨h1, mi1, h2, h3⟩, h5⟩ := ev_some (E := fun x m => x = some (.int (CNT A 8)) ∧ ∃ mi', m = (WW L, mi', ml, mr) ∧ CR π mi' ml A) (g := gC) (d := d + 6) (M := 104) (args := [.ref 1, .int (nI 8)]) (mem := (WW L, mi, ml, mr)) (q := q_104) rfl (Nat.le_of_ble_eq_true rfl) rfl (by
    refine ev_aload_n (p' := 1) i_104_0 rfl rfl ?_
    refine ev_getr (p' := 4) i_104_1 rfl fl_11_78 rfl is_1 (rf_1_0 hw) ?_
    refine ev_getr (p' := 7) i_104_4 rfl fl_11_97 rfl (is_sp sp_17) (hw.page sp_17) ?_
    refine ev_astore_n (p' := 8) (ls' := [_, _, _]) i_104_7 rfl rfl (by decide) rfl ?_
    refine ev_iload_n (p' := 9) i_104_8 rfl rfl ?_
    refine ev_tsIn (tg := 126) (off := 117) i_104_9 (by decide) (by decide) (by decide) (by decide) ?_
    refine ev_aload_n (p' := 127) i_104_126 rfl rfl ?_
    refine ev_getr (p' := 130) i_104_127 rfl fl_11_78 rfl is_1 (rf_1_0 hw) ?_
    refine ev_geti (p' := 133) i_104_130 rfl fl_11_114 rfl (is_sp sp_17) ?_
    exact ev_iretI i_104_133 rfl ⟨by rw [hc.1.2.1.2.1]; rfl, _, rfl, hc⟩)
  subst h1 h2
  exact ⟨mi1, h5, h3⟩
theorem s_cnt9 {L : Nat} {π : Nat → Nat → Nat} {ml : Nat → Nat → Int64} {mr : Nat → Nat → Option Nat} {mi : Nat → Nat → Int32} (d : Nat) (hw : WR π mr) {A : AV} (hA : okA A)  (hc : CR π mi ml A) : ∃ mi', pm_ev gC (d + 7) 104 [.ref 1, .int (nI 9)] (WW L, mi, ml, mr) (some (.int (CNT A 9))) (WW L, mi', ml, mr) ∧ CR π mi' ml A := by
  have h7 := hA.n7
  obtain ⟨x, m', ⟨h1, mi1, h2, h3⟩, h5⟩ := ev_some (E := fun x m => x = some (.int (CNT A 9)) ∧ ∃ mi', m = (WW L, mi', ml, mr) ∧ CR π mi' ml A) (g := gC) (d := d + 6) (M := 104) (args := [.ref 1, .int (nI 9)]) (mem := (WW L, mi, ml, mr)) (q := q_104) rfl (Nat.le_of_ble_eq_true rfl) rfl (by
    refine ev_aload_n (p' := 1) i_104_0 rfl rfl ?_
    refine ev_getr (p' := 4) i_104_1 rfl fl_11_78 rfl is_1 (rf_1_0 hw) ?_
    refine ev_getr (p' := 7) i_104_4 rfl fl_11_97 rfl (is_sp sp_17) (hw.page sp_17) ?_
    refine ev_astore_n (p' := 8) (ls' := [_, _, _]) i_104_7 rfl rfl (by decide) rfl ?_
    refine ev_iload_n (p' := 9) i_104_8 rfl rfl ?_
    refine ev_tsIn (tg := 134) (off := 125) i_104_9 (by decide) (by decide) (by decide) (by decide) ?_
    refine ev_aload_n (p' := 135) i_104_134 rfl rfl ?_
    refine ev_getr (p' := 138) i_104_135 rfl fl_11_22 rfl is_1 (rf_1_3 hw) ?_
    refine ev_geti (p' := 141) i_104_138 rfl fl_11_121 rfl is_4 ?_
    exact ev_iretI i_104_141 rfl ⟨by rw [hc.2.2.1.2.1]; rfl, _, rfl, hc⟩)
  subst h1 h2
  exact ⟨mi1, h5, h3⟩
theorem s_cnt {L : Nat} {π : Nat → Nat → Nat} {ml : Nat → Nat → Int64} {mr : Nat → Nat → Option Nat} {mi : Nat → Nat → Int32} (d : Nat) (hw : WR π mr) {A : AV} (hA : okA A) {w : Nat} (h10 : w < 10) (hc : CR π mi ml A) : ∃ mi', pm_ev gC (d + 7) 104 [.ref 1, .int (nI w)] (WW L, mi, ml, mr) (some (.int (CNT A w))) (WW L, mi', ml, mr) ∧ CR π mi' ml A := by
  match w, h10 with
  | 0, _ => exact s_cnt0 d hw hA hc
  | 1, _ => exact s_cnt1 d hw hA hc
  | 2, _ => exact s_cnt2 d hw hA hc
  | 3, _ => exact s_cnt3 d hw hA hc
  | 4, _ => exact s_cnt4 d hw hA hc
  | 5, _ => exact s_cnt5 d hw hA hc
  | 6, _ => exact s_cnt6 d hw hA hc
  | 7, _ => exact s_cnt7 d hw hA hc
  | 8, _ => exact s_cnt8 d hw hA hc
  | 9, _ => exact s_cnt9 d hw hA hc
  | w + 10, h => exact absurd h (by omega)
theorem l_mwear {L : Nat} {π : Nat → Nat → Nat} {mi : Nat → Nat → Int32} {ml : Nat → Nat → Int64} {mr : Nat → Nat → Option Nat} {d : Nat} {E : Option Value → pm_M → Prop} (hw : WR π mr) {n : Nat} (hn7 : n ≤ 7) (hn : mi 285 1 = nI n) (hok : ∀ i, i < n → okp (RFv mi) i) (hE : E (some (.int (wearN (rf mi) n))) (WW L, mi, ml, mr)) : ∀ k i, i + k = n → Ev gR (pm_ev gR (d + 0)) E q_221 4 [some (.ref 285), some (.int (wearN (rf mi) i)), some (.int (nI i))] [] (WW L, mi, ml, mr) := by
  intro k
  induction k with
  | zero =>
    intro i hi
    have hi : i = n := by omega
    subst hi
    refine ev_iload_n (p' := 5) i_221_4 rfl rfl ?_
    refine ev_aload_n (p' := 6) i_221_5 rfl rfl ?_
    refine ev_geti (p' := 9) i_221_6 rfl fl_12_96 rfl is_285 ?_
    refine ev_icmp_ge (p' := 12) (tg := 27) i_221_9 rfl rfl (fun c9 => ?_) (fun c9 => absurd (by rw [hn]; exact nI_le (by omega) (by omega)) c9)
    refine ev_iload_n (p' := 28) i_221_27 rfl rfl ?_
    exact ev_iretI i_221_28 rfl hE
  | succ k ih =>
    intro i hi
    refine ev_iload_n (p' := 5) i_221_4 rfl rfl ?_
    refine ev_aload_n (p' := 6) i_221_5 rfl rfl ?_
    refine ev_geti (p' := 9) i_221_6 rfl fl_12_96 rfl is_285 ?_
    refine ev_icmp_ge (p' := 12) (tg := 27) i_221_9 rfl rfl (fun c9 => absurd c9 (by rw [hn]; exact nI_ge (by omega) (by omega))) (fun c9 => ?_)
    refine ev_iload_n (p' := 13) i_221_12 rfl rfl ?_
    refine ev_aload_n (p' := 14) i_221_13 rfl rfl ?_
    refine ev_getr (p' := 17) i_221_14 rfl fl_12_31 rfl is_285 (rf_285_12 hw) ?_
    refine ev_iload_n (p' := 18) i_221_17 rfl rfl ?_
    refine ev_ialdN (p' := 19) i_221_18 rfl is_293 len_293 (by omega) (by decide) ?_
    refine ev_iadd (p' := 20) i_221_19 rfl ?_
    refine ev_istore_n (p' := 21) (ls' := [_, _, _]) i_221_20 rfl rfl (by decide) rfl ?_
    refine ev_iinc (p' := 24) (ls' := [_, _, _]) i_221_21 rfl rfl rfl (by decide) (nI_inc _) rfl ?_
    refine ev_goto (tg := 4) i_221_24 rfl ?_
    exact ih (i + 1) (by omega)
theorem s_mwear {L : Nat} {π : Nat → Nat → Nat} {mi : Nat → Nat → Int32} {ml : Nat → Nat → Int64} {mr : Nat → Nat → Option Nat} (d : Nat) (hw : WR π mr) {n : Nat} (hn7 : n ≤ 7) (hn : mi 285 1 = nI n) (hok : ∀ i, i < n → okp (RFv mi) i) : pm_ev gR (d + 1) 221 [.ref 285] (WW L, mi, ml, mr) (some (.int (wearN (rf mi) n))) (WW L, mi, ml, mr) := by
  refine ev_enter (q := q_221) rfl (Nat.le_of_ble_eq_true rfl) rfl ?_
  refine ev_iconst (p' := 1) (v := 0) i_221_0 rfl (by decide) ?_
  refine ev_istore_n (p' := 2) (ls' := [_, _, _]) i_221_1 rfl rfl (by decide) rfl ?_
  refine ev_iconst (p' := 3) (v := nI 0) i_221_2 rfl (by decide) ?_
  refine ev_istore_n (p' := 4) (ls' := [_, _, _]) i_221_3 rfl rfl (by decide) rfl ?_
  exact l_mwear hw hn7 hn hok ⟨rfl, rfl⟩ n 0 (by omega)
theorem l_mstuck {L : Nat} {π : Nat → Nat → Nat} {mi : Nat → Nat → Int32} {ml : Nat → Nat → Int64} {mr : Nat → Nat → Option Nat} {d : Nat} {E : Option Value → pm_M → Prop} (hw : WR π mr) {n : Nat} (hn7 : n ≤ 7) (hn : mi 285 1 = nI n) (hok : ∀ i, i < n → okp (RFv mi) i) (hE : E (some (.int (stuckN (rf mi) n))) (WW L, mi, ml, mr)) : ∀ k i, i + k = n → Ev gR (pm_ev gR (d + 2)) E q_222 4 [some (.ref 285), some (.int (stuckN (rf mi) i)), some (.int (nI i))] [] (WW L, mi, ml, mr) := by
  intro k
  induction k with
  | zero =>
    intro i hi
    have hi : i = n := by omega
    subst hi
    refine ev_iload_n (p' := 5) i_222_4 rfl rfl ?_
    refine ev_aload_n (p' := 6) i_222_5 rfl rfl ?_
    refine ev_geti (p' := 9) i_222_6 rfl fl_12_96 rfl is_285 ?_
    refine ev_icmp_ge (p' := 12) (tg := 34) i_222_9 rfl rfl (fun c9 => ?_) (fun c9 => absurd (by rw [hn]; exact nI_le (by omega) (by omega)) c9)
    refine ev_iload_n (p' := 35) i_222_34 rfl rfl ?_
    exact ev_iretI i_222_35 rfl hE
  | succ k ih =>
    intro i hi
    refine ev_iload_n (p' := 5) i_222_4 rfl rfl ?_
    refine ev_aload_n (p' := 6) i_222_5 rfl rfl ?_
    refine ev_geti (p' := 9) i_222_6 rfl fl_12_96 rfl is_285 ?_
    refine ev_icmp_ge (p' := 12) (tg := 34) i_222_9 rfl rfl (fun c9 => absurd c9 (by rw [hn]; exact nI_ge (by omega) (by omega))) (fun c9 => ?_)
    refine ev_iload_n (p' := 13) i_222_12 rfl rfl ?_
    refine ev_aload_n (p' := 14) i_222_13 rfl rfl ?_
    refine ev_iload_n (p' := 15) i_222_14 rfl rfl ?_
    refine ev_v1I (p' := 18) i_222_15 rfl cl_12_202_12 (by decide) is_285 (Nat.le_of_ble_eq_true rfl) (s_mStuck _ hw (by omega) (hok i (by omega))) ?_
    refine ev_if_eq (p' := 21) (tg := 25) i_222_18 rfl rfl (fun c18 => ?_) (fun c18 => ?_)
    · replace c18 := B0 c18
      refine ev_iconst (p' := 26) (v := 0) i_222_25 rfl (by decide) ?_
      refine ev_iadd (p' := 27) i_222_26 rfl ?_
      refine ev_istore_n (p' := 28) (ls' := [_, _, _]) i_222_27 rfl rfl (by decide) rfl ?_
      refine ev_iinc (p' := 31) (ls' := [_, _, _]) i_222_28 rfl rfl rfl (by decide) (nI_inc _) rfl ?_
      refine ev_goto (tg := 4) i_222_31 rfl ?_
      have e : stuckN (rf mi) (i + 1) = stuckN (rf mi) i + 0 := congrArg (fun z => stuckN (rf mi) i + z) (if_neg c18)
      refine ev_cast (by rw [e]) rfl rfl (ih (i + 1) (by omega))
    · replace c18 := B1 c18
      refine ev_iconst (p' := 22) (v := 1) i_222_21 rfl (by decide) ?_
      refine ev_goto (tg := 26) i_222_22 rfl ?_
      refine ev_iadd (p' := 27) i_222_26 rfl ?_
      refine ev_istore_n (p' := 28) (ls' := [_, _, _]) i_222_27 rfl rfl (by decide) rfl ?_
      refine ev_iinc (p' := 31) (ls' := [_, _, _]) i_222_28 rfl rfl rfl (by decide) (nI_inc _) rfl ?_
      refine ev_goto (tg := 4) i_222_31 rfl ?_
      have e : stuckN (rf mi) (i + 1) = stuckN (rf mi) i + 1 := congrArg (fun z => stuckN (rf mi) i + z) (if_pos c18)
      refine ev_cast (by rw [e]) rfl rfl (ih (i + 1) (by omega))
theorem s_mstuckN {L : Nat} {π : Nat → Nat → Nat} {mi : Nat → Nat → Int32} {ml : Nat → Nat → Int64} {mr : Nat → Nat → Option Nat} (d : Nat) (hw : WR π mr) {n : Nat} (hn7 : n ≤ 7) (hn : mi 285 1 = nI n) (hok : ∀ i, i < n → okp (RFv mi) i) : pm_ev gR (d + 3) 222 [.ref 285] (WW L, mi, ml, mr) (some (.int (stuckN (rf mi) n))) (WW L, mi, ml, mr) := by
  refine ev_enter (q := q_222) rfl (Nat.le_of_ble_eq_true rfl) rfl ?_
  refine ev_iconst (p' := 1) (v := 0) i_222_0 rfl (by decide) ?_
  refine ev_istore_n (p' := 2) (ls' := [_, _, _]) i_222_1 rfl rfl (by decide) rfl ?_
  refine ev_iconst (p' := 3) (v := nI 0) i_222_2 rfl (by decide) ?_
  refine ev_istore_n (p' := 4) (ls' := [_, _, _]) i_222_3 rfl rfl (by decide) rfl ?_
  exact l_mstuck hw hn7 hn hok ⟨rfl, rfl⟩ n 0 (by omega)
theorem s_mcnt0 {L : Nat} {π : Nat → Nat → Nat} {ml : Nat → Nat → Int64} {mr : Nat → Nat → Option Nat} {mi : Nat → Nat → Int32} (d : Nat) (hw : WR π mr) {A : AV} (hA : okA A)  (hc : RR mi ml A) : ∃ mi', pm_ev gR (d + 7) 223 [.ref 285, .int (nI 0)] (WW L, mi, ml, mr) (some (.int (CNT A 0))) (WW L, mi', ml, mr) ∧ RR mi' ml A := by
  have h7 := hA.n7
  obtain ⟨x, m', ⟨h1, mi1, h2, h3⟩, h5⟩ := ev_some (E := fun x m => x = some (.int (CNT A 0)) ∧ ∃ mi', m = (WW L, mi', ml, mr) ∧ RR mi' ml A) (g := gR) (d := d + 6) (M := 223) (args := [.ref 285, .int (nI 0)]) (mem := (WW L, mi, ml, mr)) (q := q_223) rfl (Nat.le_of_ble_eq_true rfl) rfl (by
    refine ev_iload_n (p' := 1) i_223_0 rfl rfl ?_
    refine ev_tsIn (tg := 52) (off := 51) i_223_1 (by decide) (by decide) (by decide) (by decide) ?_
    refine ev_aload_n (p' := 53) i_223_52 rfl rfl ?_
    refine ev_geti (p' := 56) i_223_53 rfl fl_12_96 rfl is_285 ?_
    exact ev_iretI i_223_56 rfl ⟨by rw [hc.hn]; rfl, _, rfl, hc⟩)
  subst h1 h2
  exact ⟨mi1, h5, h3⟩
theorem s_mcnt1 {L : Nat} {π : Nat → Nat → Nat} {ml : Nat → Nat → Int64} {mr : Nat → Nat → Option Nat} {mi : Nat → Nat → Int32} (d : Nat) (hw : WR π mr) {A : AV} (hA : okA A)  (hc : RR mi ml A) : ∃ mi', pm_ev gR (d + 7) 223 [.ref 285, .int (nI 1)] (WW L, mi, ml, mr) (some (.int (CNT A 1))) (WW L, mi', ml, mr) ∧ RR mi' ml A := by
  have h7 := hA.n7
  obtain ⟨x, m', ⟨h1, mi1, h2, h3⟩, h5⟩ := ev_some (E := fun x m => x = some (.int (CNT A 1)) ∧ ∃ mi', m = (WW L, mi', ml, mr) ∧ RR mi' ml A) (g := gR) (d := d + 6) (M := 223) (args := [.ref 285, .int (nI 1)]) (mem := (WW L, mi, ml, mr)) (q := q_223) rfl (Nat.le_of_ble_eq_true rfl) rfl (by
    refine ev_iload_n (p' := 1) i_223_0 rfl rfl ?_
    refine ev_tsIn (tg := 57) (off := 56) i_223_1 (by decide) (by decide) (by decide) (by decide) ?_
    refine ev_aload_n (p' := 58) i_223_57 rfl rfl ?_
    refine ev_geti (p' := 61) i_223_58 rfl fl_12_100 rfl is_285 ?_
    exact ev_iretI i_223_61 rfl ⟨by rw [hc.1.1.2.1]; rfl, _, rfl, hc⟩)
  subst h1 h2
  exact ⟨mi1, h5, h3⟩
theorem s_mcnt2 {L : Nat} {π : Nat → Nat → Nat} {ml : Nat → Nat → Int64} {mr : Nat → Nat → Option Nat} {mi : Nat → Nat → Int32} (d : Nat) (hw : WR π mr) {A : AV} (hA : okA A)  (hc : RR mi ml A) : ∃ mi', pm_ev gR (d + 7) 223 [.ref 285, .int (nI 2)] (WW L, mi, ml, mr) (some (.int (CNT A 2))) (WW L, mi', ml, mr) ∧ RR mi' ml A := by
  have h7 := hA.n7
  obtain ⟨x, m', ⟨h1, mi1, h2, h3⟩, h5⟩ := ev_some (E := fun x m => x = some (.int (CNT A 2)) ∧ ∃ mi', m = (WW L, mi', ml, mr) ∧ RR mi' ml A) (g := gR) (d := d + 6) (M := 223) (args := [.ref 285, .int (nI 2)]) (mem := (WW L, mi, ml, mr)) (q := q_223) rfl (Nat.le_of_ble_eq_true rfl) rfl (by
    refine ev_iload_n (p' := 1) i_223_0 rfl rfl ?_
    refine ev_tsIn (tg := 62) (off := 61) i_223_1 (by decide) (by decide) (by decide) (by decide) ?_
    refine ev_aload_n (p' := 63) i_223_62 rfl rfl ?_
    refine ev_geti (p' := 66) i_223_63 rfl fl_12_103 rfl is_285 ?_
    exact ev_iretI i_223_66 rfl ⟨by rw [hc.1.1.2.2.1]; rfl, _, rfl, hc⟩)
  subst h1 h2
  exact ⟨mi1, h5, h3⟩
theorem s_mcnt3 {L : Nat} {π : Nat → Nat → Nat} {ml : Nat → Nat → Int64} {mr : Nat → Nat → Option Nat} {mi : Nat → Nat → Int32} (d : Nat) (hw : WR π mr) {A : AV} (hA : okA A)  (hc : RR mi ml A) : ∃ mi', pm_ev gR (d + 7) 223 [.ref 285, .int (nI 3)] (WW L, mi, ml, mr) (some (.int (CNT A 3))) (WW L, mi', ml, mr) ∧ RR mi' ml A := by
  have h7 := hA.n7
  obtain ⟨x, m', ⟨h1, mi1, h2, h3⟩, h5⟩ := ev_some (E := fun x m => x = some (.int (CNT A 3)) ∧ ∃ mi', m = (WW L, mi', ml, mr) ∧ RR mi' ml A) (g := gR) (d := d + 6) (M := 223) (args := [.ref 285, .int (nI 3)]) (mem := (WW L, mi, ml, mr)) (q := q_223) rfl (Nat.le_of_ble_eq_true rfl) rfl (by
    refine ev_iload_n (p' := 1) i_223_0 rfl rfl ?_
    refine ev_tsIn (tg := 67) (off := 66) i_223_1 (by decide) (by decide) (by decide) (by decide) ?_
    refine ev_aload_n (p' := 68) i_223_67 rfl rfl ?_
    refine ev_aload_n (p' := 69) i_223_68 rfl rfl ?_
    refine ev_geti (p' := 72) i_223_69 rfl fl_12_100 rfl is_285 ?_
    obtain ⟨oo, ho, eo⟩ := hA.1.1.2.2.1
    rw [hc.1.1.2.1, eo]
    refine ev_v1I (p' := 75) i_223_72 rfl cl_12_237_12 (by decide) is_285 (Nat.le_of_ble_eq_true rfl) (v_mSeen _ hw hc hA ho) ?_
    refine ev_s1I (p' := 78) i_223_75 rfl cl_12_249_0 (by decide) (Nat.le_of_ble_eq_true rfl) (s_bits _ _) ?_
    exact ev_iretI i_223_78 rfl ⟨by rw [VS_bits h7, ← eo]; rfl, _, rfl, hc.hr h7⟩)
  subst h1 h2
  exact ⟨mi1, h5, h3⟩
theorem s_mcnt4 {L : Nat} {π : Nat → Nat → Nat} {ml : Nat → Nat → Int64} {mr : Nat → Nat → Option Nat} {mi : Nat → Nat → Int32} (d : Nat) (hw : WR π mr) {A : AV} (hA : okA A)  (hc : RR mi ml A) : ∃ mi', pm_ev gR (d + 7) 223 [.ref 285, .int (nI 4)] (WW L, mi, ml, mr) (some (.int (CNT A 4))) (WW L, mi', ml, mr) ∧ RR mi' ml A := by
  have h7 := hA.n7
  obtain ⟨x, m', ⟨h1, mi1, h2, h3⟩, h5⟩ := ev_some (E := fun x m => x = some (.int (CNT A 4)) ∧ ∃ mi', m = (WW L, mi', ml, mr) ∧ RR mi' ml A) (g := gR) (d := d + 6) (M := 223) (args := [.ref 285, .int (nI 4)]) (mem := (WW L, mi, ml, mr)) (q := q_223) rfl (Nat.le_of_ble_eq_true rfl) rfl (by
    refine ev_iload_n (p' := 1) i_223_0 rfl rfl ?_
    refine ev_tsIn (tg := 79) (off := 78) i_223_1 (by decide) (by decide) (by decide) (by decide) ?_
    refine ev_aload_n (p' := 80) i_223_79 rfl rfl ?_
    refine ev_v0I (p' := 83) i_223_80 rfl cl_12_329_12 (by decide) is_285 (Nat.le_of_ble_eq_true rfl) (s_mstuckN _ hw h7 hc.hn (hc.1.1.oke hA.1.1)) ?_
    exact ev_iretI i_223_83 rfl ⟨by rw [stuckN_cg hc.1.1.rfe]; rfl, _, rfl, hc⟩)
  subst h1 h2
  exact ⟨mi1, h5, h3⟩
theorem s_mcnt5 {L : Nat} {π : Nat → Nat → Nat} {ml : Nat → Nat → Int64} {mr : Nat → Nat → Option Nat} {mi : Nat → Nat → Int32} (d : Nat) (hw : WR π mr) {A : AV} (hA : okA A)  (hc : RR mi ml A) : ∃ mi', pm_ev gR (d + 7) 223 [.ref 285, .int (nI 5)] (WW L, mi, ml, mr) (some (.int (CNT A 5))) (WW L, mi', ml, mr) ∧ RR mi' ml A := by
  have h7 := hA.n7
  obtain ⟨x, m', ⟨h1, mi1, h2, h3⟩, h5⟩ := ev_some (E := fun x m => x = some (.int (CNT A 5)) ∧ ∃ mi', m = (WW L, mi', ml, mr) ∧ RR mi' ml A) (g := gR) (d := d + 6) (M := 223) (args := [.ref 285, .int (nI 5)]) (mem := (WW L, mi, ml, mr)) (q := q_223) rfl (Nat.le_of_ble_eq_true rfl) rfl (by
    refine ev_iload_n (p' := 1) i_223_0 rfl rfl ?_
    refine ev_tsIn (tg := 84) (off := 83) i_223_1 (by decide) (by decide) (by decide) (by decide) ?_
    refine ev_aload_n (p' := 85) i_223_84 rfl rfl ?_
    refine ev_v0I (p' := 88) i_223_85 rfl cl_12_332_12 (by decide) is_285 (Nat.le_of_ble_eq_true rfl) (s_mwear _ hw h7 hc.hn (hc.1.1.oke hA.1.1)) ?_
    exact ev_iretI i_223_88 rfl ⟨by rw [wearN_cg hc.1.1.rfe]; rfl, _, rfl, hc⟩)
  subst h1 h2
  exact ⟨mi1, h5, h3⟩
theorem s_mcnt6 {L : Nat} {π : Nat → Nat → Nat} {ml : Nat → Nat → Int64} {mr : Nat → Nat → Option Nat} {mi : Nat → Nat → Int32} (d : Nat) (hw : WR π mr) {A : AV} (hA : okA A)  (hc : RR mi ml A) : ∃ mi', pm_ev gR (d + 7) 223 [.ref 285, .int (nI 6)] (WW L, mi, ml, mr) (some (.int (CNT A 6))) (WW L, mi', ml, mr) ∧ RR mi' ml A := by
  have h7 := hA.n7
  obtain ⟨x, m', ⟨h1, mi1, h2, h3⟩, h5⟩ := ev_some (E := fun x m => x = some (.int (CNT A 6)) ∧ ∃ mi', m = (WW L, mi', ml, mr) ∧ RR mi' ml A) (g := gR) (d := d + 6) (M := 223) (args := [.ref 285, .int (nI 6)]) (mem := (WW L, mi, ml, mr)) (q := q_223) rfl (Nat.le_of_ble_eq_true rfl) rfl (by
    refine ev_iload_n (p' := 1) i_223_0 rfl rfl ?_
    refine ev_tsIn (tg := 89) (off := 88) i_223_1 (by decide) (by decide) (by decide) (by decide) ?_
    refine ev_aload_n (p' := 90) i_223_89 rfl rfl ?_
    refine ev_geti (p' := 93) i_223_90 rfl fl_12_106 rfl is_285 ?_
    exact ev_iretI i_223_93 rfl ⟨by rw [hc.1.2.2.1.1]; rfl, _, rfl, hc⟩)
  subst h1 h2
  exact ⟨mi1, h5, h3⟩
theorem s_mcnt7 {L : Nat} {π : Nat → Nat → Nat} {ml : Nat → Nat → Int64} {mr : Nat → Nat → Option Nat} {mi : Nat → Nat → Int32} (d : Nat) (hw : WR π mr) {A : AV} (hA : okA A)  (hc : RR mi ml A) : ∃ mi', pm_ev gR (d + 7) 223 [.ref 285, .int (nI 7)] (WW L, mi, ml, mr) (some (.int (CNT A 7))) (WW L, mi', ml, mr) ∧ RR mi' ml A := by
  have h7 := hA.n7
  obtain ⟨x, m', ⟨h1, mi1, h2, h3⟩, h5⟩ := ev_some (E := fun x m => x = some (.int (CNT A 7)) ∧ ∃ mi', m = (WW L, mi', ml, mr) ∧ RR mi' ml A) (g := gR) (d := d + 6) (M := 223) (args := [.ref 285, .int (nI 7)]) (mem := (WW L, mi, ml, mr)) (q := q_223) rfl (Nat.le_of_ble_eq_true rfl) rfl (by
    refine ev_iload_n (p' := 1) i_223_0 rfl rfl ?_
    refine ev_tsIn (tg := 94) (off := 93) i_223_1 (by decide) (by decide) (by decide) (by decide) ?_
    refine ev_aload_n (p' := 95) i_223_94 rfl rfl ?_
    refine ev_geti (p' := 98) i_223_95 rfl fl_12_109 rfl is_285 ?_
    exact ev_iretI i_223_98 rfl ⟨by rw [hc.1.2.2.2.1]; rfl, _, rfl, hc⟩)
  subst h1 h2
  exact ⟨mi1, h5, h3⟩
theorem s_mcnt8 {L : Nat} {π : Nat → Nat → Nat} {ml : Nat → Nat → Int64} {mr : Nat → Nat → Option Nat} {mi : Nat → Nat → Int32} (d : Nat) (hw : WR π mr) {A : AV} (hA : okA A)  (hc : RR mi ml A) : ∃ mi', pm_ev gR (d + 7) 223 [.ref 285, .int (nI 8)] (WW L, mi, ml, mr) (some (.int (CNT A 8))) (WW L, mi', ml, mr) ∧ RR mi' ml A := by
  have h7 := hA.n7
  obtain ⟨x, m', ⟨h1, mi1, h2, h3⟩, h5⟩ := ev_some (E := fun x m => x = some (.int (CNT A 8)) ∧ ∃ mi', m = (WW L, mi', ml, mr) ∧ RR mi' ml A) (g := gR) (d := d + 6) (M := 223) (args := [.ref 285, .int (nI 8)]) (mem := (WW L, mi, ml, mr)) (q := q_223) rfl (Nat.le_of_ble_eq_true rfl) rfl (by
    refine ev_iload_n (p' := 1) i_223_0 rfl rfl ?_
    refine ev_tsIn (tg := 99) (off := 98) i_223_1 (by decide) (by decide) (by decide) (by decide) ?_
    refine ev_aload_n (p' := 100) i_223_99 rfl rfl ?_
    refine ev_geti (p' := 103) i_223_100 rfl fl_12_112 rfl is_285 ?_
    exact ev_iretI i_223_103 rfl ⟨by rw [hc.1.2.1.1]; rfl, _, rfl, hc⟩)
  subst h1 h2
  exact ⟨mi1, h5, h3⟩
theorem s_mcnt9 {L : Nat} {π : Nat → Nat → Nat} {ml : Nat → Nat → Int64} {mr : Nat → Nat → Option Nat} {mi : Nat → Nat → Int32} (d : Nat) (hw : WR π mr) {A : AV} (hA : okA A)  (hc : RR mi ml A) : ∃ mi', pm_ev gR (d + 7) 223 [.ref 285, .int (nI 9)] (WW L, mi, ml, mr) (some (.int (CNT A 9))) (WW L, mi', ml, mr) ∧ RR mi' ml A := by
  have h7 := hA.n7
  obtain ⟨x, m', ⟨h1, mi1, h2, h3⟩, h5⟩ := ev_some (E := fun x m => x = some (.int (CNT A 9)) ∧ ∃ mi', m = (WW L, mi', ml, mr) ∧ RR mi' ml A) (g := gR) (d := d + 6) (M := 223) (args := [.ref 285, .int (nI 9)]) (mem := (WW L, mi, ml, mr)) (q := q_223) rfl (Nat.le_of_ble_eq_true rfl) rfl (by
    refine ev_iload_n (p' := 1) i_223_0 rfl rfl ?_
    refine ev_tsOut (tg := 104) i_223_1 (by decide) (by decide) ?_
    refine ev_aload_n (p' := 105) i_223_104 rfl rfl ?_
    refine ev_geti (p' := 108) i_223_105 rfl fl_12_130 rfl is_285 ?_
    exact ev_iretI i_223_108 rfl ⟨by rw [hc.2.2.1.1]; rfl, _, rfl, hc⟩)
  subst h1 h2
  exact ⟨mi1, h5, h3⟩
theorem s_mcnt {L : Nat} {π : Nat → Nat → Nat} {ml : Nat → Nat → Int64} {mr : Nat → Nat → Option Nat} {mi : Nat → Nat → Int32} (d : Nat) (hw : WR π mr) {A : AV} (hA : okA A) {w : Nat} (h10 : w < 10) (hc : RR mi ml A) : ∃ mi', pm_ev gR (d + 7) 223 [.ref 285, .int (nI w)] (WW L, mi, ml, mr) (some (.int (CNT A w))) (WW L, mi', ml, mr) ∧ RR mi' ml A := by
  match w, h10 with
  | 0, _ => exact s_mcnt0 d hw hA hc
  | 1, _ => exact s_mcnt1 d hw hA hc
  | 2, _ => exact s_mcnt2 d hw hA hc
  | 3, _ => exact s_mcnt3 d hw hA hc
  | 4, _ => exact s_mcnt4 d hw hA hc
  | 5, _ => exact s_mcnt5 d hw hA hc
  | 6, _ => exact s_mcnt6 d hw hA hc
  | 7, _ => exact s_mcnt7 d hw hA hc
  | 8, _ => exact s_mcnt8 d hw hA hc
  | 9, _ => exact s_mcnt9 d hw hA hc
  | w + 10, h => exact absurd h (by omega)
theorem C_count_bad (L d : Nat) (A : AV) (hA : okA A) (x : Int32) (hb : ¬ (0 ≤ x ∧ x ≤ 9)) : Cst L (d + 24) 104 [.int x] A (.int (-2)) (badA A) := by
  refine C_of (q := q_104) rfl (Nat.le_of_ble_eq_true rfl) rfl (fun π mi ml mr hw hc => ?_)
  have hn := hc.hn
  have h7 := hA.n7
  refine ev_aload_n (p' := 1) i_104_0 rfl rfl ?_
  refine ev_getr (p' := 4) i_104_1 rfl fl_11_78 rfl is_1 (rf_1_0 hw) ?_
  refine ev_getr (p' := 7) i_104_4 rfl fl_11_97 rfl (is_sp sp_17) (hw.page sp_17) ?_
  refine ev_astore_n (p' := 8) (ls' := [_, _, _]) i_104_7 rfl rfl (by decide) rfl ?_
  refine ev_iload_n (p' := 9) i_104_8 rfl rfl ?_
  by_cases hx0 : x = 0
  · subst hx0
    refine ev_tsIn (tg := 64) (off := 55) i_104_9 (by decide) (by decide) (by decide) (by decide) ?_
    exact absurd (by decide) hb
  by_cases hx1 : x = 1
  · subst hx1
    refine ev_tsIn (tg := 69) (off := 60) i_104_9 (by decide) (by decide) (by decide) (by decide) ?_
    exact absurd (by decide) hb
  by_cases hx2 : x = 2
  · subst hx2
    refine ev_tsIn (tg := 74) (off := 65) i_104_9 (by decide) (by decide) (by decide) (by decide) ?_
    exact absurd (by decide) hb
  by_cases hx3 : x = 3
  · subst hx3
    refine ev_tsIn (tg := 79) (off := 70) i_104_9 (by decide) (by decide) (by decide) (by decide) ?_
    exact absurd (by decide) hb
  by_cases hx4 : x = 4
  · subst hx4
    refine ev_tsIn (tg := 92) (off := 83) i_104_9 (by decide) (by decide) (by decide) (by decide) ?_
    exact absurd (by decide) hb
  by_cases hx5 : x = 5
  · subst hx5
    refine ev_tsIn (tg := 105) (off := 96) i_104_9 (by decide) (by decide) (by decide) (by decide) ?_
    exact absurd (by decide) hb
  by_cases hx6 : x = 6
  · subst hx6
    refine ev_tsIn (tg := 110) (off := 101) i_104_9 (by decide) (by decide) (by decide) (by decide) ?_
    exact absurd (by decide) hb
  by_cases hx7 : x = 7
  · subst hx7
    refine ev_tsIn (tg := 118) (off := 109) i_104_9 (by decide) (by decide) (by decide) (by decide) ?_
    exact absurd (by decide) hb
  by_cases hx8 : x = 8
  · subst hx8
    refine ev_tsIn (tg := 126) (off := 117) i_104_9 (by decide) (by decide) (by decide) (by decide) ?_
    exact absurd (by decide) hb
  by_cases hx9 : x = 9
  · subst hx9
    refine ev_tsIn (tg := 134) (off := 125) i_104_9 (by decide) (by decide) (by decide) (by decide) ?_
    exact absurd (by decide) hb
  · refine ev_tsOut (tg := 142) i_104_9 (by have z0 : x.toInt ≠ 0 := fun z => hx0 (Int32.toInt_inj.mp z); have z1 : x.toInt ≠ 1 := fun z => hx1 (Int32.toInt_inj.mp z); have z2 : x.toInt ≠ 2 := fun z => hx2 (Int32.toInt_inj.mp z); have z3 : x.toInt ≠ 3 := fun z => hx3 (Int32.toInt_inj.mp z); have z4 : x.toInt ≠ 4 := fun z => hx4 (Int32.toInt_inj.mp z); have z5 : x.toInt ≠ 5 := fun z => hx5 (Int32.toInt_inj.mp z); have z6 : x.toInt ≠ 6 := fun z => hx6 (Int32.toInt_inj.mp z); have z7 : x.toInt ≠ 7 := fun z => hx7 (Int32.toInt_inj.mp z); have z8 : x.toInt ≠ 8 := fun z => hx8 (Int32.toInt_inj.mp z); have z9 : x.toInt ≠ 9 := fun z => hx9 (Int32.toInt_inj.mp z); omega) (by decide) ?_
    refine ev_aload_n (p' := 143) i_104_142 rfl rfl ?_
    refine ev_v0I (p' := 146) i_104_143 rfl cl_11_93_11 (by decide) is_1 (Nat.le_of_ble_eq_true rfl) (s_bad _) ?_
    exact ev_iretI i_104_146 rfl (EC.mk rfl hw (hc.bad hw))
theorem R_count_bad (L d : Nat) (A : AV) (hA : okA A) (x : Int32) (hb : ¬ (0 ≤ x ∧ x ≤ 9)) : Rst L (d + 24) 224 [.int x] A (.int (-2)) (badA A) := by
  refine R_of (q := q_224) rfl (Nat.le_of_ble_eq_true rfl) rfl (fun π mi ml mr hw hc => ?_)
  have hn := hc.hn
  have h7 := hA.n7
  refine ev_iload_n (p' := 1) i_224_0 rfl rfl ?_
  refine ev_iconst (p' := 2) (v := 0) i_224_1 rfl (by decide) ?_
  refine ev_bipush (p' := 4) (v := 9) i_224_2 rfl (by decide) ?_
  refine ev_s3I (p' := 7) i_224_4 rfl cl_12_115_0 (by decide) (Nat.le_of_ble_eq_true rfl) (s_in _ _ _ _) ?_
  refine ev_if_eq (p' := 10) (tg := 18) i_224_7 rfl rfl (fun c7 => ?_) (fun c7 => ?_)
  · replace c7 := B0 c7
    refine ev_aload_n (p' := 19) i_224_18 rfl rfl ?_
    refine ev_v0I (p' := 22) i_224_19 rfl cl_12_119_12 (by decide) is_285 (Nat.le_of_ble_eq_true rfl) (s_mbad _ hw) ?_
    exact ev_iretI i_224_22 rfl (ER.mk rfl (hc.bad h7))
  · replace c7 := B1 c7
    exact absurd c7 hb
theorem C_count (L d : Nat) (A : AV) (hA : okA A) {w : Nat} (h10 : w < 10) : Cst L (d + 24) 104 [.int (nI w)] A (.int (CNT A w)) A := by
  intro π mi ml mr hw hc
  obtain ⟨mi1, h1, h2⟩ := s_cnt (L := L) (d + 17) hw hA h10 hc
  exact ⟨π, mi1, ml, mr, h1, hw, h2⟩
theorem R_count (L d : Nat) (A : AV) (hA : okA A) {w : Nat} (h10 : w < 10) : Rst L (d + 24) 224 [.int (nI w)] A (.int (CNT A w)) (A) := by
  refine R_of (q := q_224) rfl (Nat.le_of_ble_eq_true rfl) rfl (fun π mi ml mr hw hc => ?_)
  have hn := hc.hn
  have h7 := hA.n7
  refine ev_iload_n (p' := 1) i_224_0 rfl rfl ?_
  refine ev_iconst (p' := 2) (v := 0) i_224_1 rfl (by decide) ?_
  refine ev_bipush (p' := 4) (v := 9) i_224_2 rfl (by decide) ?_
  refine ev_s3I (p' := 7) i_224_4 rfl cl_12_115_0 (by decide) (Nat.le_of_ble_eq_true rfl) (s_in _ _ _ _) ?_
  refine ev_if_eq (p' := 10) (tg := 18) i_224_7 rfl rfl (fun c7 => absurd c7 (B_tn (in0 (m := 9) (by omega) (by decide) rfl))) (fun c7 => ?_)
  refine ev_aload_n (p' := 11) i_224_10 rfl rfl ?_
  refine ev_iload_n (p' := 12) i_224_11 rfl rfl ?_
  obtain ⟨mi2, e2, h2⟩ := s_mcnt (L := L) (d + 16) hw hA h10 hc
  refine ev_v1I (p' := 15) i_224_12 rfl cl_12_335_12 (by decide) is_285 (Nat.le_of_ble_eq_true rfl) (e2) ?_
  refine ev_goto (tg := 22) i_224_15 rfl ?_
  exact ev_iretI i_224_22 rfl (ER.mk rfl h2)
theorem Q_count (L : Nat) (A : AV) (hA : okA A) (x : Int32) : SameI L 104 224 [.int x] A := by
  by_cases h : 0 ≤ x ∧ x ≤ 9
  · obtain ⟨w, hw, rfl⟩ := of0 (m := 9) h rfl
    exact ⟨_, A, hA, fun d => C_count L d A hA (by omega), fun d => R_count L d A hA (by omega)⟩
  · exact ⟨_, badA A, hA.bad, fun d => C_count_bad L d A hA x h, fun d => R_count_bad L d A hA x h⟩
/-! the digest -/
noncomputable def DG (A : AV) (m : Nat) : Int64 := fold (fun w h => mx h (CNT A w).toInt64) m 1511
def px (f : Nat → Nat → Int32) (i : Nat) (h : Int64) : Int64 := mx (mx (mx (mx (mx (mx (mx h (f 0 i).toInt64) (f 1 i).toInt64) (f 2 i).toInt64) (f 3 i).toInt64) (f 4 i).toInt64) (f 5 i).toInt64) (f 6 i).toInt64
def pxs (f : Nat → Nat → Int32) (m : Nat) (h : Int64) : Int64 := fold (fun i a => px f i a) m h
def rowX (f : Nat → Nat → Int32) (n W : Nat) (h : Int64) : Int64 := fold (fun j a => mx a (f n j).toInt64) W h
def rowsX (f : Nat → Nat → Int32) (W m : Nat) (h : Int64) : Int64 := fold (fun n a => rowX f n W a) m h
def flX (f : Nat → Nat → Int32) (m : Nat) (h : Int64) : Int64 := fold (fun k a => mx a (f (k / 5) (k % 5)).toInt64) m h
theorem flX_s {f : Nat → Nat → Int32} {m : Nat} {h : Int64} : flX f (m + 1) h = mx (flX f m h) (f (m / 5) (m % 5)).toInt64 := rfl
theorem pxs_0 {f : Nat → Nat → Int32} {h : Int64} : pxs f 0 h = h := rfl
theorem flX_0 {f : Nat → Nat → Int32} {h : Int64} : flX f 0 h = h := rfl
theorem rowsX_0 {f : Nat → Nat → Int32} {W : Nat} {h : Int64} : rowsX f W 0 h = h := rfl
theorem DG_0 {A : AV} : DG A 0 = 1511 := rfl
theorem flat_rows {f : Nat → Nat → Int32} {h : Int64} : ∀ n, flX f (5 * n) h = rowsX f 5 n h := by
  intro n
  induction n with
  | zero => rw [Nat.mul_zero]; exact flX_0.trans rowsX_0.symm
  | succ n ih =>
    have k0 : 5 * n / 5 = n ∧ 5 * n % 5 = 0 := by omega
    have k1 : (5 * n + 1) / 5 = n ∧ (5 * n + 1) % 5 = 1 := by omega
    have k2 : (5 * n + 1 + 1) / 5 = n ∧ (5 * n + 1 + 1) % 5 = 2 := by omega
    have k3 : (5 * n + 1 + 1 + 1) / 5 = n ∧ (5 * n + 1 + 1 + 1) % 5 = 3 := by omega
    have k4 : (5 * n + 1 + 1 + 1 + 1) / 5 = n ∧ (5 * n + 1 + 1 + 1 + 1) % 5 = 4 := by omega
    have k5 : 5 * (n + 1) = 5 * n + 1 + 1 + 1 + 1 + 1 := by omega
    have q : flX f (5 * n + 1 + 1 + 1 + 1 + 1) h = mx (mx (mx (mx (mx (flX f (5 * n) h) (f n 0).toInt64) (f n 1).toInt64) (f n 2).toInt64) (f n 3).toInt64) (f n 4).toInt64 := by
      generalize hz : 5 * n = z at *
      rw [@flX_s f (z + 1 + 1 + 1 + 1) h, @flX_s f (z + 1 + 1 + 1) h, @flX_s f (z + 1 + 1) h, @flX_s f (z + 1) h, @flX_s f z h, k0.1, k0.2, k1.1, k1.2, k2.1, k2.2, k3.1, k3.2, k4.1, k4.2]
    have g : rowsX f 5 (n + 1) h = rowX f n 5 (rowsX f 5 n h) := fold_s (f := fun n a => rowX f n 5 a) (n := n) (a := h)
    have g5 : ∀ m a, rowX f n (m + 1) a = mx (rowX f n m a) (f n m).toInt64 := fun m a => fold_s (f := fun j a => mx a (f n j).toInt64) (n := m) (a := a)
    have g0 : ∀ a, rowX f n 0 a = a := fun a => rfl
    rw [k5, q, ih, g, g5 4, g5 3, g5 2, g5 1, g5 0, g0]
theorem CR.mxg {π : Nat → Nat → Nat} {mi : Nat → Nat → Int32} {ml : Nat → Nat → Int64} {A : AV} {h : Int64} (hc : CR π mi ml A) : mxg mi 33 h A.1.1.1 = pxs A.1.1.2.2.2 A.1.1.1 h :=
  fold_congr (fun i hi x => by
    have e : ∀ j, j < 7 → mi (33 + 3 + i) j = A.1.1.2.2.2 j i := fun j hj => (hc.f hi (by omega)).trans (if_neg (by omega))
    show mxp mi (33 + 3 + i) x = px A.1.1.2.2.2 i x
    unfold mxp px
    rw [e 0 (by decide), e 1 (by decide), e 2 (by decide), e 3 (by decide), e 4 (by decide), e 5 (by decide), e 6 (by decide)])
noncomputable def DIG (A : AV) : Int64 := mx (mx (rowsX A.1.2.2.2.2 2 A.1.2.2.2.1 (rowsX A.1.2.2.1.2 5 A.1.2.2.1.1 (pxs A.1.1.2.2.2 A.1.1.1 (DG A 10)))) A.2.2.2.1.1) A.2.2.2.1.2
theorem l_mxn {L : Nat} {π : Nat → Nat → Nat} {mi : Nat → Nat → Int32} {ml : Nat → Nat → Int64} {mr : Nat → Nat → Option Nat} {d : Nat} {E : Option Value → pm_M → Prop} (hw : WR π mr) {A : AV} (hA : okA A) (hc : CR π mi ml A) {n m : Nat} (hn : n < A.1.2.2.1.1) {h a : Int64} (kk : ∀ x10, Ev gC (pm_ev gC (d + 1)) E q_129 56 [some (.long h), none, some (.ref (17 + 2)), some (.int (nI m)), some (.long (rowX A.1.2.2.1.2 n 5 a)), none, some (.int (nI n)), some (.ref (17 + 3 + n)), some (.int (nI 5)), some (.int (nI 5)), x10] [] (WW L, mi, ml, mr)) : ∀ k i x10, i + k = 5 → Ev gC (pm_ev gC (d + 1)) E q_129 26 [some (.long h), none, some (.ref (17 + 2)), some (.int (nI m)), some (.long (rowX A.1.2.2.1.2 n i a)), none, some (.int (nI n)), some (.ref (17 + 3 + n)), some (.int (nI 5)), some (.int (nI i)), x10] [] (WW L, mi, ml, mr) := by
  have hs := hc.1.2.2.1
  have h6 := hs.1
  intro k
  induction k with
  | zero =>
    intro i x10 hi
    have hi : i = 5 := by omega
    subst hi
    refine ev_iload (p' := 28) i_129_26 rfl rfl ?_
    refine ev_iload (p' := 30) i_129_28 rfl rfl ?_
    refine ev_icmp_ge (p' := 33) (tg := 56) i_129_30 rfl rfl (fun c30 => ?_) (fun c30 => absurd (by decide) c30)
    exact kk _
  | succ k ih =>
    intro i x10 hi
    refine ev_iload (p' := 28) i_129_26 rfl rfl ?_
    refine ev_iload (p' := 30) i_129_28 rfl rfl ?_
    refine ev_icmp_ge (p' := 33) (tg := 56) i_129_30 rfl rfl (fun c30 => absurd c30 (nI_ge (b := 5) (by omega) (by decide))) (fun c30 => ?_)
    refine ev_aload (p' := 35) i_129_33 rfl rfl ?_
    refine ev_iload (p' := 37) i_129_35 rfl rfl ?_
    refine ev_ialdN (p' := 38) i_129_37 rfl (is_ntr sp_17 (show n < 6 by omega)) (len_ntr sp_17 (show n < 6 by omega)) (by omega) (by decide) ?_
    rw [hs.2.2 n hn i (by omega)]
    refine ev_istore (p' := 40) (ls' := [_, _, _, _, _, _, _, _, _, _, _]) i_129_38 rfl rfl (by decide) rfl ?_
    refine ev_lload (p' := 42) i_129_40 rfl rfl ?_
    refine ev_iload (p' := 44) i_129_42 rfl rfl ?_
    refine ev_i2l (p' := 45) i_129_44 rfl ?_
    refine ev_s2L (p' := 48) i_129_45 rfl cl_11_325_0 (by decide) (Nat.le_of_ble_eq_true rfl) (s_mixed _ _ _) ?_
    refine ev_lstore (p' := 50) (ls' := [_, _, _, _, _, _, _, _, _, _, _]) i_129_48 rfl rfl (by decide) rfl ?_
    refine ev_iinc (p' := 53) (ls' := [_, _, _, _, _, _, _, _, _, _, _]) i_129_50 rfl rfl rfl (by decide) (nI_inc _) rfl ?_
    refine ev_goto (tg := 26) i_129_53 rfl ?_
    exact ih (i + 1) _ (by omega)
theorem l_mxon {L : Nat} {π : Nat → Nat → Nat} {mi : Nat → Nat → Int32} {ml : Nat → Nat → Int64} {mr : Nat → Nat → Option Nat} {d : Nat} {E : Option Value → pm_M → Prop} (hw : WR π mr) {A : AV} (hA : okA A) (hc : CR π mi ml A) {h : Int64} (hE : E (some (.long (rowsX A.1.2.2.1.2 5 A.1.2.2.1.1 h))) (WW L, mi, ml, mr)) : ∀ k n x7 x8 x9 x10, n + k = A.1.2.2.1.1 → Ev gC (pm_ev gC (d + 1)) E q_129 6 [some (.long h), none, some (.ref (17 + 2)), some (.int (nI A.1.2.2.1.1)), some (.long (rowsX A.1.2.2.1.2 5 n h)), none, some (.int (nI n)), x7, x8, x9, x10] [] (WW L, mi, ml, mr) := by
  have hs := hc.1.2.2.1
  have h6 := hs.1
  intro k
  induction k with
  | zero =>
    intro n x7 x8 x9 x10 hi
    have hi : n = A.1.2.2.1.1 := by omega
    subst hi
    refine ev_iload (p' := 8) i_129_6 rfl rfl ?_
    refine ev_iload_n (p' := 9) i_129_8 rfl rfl ?_
    refine ev_icmp_ge (p' := 12) (tg := 62) i_129_9 rfl rfl (fun c9 => ?_) (fun c9 => absurd (nI_le (by omega) (by omega)) c9)
    refine ev_lload (p' := 64) i_129_62 rfl rfl ?_
    exact ev_lret i_129_64 rfl hE
  | succ k ih =>
    intro n x7 x8 x9 x10 hi
    refine ev_iload (p' := 8) i_129_6 rfl rfl ?_
    refine ev_iload_n (p' := 9) i_129_8 rfl rfl ?_
    refine ev_icmp_ge (p' := 12) (tg := 62) i_129_9 rfl rfl (fun c9 => absurd c9 (nI_ge (by omega) (by omega))) (fun c9 => ?_)
    refine ev_aload_n (p' := 13) i_129_12 rfl rfl ?_
    refine ev_iload (p' := 15) i_129_13 rfl rfl ?_
    refine ev_aaldN (p' := 16) 27 i_129_15 rfl (is_nt sp_17) (by decide) (len_nt sp_17) (by omega) (by decide) (hw.note sp_17 (by omega)) ?_
    refine ev_astore (p' := 18) (ls' := [_, _, _, _, _, _, _, _, _, _, _]) i_129_16 rfl rfl (by decide) rfl ?_
    refine ev_aload (p' := 20) i_129_18 rfl rfl ?_
    refine ev_alen (p' := 21) 20 i_129_20 rfl (is_ntr sp_17 (by omega)) (by decide) ?_
    rw [len_ntr sp_17 (show n < 6 by omega)]
    refine ev_istore (p' := 23) (ls' := [_, _, _, _, _, _, _, _, _, _, _]) i_129_21 rfl rfl (by decide) rfl ?_
    refine ev_iconst (p' := 24) (v := nI 0) i_129_23 rfl (by decide) ?_
    refine ev_istore (p' := 26) (ls' := [_, _, _, _, _, _, _, _, _, _, _]) i_129_24 rfl rfl (by decide) rfl ?_
    refine l_mxn hw hA hc (show n < A.1.2.2.1.1 by omega) (fun x10 => ?_) 5 0 _ (by decide)
    refine ev_iinc (p' := 59) (ls' := [_, _, _, _, _, _, _, _, _, _, _]) i_129_56 rfl rfl rfl (by decide) (nI_inc _) rfl ?_
    refine ev_goto (tg := 6) i_129_59 rfl ?_
    exact ih (n + 1) _ _ _ _ (by omega)
theorem s_rowsn {L : Nat} {π : Nat → Nat → Nat} {mi : Nat → Nat → Int32} {ml : Nat → Nat → Int64} {mr : Nat → Nat → Option Nat} (d : Nat) (hw : WR π mr) {A : AV} (hA : okA A) (hc : CR π mi ml A) (h : Int64) : pm_ev gC (d + 2) 129 [.long h, .ref (17 + 2), .int (nI A.1.2.2.1.1)] (WW L, mi, ml, mr) (some (.long (rowsX A.1.2.2.1.2 5 A.1.2.2.1.1 h))) (WW L, mi, ml, mr) := by
  refine ev_enter (q := q_129) rfl (Nat.le_of_ble_eq_true rfl) rfl ?_
  refine ev_lload_n (p' := 1) i_129_0 rfl rfl ?_
  refine ev_lstore (p' := 3) (ls' := [_, _, _, _, _, _, _, _, _, _, _]) i_129_1 rfl rfl (by decide) rfl ?_
  refine ev_iconst (p' := 4) (v := nI 0) i_129_3 rfl (by decide) ?_
  refine ev_istore (p' := 6) (ls' := [_, _, _, _, _, _, _, _, _, _, _]) i_129_4 rfl rfl (by decide) rfl ?_
  exact l_mxon hw hA hc ⟨rfl, rfl⟩ A.1.2.2.1.1 0 _ _ _ _ (by omega)
theorem l_mxs {L : Nat} {π : Nat → Nat → Nat} {mi : Nat → Nat → Int32} {ml : Nat → Nat → Int64} {mr : Nat → Nat → Option Nat} {d : Nat} {E : Option Value → pm_M → Prop} (hw : WR π mr) {A : AV} (hA : okA A) (hc : CR π mi ml A) {n m : Nat} (hn : n < A.1.2.2.2.1) {h a : Int64} (kk : ∀ x10, Ev gC (pm_ev gC (d + 1)) E q_129 56 [some (.long h), none, some (.ref (17 + 9)), some (.int (nI m)), some (.long (rowX A.1.2.2.2.2 n 2 a)), none, some (.int (nI n)), some (.ref (17 + 10 + n)), some (.int (nI 2)), some (.int (nI 2)), x10] [] (WW L, mi, ml, mr)) : ∀ k i x10, i + k = 2 → Ev gC (pm_ev gC (d + 1)) E q_129 26 [some (.long h), none, some (.ref (17 + 9)), some (.int (nI m)), some (.long (rowX A.1.2.2.2.2 n i a)), none, some (.int (nI n)), some (.ref (17 + 10 + n)), some (.int (nI 2)), some (.int (nI i)), x10] [] (WW L, mi, ml, mr) := by
  have hs := hc.1.2.2.2
  have h6 := hs.1
  intro k
  induction k with
  | zero =>
    intro i x10 hi
    have hi : i = 2 := by omega
    subst hi
    refine ev_iload (p' := 28) i_129_26 rfl rfl ?_
    refine ev_iload (p' := 30) i_129_28 rfl rfl ?_
    refine ev_icmp_ge (p' := 33) (tg := 56) i_129_30 rfl rfl (fun c30 => ?_) (fun c30 => absurd (by decide) c30)
    exact kk _
  | succ k ih =>
    intro i x10 hi
    refine ev_iload (p' := 28) i_129_26 rfl rfl ?_
    refine ev_iload (p' := 30) i_129_28 rfl rfl ?_
    refine ev_icmp_ge (p' := 33) (tg := 56) i_129_30 rfl rfl (fun c30 => absurd c30 (nI_ge (b := 2) (by omega) (by decide))) (fun c30 => ?_)
    refine ev_aload (p' := 35) i_129_33 rfl rfl ?_
    refine ev_iload (p' := 37) i_129_35 rfl rfl ?_
    refine ev_ialdN (p' := 38) i_129_37 rfl (is_sor sp_17 (show n < 6 by omega)) (len_sor sp_17 (show n < 6 by omega)) (by omega) (by decide) ?_
    rw [hs.2.2 n hn i (by omega)]
    refine ev_istore (p' := 40) (ls' := [_, _, _, _, _, _, _, _, _, _, _]) i_129_38 rfl rfl (by decide) rfl ?_
    refine ev_lload (p' := 42) i_129_40 rfl rfl ?_
    refine ev_iload (p' := 44) i_129_42 rfl rfl ?_
    refine ev_i2l (p' := 45) i_129_44 rfl ?_
    refine ev_s2L (p' := 48) i_129_45 rfl cl_11_325_0 (by decide) (Nat.le_of_ble_eq_true rfl) (s_mixed _ _ _) ?_
    refine ev_lstore (p' := 50) (ls' := [_, _, _, _, _, _, _, _, _, _, _]) i_129_48 rfl rfl (by decide) rfl ?_
    refine ev_iinc (p' := 53) (ls' := [_, _, _, _, _, _, _, _, _, _, _]) i_129_50 rfl rfl rfl (by decide) (nI_inc _) rfl ?_
    refine ev_goto (tg := 26) i_129_53 rfl ?_
    exact ih (i + 1) _ (by omega)
theorem l_mxos {L : Nat} {π : Nat → Nat → Nat} {mi : Nat → Nat → Int32} {ml : Nat → Nat → Int64} {mr : Nat → Nat → Option Nat} {d : Nat} {E : Option Value → pm_M → Prop} (hw : WR π mr) {A : AV} (hA : okA A) (hc : CR π mi ml A) {h : Int64} (hE : E (some (.long (rowsX A.1.2.2.2.2 2 A.1.2.2.2.1 h))) (WW L, mi, ml, mr)) : ∀ k n x7 x8 x9 x10, n + k = A.1.2.2.2.1 → Ev gC (pm_ev gC (d + 1)) E q_129 6 [some (.long h), none, some (.ref (17 + 9)), some (.int (nI A.1.2.2.2.1)), some (.long (rowsX A.1.2.2.2.2 2 n h)), none, some (.int (nI n)), x7, x8, x9, x10] [] (WW L, mi, ml, mr) := by
  have hs := hc.1.2.2.2
  have h6 := hs.1
  intro k
  induction k with
  | zero =>
    intro n x7 x8 x9 x10 hi
    have hi : n = A.1.2.2.2.1 := by omega
    subst hi
    refine ev_iload (p' := 8) i_129_6 rfl rfl ?_
    refine ev_iload_n (p' := 9) i_129_8 rfl rfl ?_
    refine ev_icmp_ge (p' := 12) (tg := 62) i_129_9 rfl rfl (fun c9 => ?_) (fun c9 => absurd (nI_le (by omega) (by omega)) c9)
    refine ev_lload (p' := 64) i_129_62 rfl rfl ?_
    exact ev_lret i_129_64 rfl hE
  | succ k ih =>
    intro n x7 x8 x9 x10 hi
    refine ev_iload (p' := 8) i_129_6 rfl rfl ?_
    refine ev_iload_n (p' := 9) i_129_8 rfl rfl ?_
    refine ev_icmp_ge (p' := 12) (tg := 62) i_129_9 rfl rfl (fun c9 => absurd c9 (nI_ge (by omega) (by omega))) (fun c9 => ?_)
    refine ev_aload_n (p' := 13) i_129_12 rfl rfl ?_
    refine ev_iload (p' := 15) i_129_13 rfl rfl ?_
    refine ev_aaldN (p' := 16) 27 i_129_15 rfl (is_so sp_17) (by decide) (len_so sp_17) (by omega) (by decide) (hw.stood1 sp_17 (by omega)) ?_
    refine ev_astore (p' := 18) (ls' := [_, _, _, _, _, _, _, _, _, _, _]) i_129_16 rfl rfl (by decide) rfl ?_
    refine ev_aload (p' := 20) i_129_18 rfl rfl ?_
    refine ev_alen (p' := 21) 20 i_129_20 rfl (is_sor sp_17 (by omega)) (by decide) ?_
    rw [len_sor sp_17 (show n < 6 by omega)]
    refine ev_istore (p' := 23) (ls' := [_, _, _, _, _, _, _, _, _, _, _]) i_129_21 rfl rfl (by decide) rfl ?_
    refine ev_iconst (p' := 24) (v := nI 0) i_129_23 rfl (by decide) ?_
    refine ev_istore (p' := 26) (ls' := [_, _, _, _, _, _, _, _, _, _, _]) i_129_24 rfl rfl (by decide) rfl ?_
    refine l_mxs hw hA hc (show n < A.1.2.2.2.1 by omega) (fun x10 => ?_) 2 0 _ (by decide)
    refine ev_iinc (p' := 59) (ls' := [_, _, _, _, _, _, _, _, _, _, _]) i_129_56 rfl rfl rfl (by decide) (nI_inc _) rfl ?_
    refine ev_goto (tg := 6) i_129_59 rfl ?_
    exact ih (n + 1) _ _ _ _ (by omega)
theorem s_rowss {L : Nat} {π : Nat → Nat → Nat} {mi : Nat → Nat → Int32} {ml : Nat → Nat → Int64} {mr : Nat → Nat → Option Nat} (d : Nat) (hw : WR π mr) {A : AV} (hA : okA A) (hc : CR π mi ml A) (h : Int64) : pm_ev gC (d + 2) 129 [.long h, .ref (17 + 9), .int (nI A.1.2.2.2.1)] (WW L, mi, ml, mr) (some (.long (rowsX A.1.2.2.2.2 2 A.1.2.2.2.1 h))) (WW L, mi, ml, mr) := by
  refine ev_enter (q := q_129) rfl (Nat.le_of_ble_eq_true rfl) rfl ?_
  refine ev_lload_n (p' := 1) i_129_0 rfl rfl ?_
  refine ev_lstore (p' := 3) (ls' := [_, _, _, _, _, _, _, _, _, _, _]) i_129_1 rfl rfl (by decide) rfl ?_
  refine ev_iconst (p' := 4) (v := nI 0) i_129_3 rfl (by decide) ?_
  refine ev_istore (p' := 6) (ls' := [_, _, _, _, _, _, _, _, _, _, _]) i_129_4 rfl rfl (by decide) rfl ?_
  exact l_mxos hw hA hc ⟨rfl, rfl⟩ A.1.2.2.2.1 0 _ _ _ _ (by omega)
theorem l_dig {L : Nat} {π : Nat → Nat → Nat} {ml : Nat → Nat → Int64} {mr : Nat → Nat → Option Nat} {d : Nat} {E : Option Value → pm_M → Prop} (hw : WR π mr) {A : AV} (hA : okA A)  (hE : ∀ mi, CR π mi ml A → Ev gC (pm_ev gC (d + 7)) E q_105 29 [some (.ref 1), some (.long (DG A 10)), none, some (.int (nI 10))] [] (WW L, mi, ml, mr)) : ∀ (k i : Nat) (mi : Nat → Nat → Int32), i + k = 10 → CR π mi ml A → Ev gC (pm_ev gC (d + 7)) E q_105 6 [some (.ref 1), some (.long (DG A i)), none, some (.int (nI i))] [] (WW L, mi, ml, mr) := by
  intro k
  induction k with
  | zero =>
    intro i mi hi hc
    have hi : i = 10 := by omega
    subst hi
    have h7 := hA.n7
    have hn := hc.hn
    refine ev_iload_n (p' := 7) i_105_6 rfl rfl ?_
    refine ev_bipush (p' := 9) (v := 10) i_105_7 rfl (by decide) ?_
    refine ev_icmp_ge (p' := 12) (tg := 29) i_105_9 rfl rfl (fun c9 => ?_) (fun c9 => absurd (by decide) c9)
    exact hE _ hc
  | succ k ih =>
    intro i mi hi hc
    have h7 := hA.n7
    have hn := hc.hn
    refine ev_iload_n (p' := 7) i_105_6 rfl rfl ?_
    refine ev_bipush (p' := 9) (v := 10) i_105_7 rfl (by decide) ?_
    refine ev_icmp_ge (p' := 12) (tg := 29) i_105_9 rfl rfl (fun c9 => absurd c9 (nI_ge (b := 10) (by omega) (by decide))) (fun c9 => ?_)
    refine ev_lload_n (p' := 13) i_105_12 rfl rfl ?_
    refine ev_aload_n (p' := 14) i_105_13 rfl rfl ?_
    refine ev_iload_n (p' := 15) i_105_14 rfl rfl ?_
    obtain ⟨mi2, e2, h2⟩ := s_cnt (L := L) d hw hA (show i < 10 by omega) hc
    refine ev_v1I (p' := 18) i_105_15 rfl cl_11_322_11 (by decide) is_1 (Nat.le_of_ble_eq_true rfl) (e2) ?_
    refine ev_i2l (p' := 19) i_105_18 rfl ?_
    refine ev_s2L (p' := 22) i_105_19 rfl cl_11_325_0 (by decide) (Nat.le_of_ble_eq_true rfl) (s_mixed _ _ _) ?_
    refine ev_lstore_n (p' := 23) (ls' := [_, _, _, _]) i_105_22 rfl rfl (by decide) rfl ?_
    refine ev_iinc (p' := 26) (ls' := [_, _, _, _]) i_105_23 rfl rfl rfl (by decide) (nI_inc _) rfl ?_
    refine ev_goto (tg := 6) i_105_26 rfl ?_
    exact ih (i + 1) _ (by omega) h2
theorem C_digest (L d : Nat) (A : AV) (hA : okA A)  : Cst L (d + 24) 105 [] A (.long (DIG A)) (A) := by
  refine C_of (q := q_105) rfl (Nat.le_of_ble_eq_true rfl) rfl (fun π mi ml mr hw hc => ?_)
  have hn := hc.hn
  have h7 := hA.n7
  refine ev_ldc2_w (p' := 3) (v := 1511) i_105_0 rfl (by decide +kernel) ?_
  refine ev_lstore_n (p' := 4) (ls' := [_, _, _, _]) i_105_3 rfl rfl (by decide) rfl ?_
  refine ev_iconst (p' := 5) (v := nI 0) i_105_4 rfl (by decide) ?_
  refine ev_istore_n (p' := 6) (ls' := [_, _, _, _]) i_105_5 rfl rfl (by decide) rfl ?_
  refine l_dig (d := d + 16) hw hA (fun mi hc => ?_) 10 0 mi (by decide) hc
  refine ev_aload_n (p' := 30) i_105_29 rfl rfl ?_
  refine ev_getr (p' := 33) i_105_30 rfl fl_11_78 rfl is_1 (rf_1_0 hw) ?_
  refine ev_getr (p' := 36) i_105_33 rfl fl_11_97 rfl (is_sp sp_17) (hw.page sp_17) ?_
  refine ev_lload_n (p' := 37) i_105_36 rfl rfl ?_
  refine ev_v1L (p' := 40) i_105_37 rfl cl_11_329_2 (by decide) (is_pg pg_33) (Nat.le_of_ble_eq_true rfl) (s_mxg _ hw pg_33 hc.pg.1 hc.pg.2.1 _) ?_
  rw [hc.mxg]
  refine ev_lstore_n (p' := 41) (ls' := [_, _, _, _]) i_105_40 rfl rfl (by decide) rfl ?_
  refine ev_lload_n (p' := 42) i_105_41 rfl rfl ?_
  refine ev_aload_n (p' := 43) i_105_42 rfl rfl ?_
  refine ev_getr (p' := 46) i_105_43 rfl fl_11_78 rfl is_1 (rf_1_0 hw) ?_
  refine ev_getr (p' := 49) i_105_46 rfl fl_11_265 rfl (is_sp sp_17) (hw.notes sp_17) ?_
  refine ev_aload_n (p' := 50) i_105_49 rfl rfl ?_
  refine ev_getr (p' := 53) i_105_50 rfl fl_11_78 rfl is_1 (rf_1_0 hw) ?_
  refine ev_geti (p' := 56) i_105_53 rfl fl_11_170 rfl (is_sp sp_17) ?_
  rw [hc.1.2.2.1.2.1]
  refine ev_s3L (p' := 59) i_105_56 rfl cl_11_333_0 (by decide) (Nat.le_of_ble_eq_true rfl) (s_rowsn _ hw hA hc _) ?_
  refine ev_lstore_n (p' := 60) (ls' := [_, _, _, _]) i_105_59 rfl rfl (by decide) rfl ?_
  refine ev_lload_n (p' := 61) i_105_60 rfl rfl ?_
  refine ev_aload_n (p' := 62) i_105_61 rfl rfl ?_
  refine ev_getr (p' := 65) i_105_62 rfl fl_11_78 rfl is_1 (rf_1_0 hw) ?_
  refine ev_getr (p' := 68) i_105_65 rfl fl_11_269 rfl (is_sp sp_17) (hw.stood sp_17) ?_
  refine ev_aload_n (p' := 69) i_105_68 rfl rfl ?_
  refine ev_getr (p' := 72) i_105_69 rfl fl_11_78 rfl is_1 (rf_1_0 hw) ?_
  refine ev_geti (p' := 75) i_105_72 rfl fl_11_173 rfl (is_sp sp_17) ?_
  rw [hc.1.2.2.2.2.1]
  refine ev_s3L (p' := 78) i_105_75 rfl cl_11_333_0 (by decide) (Nat.le_of_ble_eq_true rfl) (s_rowss _ hw hA hc _) ?_
  refine ev_lstore_n (p' := 79) (ls' := [_, _, _, _]) i_105_78 rfl rfl (by decide) rfl ?_
  refine ev_lload_n (p' := 80) i_105_79 rfl rfl ?_
  refine ev_aload_n (p' := 81) i_105_80 rfl rfl ?_
  refine ev_getl (p' := 84) i_105_81 rfl fl_11_40 rfl is_1 ?_
  rw [hc.2.2.2.1.1]
  refine ev_s2L (p' := 87) i_105_84 rfl cl_11_325_0 (by decide) (Nat.le_of_ble_eq_true rfl) (s_mixed _ _ _) ?_
  refine ev_aload_n (p' := 88) i_105_87 rfl rfl ?_
  refine ev_getl (p' := 91) i_105_88 rfl fl_11_44 rfl is_1 ?_
  rw [hc.2.2.2.1.2]
  refine ev_s2L (p' := 94) i_105_91 rfl cl_11_325_0 (by decide) (Nat.le_of_ble_eq_true rfl) (s_mixed _ _ _) ?_
  exact ev_lret i_105_94 rfl (EC.mk rfl hw hc)
theorem s_mix {L : Nat} {mi : Nat → Nat → Int32} {ml : Nat → Nat → Int64} {mr : Nat → Nat → Option Nat} (d : Nat) (v : Int64) : pm_ev gR (d + 1) 225 [.ref 285, .long v] (WW L, mi, ml, mr) none (WW L, mi, pm_u ml 285 39 (31 * ml 285 39 + v), mr) := by
  refine ev_enter (q := q_225) rfl (Nat.le_of_ble_eq_true rfl) rfl ?_
  refine ev_aload_n (p' := 1) i_225_0 rfl rfl ?_
  refine ev_ldc2_w (p' := 4) (v := 31) i_225_1 rfl (by decide +kernel) ?_
  refine ev_aload_n (p' := 5) i_225_4 rfl rfl ?_
  refine ev_getl (p' := 8) i_225_5 rfl fl_12_340 rfl is_285 ?_
  refine ev_lmul (p' := 9) i_225_8 rfl ?_
  refine ev_lload_n (p' := 10) i_225_9 rfl rfl ?_
  refine ev_ladd (p' := 11) i_225_10 rfl ?_
  refine ev_putl (p' := 14) i_225_11 rfl fl_12_340 rfl is_285 (gr (by decide)) rfl ?_
  exact ev_ret i_225_14 rfl ⟨rfl, rfl⟩
def RD (mi : Nat → Nat → Int32) (ml : Nat → Nat → Int64) (A : AV) (x : Int64) : Prop := RR mi ml A ∧ ml 285 39 = x
theorem RR.ml {mi : Nat → Nat → Int32} {ml ml' : Nat → Nat → Int64} {A : AV} (h : RR mi ml A) (h1 : ml' 285 35 = ml 285 35) (h2 : ml' 285 36 = ml 285 36) : RR mi ml' A :=
  ⟨h.1, h.2.1, h.2.2.1, ⟨h1.trans h.2.2.2.1.1, h2.trans h.2.2.2.1.2⟩, h.2.2.2.2⟩
theorem RD.mix {mi : Nat → Nat → Int32} {ml : Nat → Nat → Int64} {A : AV} {x v : Int64} (h : RD mi ml A x) : RD mi (pm_u ml 285 39 (31 * ml 285 39 + v)) A (mx x v) :=
  ⟨h.1.ml (pm_u_oth (by decide)) (pm_u_oth (by decide)), by rw [pm_u_self, h.2]; rfl⟩
theorem RD.hn {mi : Nat → Nat → Int32} {ml : Nat → Nat → Int64} {A : AV} {x : Int64} (h : RD mi ml A x) : mi 285 1 = nI A.1.1.1 := h.1.hn
theorem l_d1 {L : Nat} {π : Nat → Nat → Nat} {mr : Nat → Nat → Option Nat} {d : Nat} {E : Option Value → pm_M → Prop} (hw : WR π mr) {A : AV} (hA : okA A)  (hE : ∀ mi ml, RD mi ml A (DG A 10) → Ev gR (pm_ev gR (d + 7)) E q_226 31 [some (.ref 285), some (.int (nI 10))] [] (WW L, mi, ml, mr)) : ∀ k i mi ml, i + k = 10 → RD mi ml A (DG A i) → Ev gR (pm_ev gR (d + 7)) E q_226 9 [some (.ref 285), some (.int (nI i))] [] (WW L, mi, ml, mr) := by
  intro k
  induction k with
  | zero =>
    intro i mi ml hi hd
    have hi : i = 10 := by omega
    subst hi
    have h7 := hA.n7
    have hn := hd.hn
    refine ev_iload_n (p' := 10) i_226_9 rfl rfl ?_
    refine ev_bipush (p' := 12) (v := 9) i_226_10 rfl (by decide) ?_
    refine ev_icmp_gt (p' := 15) (tg := 31) i_226_12 rfl rfl (fun c12 => ?_) (fun c12 => absurd (by decide) c12)
    exact hE _ _ hd
  | succ k ih =>
    intro i mi ml hi hd
    have h7 := hA.n7
    have hn := hd.hn
    refine ev_iload_n (p' := 10) i_226_9 rfl rfl ?_
    refine ev_bipush (p' := 12) (v := 9) i_226_10 rfl (by decide) ?_
    refine ev_icmp_gt (p' := 15) (tg := 31) i_226_12 rfl rfl (fun c12 => absurd c12 (Int32.not_lt.mpr (nI_le (b := 9) (by omega) (by decide)))) (fun c12 => ?_)
    refine ev_aload_n (p' := 16) i_226_15 rfl rfl ?_
    refine ev_aload_n (p' := 17) i_226_16 rfl rfl ?_
    refine ev_iload_n (p' := 18) i_226_17 rfl rfl ?_
    obtain ⟨mi2, e2, h2⟩ := s_mcnt (L := L) d hw hA (show i < 10 by omega) hd.1
    refine ev_v1I (p' := 21) i_226_18 rfl cl_12_335_12 (by decide) is_285 (Nat.le_of_ble_eq_true rfl) (e2) ?_
    refine ev_i2l (p' := 22) i_226_21 rfl ?_
    refine ev_v1V (p' := 25) i_226_22 rfl cl_12_345_12 (by decide) is_285 (Nat.le_of_ble_eq_true rfl) (s_mix _ _) ?_
    refine ev_iinc (p' := 28) (ls' := [_, _]) i_226_25 rfl rfl rfl (by decide) (nI_inc _) rfl ?_
    refine ev_goto (tg := 9) i_226_28 rfl ?_
    exact ih (i + 1) _ _ (by omega) (RD.mix ⟨h2, hd.2⟩)
theorem l_d2 {L : Nat} {π : Nat → Nat → Nat} {mr : Nat → Nat → Option Nat} {d : Nat} {E : Option Value → pm_M → Prop} (hw : WR π mr) {A : AV} (hA : okA A) {h : Int64} (hE : ∀ mi ml, RD mi ml A (pxs A.1.1.2.2.2 A.1.1.1 h) → Ev gR (pm_ev gR (d + 7)) E q_226 124 [some (.ref 285), some (.int (nI A.1.1.1))] [] (WW L, mi, ml, mr)) : ∀ k i mi ml, i + k = A.1.1.1 → RD mi ml A (pxs A.1.1.2.2.2 i h) → Ev gR (pm_ev gR (d + 7)) E q_226 33 [some (.ref 285), some (.int (nI i))] [] (WW L, mi, ml, mr) := by
  intro k
  induction k with
  | zero =>
    intro i mi ml hi hd
    have hi : i = A.1.1.1 := by omega
    subst hi
    have h7 := hA.n7
    have hn := hd.hn
    refine ev_iload_n (p' := 34) i_226_33 rfl rfl ?_
    refine ev_aload_n (p' := 35) i_226_34 rfl rfl ?_
    refine ev_geti (p' := 38) i_226_35 rfl fl_12_96 rfl is_285 ?_
    refine ev_icmp_ge (p' := 41) (tg := 124) i_226_38 rfl rfl (fun c38 => ?_) (fun c38 => absurd (by rw [hn]; exact nI_le (by omega) (by omega)) c38)
    exact hE _ _ hd
  | succ k ih =>
    intro i mi ml hi hd
    have h7 := hA.n7
    have hn := hd.hn
    refine ev_iload_n (p' := 34) i_226_33 rfl rfl ?_
    refine ev_aload_n (p' := 35) i_226_34 rfl rfl ?_
    refine ev_geti (p' := 38) i_226_35 rfl fl_12_96 rfl is_285 ?_
    refine ev_icmp_ge (p' := 41) (tg := 124) i_226_38 rfl rfl (fun c38 => absurd c38 (by rw [hn]; exact nI_ge (by omega) (by omega))) (fun c38 => ?_)
    refine ev_aload_n (p' := 42) i_226_41 rfl rfl ?_
    refine ev_aload_n (p' := 43) i_226_42 rfl rfl ?_
    refine ev_getr (p' := 46) i_226_43 rfl fl_12_13 rfl is_285 (rf_285_6 hw) ?_
    refine ev_iload_n (p' := 47) i_226_46 rfl rfl ?_
    refine ev_ialdN (p' := 48) i_226_47 rfl is_287 len_287 (by omega) (by decide) ?_
    rw [show mi 287 i = A.1.1.2.2.2 0 i from hd.1.f (j := 0) (by omega) (by decide)]
    refine ev_i2l (p' := 49) i_226_48 rfl ?_
    refine ev_v1V (p' := 52) i_226_49 rfl cl_12_345_12 (by decide) is_285 (Nat.le_of_ble_eq_true rfl) (s_mix _ _) ?_
    refine ev_aload_n (p' := 53) i_226_52 rfl rfl ?_
    refine ev_aload_n (p' := 54) i_226_53 rfl rfl ?_
    refine ev_getr (p' := 57) i_226_54 rfl fl_12_16 rfl is_285 (rf_285_7 hw) ?_
    refine ev_iload_n (p' := 58) i_226_57 rfl rfl ?_
    refine ev_ialdN (p' := 59) i_226_58 rfl is_288 len_288 (by omega) (by decide) ?_
    rw [show mi 288 i = A.1.1.2.2.2 1 i from hd.1.f (j := 1) (by omega) (by decide)]
    refine ev_i2l (p' := 60) i_226_59 rfl ?_
    refine ev_v1V (p' := 63) i_226_60 rfl cl_12_345_12 (by decide) is_285 (Nat.le_of_ble_eq_true rfl) (s_mix _ _) ?_
    refine ev_aload_n (p' := 64) i_226_63 rfl rfl ?_
    refine ev_aload_n (p' := 65) i_226_64 rfl rfl ?_
    refine ev_getr (p' := 68) i_226_65 rfl fl_12_19 rfl is_285 (rf_285_8 hw) ?_
    refine ev_iload_n (p' := 69) i_226_68 rfl rfl ?_
    refine ev_ialdN (p' := 70) i_226_69 rfl is_289 len_289 (by omega) (by decide) ?_
    rw [show mi 289 i = A.1.1.2.2.2 2 i from hd.1.f (j := 2) (by omega) (by decide)]
    refine ev_i2l (p' := 71) i_226_70 rfl ?_
    refine ev_v1V (p' := 74) i_226_71 rfl cl_12_345_12 (by decide) is_285 (Nat.le_of_ble_eq_true rfl) (s_mix _ _) ?_
    refine ev_aload_n (p' := 75) i_226_74 rfl rfl ?_
    refine ev_aload_n (p' := 76) i_226_75 rfl rfl ?_
    refine ev_getr (p' := 79) i_226_76 rfl fl_12_22 rfl is_285 (rf_285_9 hw) ?_
    refine ev_iload_n (p' := 80) i_226_79 rfl rfl ?_
    refine ev_ialdN (p' := 81) i_226_80 rfl is_290 len_290 (by omega) (by decide) ?_
    rw [show mi 290 i = A.1.1.2.2.2 3 i from hd.1.f (j := 3) (by omega) (by decide)]
    refine ev_i2l (p' := 82) i_226_81 rfl ?_
    refine ev_v1V (p' := 85) i_226_82 rfl cl_12_345_12 (by decide) is_285 (Nat.le_of_ble_eq_true rfl) (s_mix _ _) ?_
    refine ev_aload_n (p' := 86) i_226_85 rfl rfl ?_
    refine ev_aload_n (p' := 87) i_226_86 rfl rfl ?_
    refine ev_getr (p' := 90) i_226_87 rfl fl_12_25 rfl is_285 (rf_285_10 hw) ?_
    refine ev_iload_n (p' := 91) i_226_90 rfl rfl ?_
    refine ev_ialdN (p' := 92) i_226_91 rfl is_291 len_291 (by omega) (by decide) ?_
    rw [show mi 291 i = A.1.1.2.2.2 4 i from hd.1.f (j := 4) (by omega) (by decide)]
    refine ev_i2l (p' := 93) i_226_92 rfl ?_
    refine ev_v1V (p' := 96) i_226_93 rfl cl_12_345_12 (by decide) is_285 (Nat.le_of_ble_eq_true rfl) (s_mix _ _) ?_
    refine ev_aload_n (p' := 97) i_226_96 rfl rfl ?_
    refine ev_aload_n (p' := 98) i_226_97 rfl rfl ?_
    refine ev_getr (p' := 101) i_226_98 rfl fl_12_28 rfl is_285 (rf_285_11 hw) ?_
    refine ev_iload_n (p' := 102) i_226_101 rfl rfl ?_
    refine ev_ialdN (p' := 103) i_226_102 rfl is_292 len_292 (by omega) (by decide) ?_
    rw [show mi 292 i = A.1.1.2.2.2 5 i from hd.1.f (j := 5) (by omega) (by decide)]
    refine ev_i2l (p' := 104) i_226_103 rfl ?_
    refine ev_v1V (p' := 107) i_226_104 rfl cl_12_345_12 (by decide) is_285 (Nat.le_of_ble_eq_true rfl) (s_mix _ _) ?_
    refine ev_aload_n (p' := 108) i_226_107 rfl rfl ?_
    refine ev_aload_n (p' := 109) i_226_108 rfl rfl ?_
    refine ev_getr (p' := 112) i_226_109 rfl fl_12_31 rfl is_285 (rf_285_12 hw) ?_
    refine ev_iload_n (p' := 113) i_226_112 rfl rfl ?_
    refine ev_ialdN (p' := 114) i_226_113 rfl is_293 len_293 (by omega) (by decide) ?_
    rw [show mi 293 i = A.1.1.2.2.2 6 i from hd.1.f (j := 6) (by omega) (by decide)]
    refine ev_i2l (p' := 115) i_226_114 rfl ?_
    refine ev_v1V (p' := 118) i_226_115 rfl cl_12_345_12 (by decide) is_285 (Nat.le_of_ble_eq_true rfl) (s_mix _ _) ?_
    refine ev_iinc (p' := 121) (ls' := [_, _]) i_226_118 rfl rfl rfl (by decide) (nI_inc _) rfl ?_
    refine ev_goto (tg := 33) i_226_121 rfl ?_
    exact ih (i + 1) _ _ (by omega) hd.mix.mix.mix.mix.mix.mix.mix
theorem l_d3 {L : Nat} {π : Nat → Nat → Nat} {mr : Nat → Nat → Option Nat} {d : Nat} {E : Option Value → pm_M → Prop} (hw : WR π mr) {A : AV} (hA : okA A) {h : Int64} (hE : ∀ mi ml, RD mi ml A (flX A.1.2.2.1.2 (5 * A.1.2.2.1.1) h) → Ev gR (pm_ev gR (d + 7)) E q_226 153 [some (.ref 285), some (.int (nI (5 * A.1.2.2.1.1)))] [] (WW L, mi, ml, mr)) : ∀ k i mi ml, i + k = (5 * A.1.2.2.1.1) → RD mi ml A (flX A.1.2.2.1.2 i h) → Ev gR (pm_ev gR (d + 7)) E q_226 126 [some (.ref 285), some (.int (nI i))] [] (WW L, mi, ml, mr) := by
  intro k
  induction k with
  | zero =>
    intro i mi ml hi hd
    have hi : i = (5 * A.1.2.2.1.1) := by omega
    subst hi
    have h7 := hA.n7
    have hn := hd.hn
    have hs := hd.1.1.2.2.1
    have h6 := hA.1.2.2.1.1
    refine ev_iload_n (p' := 127) i_226_126 rfl rfl ?_
    refine ev_iconst (p' := 128) (v := nI 5) i_226_127 rfl (by decide) ?_
    refine ev_aload_n (p' := 129) i_226_128 rfl rfl ?_
    refine ev_geti (p' := 132) i_226_129 rfl fl_12_106 rfl is_285 ?_
    refine ev_imul (p' := 133) i_226_132 rfl ?_
    rw [hs.1, nI_mul]
    refine ev_icmp_ge (p' := 136) (tg := 153) i_226_133 rfl rfl (fun c133 => ?_) (fun c133 => absurd (nI_le (by omega) (by omega)) c133)
    exact hE _ _ hd
  | succ k ih =>
    intro i mi ml hi hd
    have h7 := hA.n7
    have hn := hd.hn
    have hs := hd.1.1.2.2.1
    have h6 := hA.1.2.2.1.1
    refine ev_iload_n (p' := 127) i_226_126 rfl rfl ?_
    refine ev_iconst (p' := 128) (v := nI 5) i_226_127 rfl (by decide) ?_
    refine ev_aload_n (p' := 129) i_226_128 rfl rfl ?_
    refine ev_geti (p' := 132) i_226_129 rfl fl_12_106 rfl is_285 ?_
    refine ev_imul (p' := 133) i_226_132 rfl ?_
    rw [hs.1, nI_mul]
    refine ev_icmp_ge (p' := 136) (tg := 153) i_226_133 rfl rfl (fun c133 => absurd c133 (nI_ge (by omega) (by omega))) (fun c133 => ?_)
    refine ev_aload_n (p' := 137) i_226_136 rfl rfl ?_
    refine ev_aload_n (p' := 138) i_226_137 rfl rfl ?_
    refine ev_getr (p' := 141) i_226_138 rfl fl_12_34 rfl is_285 (rf_285_13 hw) ?_
    refine ev_iload_n (p' := 142) i_226_141 rfl rfl ?_
    refine ev_ialdN (p' := 143) i_226_142 rfl is_294 len_294 (by omega) (by decide) ?_
    rw [show mi 294 i = A.1.2.2.1.2 (i / 5) (i % 5) from by
      have z := hs.2 (i / 5) (by omega) (i % 5) (Nat.mod_lt _ (by decide))
      rw [Nat.div_add_mod] at z
      exact z]
    refine ev_i2l (p' := 144) i_226_143 rfl ?_
    refine ev_v1V (p' := 147) i_226_144 rfl cl_12_345_12 (by decide) is_285 (Nat.le_of_ble_eq_true rfl) (s_mix _ _) ?_
    refine ev_iinc (p' := 150) (ls' := [_, _]) i_226_147 rfl rfl rfl (by decide) (nI_inc _) rfl ?_
    refine ev_goto (tg := 126) i_226_150 rfl ?_
    exact ih (i + 1) _ _ (by omega) hd.mix
theorem l_d4 {L : Nat} {π : Nat → Nat → Nat} {mr : Nat → Nat → Option Nat} {d : Nat} {E : Option Value → pm_M → Prop} (hw : WR π mr) {A : AV} (hA : okA A) {h : Int64} (hE : ∀ mi ml, RD mi ml A (rowsX A.1.2.2.2.2 2 A.1.2.2.2.1 h) → Ev gR (pm_ev gR (d + 7)) E q_226 191 [some (.ref 285), some (.int (nI A.1.2.2.2.1))] [] (WW L, mi, ml, mr)) : ∀ k i mi ml, i + k = A.1.2.2.2.1 → RD mi ml A (rowsX A.1.2.2.2.2 2 i h) → Ev gR (pm_ev gR (d + 7)) E q_226 155 [some (.ref 285), some (.int (nI i))] [] (WW L, mi, ml, mr) := by
  intro k
  induction k with
  | zero =>
    intro i mi ml hi hd
    have hi : i = A.1.2.2.2.1 := by omega
    subst hi
    have h7 := hA.n7
    have hn := hd.hn
    have hs := hd.1.1.2.2.2
    have h6 := hA.1.2.2.2.1
    refine ev_iload_n (p' := 156) i_226_155 rfl rfl ?_
    refine ev_aload_n (p' := 157) i_226_156 rfl rfl ?_
    refine ev_geti (p' := 160) i_226_157 rfl fl_12_109 rfl is_285 ?_
    refine ev_icmp_ge (p' := 163) (tg := 191) i_226_160 rfl rfl (fun c160 => ?_) (fun c160 => absurd (by rw [hs.1]; exact nI_le (by omega) (by omega)) c160)
    exact hE _ _ hd
  | succ k ih =>
    intro i mi ml hi hd
    have h7 := hA.n7
    have hn := hd.hn
    have hs := hd.1.1.2.2.2
    have h6 := hA.1.2.2.2.1
    refine ev_iload_n (p' := 156) i_226_155 rfl rfl ?_
    refine ev_aload_n (p' := 157) i_226_156 rfl rfl ?_
    refine ev_geti (p' := 160) i_226_157 rfl fl_12_109 rfl is_285 ?_
    refine ev_icmp_ge (p' := 163) (tg := 191) i_226_160 rfl rfl (fun c160 => absurd c160 (by rw [hs.1]; exact nI_ge (by omega) (by omega))) (fun c160 => ?_)
    refine ev_aload_n (p' := 164) i_226_163 rfl rfl ?_
    refine ev_aload_n (p' := 165) i_226_164 rfl rfl ?_
    refine ev_getr (p' := 168) i_226_165 rfl fl_12_37 rfl is_285 (rf_285_14 hw) ?_
    refine ev_iload_n (p' := 169) i_226_168 rfl rfl ?_
    refine ev_ialdN (p' := 170) i_226_169 rfl is_295 len_295 (by omega) (by decide) ?_
    rw [(hs.2 i (by omega)).1]
    refine ev_i2l (p' := 171) i_226_170 rfl ?_
    refine ev_v1V (p' := 174) i_226_171 rfl cl_12_345_12 (by decide) is_285 (Nat.le_of_ble_eq_true rfl) (s_mix _ _) ?_
    refine ev_aload_n (p' := 175) i_226_174 rfl rfl ?_
    refine ev_aload_n (p' := 176) i_226_175 rfl rfl ?_
    refine ev_getr (p' := 179) i_226_176 rfl fl_12_40 rfl is_285 (rf_285_15 hw) ?_
    refine ev_iload_n (p' := 180) i_226_179 rfl rfl ?_
    refine ev_ialdN (p' := 181) i_226_180 rfl is_296 len_296 (by omega) (by decide) ?_
    rw [(hs.2 i (by omega)).2]
    refine ev_i2l (p' := 182) i_226_181 rfl ?_
    refine ev_v1V (p' := 185) i_226_182 rfl cl_12_345_12 (by decide) is_285 (Nat.le_of_ble_eq_true rfl) (s_mix _ _) ?_
    refine ev_iinc (p' := 188) (ls' := [_, _]) i_226_185 rfl rfl rfl (by decide) (nI_inc _) rfl ?_
    refine ev_goto (tg := 155) i_226_188 rfl ?_
    exact ih (i + 1) _ _ (by omega) hd.mix.mix
theorem R_digest (L d : Nat) (A : AV) (hA : okA A)  : Rst L (d + 24) 226 [] A (.long (DIG A)) (A) := by
  refine R_of (q := q_226) rfl (Nat.le_of_ble_eq_true rfl) rfl (fun π mi ml mr hw hc => ?_)
  have hn := hc.hn
  have h7 := hA.n7
  refine ev_aload_n (p' := 1) i_226_0 rfl rfl ?_
  refine ev_ldc2_w (p' := 4) (v := 1511) i_226_1 rfl (by decide +kernel) ?_
  refine ev_putl (p' := 7) i_226_4 rfl fl_12_340 rfl is_285 (gr (by decide)) rfl ?_
  refine ev_iconst (p' := 8) (v := nI 0) i_226_7 rfl (by decide) ?_
  refine ev_istore_n (p' := 9) (ls' := [_, _]) i_226_8 rfl rfl (by decide) rfl ?_
  refine l_d1 (d := d + 16) hw hA (fun mi ml hd => ?_) 10 0 mi _ (by decide) ⟨hc.ml (pm_u_oth (by decide)) (pm_u_oth (by decide)), pm_u_self.trans DG_0.symm⟩
  refine ev_iconst (p' := 32) (v := nI 0) i_226_31 rfl (by decide) ?_
  refine ev_istore_n (p' := 33) (ls' := [_, _]) i_226_32 rfl rfl (by decide) rfl ?_
  refine l_d2 (d := d + 16) (h := DG A 10) hw hA (fun mi ml hd => ?_) A.1.1.1 0 mi ml (by omega) (by rw [pxs_0]; exact hd)
  refine ev_iconst (p' := 125) (v := nI 0) i_226_124 rfl (by decide) ?_
  refine ev_istore_n (p' := 126) (ls' := [_, _]) i_226_125 rfl rfl (by decide) rfl ?_
  refine l_d3 (d := d + 16) (h := pxs A.1.1.2.2.2 A.1.1.1 (DG A 10)) hw hA (fun mi ml hd => ?_) (5 * A.1.2.2.1.1) 0 mi ml (by omega) (by rw [flX_0]; exact hd)
  refine ev_iconst (p' := 154) (v := nI 0) i_226_153 rfl (by decide) ?_
  refine ev_istore_n (p' := 155) (ls' := [_, _]) i_226_154 rfl rfl (by decide) rfl ?_
  refine l_d4 (d := d + 16) (h := flX A.1.2.2.1.2 (5 * A.1.2.2.1.1) (pxs A.1.1.2.2.2 A.1.1.1 (DG A 10))) hw hA (fun mi ml hd => ?_) A.1.2.2.2.1 0 mi ml (by omega) (by rw [rowsX_0]; exact hd)
  refine ev_aload_n (p' := 192) i_226_191 rfl rfl ?_
  refine ev_aload_n (p' := 193) i_226_192 rfl rfl ?_
  refine ev_getl (p' := 196) i_226_193 rfl fl_12_309 rfl is_285 ?_
  have e3 := hd.1.2.2.2.1.1
  rw [e3]
  refine ev_v1V (p' := 199) i_226_196 rfl cl_12_345_12 (by decide) is_285 (Nat.le_of_ble_eq_true rfl) (s_mix _ _) ?_
  refine ev_aload_n (p' := 200) i_226_199 rfl rfl ?_
  refine ev_aload_n (p' := 201) i_226_200 rfl rfl ?_
  refine ev_getl (p' := 204) i_226_201 rfl fl_12_82 rfl is_285 ?_
  have e4 := hd.1.2.2.2.1.2
  rw [pm_u_oth (by decide), e4]
  refine ev_v1V (p' := 207) i_226_204 rfl cl_12_345_12 (by decide) is_285 (Nat.le_of_ble_eq_true rfl) (s_mix _ _) ?_
  refine ev_aload_n (p' := 208) i_226_207 rfl rfl ?_
  refine ev_getl (p' := 211) i_226_208 rfl fl_12_340 rfl is_285 ?_
  exact ev_lret i_226_211 rfl (ER.mk (by have z := (hd.mix (v := A.2.2.2.1.1)).mix (v := A.2.2.2.1.2); rw [z.2, flat_rows]; rfl) ((hd.mix (v := A.2.2.2.1.1)).mix (v := A.2.2.2.1.2)).1)
theorem Q_digest (L : Nat) (A : AV) (hA : okA A) : SameJ L 105 226 [] A := ⟨_, A, hA, fun d => C_digest L d A hA, fun d => R_digest L d A hA⟩
