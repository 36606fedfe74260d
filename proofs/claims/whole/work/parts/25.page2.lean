/-! ===== pages: copies, reaches, pieces glued, mixes ===== -/
theorem nI_dec (j : Nat) : nI (j + 1) + Int32.ofInt (-1) = nI j := by rw [← nI_1, Int32.add_assoc, show (1 : Int32) + Int32.ofInt (-1) = 0 by decide, Int32.add_zero]
theorem pg_far : ∀ P ∈ k_pg, ∀ Q ∈ k_pg, P ≠ Q → P + 10 ≤ Q ∨ Q + 10 ≤ P := by decide +kernel
/-- page P becomes as page Q, of the pieces the first i -/
def cg (mi : Nat → Nat → Int32) (P Q i : Nat) : Nat → Nat → Int32 := fun a j => if a = P ∧ (j = 3 ∨ j = 4 ∨ j = 5) then mi Q j else if P + 3 ≤ a ∧ a < P + 3 + i ∧ j < 8 then mi (Q + (a - P)) j else mi a j
section CG
variable {mi : Nat → Nat → Int32} {P Q i : Nat}
theorem cg_0 : pm_u (pm_u (pm_u mi P 3 (mi Q 3)) P 4 (mi Q 4)) P 5 (mi Q 5) = cg mi P Q 0 := by
  funext a j
  unfold pm_u cg
  by_cases h5 : a = P ∧ j = 5
  · rw [if_pos h5, if_pos (by omega), h5.2]
  · rw [if_neg h5]
    by_cases h4 : a = P ∧ j = 4
    · rw [if_pos h4, if_pos (by omega), h4.2]
    · rw [if_neg h4]
      by_cases h3 : a = P ∧ j = 3
      · rw [if_pos h3, if_pos (by omega), h3.2]
      · rw [if_neg h3, if_neg (by omega), if_neg (by omega)]
theorem cg_5 : cg mi P Q i P 5 = mi Q 5 := if_pos (by omega)
theorem cg_up (h : P + 10 ≤ Q ∨ Q + 10 ≤ P) (hi : i < 7) : cpc (cg mi P Q i) (P + 3 + i) (Q + 3 + i) = cg mi P Q (i + 1) := by
  funext a j
  unfold cpc
  by_cases h1 : a = P + 3 + i ∧ j < 8
  · rw [if_pos h1]
    unfold cg
    rw [if_neg (by omega), if_neg (by omega), if_neg (by omega), if_pos (by omega)]
    congr 1
    omega
  · rw [if_neg h1]
    unfold cg
    by_cases h2 : a = P ∧ (j = 3 ∨ j = 4 ∨ j = 5)
    · rw [if_pos h2, if_pos h2]
    · rw [if_neg h2, if_neg h2]
      by_cases h3 : P + 3 ≤ a ∧ a < P + 3 + i ∧ j < 8
      · rw [if_pos h3, if_pos (by omega)]
      · rw [if_neg h3, if_neg (by omega)]
end CG
theorem l_pgc {L : Nat} {π : Nat → Nat → Nat} {mi : Nat → Nat → Int32} {ml : Nat → Nat → Int64} {mr : Nat → Nat → Option Nat} (hw : WR π mr) {P : Nat} (hP : P ∈ k_pg) {Q : Nat} (hQ : Q ∈ k_pg) (hPQ : P ≠ Q) {n : Nat} (hn7 : n ≤ 7) (hn : mi Q 5 = nI n) {d : Nat} {E : Option Value → pm_M → Prop} (hE : E none (WW L, cg mi P Q n, ml, mr)) : ∀ k i, i + k = n → Ev gC (pm_ev gC (d + 1)) E q_9 26 [some (.ref P), some (.ref Q), some (.int (nI i))] [] (WW L, cg mi P Q i, ml, mr) := by
  intro k
  induction k with
  | zero =>
    intro i hi
    have hi : i = n := by omega
    subst hi
    refine ev_iload_n (p' := 27) i_9_26 rfl rfl ?_
    refine ev_aload_n (p' := 28) i_9_27 rfl rfl ?_
    refine ev_geti (p' := 31) i_9_28 rfl fl_2_28 rfl (is_pg hP) ?_
    refine ev_icmp_ge (p' := 34) (tg := 55) i_9_31 rfl rfl (fun c31 => ?_) (fun c31 => absurd ((by rw [cg_5, hn]; exact nI_le (by omega) (by omega))) c31)
    exact ev_ret i_9_55 rfl hE
  | succ k ih =>
    intro i hi
    refine ev_iload_n (p' := 27) i_9_26 rfl rfl ?_
    refine ev_aload_n (p' := 28) i_9_27 rfl rfl ?_
    refine ev_geti (p' := 31) i_9_28 rfl fl_2_28 rfl (is_pg hP) ?_
    refine ev_icmp_ge (p' := 34) (tg := 55) i_9_31 rfl rfl (fun c31 => absurd c31 ((by rw [cg_5, hn]; exact nI_ge (by omega) (by omega)))) (fun c31 => ?_)
    refine ev_aload_n (p' := 35) i_9_34 rfl rfl ?_
    refine ev_getr (p' := 38) i_9_35 rfl fl_2_11 rfl (is_pg hP) (hw.pieces hP) ?_
    refine ev_iload_n (p' := 39) i_9_38 rfl rfl ?_
    refine ev_aaldN (p' := 40) 25 i_9_39 rfl (is_pgp hP) (by decide) (len_pgp hP) (by omega) (by decide) (hw.piece hP (by omega)) ?_
    refine ev_aload_n (p' := 41) i_9_40 rfl rfl ?_
    refine ev_getr (p' := 44) i_9_41 rfl fl_2_11 rfl (is_pg hQ) (hw.pieces hQ) ?_
    refine ev_iload_n (p' := 45) i_9_44 rfl rfl ?_
    refine ev_aaldN (p' := 46) 25 i_9_45 rfl (is_pgp hQ) (by decide) (len_pgp hQ) (by omega) (by decide) (hw.piece hQ (by omega)) ?_
    refine ev_v1V (p' := 49) i_9_46 rfl cl_2_36_3 (by decide) (is_pc hP (by omega)) (Nat.le_of_ble_eq_true rfl) (s_pcopy _ (fun _ => is_pc hP (by omega)) (fun _ => is_pc hQ (by omega)) (gc_pc hP (by omega))) ?_
    refine ev_iinc (p' := 52) (ls' := [_, _, _]) i_9_49 rfl rfl rfl (by decide) (nI_inc _) rfl ?_
    refine ev_goto (tg := 26) i_9_52 rfl ?_
    rw [cg_up (pg_far P hP Q hQ hPQ) (by omega)]
    exact ih (i + 1) (by omega)
theorem s_pgc {L : Nat} {π : Nat → Nat → Nat} {mi : Nat → Nat → Int32} {ml : Nat → Nat → Int64} {mr : Nat → Nat → Option Nat} (d : Nat) (hw : WR π mr) {P : Nat} (hP : P ∈ k_pg) {Q : Nat} (hQ : Q ∈ k_pg) (hPQ : P ≠ Q) {n : Nat} (hn7 : n ≤ 7) (hn : mi Q 5 = nI n) : pm_ev gC (d + 2) 9 [.ref P, .ref Q] (WW L, mi, ml, mr) none (WW L, cg mi P Q n, ml, mr) := by
  refine ev_enter (q := q_9) rfl (Nat.le_of_ble_eq_true rfl) rfl ?_
  refine ev_aload_n (p' := 1) i_9_0 rfl rfl ?_
  refine ev_aload_n (p' := 2) i_9_1 rfl rfl ?_
  refine ev_geti (p' := 5) i_9_2 rfl fl_2_21 rfl (is_pg hQ) ?_
  refine ev_puti (p' := 8) i_9_5 rfl fl_2_21 rfl (is_pg hP) (gc_pg hP) rfl ?_
  refine ev_aload_n (p' := 9) i_9_8 rfl rfl ?_
  refine ev_aload_n (p' := 10) i_9_9 rfl rfl ?_
  refine ev_geti (p' := 13) i_9_10 rfl fl_2_25 rfl (is_pg hQ) ?_
  rw [u_ne (by omega)]
  refine ev_puti (p' := 16) i_9_13 rfl fl_2_25 rfl (is_pg hP) (gc_pg hP) rfl ?_
  refine ev_aload_n (p' := 17) i_9_16 rfl rfl ?_
  refine ev_aload_n (p' := 18) i_9_17 rfl rfl ?_
  refine ev_geti (p' := 21) i_9_18 rfl fl_2_28 rfl (is_pg hQ) ?_
  rw [u_ne (by omega), u_ne (by omega)]
  refine ev_puti (p' := 24) i_9_21 rfl fl_2_28 rfl (is_pg hP) (gc_pg hP) rfl ?_
  refine ev_iconst (p' := 25) (v := nI 0) i_9_24 rfl (by decide) ?_
  refine ev_istore_n (p' := 26) (ls' := [_, _, _]) i_9_25 rfl rfl (by decide) rfl ?_
  rw [cg_0]
  exact l_pgc hw hP hQ hPQ hn7 hn ⟨rfl, rfl⟩ n 0 (by omega)
def rall (f : Nat → Nat → Int32) (i : Nat) : Int32 := rcN (f 0 i).toNatClampNeg (f 1 i) (f 2 i) + (if hh : (0 ≤ f 4 i ∧ f 4 i < nI i) ∧ (f 4 i).toNatClampNeg < i then rall f (f 4 i).toNatClampNeg else 0)
termination_by i
decreasing_by exact hh.2
theorem rall_on {f : Nat → Nat → Int32} {i j : Nat} (hj : j < i) (hi : i < 2 ^ 31) (he : f 4 i = nI j) : rall f i = rcN (f 0 i).toNatClampNeg (f 1 i) (f 2 i) + rall f j := by
  rw [rall, he, nI_clamp (by omega), dif_pos ⟨⟨nI_pos' (by omega), nI_lt hj hi⟩, hj⟩]
theorem rall_off {f : Nat → Nat → Int32} {i : Nat} (he : f 4 i < 0) : rall f i = rcN (f 0 i).toNatClampNeg (f 1 i) (f 2 i) := by
  rw [rall, dif_neg]
  · exact Int32.add_zero _
  · rintro ⟨⟨h1, -⟩, -⟩
    exact Int32.not_lt.mpr h1 he
theorem e_rall8 {L : Nat} {π : Nat → Nat → Nat} {mi : Nat → Nat → Int32} {ml : Nat → Nat → Int64} {mr : Nat → Nat → Option Nat} (hw : WR π mr) {P : Nat} (hP : P ∈ k_pg) {n : Nat} (hn7 : n ≤ 7) (hn : mi P 5 = nI n) (hks : ∀ i, i < n → ∃ k, k < 6 ∧ mi (P + 3 + i) 0 = nI k) (hon : ∀ i, i < n → mi (P + 3 + i) 4 < 0 ∨ ∃ j, j < i ∧ mi (P + 3 + i) 4 = nI j) {d : Nat} {E : Option Value → pm_M → Prop} {x : Int32} {acc a lf : Int32} (hat : a < 0) (hE : E (some (.int acc)) (WW L, mi, ml, mr)) : Ev gC (pm_ev gC (d + 4)) E q_25 8 [some (.ref P), some (.int x), some (.int acc), some (.int a), some (.int lf)] [] (WW L, mi, ml, mr) := by
  refine ev_iload (p' := 10) i_25_8 rfl rfl ?_
  refine ev_if_le (p' := 13) (tg := 49) i_25_10 rfl rfl (fun c10 => ?_) (fun c10 => ?_)
  · refine ev_iload_n (p' := 50) i_25_49 rfl rfl ?_
    exact ev_iretI i_25_50 rfl hE
  · refine ev_iload_n (p' := 14) i_25_13 rfl rfl ?_
    refine ev_if_lt (p' := 17) (tg := 49) i_25_14 rfl rfl (fun c14 => ?_) (fun c14 => absurd (hat) c14)
    refine ev_iload_n (p' := 50) i_25_49 rfl rfl ?_
    exact ev_iretI i_25_50 rfl hE
theorem l_rall {L : Nat} {π : Nat → Nat → Nat} {mi : Nat → Nat → Int32} {ml : Nat → Nat → Int64} {mr : Nat → Nat → Option Nat} (hw : WR π mr) {P : Nat} (hP : P ∈ k_pg) {n : Nat} (hn7 : n ≤ 7) (hn : mi P 5 = nI n) (hks : ∀ i, i < n → ∃ k, k < 6 ∧ mi (P + 3 + i) 0 = nI k) (hon : ∀ i, i < n → mi (P + 3 + i) 4 < 0 ∨ ∃ j, j < i ∧ mi (P + 3 + i) 4 = nI j) {d : Nat} {E : Option Value → pm_M → Prop} {x : Int32} : ∀ a, ∀ lf, lf < 100 → a ≤ lf → a < n → ∀ acc, E (some (.int (acc + rall (pf mi P) a))) (WW L, mi, ml, mr) → Ev gC (pm_ev gC (d + 4)) E q_25 8 [some (.ref P), some (.int x), some (.int acc), some (.int (nI a)), some (.int (nI (lf + 1)))] [] (WW L, mi, ml, mr) := by
  intro a
  induction a using Nat.strongRecOn with
  | _ a ih =>
  intro lf hl1 hlf ha acc hE
  obtain ⟨k, hk6, hk⟩ := hks a ha
  have e7 : rcN k (mi (P + 3 + a) 1) (mi (P + 3 + a) 2) = rcN (pf mi P 0 a).toNatClampNeg (pf mi P 1 a) (pf mi P 2 a) := by show _ = rcN (mi (P + 3 + a) 0).toNatClampNeg _ _; rw [hk, nI_clamp (by omega)]; rfl
  refine ev_iload (p' := 10) i_25_8 rfl rfl ?_
  refine ev_if_le (p' := 13) (tg := 49) i_25_10 rfl rfl (fun c10 => absurd c10 (nI_nle (by omega) (by omega))) (fun c10 => ?_)
  refine ev_iload_n (p' := 14) i_25_13 rfl rfl ?_
  refine ev_if_lt (p' := 17) (tg := 49) i_25_14 rfl rfl (fun c14 => absurd c14 (nI_pos (by omega))) (fun c14 => ?_)
  refine ev_iload_n (p' := 18) i_25_17 rfl rfl ?_
  refine ev_aload_n (p' := 19) i_25_18 rfl rfl ?_
  refine ev_geti (p' := 22) i_25_19 rfl fl_2_28 rfl (is_pg hP) ?_
  refine ev_icmp_ge (p' := 25) (tg := 49) i_25_22 rfl rfl (fun c22 => absurd c22 ((by rw [hn]; exact nI_ge (by omega) (by omega)))) (fun c22 => ?_)
  refine ev_iload_n (p' := 26) i_25_25 rfl rfl ?_
  refine ev_aload_n (p' := 27) i_25_26 rfl rfl ?_
  refine ev_iload_n (p' := 28) i_25_27 rfl rfl ?_
  refine ev_v1I (p' := 31) i_25_28 rfl cl_2_120_2 (by decide) (is_pg hP) (Nat.le_of_ble_eq_true rfl) (s_reaches _ hw hP (by omega) hk6 hk) ?_
  refine ev_iadd (p' := 32) i_25_31 rfl ?_
  refine ev_istore_n (p' := 33) (ls' := [_, _, _, _, _]) i_25_32 rfl rfl (by decide) rfl ?_
  refine ev_aload_n (p' := 34) i_25_33 rfl rfl ?_
  refine ev_getr (p' := 37) i_25_34 rfl fl_2_11 rfl (is_pg hP) (hw.pieces hP) ?_
  refine ev_iload_n (p' := 38) i_25_37 rfl rfl ?_
  refine ev_aaldN (p' := 39) 25 i_25_38 rfl (is_pgp hP) (by decide) (len_pgp hP) (by omega) (by decide) (hw.piece hP (by omega)) ?_
  refine ev_geti (p' := 42) i_25_39 rfl fl_2_56 rfl (is_pc hP (by omega)) ?_
  refine ev_istore_n (p' := 43) (ls' := [_, _, _, _, _]) i_25_42 rfl rfl (by decide) rfl ?_
  refine ev_iinc (p' := 46) (ls' := [_, _, _, _, _]) i_25_43 rfl rfl rfl (by decide) (nI_dec _) rfl ?_
  refine ev_goto (tg := 8) i_25_46 rfl ?_
  rcases hon a (by omega) with ho | ⟨j, hj, ej⟩
  · refine e_rall8 hw hP hn7 hn hks hon ho ?_
    rw [rall_off (f := pf mi P) ho] at hE
    rw [e7]
    exact hE
  · rw [ej]
    have hlf0 : 0 < lf := by omega
    obtain ⟨l2, rfl⟩ : ∃ l2, lf = l2 + 1 := ⟨lf - 1, by omega⟩
    have h8 := ih j hj l2 (by omega) (by omega) (by omega) (acc + rcN k (mi (P + 3 + a) 1) (mi (P + 3 + a) 2))
    refine h8 ?_
    rw [rall_on (f := pf mi P) hj (by omega) ej, ← Int32.add_assoc] at hE
    rw [e7]
    exact hE
theorem s_rall {L : Nat} {π : Nat → Nat → Nat} {mi : Nat → Nat → Int32} {ml : Nat → Nat → Int64} {mr : Nat → Nat → Option Nat} (d : Nat) (hw : WR π mr) {P : Nat} (hP : P ∈ k_pg) {n : Nat} (hn7 : n ≤ 7) (hn : mi P 5 = nI n) (hks : ∀ i, i < n → ∃ k, k < 6 ∧ mi (P + 3 + i) 0 = nI k) (hon : ∀ i, i < n → mi (P + 3 + i) 4 < 0 ∨ ∃ j, j < i ∧ mi (P + 3 + i) 4 = nI j) {i : Nat} (hi : i < n) : pm_ev gC (d + 5) 25 [.ref P, .int (nI i)] (WW L, mi, ml, mr) (some (.int (rall (pf mi P) i))) (WW L, mi, ml, mr) := by
  refine ev_enter (q := q_25) rfl (Nat.le_of_ble_eq_true rfl) rfl ?_
  refine ev_iconst (p' := 1) (v := 0) i_25_0 rfl (by decide) ?_
  refine ev_istore_n (p' := 2) (ls' := [_, _, _, _, _]) i_25_1 rfl rfl (by decide) rfl ?_
  refine ev_iload_n (p' := 3) i_25_2 rfl rfl ?_
  refine ev_istore_n (p' := 4) (ls' := [_, _, _, _, _]) i_25_3 rfl rfl (by decide) rfl ?_
  refine ev_bipush (p' := 6) (v := nI 7) i_25_4 rfl (by decide) ?_
  refine ev_istore (p' := 8) (ls' := [_, _, _, _, _]) i_25_6 rfl rfl (by decide) rfl ?_
  refine l_rall hw hP hn7 hn hks hon i 6 (by omega) (by omega) hi 0 ⟨?_, rfl⟩
  rw [Int32.zero_add]
def outN (f : Nat → Nat → Int32) (w : Int32) (m : Nat) : Int32 := fold (fun i b => if rall f i ≤ w then b else b ||| (1 <<< (nI i &&& 31))) m 0
theorem l_out {L : Nat} {π : Nat → Nat → Nat} {mi : Nat → Nat → Int32} {ml : Nat → Nat → Int64} {mr : Nat → Nat → Option Nat} (hw : WR π mr) {P : Nat} (hP : P ∈ k_pg) {n : Nat} (hn7 : n ≤ 7) (hn : mi P 5 = nI n) (hks : ∀ i, i < n → ∃ k, k < 6 ∧ mi (P + 3 + i) 0 = nI k) (hon : ∀ i, i < n → mi (P + 3 + i) 4 < 0 ∨ ∃ j, j < i ∧ mi (P + 3 + i) 4 = nI j) {d : Nat} {E : Option Value → pm_M → Prop} (hE : E (some (.int (outN (pf mi P) (mi P 3) n))) (WW L, mi, ml, mr)) : ∀ k i, i + k = n → Ev gC (pm_ev gC (d + 5)) E q_26 4 [some (.ref P), some (.int (outN (pf mi P) (mi P 3) i)), some (.int (nI i))] [] (WW L, mi, ml, mr) := by
  intro k
  induction k with
  | zero =>
    intro i hi
    have hi : i = n := by omega
    subst hi
    refine ev_iload_n (p' := 5) i_26_4 rfl rfl ?_
    refine ev_aload_n (p' := 6) i_26_5 rfl rfl ?_
    refine ev_geti (p' := 9) i_26_6 rfl fl_2_28 rfl (is_pg hP) ?_
    refine ev_icmp_ge (p' := 12) (tg := 36) i_26_9 rfl rfl (fun c9 => ?_) (fun c9 => absurd ((by rw [hn]; exact nI_le (by omega) (by omega))) c9)
    refine ev_iload_n (p' := 37) i_26_36 rfl rfl ?_
    exact ev_iretI i_26_37 rfl hE
  | succ k ih =>
    intro i hi
    refine ev_iload_n (p' := 5) i_26_4 rfl rfl ?_
    refine ev_aload_n (p' := 6) i_26_5 rfl rfl ?_
    refine ev_geti (p' := 9) i_26_6 rfl fl_2_28 rfl (is_pg hP) ?_
    refine ev_icmp_ge (p' := 12) (tg := 36) i_26_9 rfl rfl (fun c9 => absurd c9 ((by rw [hn]; exact nI_ge (by omega) (by omega)))) (fun c9 => ?_)
    refine ev_aload_n (p' := 13) i_26_12 rfl rfl ?_
    refine ev_iload_n (p' := 14) i_26_13 rfl rfl ?_
    refine ev_v1I (p' := 17) i_26_14 rfl cl_2_123_2 (by decide) (is_pg hP) (Nat.le_of_ble_eq_true rfl) (s_rall _ hw hP hn7 hn hks hon (by omega)) ?_
    refine ev_aload_n (p' := 18) i_26_17 rfl rfl ?_
    refine ev_geti (p' := 21) i_26_18 rfl fl_2_21 rfl (is_pg hP) ?_
    refine ev_icmp_le (p' := 24) (tg := 30) i_26_21 rfl rfl (fun c21 => ?_) (fun c21 => ?_)
    · refine ev_iinc (p' := 33) (ls' := [_, _, _]) i_26_30 rfl rfl rfl (by decide) (nI_inc _) rfl ?_
      refine ev_goto (tg := 4) i_26_33 rfl ?_
      refine ev_cast (by rw [show outN (pf mi P) (mi P 3) (i + 1) = _ from if_pos c21]; rfl) rfl rfl (ih (i + 1) (by omega))
    · refine ev_iload_n (p' := 25) i_26_24 rfl rfl ?_
      refine ev_iconst (p' := 26) (v := 1) i_26_25 rfl (by decide) ?_
      refine ev_iload_n (p' := 27) i_26_26 rfl rfl ?_
      refine ev_ishl (p' := 28) i_26_27 rfl ?_
      refine ev_ior (p' := 29) i_26_28 rfl ?_
      refine ev_istore_n (p' := 30) (ls' := [_, _, _]) i_26_29 rfl rfl (by decide) rfl ?_
      refine ev_iinc (p' := 33) (ls' := [_, _, _]) i_26_30 rfl rfl rfl (by decide) (nI_inc _) rfl ?_
      refine ev_goto (tg := 4) i_26_33 rfl ?_
      refine ev_cast (by rw [show outN (pf mi P) (mi P 3) (i + 1) = _ from if_neg c21]; rfl) rfl rfl (ih (i + 1) (by omega))
theorem s_out {L : Nat} {π : Nat → Nat → Nat} {mi : Nat → Nat → Int32} {ml : Nat → Nat → Int64} {mr : Nat → Nat → Option Nat} (d : Nat) (hw : WR π mr) {P : Nat} (hP : P ∈ k_pg) {n : Nat} (hn7 : n ≤ 7) (hn : mi P 5 = nI n) (hks : ∀ i, i < n → ∃ k, k < 6 ∧ mi (P + 3 + i) 0 = nI k) (hon : ∀ i, i < n → mi (P + 3 + i) 4 < 0 ∨ ∃ j, j < i ∧ mi (P + 3 + i) 4 = nI j) : pm_ev gC (d + 6) 26 [.ref P] (WW L, mi, ml, mr) (some (.int (outN (pf mi P) (mi P 3) n))) (WW L, mi, ml, mr) := by
  refine ev_enter (q := q_26) rfl (Nat.le_of_ble_eq_true rfl) rfl ?_
  refine ev_iconst (p' := 1) (v := 0) i_26_0 rfl (by decide) ?_
  refine ev_istore_n (p' := 2) (ls' := [_, _, _]) i_26_1 rfl rfl (by decide) rfl ?_
  refine ev_iconst (p' := 3) (v := nI 0) i_26_2 rfl (by decide) ?_
  refine ev_istore_n (p' := 4) (ls' := [_, _, _]) i_26_3 rfl rfl (by decide) rfl ?_
  exact l_out hw hP hn7 hn hks hon ⟨rfl, rfl⟩ n 0 (by omega)
def leastN (f : Nat → Nat → Int32) (m : Nat) : Int32 := fold (fun i a => if a < rall f i then rall f i else a) m 6
theorem l_least {L : Nat} {π : Nat → Nat → Nat} {mi : Nat → Nat → Int32} {ml : Nat → Nat → Int64} {mr : Nat → Nat → Option Nat} (hw : WR π mr) {P : Nat} (hP : P ∈ k_pg) {n : Nat} (hn7 : n ≤ 7) (hn : mi P 5 = nI n) (hks : ∀ i, i < n → ∃ k, k < 6 ∧ mi (P + 3 + i) 0 = nI k) (hon : ∀ i, i < n → mi (P + 3 + i) 4 < 0 ∨ ∃ j, j < i ∧ mi (P + 3 + i) 4 = nI j) {d : Nat} {E : Option Value → pm_M → Prop} (hE : E (some (.int (if 40 < leastN (pf mi P) n then -1 else leastN (pf mi P) n))) (WW L, mi, ml, mr)) : ∀ k i, i + k = n → Ev gC (pm_ev gC (d + 5)) E q_27 5 [some (.ref P), some (.int (leastN (pf mi P) i)), some (.int (nI i))] [] (WW L, mi, ml, mr) := by
  intro k
  induction k with
  | zero =>
    intro i hi
    have hi : i = n := by omega
    subst hi
    refine ev_iload_n (p' := 6) i_27_5 rfl rfl ?_
    refine ev_aload_n (p' := 7) i_27_6 rfl rfl ?_
    refine ev_geti (p' := 10) i_27_7 rfl fl_2_28 rfl (is_pg hP) ?_
    refine ev_icmp_ge (p' := 13) (tg := 29) i_27_10 rfl rfl (fun c10 => ?_) (fun c10 => absurd ((by rw [hn]; exact nI_le (by omega) (by omega))) c10)
    refine ev_iload_n (p' := 30) i_27_29 rfl rfl ?_
    refine ev_bipush (p' := 32) (v := 40) i_27_30 rfl (by decide) ?_
    refine ev_icmp_le (p' := 35) (tg := 39) i_27_32 rfl rfl (fun c32 => ?_) (fun c32 => ?_)
    · refine ev_iload_n (p' := 40) i_27_39 rfl rfl ?_
      exact ev_iretI i_27_40 rfl (by rw [if_neg (Int32.not_lt.mpr c32)] at hE; exact hE)
    · refine ev_iconst (p' := 36) (v := -1) i_27_35 rfl (by decide) ?_
      refine ev_goto (tg := 40) i_27_36 rfl ?_
      exact ev_iretI i_27_40 rfl (by rw [if_pos (Int32.not_le.mp c32)] at hE; exact hE)
  | succ k ih =>
    intro i hi
    refine ev_iload_n (p' := 6) i_27_5 rfl rfl ?_
    refine ev_aload_n (p' := 7) i_27_6 rfl rfl ?_
    refine ev_geti (p' := 10) i_27_7 rfl fl_2_28 rfl (is_pg hP) ?_
    refine ev_icmp_ge (p' := 13) (tg := 29) i_27_10 rfl rfl (fun c10 => absurd c10 ((by rw [hn]; exact nI_ge (by omega) (by omega)))) (fun c10 => ?_)
    refine ev_iload_n (p' := 14) i_27_13 rfl rfl ?_
    refine ev_aload_n (p' := 15) i_27_14 rfl rfl ?_
    refine ev_iload_n (p' := 16) i_27_15 rfl rfl ?_
    refine ev_v1I (p' := 19) i_27_16 rfl cl_2_123_2 (by decide) (is_pg hP) (Nat.le_of_ble_eq_true rfl) (s_rall _ hw hP hn7 hn hks hon (by omega)) ?_
    refine ev_max (p' := 22) i_27_19 rfl cl_2_117_0 (Nat.le_of_ble_eq_true rfl) ?_
    refine ev_istore_n (p' := 23) (ls' := [_, _, _]) i_27_22 rfl rfl (by decide) rfl ?_
    refine ev_iinc (p' := 26) (ls' := [_, _, _]) i_27_23 rfl rfl rfl (by decide) (nI_inc _) rfl ?_
    refine ev_goto (tg := 5) i_27_26 rfl ?_
    exact ih (i + 1) (by omega)
theorem s_least {L : Nat} {π : Nat → Nat → Nat} {mi : Nat → Nat → Int32} {ml : Nat → Nat → Int64} {mr : Nat → Nat → Option Nat} (d : Nat) (hw : WR π mr) {P : Nat} (hP : P ∈ k_pg) {n : Nat} (hn7 : n ≤ 7) (hn : mi P 5 = nI n) (hks : ∀ i, i < n → ∃ k, k < 6 ∧ mi (P + 3 + i) 0 = nI k) (hon : ∀ i, i < n → mi (P + 3 + i) 4 < 0 ∨ ∃ j, j < i ∧ mi (P + 3 + i) 4 = nI j) : pm_ev gC (d + 6) 27 [.ref P] (WW L, mi, ml, mr) (some (.int (if 40 < leastN (pf mi P) n then -1 else leastN (pf mi P) n))) (WW L, mi, ml, mr) := by
  refine ev_enter (q := q_27) rfl (Nat.le_of_ble_eq_true rfl) rfl ?_
  refine ev_bipush (p' := 2) (v := 6) i_27_0 rfl (by decide) ?_
  refine ev_istore_n (p' := 3) (ls' := [_, _, _]) i_27_2 rfl rfl (by decide) rfl ?_
  refine ev_iconst (p' := 4) (v := nI 0) i_27_3 rfl (by decide) ?_
  refine ev_istore_n (p' := 5) (ls' := [_, _, _]) i_27_4 rfl rfl (by decide) rfl ?_
  exact l_least hw hP hn7 hn hks hon ⟨rfl, rfl⟩ n 0 (by omega)
def mx (h v : Int64) : Int64 := 31 * h + v
def mxp (mi : Nat → Nat → Int32) (Q : Nat) (h : Int64) : Int64 := mx (mx (mx (mx (mx (mx (mx h (mi Q 0).toInt64) (mi Q 1).toInt64) (mi Q 2).toInt64) (mi Q 3).toInt64) (mi Q 4).toInt64) (mi Q 5).toInt64) (mi Q 6).toInt64
theorem s_pmix {g : Nat → Prop} {L : Nat} {mi : Nat → Nat → Int32} {ml : Nat → Nat → Int64} {mr : Nat → Nat → Option Nat} (d : Nat) {Q : Nat} (hq : pm_is (WW L, mi, ml, mr) Q 3) (h : Int64) : pm_ev g (d + 2) 32 [.ref Q, .long h] (WW L, mi, ml, mr) (some (.long (mxp mi Q h))) (WW L, mi, ml, mr) := by
  refine ev_enter (q := q_32) rfl (Nat.le_of_ble_eq_true rfl) rfl ?_
  refine ev_lload_n (p' := 1) i_32_0 rfl rfl ?_
  refine ev_aload_n (p' := 2) i_32_1 rfl rfl ?_
  refine ev_geti (p' := 5) i_32_2 rfl fl_3_16 rfl hq ?_
  refine ev_i2l (p' := 6) i_32_5 rfl ?_
  refine ev_s2L (p' := 9) i_32_6 rfl cl_3_34_0 (by decide) (Nat.le_of_ble_eq_true rfl) (s_mixed _ _ _) ?_
  refine ev_aload_n (p' := 10) i_32_9 rfl rfl ?_
  refine ev_geti (p' := 13) i_32_10 rfl fl_3_19 rfl hq ?_
  refine ev_i2l (p' := 14) i_32_13 rfl ?_
  refine ev_s2L (p' := 17) i_32_14 rfl cl_3_34_0 (by decide) (Nat.le_of_ble_eq_true rfl) (s_mixed _ _ _) ?_
  refine ev_aload_n (p' := 18) i_32_17 rfl rfl ?_
  refine ev_geti (p' := 21) i_32_18 rfl fl_3_22 rfl hq ?_
  refine ev_i2l (p' := 22) i_32_21 rfl ?_
  refine ev_s2L (p' := 25) i_32_22 rfl cl_3_34_0 (by decide) (Nat.le_of_ble_eq_true rfl) (s_mixed _ _ _) ?_
  refine ev_lstore_n (p' := 26) (ls' := [_, _, _, _, _]) i_32_25 rfl rfl (by decide) rfl ?_
  refine ev_lload_n (p' := 27) i_32_26 rfl rfl ?_
  refine ev_aload_n (p' := 28) i_32_27 rfl rfl ?_
  refine ev_geti (p' := 31) i_32_28 rfl fl_3_25 rfl hq ?_
  refine ev_i2l (p' := 32) i_32_31 rfl ?_
  refine ev_s2L (p' := 35) i_32_32 rfl cl_3_34_0 (by decide) (Nat.le_of_ble_eq_true rfl) (s_mixed _ _ _) ?_
  refine ev_aload_n (p' := 36) i_32_35 rfl rfl ?_
  refine ev_geti (p' := 39) i_32_36 rfl fl_3_28 rfl hq ?_
  refine ev_i2l (p' := 40) i_32_39 rfl ?_
  refine ev_s2L (p' := 43) i_32_40 rfl cl_3_34_0 (by decide) (Nat.le_of_ble_eq_true rfl) (s_mixed _ _ _) ?_
  refine ev_lstore_n (p' := 44) (ls' := [_, _, _, _, _]) i_32_43 rfl rfl (by decide) rfl ?_
  refine ev_lload_n (p' := 45) i_32_44 rfl rfl ?_
  refine ev_aload_n (p' := 46) i_32_45 rfl rfl ?_
  refine ev_geti (p' := 49) i_32_46 rfl fl_3_31 rfl hq ?_
  refine ev_i2l (p' := 50) i_32_49 rfl ?_
  refine ev_s2L (p' := 53) i_32_50 rfl cl_3_34_0 (by decide) (Nat.le_of_ble_eq_true rfl) (s_mixed _ _ _) ?_
  refine ev_aload_n (p' := 54) i_32_53 rfl rfl ?_
  refine ev_geti (p' := 57) i_32_54 rfl fl_3_7 rfl hq ?_
  refine ev_i2l (p' := 58) i_32_57 rfl ?_
  refine ev_s2L (p' := 61) i_32_58 rfl cl_3_34_0 (by decide) (Nat.le_of_ble_eq_true rfl) (s_mixed _ _ _) ?_
  exact ev_lret i_32_61 rfl ⟨rfl, rfl⟩
def mxg (mi : Nat → Nat → Int32) (P : Nat) (h : Int64) (m : Nat) : Int64 := fold (fun i a => mxp mi (P + 3 + i) a) m h
theorem l_mxg {L : Nat} {π : Nat → Nat → Nat} {mi : Nat → Nat → Int32} {ml : Nat → Nat → Int64} {mr : Nat → Nat → Option Nat} (hw : WR π mr) {P : Nat} (hP : P ∈ k_pg) {n : Nat} (hn7 : n ≤ 7) (hn : mi P 5 = nI n) {d : Nat} {E : Option Value → pm_M → Prop} {h : Int64} (hE : E (some (.long (mxg mi P h n))) (WW L, mi, ml, mr)) : ∀ k i, i + k = n → Ev gC (pm_ev gC (d + 2)) E q_28 5 [some (.ref P), some (.long h), none, some (.long (mxg mi P h i)), none, some (.int (nI i))] [] (WW L, mi, ml, mr) := by
  intro k
  induction k with
  | zero =>
    intro i hi
    have hi : i = n := by omega
    subst hi
    refine ev_iload (p' := 7) i_28_5 rfl rfl ?_
    refine ev_aload_n (p' := 8) i_28_7 rfl rfl ?_
    refine ev_geti (p' := 11) i_28_8 rfl fl_2_28 rfl (is_pg hP) ?_
    refine ev_icmp_ge (p' := 14) (tg := 32) i_28_11 rfl rfl (fun c11 => ?_) (fun c11 => absurd ((by rw [hn]; exact nI_le (by omega) (by omega))) c11)
    refine ev_lload_n (p' := 33) i_28_32 rfl rfl ?_
    exact ev_lret i_28_33 rfl hE
  | succ k ih =>
    intro i hi
    refine ev_iload (p' := 7) i_28_5 rfl rfl ?_
    refine ev_aload_n (p' := 8) i_28_7 rfl rfl ?_
    refine ev_geti (p' := 11) i_28_8 rfl fl_2_28 rfl (is_pg hP) ?_
    refine ev_icmp_ge (p' := 14) (tg := 32) i_28_11 rfl rfl (fun c11 => absurd c11 ((by rw [hn]; exact nI_ge (by omega) (by omega)))) (fun c11 => ?_)
    refine ev_aload_n (p' := 15) i_28_14 rfl rfl ?_
    refine ev_getr (p' := 18) i_28_15 rfl fl_2_11 rfl (is_pg hP) (hw.pieces hP) ?_
    refine ev_iload (p' := 20) i_28_18 rfl rfl ?_
    refine ev_aaldN (p' := 21) 25 i_28_20 rfl (is_pgp hP) (by decide) (len_pgp hP) (by omega) (by decide) (hw.piece hP (by omega)) ?_
    refine ev_lload_n (p' := 22) i_28_21 rfl rfl ?_
    refine ev_v1L (p' := 25) i_28_22 rfl cl_2_126_3 (by decide) (is_pc hP (by omega)) (Nat.le_of_ble_eq_true rfl) (s_pmix _ (is_pc hP (by omega)) _) ?_
    refine ev_lstore_n (p' := 26) (ls' := [_, _, _, _, _, _]) i_28_25 rfl rfl (by decide) rfl ?_
    refine ev_iinc (p' := 29) (ls' := [_, _, _, _, _, _]) i_28_26 rfl rfl rfl (by decide) (nI_inc _) rfl ?_
    refine ev_goto (tg := 5) i_28_29 rfl ?_
    exact ih (i + 1) (by omega)
theorem s_mxg {L : Nat} {π : Nat → Nat → Nat} {mi : Nat → Nat → Int32} {ml : Nat → Nat → Int64} {mr : Nat → Nat → Option Nat} (d : Nat) (hw : WR π mr) {P : Nat} (hP : P ∈ k_pg) {n : Nat} (hn7 : n ≤ 7) (hn : mi P 5 = nI n) (h : Int64) : pm_ev gC (d + 3) 28 [.ref P, .long h] (WW L, mi, ml, mr) (some (.long (mxg mi P h n))) (WW L, mi, ml, mr) := by
  refine ev_enter (q := q_28) rfl (Nat.le_of_ble_eq_true rfl) rfl ?_
  refine ev_lload_n (p' := 1) i_28_0 rfl rfl ?_
  refine ev_lstore_n (p' := 2) (ls' := [_, _, _, _, _, _]) i_28_1 rfl rfl (by decide) rfl ?_
  refine ev_iconst (p' := 3) (v := nI 0) i_28_2 rfl (by decide) ?_
  refine ev_istore (p' := 5) (ls' := [_, _, _, _, _, _]) i_28_3 rfl rfl (by decide) rfl ?_
  exact l_mxg hw hP hn7 hn ⟨rfl, rfl⟩ n 0 (by omega)
