/-! ===== out, place, where ===== -/
theorem rall_cg {f f' : Nat → Nat → Int32} {n : Nat} (hn : n < 2 ^ 31) (he : ∀ i, i < n → ∀ j, j < 8 → f' j i = f j i) (hon : ∀ i, i < n → f 4 i < 0 ∨ ∃ j, j < i ∧ f 4 i = nI j) : ∀ i, i < n → rall f' i = rall f i := by
  intro i
  induction i using Nat.strongRecOn with
  | _ i ih =>
  intro hi
  rcases hon i hi with h0 | ⟨j, hj, e⟩
  · rw [rall_off h0, rall_off (f := f') (by rw [he i hi 4 (by omega)]; exact h0), he i hi 0 (by omega), he i hi 1 (by omega), he i hi 2 (by omega)]
  · rw [rall_on hj (by omega) e, rall_on (f := f') hj (by omega) (by rw [he i hi 4 (by omega)]; exact e), he i hi 0 (by omega), he i hi 1 (by omega), he i hi 2 (by omega), ih j hj (by omega)]
theorem outN_cg {f f' : Nat → Nat → Int32} {n : Nat} {w : Int32} (hn : n < 2 ^ 31) (he : ∀ i, i < n → ∀ j, j < 8 → f' j i = f j i) (hon : ∀ i, i < n → f 4 i < 0 ∨ ∃ j, j < i ∧ f 4 i = nI j) : outN f' w n = outN f w n :=
  fold_congr (fun i hi x => by
    show (if rall f' i ≤ w then x else x ||| (1 <<< (nI i &&& 31))) = (if rall f i ≤ w then x else x ||| (1 <<< (nI i &&& 31)))
    rw [rall_cg hn he hon i hi])
theorem leastN_cg {f f' : Nat → Nat → Int32} {n : Nat} (hn : n < 2 ^ 31) (he : ∀ i, i < n → ∀ j, j < 8 → f' j i = f j i) (hon : ∀ i, i < n → f 4 i < 0 ∨ ∃ j, j < i ∧ f 4 i = nI j) : leastN f' n = leastN f n :=
  fold_congr (fun i hi x => by
    show (if x < rall f' i then rall f' i else x) = (if x < rall f i then rall f i else x)
    rw [rall_cg hn he hon i hi])
theorem okPV.on {v : PV} (hv : okPV v) : ∀ i, i < v.1 → fx v.2.2.2 4 i < 0 ∨ ∃ j, j < i ∧ fx v.2.2.2 4 i = nI j := fun i hi => by
  rcases (hv.2.2.2 i hi).2.2.2.2.1 with h | h
  · left
    show v.2.2.2 4 i < 0
    rw [h]
    decide
  · exact Or.inr h
def OUT (v : PV) : Int32 := outN (fx v.2.2.2) v.2.1 v.1
def LW (v : PV) : Int32 := if 40 < leastN (fx v.2.2.2) v.1 then -1 else leastN (fx v.2.2.2) v.1
def outX (v : PV) (x : Int32) : Int32 := if x = 0 then OUT v else LW v
theorem CR.onC {π : Nat → Nat → Nat} {mi : Nat → Nat → Int32} {ml : Nat → Nat → Int64} {A : AV} (hc : CR π mi ml A) (hA : okA A) : ∀ i, i < A.1.1.1 → mi (33 + 3 + i) 4 < 0 ∨ ∃ j, j < i ∧ mi (33 + 3 + i) 4 = nI j := fun i hi => by
  have h := hA.1.1.on i hi
  rw [← hc.f hi (by decide)] at h
  exact h
theorem gr_eq {x y : Int32} : (if y < x then x else y) = if x < y then y else x := by
  by_cases h1 : y < x
  · rw [if_pos h1, if_neg (fun z => absurd (Int32.lt_trans h1 z) Int32.lt_irrefl)]
  · rw [if_neg h1]
    by_cases h2 : x < y
    · rw [if_pos h2]
    · rw [if_neg h2]; exact Int32.le_antisymm (Int32.not_lt.mp h2) (Int32.not_lt.mp h1) ▸ rfl
theorem mreach_eq {mi : Nat → Nat → Int32} {a k : Nat} (ho : okp (RFv mi) a) (hk6 : k < 6) (hk : mi 287 a = nI k) : rcM k (mi 288 a) (mi 289 a) = rcN (rf mi 0 a).toNatClampNeg (rf mi 1 a) (rf mi 2 a) := by
  obtain ⟨-, ⟨x, -, hx, e1⟩, ⟨t, -, ht, e2⟩, -⟩ := ho
  have e1 : mi 288 a = nI x := e1
  have e2 : mi 289 a = nI t := e2
  show rcM k (mi 288 a) (mi 289 a) = rcN (mi 287 a).toNatClampNeg (mi 288 a) (mi 289 a)
  rw [hk, nI_clamp (by omega), e1, e2]
  exact rcM_eq k hk6 x hx t ht
theorem e_mR4 {L : Nat} {mi : Nat → Nat → Int32} {ml : Nat → Nat → Int64} {mr : Nat → Nat → Option Nat} {C : Nat → List Value → pm_M → Option Value → pm_M → Prop} {E : Option Value → pm_M → Prop} {x acc : Int32} (hE : E (some (.int acc)) (WW L, mi, ml, mr)) : Ev gR C E q_186 4 [some (.ref 285), some (.int x), some (.int acc), some (.int (-1))] [] (WW L, mi, ml, mr) := by
  refine ev_iload_n (p' := 5) i_186_4 rfl rfl ?_
  refine ev_iconst (p' := 6) (v := -1) i_186_5 rfl (by decide) ?_
  refine ev_icmp_eq (p' := 9) (tg := 27) i_186_6 rfl rfl (fun c6 => ?_) (fun c6 => absurd (rfl) c6)
  refine ev_iload_n (p' := 28) i_186_27 rfl rfl ?_
  exact ev_iretI i_186_28 rfl hE
theorem l_mR {L : Nat} {π : Nat → Nat → Nat} {mi : Nat → Nat → Int32} {ml : Nat → Nat → Int64} {mr : Nat → Nat → Option Nat} {d : Nat} {E : Option Value → pm_M → Prop} (hw : WR π mr) {n : Nat} (hn7 : n ≤ 7) (hok : ∀ i, i < n → okp (RFv mi) i) {x : Int32} : ∀ a, a < n → ∀ acc, E (some (.int (acc + rall (rf mi) a))) (WW L, mi, ml, mr) → Ev gR (pm_ev gR (d + 1)) E q_186 4 [some (.ref 285), some (.int x), some (.int acc), some (.int (nI a))] [] (WW L, mi, ml, mr) := by
  intro a
  induction a using Nat.strongRecOn with
  | _ a ih =>
  intro ha acc hE
  obtain ⟨k, hk6, hk⟩ := (hok a ha).1
  replace hk : mi 287 a = nI k := hk
  refine ev_iload_n (p' := 5) i_186_4 rfl rfl ?_
  refine ev_iconst (p' := 6) (v := -1) i_186_5 rfl (by decide) ?_
  refine ev_icmp_eq (p' := 9) (tg := 27) i_186_6 rfl rfl (fun c6 => absurd c6 (ne_m1 (by omega))) (fun c6 => ?_)
  refine ev_iload_n (p' := 10) i_186_9 rfl rfl ?_
  refine ev_aload_n (p' := 11) i_186_10 rfl rfl ?_
  refine ev_iload_n (p' := 12) i_186_11 rfl rfl ?_
  refine ev_v1I (p' := 15) i_186_12 rfl cl_12_246_12 (by decide) is_285 (Nat.le_of_ble_eq_true rfl) (s_mreach _ hw (by omega) hk6 hk) ?_
  refine ev_iadd (p' := 16) i_186_15 rfl ?_
  refine ev_istore_n (p' := 17) (ls' := [_, _, _, _]) i_186_16 rfl rfl (by decide) rfl ?_
  refine ev_aload_n (p' := 18) i_186_17 rfl rfl ?_
  refine ev_getr (p' := 21) i_186_18 rfl fl_12_25 rfl is_285 (rf_285_10 hw) ?_
  refine ev_iload_n (p' := 22) i_186_21 rfl rfl ?_
  refine ev_ialdN (p' := 23) i_186_22 rfl is_291 len_291 (by omega) (by decide) ?_
  refine ev_istore_n (p' := 24) (ls' := [_, _, _, _]) i_186_23 rfl rfl (by decide) rfl ?_
  refine ev_goto (tg := 4) i_186_24 rfl ?_
  have hoa := (hok a ha).2.2.2.2.1
  rcases hoa with h9 | ⟨j, hj, ej⟩
  · have h9 : mi 291 a = -1 := h9
    rw [h9]
    refine e_mR4 ?_
    rw [rall_off (f := rf mi) (by rw [rf_on, h9]; decide)] at hE
    rw [mreach_eq (hok a ha) hk6 hk]
    exact hE
  · have ej : mi 291 a = nI j := ej
    rw [ej]
    refine ih j hj (by omega) _ ?_
    rw [rall_on (f := rf mi) hj (by omega) ej] at hE
    rw [mreach_eq (hok a ha) hk6 hk, Int32.add_assoc]
    exact hE
theorem s_mR {L : Nat} {π : Nat → Nat → Nat} {mi : Nat → Nat → Int32} {ml : Nat → Nat → Int64} {mr : Nat → Nat → Option Nat} (d : Nat) (hw : WR π mr) {n : Nat} (hn7 : n ≤ 7) (hok : ∀ i, i < n → okp (RFv mi) i) {i : Nat} (hi : i < n) : pm_ev gR (d + 2) 186 [.ref 285, .int (nI i)] (WW L, mi, ml, mr) (some (.int (rall (rf mi) i))) (WW L, mi, ml, mr) := by
  refine ev_enter (q := q_186) rfl (Nat.le_of_ble_eq_true rfl) rfl ?_
  refine ev_iconst (p' := 1) (v := 0) i_186_0 rfl (by decide) ?_
  refine ev_istore_n (p' := 2) (ls' := [_, _, _, _]) i_186_1 rfl rfl (by decide) rfl ?_
  refine ev_iload_n (p' := 3) i_186_2 rfl rfl ?_
  refine ev_istore_n (p' := 4) (ls' := [_, _, _, _]) i_186_3 rfl rfl (by decide) rfl ?_
  refine l_mR hw hn7 hok i hi 0 ⟨?_, rfl⟩
  rw [Int32.zero_add]
theorem l_mout {L : Nat} {π : Nat → Nat → Nat} {mi : Nat → Nat → Int32} {ml : Nat → Nat → Int64} {mr : Nat → Nat → Option Nat} {d : Nat} {E : Option Value → pm_M → Prop} (hw : WR π mr) {n : Nat} (hn7 : n ≤ 7) (hn : mi 285 1 = nI n) (hok : ∀ i, i < n → okp (RFv mi) i) {x : Int32} (hE : E (some (.int (if x = 0 then outN (rf mi) (mi 285 3) n else if 40 < leastN (rf mi) n then -1 else leastN (rf mi) n))) (WW L, mi, ml, mr)) : ∀ k i, i + k = n → Ev gR (pm_ev gR (d + 2)) E q_187 22 [some (.ref 285), some (.int x), some (.int (outN (rf mi) (mi 285 3) i)), some (.int (leastN (rf mi) i)), some (.int (nI i))] [] (WW L, mi, ml, mr) := by
  intro k
  induction k with
  | zero =>
    intro i hi
    have hi : i = n := by omega
    subst hi
    refine ev_iload (p' := 24) i_187_22 rfl rfl ?_
    refine ev_aload_n (p' := 25) i_187_24 rfl rfl ?_
    refine ev_geti (p' := 28) i_187_25 rfl fl_12_96 rfl is_285 ?_
    refine ev_icmp_ge (p' := 31) (tg := 72) i_187_28 rfl rfl (fun c28 => ?_) (fun c28 => absurd (by rw [hn]; exact nI_le (by omega) (by omega)) c28)
    refine ev_iload_n (p' := 73) i_187_72 rfl rfl ?_
    refine ev_if_ne (p' := 76) (tg := 80) i_187_73 rfl rfl (fun c73 => ?_) (fun c73 => ?_)
    · refine ev_iload_n (p' := 81) i_187_80 rfl rfl ?_
      refine ev_bipush (p' := 83) (v := 40) i_187_81 rfl (by decide) ?_
      refine ev_icmp_gt (p' := 86) (tg := 90) i_187_83 rfl rfl (fun c83 => ?_) (fun c83 => ?_)
      · refine ev_iconst (p' := 91) (v := -1) i_187_90 rfl (by decide) ?_
        exact ev_iretI i_187_91 rfl (by rw [if_neg c73, if_pos c83] at hE; exact hE)
      · refine ev_iload_n (p' := 87) i_187_86 rfl rfl ?_
        refine ev_goto (tg := 91) i_187_87 rfl ?_
        exact ev_iretI i_187_91 rfl (by rw [if_neg c73, if_neg c83] at hE; exact hE)
    · refine ev_iload_n (p' := 77) i_187_76 rfl rfl ?_
      refine ev_goto (tg := 91) i_187_77 rfl ?_
      exact ev_iretI i_187_91 rfl (by rw [if_pos (Classical.not_not.mp c73)] at hE; exact hE)
  | succ k ih =>
    intro i hi
    refine ev_iload (p' := 24) i_187_22 rfl rfl ?_
    refine ev_aload_n (p' := 25) i_187_24 rfl rfl ?_
    refine ev_geti (p' := 28) i_187_25 rfl fl_12_96 rfl is_285 ?_
    refine ev_icmp_ge (p' := 31) (tg := 72) i_187_28 rfl rfl (fun c28 => absurd c28 (by rw [hn]; exact nI_ge (by omega) (by omega))) (fun c28 => ?_)
    refine ev_iload_n (p' := 32) i_187_31 rfl rfl ?_
    refine ev_aload_n (p' := 33) i_187_32 rfl rfl ?_
    refine ev_iload (p' := 35) i_187_33 rfl rfl ?_
    refine ev_v1I (p' := 38) i_187_35 rfl cl_12_255_12 (by decide) is_285 (Nat.le_of_ble_eq_true rfl) (s_mR _ hw hn7 hok (by omega)) ?_
    refine ev_aload_n (p' := 39) i_187_38 rfl rfl ?_
    refine ev_geti (p' := 42) i_187_39 rfl fl_12_103 rfl is_285 ?_
    refine ev_icmp_le (p' := 45) (tg := 52) i_187_42 rfl rfl (fun c42 => ?_) (fun c42 => ?_)
    · refine ev_iconst (p' := 53) (v := 0) i_187_52 rfl (by decide) ?_
      refine ev_ior (p' := 54) i_187_53 rfl ?_
      refine ev_istore_n (p' := 55) (ls' := [_, _, _, _, _]) i_187_54 rfl rfl (by decide) rfl ?_
      refine ev_iload_n (p' := 56) i_187_55 rfl rfl ?_
      refine ev_aload_n (p' := 57) i_187_56 rfl rfl ?_
      refine ev_iload (p' := 59) i_187_57 rfl rfl ?_
      refine ev_v1I (p' := 62) i_187_59 rfl cl_12_255_12 (by decide) is_285 (Nat.le_of_ble_eq_true rfl) (s_mR _ hw hn7 hok (by omega)) ?_
      refine ev_s2I (p' := 65) i_187_62 rfl cl_12_252_0 (by decide) (Nat.le_of_ble_eq_true rfl) (s_greater _ _ _) ?_
      refine ev_istore_n (p' := 66) (ls' := [_, _, _, _, _]) i_187_65 rfl rfl (by decide) rfl ?_
      refine ev_iinc (p' := 69) (ls' := [_, _, _, _, _]) i_187_66 rfl rfl rfl (by decide) (nI_inc _) rfl ?_
      refine ev_goto (tg := 22) i_187_69 rfl ?_
      have e : outN (rf mi) (mi 285 3) (i + 1) = outN (rf mi) (mi 285 3) i := if_pos c42
      refine ev_cast (by rw [e, Int32.or_zero, gr_eq]; rfl) rfl rfl (ih (i + 1) (by omega))
    · refine ev_iconst (p' := 46) (v := 1) i_187_45 rfl (by decide) ?_
      refine ev_iload (p' := 48) i_187_46 rfl rfl ?_
      refine ev_ishl (p' := 49) i_187_48 rfl ?_
      refine ev_goto (tg := 53) i_187_49 rfl ?_
      refine ev_ior (p' := 54) i_187_53 rfl ?_
      refine ev_istore_n (p' := 55) (ls' := [_, _, _, _, _]) i_187_54 rfl rfl (by decide) rfl ?_
      refine ev_iload_n (p' := 56) i_187_55 rfl rfl ?_
      refine ev_aload_n (p' := 57) i_187_56 rfl rfl ?_
      refine ev_iload (p' := 59) i_187_57 rfl rfl ?_
      refine ev_v1I (p' := 62) i_187_59 rfl cl_12_255_12 (by decide) is_285 (Nat.le_of_ble_eq_true rfl) (s_mR _ hw hn7 hok (by omega)) ?_
      refine ev_s2I (p' := 65) i_187_62 rfl cl_12_252_0 (by decide) (Nat.le_of_ble_eq_true rfl) (s_greater _ _ _) ?_
      refine ev_istore_n (p' := 66) (ls' := [_, _, _, _, _]) i_187_65 rfl rfl (by decide) rfl ?_
      refine ev_iinc (p' := 69) (ls' := [_, _, _, _, _]) i_187_66 rfl rfl rfl (by decide) (nI_inc _) rfl ?_
      refine ev_goto (tg := 22) i_187_69 rfl ?_
      have e : outN (rf mi) (mi 285 3) (i + 1) = outN (rf mi) (mi 285 3) i ||| (1 <<< (nI i &&& 31)) := if_neg c42
      refine ev_cast (by rw [e, gr_eq]; rfl) rfl rfl (ih (i + 1) (by omega))
theorem C_out_bad (L d : Nat) (A : AV) (hA : okA A) (x : Int32) (hb : ¬ (0 ≤ x ∧ x ≤ 1)) : Cst L (d + 24) 86 [.int x] A (.int (-2)) (badA A) := by
  refine C_of (q := q_86) rfl (Nat.le_of_ble_eq_true rfl) rfl (fun π mi ml mr hw hc => ?_)
  have hn := hc.hn
  have h7 := hA.n7
  refine ev_iload_n (p' := 1) i_86_0 rfl rfl ?_
  refine ev_iconst (p' := 2) (v := 0) i_86_1 rfl (by decide) ?_
  refine ev_iconst (p' := 3) (v := 1) i_86_2 rfl (by decide) ?_
  refine ev_s3I (p' := 6) i_86_3 rfl cl_11_89_0 (by decide) (Nat.le_of_ble_eq_true rfl) (s_outside _ _ _ _) ?_
  refine ev_if_eq (p' := 9) (tg := 14) i_86_6 rfl rfl (fun c6 => ?_) (fun c6 => ?_)
  · replace c6 := B0 c6
    exact absurd (ni c6) hb
  · replace c6 := B1 c6
    refine ev_aload_n (p' := 10) i_86_9 rfl rfl ?_
    refine ev_v0I (p' := 13) i_86_10 rfl cl_11_93_11 (by decide) is_1 (Nat.le_of_ble_eq_true rfl) (s_bad _) ?_
    exact ev_iretI i_86_13 rfl (EC.mk rfl hw (hc.bad hw))
theorem R_out_bad (L d : Nat) (A : AV) (hA : okA A) (x : Int32) (hb : ¬ (0 ≤ x ∧ x ≤ 1)) : Rst L (d + 24) 187 [.int x] A (.int (-2)) (badA A) := by
  refine R_of (q := q_187) rfl (Nat.le_of_ble_eq_true rfl) rfl (fun π mi ml mr hw hc => ?_)
  have hn := hc.hn
  have h7 := hA.n7
  refine ev_iload_n (p' := 1) i_187_0 rfl rfl ?_
  refine ev_iconst (p' := 2) (v := 0) i_187_1 rfl (by decide) ?_
  refine ev_iconst (p' := 3) (v := 1) i_187_2 rfl (by decide) ?_
  refine ev_s3I (p' := 6) i_187_3 rfl cl_12_115_0 (by decide) (Nat.le_of_ble_eq_true rfl) (s_in _ _ _ _) ?_
  refine ev_if_ne (p' := 9) (tg := 14) i_187_6 rfl rfl (fun c6 => ?_) (fun c6 => ?_)
  · replace c6 := B1 c6
    exact absurd (c6) hb
  · replace c6 := B0n c6
    refine ev_aload_n (p' := 10) i_187_9 rfl rfl ?_
    refine ev_v0I (p' := 13) i_187_10 rfl cl_12_119_12 (by decide) is_285 (Nat.le_of_ble_eq_true rfl) (s_mbad _ hw) ?_
    exact ev_iretI i_187_13 rfl (ER.mk rfl (hc.bad h7))
theorem C_out0 (L d : Nat) (A : AV) (hA : okA A)  : Cst L (d + 24) 86 [.int 0] A (.int (outX A.1.1 0)) (A) := by
  refine C_of (q := q_86) rfl (Nat.le_of_ble_eq_true rfl) rfl (fun π mi ml mr hw hc => ?_)
  have hn := hc.hn
  have h7 := hA.n7
  refine ev_iload_n (p' := 1) i_86_0 rfl rfl ?_
  refine ev_iconst (p' := 2) (v := 0) i_86_1 rfl (by decide) ?_
  refine ev_iconst (p' := 3) (v := 1) i_86_2 rfl (by decide) ?_
  refine ev_s3I (p' := 6) i_86_3 rfl cl_11_89_0 (by decide) (Nat.le_of_ble_eq_true rfl) (s_outside _ _ _ _) ?_
  refine ev_if_eq (p' := 9) (tg := 14) i_86_6 rfl rfl (fun c6 => ?_) (fun c6 => absurd (B_f (nj (by decide))) c6)
  refine ev_iload_n (p' := 15) i_86_14 rfl rfl ?_
  refine ev_if_ne (p' := 18) (tg := 31) i_86_15 rfl rfl (fun c15 => absurd c15 (fun z => z rfl)) (fun c15 => ?_)
  refine ev_aload_n (p' := 19) i_86_18 rfl rfl ?_
  refine ev_getr (p' := 22) i_86_19 rfl fl_11_78 rfl is_1 (rf_1_0 hw) ?_
  refine ev_getr (p' := 25) i_86_22 rfl fl_11_97 rfl (is_sp sp_17) (hw.page sp_17) ?_
  refine ev_v0I (p' := 28) i_86_25 rfl cl_11_230_2 (by decide) (is_pg pg_33) (Nat.le_of_ble_eq_true rfl) (s_out _ hw pg_33 hc.pg.1 hc.pg.2.1 (hc.pg.ks hA.1.1) (hc.onC hA)) ?_
  refine ev_goto (tg := 41) i_86_28 rfl ?_
  exact ev_iretI i_86_41 rfl (EC.mk (by rw [outN_cg (by omega) hc.pg.pfe hA.1.1.on, hc.pg.2.2.1]; rfl) hw hc)
theorem C_out1 (L d : Nat) (A : AV) (hA : okA A)  : Cst L (d + 24) 86 [.int 1] A (.int (outX A.1.1 1)) (A) := by
  refine C_of (q := q_86) rfl (Nat.le_of_ble_eq_true rfl) rfl (fun π mi ml mr hw hc => ?_)
  have hn := hc.hn
  have h7 := hA.n7
  refine ev_iload_n (p' := 1) i_86_0 rfl rfl ?_
  refine ev_iconst (p' := 2) (v := 0) i_86_1 rfl (by decide) ?_
  refine ev_iconst (p' := 3) (v := 1) i_86_2 rfl (by decide) ?_
  refine ev_s3I (p' := 6) i_86_3 rfl cl_11_89_0 (by decide) (Nat.le_of_ble_eq_true rfl) (s_outside _ _ _ _) ?_
  refine ev_if_eq (p' := 9) (tg := 14) i_86_6 rfl rfl (fun c6 => ?_) (fun c6 => absurd (B_f (nj (by decide))) c6)
  refine ev_iload_n (p' := 15) i_86_14 rfl rfl ?_
  refine ev_if_ne (p' := 18) (tg := 31) i_86_15 rfl rfl (fun c15 => ?_) (fun c15 => absurd (by decide) c15)
  refine ev_aload_n (p' := 32) i_86_31 rfl rfl ?_
  refine ev_getr (p' := 35) i_86_32 rfl fl_11_78 rfl is_1 (rf_1_0 hw) ?_
  refine ev_getr (p' := 38) i_86_35 rfl fl_11_97 rfl (is_sp sp_17) (hw.page sp_17) ?_
  refine ev_v0I (p' := 41) i_86_38 rfl cl_11_233_2 (by decide) (is_pg pg_33) (Nat.le_of_ble_eq_true rfl) (s_least _ hw pg_33 hc.pg.1 hc.pg.2.1 (hc.pg.ks hA.1.1) (hc.onC hA)) ?_
  exact ev_iretI i_86_41 rfl (EC.mk (by rw [leastN_cg (by omega) hc.pg.pfe hA.1.1.on]; rfl) hw hc)
theorem R_out (L d : Nat) (A : AV) (hA : okA A) (x : Int32) (hx : 0 ≤ x ∧ x ≤ 1) : Rst L (d + 24) 187 [.int x] A (.int (outX A.1.1 x)) (A) := by
  refine R_of (q := q_187) rfl (Nat.le_of_ble_eq_true rfl) rfl (fun π mi ml mr hw hc => ?_)
  have hn := hc.hn
  have h7 := hA.n7
  refine ev_iload_n (p' := 1) i_187_0 rfl rfl ?_
  refine ev_iconst (p' := 2) (v := 0) i_187_1 rfl (by decide) ?_
  refine ev_iconst (p' := 3) (v := 1) i_187_2 rfl (by decide) ?_
  refine ev_s3I (p' := 6) i_187_3 rfl cl_12_115_0 (by decide) (Nat.le_of_ble_eq_true rfl) (s_in _ _ _ _) ?_
  refine ev_if_ne (p' := 9) (tg := 14) i_187_6 rfl rfl (fun c6 => ?_) (fun c6 => absurd (B_tn hx) c6)
  refine ev_iconst (p' := 15) (v := 0) i_187_14 rfl (by decide) ?_
  refine ev_istore_n (p' := 16) (ls' := [_, _, _, _, _]) i_187_15 rfl rfl (by decide) rfl ?_
  refine ev_bipush (p' := 18) (v := 6) i_187_16 rfl (by decide) ?_
  refine ev_istore_n (p' := 19) (ls' := [_, _, _, _, _]) i_187_18 rfl rfl (by decide) rfl ?_
  refine ev_iconst (p' := 20) (v := nI 0) i_187_19 rfl (by decide) ?_
  refine ev_istore (p' := 22) (ls' := [_, _, _, _, _]) i_187_20 rfl rfl (by decide) rfl ?_
  exact l_mout hw h7 hn (hc.1.1.oke hA.1.1) (ER.mk (by rw [outN_cg (by omega) hc.1.1.rfe hA.1.1.on, leastN_cg (by omega) hc.1.1.rfe hA.1.1.on, hc.1.1.2.2.1]; rfl) hc) A.1.1.1 0 (by omega)
theorem Q_out (L : Nat) (A : AV) (hA : okA A) (x : Int32) : SameI L 86 187 [.int x] A := by
  by_cases h : 0 ≤ x ∧ x ≤ 1
  · rcases in01 h with rfl | rfl
    · exact ⟨_, A, hA, fun d => C_out0 L d A hA, fun d => R_out L d A hA 0 h⟩
    · exact ⟨_, A, hA, fun d => C_out1 L d A hA, fun d => R_out L d A hA 1 h⟩
  · exact ⟨_, badA A, hA.bad, fun d => C_out_bad L d A hA x h, fun d => R_out_bad L d A hA x h⟩
theorem set_set {v : PV} {j i : Nat} {x y : Int32} : setV (setV v j i x) j i y = setV v j i y := by
  unfold setV
  simp only [Prod.mk.injEq, true_and]
  funext a b
  by_cases h : b = i ∧ a = j
  · rw [if_pos h, if_pos h]
  · rw [if_neg h, if_neg h, if_neg h]
theorem setV_id {v : PV} {j i : Nat} : setV v j i (v.2.2.2 j i) = v := by
  obtain ⟨a, b, c, f⟩ := v
  unfold setV
  simp only [Prod.mk.injEq, true_and]
  funext k l
  by_cases h : l = i ∧ k = j
  · rw [if_pos h, h.1, h.2]
  · rw [if_neg h]
theorem okPV.set3 {v : PV} {i p : Nat} (h : okPV v) (hp : p < 10) : okPV (setV v 3 i (nI p)) := by
  refine ⟨h.1, h.2.1, h.2.2.1, fun k hk => ?_⟩
  obtain ⟨h1, h2, h3, h4, h5, h6, h8⟩ := h.2.2.2 k hk
  have e : ∀ j, j ≠ 3 → (setV v 3 i (nI p)).2.2.2 j k = v.2.2.2 j k := fun j hj => if_neg (fun z => hj z.2)
  unfold okp
  rw [e 0 (by decide), e 1 (by decide), e 2 (by decide), e 4 (by decide), e 5 (by decide), e 6 (by decide)]
  refine ⟨h1, h2, h3, ?_, h5, h6, h8⟩
  rw [set_f]
  by_cases hh : k = i
  · exact ⟨p, hp, if_pos ⟨hh, rfl⟩⟩
  · rw [if_neg (fun z => hh z.1)]; exact h4
theorem okPV.set2 {v : PV} {i p : Nat} (h : okPV v) (hp1 : 1 ≤ p) (hp : p < 10) : okPV (setV v 2 i (nI p)) := by
  refine ⟨h.1, h.2.1, h.2.2.1, fun k hk => ?_⟩
  obtain ⟨h1, h2, h3, h4, h5, h6, h8⟩ := h.2.2.2 k hk
  have e : ∀ j, j ≠ 2 → (setV v 2 i (nI p)).2.2.2 j k = v.2.2.2 j k := fun j hj => if_neg (fun z => hj z.2)
  unfold okp
  rw [e 0 (by decide), e 1 (by decide), e 3 (by decide), e 4 (by decide), e 5 (by decide), e 6 (by decide)]
  refine ⟨h1, h2, ?_, h4, h5, h6, h8⟩
  rw [set_f]
  by_cases hh : k = i
  · exact ⟨p, hp1, hp, if_pos ⟨hh, rfl⟩⟩
  · rw [if_neg (fun z => hh z.1)]; exact h3
/-- the class, with the page that is tried -/
def C2 (π : Nat → Nat → Nat) (mi : Nat → Nat → Int32) (ml : Nat → Nat → Int64) (A : AV) (w : PV) : Prop := CR π mi ml A ∧ CPg mi 275 w
def CT (π : Nat → Nat → Nat) (mi : Nat → Nat → Int32) (ml : Nat → Nat → Int64) (A : AV) (j0 i0 : Nat) : Prop := CR π mi ml A ∧ ∃ w, CPg mi 275 w ∧ ∀ x, setV w j0 i0 x = setV A.1.1 j0 i0 x
theorem C2.hn {π : Nat → Nat → Nat} {mi : Nat → Nat → Int32} {ml : Nat → Nat → Int64} {A : AV} {w : PV} (h : C2 π mi ml A w) : mi 33 5 = nI A.1.1.1 := h.1.hn
theorem CT.hn {π : Nat → Nat → Nat} {mi : Nat → Nat → Int32} {ml : Nat → Nat → Int64} {A : AV} {j0 i0 : Nat} (h : CT π mi ml A j0 i0) : mi 33 5 = nI A.1.1.1 := h.1.hn
theorem CT.step {π : Nat → Nat → Nat} {mi : Nat → Nat → Int32} {ml : Nat → Nat → Int64} {mr : Nat → Nat → Option Nat} {A : AV} {j0 i0 : Nat} (hw : WR π mr) (h : CT π mi ml A j0 i0) (h0 : j0 ≠ 0) (h7 : j0 < 7) (x : Int32) : C2 π (pm_u mi (275 + 3 + i0) j0 x) ml A (setV A.1.1 j0 i0 x) := by
  obtain ⟨hc, w, hp, hx⟩ := h
  exact ⟨hc.scr hw (fun a ha => pm_u_ne (by omega)), hx x ▸ hp.set h0 h7⟩
theorem CT.of {π : Nat → Nat → Nat} {mi : Nat → Nat → Int32} {ml : Nat → Nat → Int64} {A : AV} {j0 i0 : Nat} {x : Int32} (h : C2 π mi ml A (setV A.1.1 j0 i0 x)) : CT π mi ml A j0 i0 := ⟨h.1, _, h.2, fun _ => set_set⟩
theorem C2.hm {π : Nat → Nat → Nat} {mi : Nat → Nat → Int32} {ml : Nat → Nat → Int64} {mr : Nat → Nat → Option Nat} {A : AV} {w : PV} {o h : Int32} {n : Nat} (hw : WR π mr) (hc : C2 π mi ml A w) : C2 π (hm mi 275 o h n) ml A w := ⟨hc.1.hm hw pg_275, hc.2.h2 pg_275 pg_275 (fun a ha => hm_ne ha)⟩
/-- the page is copied -/
theorem CR.trial {π : Nat → Nat → Nat} {mi : Nat → Nat → Int32} {ml : Nat → Nat → Int64} {mr : Nat → Nat → Option Nat} {A : AV} (hw : WR π mr) (hc : CR π mi ml A) : C2 π (cg mi 275 33 A.1.1.1) ml A A.1.1 :=
  ⟨hc.scr hw (fun a ha => cg_fr hc.pg.1 (by omega)), hc.pg.copied⟩
def RT (mi : Nat → Nat → Int32) (ml : Nat → Nat → Int64) (A : AV) (j0 i0 : Nat) : Prop := ∃ w, RR mi ml ((w, A.1.2), A.2) ∧ w.1 = A.1.1.1 ∧ ∀ x, setV w j0 i0 x = setV A.1.1 j0 i0 x
theorem RT.hn {mi : Nat → Nat → Int32} {ml : Nat → Nat → Int64} {A : AV} {j0 i0 : Nat} (h : RT mi ml A j0 i0) : mi 285 1 = nI A.1.1.1 := by
  obtain ⟨w, h1, h2, -⟩ := h
  rw [h1.hn, h2]
theorem RT.step {mi : Nat → Nat → Int32} {ml : Nat → Nat → Int64} {A : AV} {j0 i0 : Nat} (h : RT mi ml A j0 i0) (h7 : j0 < 7) (x : Int32) : RR (pm_u mi (287 + j0) i0 x) ml ((setV A.1.1 j0 i0 x, A.1.2), A.2) := by
  obtain ⟨w, h1, -, hx⟩ := h
  rw [← hx x]
  exact h1.page h1.1.1.set (fun a _ h3 => pm_u_ne (by omega)) (fun j _ _ _ => by rw [pm_u_ne (by omega)])
theorem RT.of {mi : Nat → Nat → Int32} {ml : Nat → Nat → Int64} {A : AV} {j0 i0 : Nat} {x : Int32} (h : RR mi ml ((setV A.1.1 j0 i0 x, A.1.2), A.2)) : RT mi ml A j0 i0 := ⟨_, h, rfl, fun _ => set_set⟩
theorem RT.of0 {mi : Nat → Nat → Int32} {ml : Nat → Nat → Int64} {A : AV} {j0 i0 : Nat} (h : RR mi ml A) : RT mi ml A j0 i0 := ⟨A.1.1, h, rfl, fun _ => rfl⟩
theorem RR.set_id {mi : Nat → Nat → Int32} {ml : Nat → Nat → Int64} {A : AV} {j0 i0 : Nat} (h : RR mi ml ((setV A.1.1 j0 i0 (A.1.1.2.2.2 j0 i0), A.1.2), A.2)) : RR mi ml A := by
  rw [setV_id] at h
  exact h
theorem okA.set {A : AV} {w : PV} (hA : okA A) (hw : okPV w) : okA ((w, A.1.2), A.2) := ⟨⟨hw, hA.1.2⟩, hA.2⟩
theorem l_place {L : Nat} {π : Nat → Nat → Nat} {ml : Nat → Nat → Int64} {mr : Nat → Nat → Option Nat} {d : Nat} {E : Option Value → pm_M → Prop} (hw : WR π mr) {A : AV} (hA : okA A) {i0 oo : Nat} (hi0 : i0 < A.1.1.1) {x : Int32} (hE : ∀ mi, CR π mi ml A → E (some (.int (if x = 0 then (bestC (fun r => NV (setV A.1.1 3 i0 (nI r)) (nI oo)) 10).1 else (bestC (fun r => NV (setV A.1.1 3 i0 (nI r)) (nI oo)) 10).2))) (WW L, mi, ml, mr)) : ∀ (k i : Nat) (mi : Nat → Nat → Int32) (x7 : Option Value), i + k = 10 → CT π mi ml A 3 i0 → Ev gC (pm_ev gC (d + 7)) E q_88 52 [some (.ref 1), some (.int (nI i0)), some (.int (nI oo)), some (.int x), some (.int (bestC (fun r => NV (setV A.1.1 3 i0 (nI r)) (nI oo)) i).1), some (.int (bestC (fun r => NV (setV A.1.1 3 i0 (nI r)) (nI oo)) i).2), some (.int (nI i)), x7] [] (WW L, mi, ml, mr) := by
  intro k
  induction k with
  | zero =>
    intro i mi x7 hi hc
    have hi : i = 10 := by omega
    subst hi
    have h7 := hA.n7
    have hn := hc.hn
    refine ev_iload (p' := 54) i_88_52 rfl rfl ?_
    refine ev_bipush (p' := 56) (v := 9) i_88_54 rfl (by decide) ?_
    refine ev_icmp_gt (p' := 59) (tg := 104) i_88_56 rfl rfl (fun c56 => ?_) (fun c56 => absurd (by decide) c56)
    refine ev_iload_n (p' := 105) i_88_104 rfl rfl ?_
    refine ev_if_ne (p' := 108) (tg := 113) i_88_105 rfl rfl (fun c105 => ?_) (fun c105 => ?_)
    · refine ev_iload (p' := 115) i_88_113 rfl rfl ?_
      exact ev_iretI i_88_115 rfl (by have z := hE mi hc.1; rw [if_neg c105] at z; exact z)
    · refine ev_iload (p' := 110) i_88_108 rfl rfl ?_
      refine ev_goto (tg := 115) i_88_110 rfl ?_
      exact ev_iretI i_88_115 rfl (by have z := hE mi hc.1; rw [if_pos (Classical.not_not.mp c105)] at z; exact z)
  | succ k ih =>
    intro i mi x7 hi hc
    have h7 := hA.n7
    have hn := hc.hn
    refine ev_iload (p' := 54) i_88_52 rfl rfl ?_
    refine ev_bipush (p' := 56) (v := 9) i_88_54 rfl (by decide) ?_
    refine ev_icmp_gt (p' := 59) (tg := 104) i_88_56 rfl rfl (fun c56 => absurd c56 (Int32.not_lt.mpr (nI_le (b := 9) (by omega) (by decide)))) (fun c56 => ?_)
    refine ev_aload_n (p' := 60) i_88_59 rfl rfl ?_
    refine ev_getr (p' := 63) i_88_60 rfl fl_11_85 rfl is_1 (rf_1_4 hw) ?_
    refine ev_getr (p' := 66) i_88_63 rfl fl_11_161 rfl (is_pg pg_275) (hw.pieces pg_275) ?_
    refine ev_iload_n (p' := 67) i_88_66 rfl rfl ?_
    refine ev_aaldN (p' := 68) 25 i_88_67 rfl (is_pgp pg_275) (by decide) (len_pgp pg_275) (by omega) (by decide) (hw.piece pg_275 (by omega)) ?_
    refine ev_iload (p' := 70) i_88_68 rfl rfl ?_
    refine ev_puti (p' := 73) i_88_70 rfl fl_11_192 rfl (is_pc pg_275 (by omega)) (gc_pc pg_275 (by omega)) rfl ?_
    have hs := CT.step hw hc (by decide) (by decide) (nI i)
    refine ev_aload_n (p' := 74) i_88_73 rfl rfl ?_
    refine ev_getr (p' := 77) i_88_74 rfl fl_11_85 rfl is_1 (rf_1_4 hw) ?_
    refine ev_iload_n (p' := 78) i_88_77 rfl rfl ?_
    refine ev_v1I (p' := 81) i_88_78 rfl cl_11_227_2 (by decide) (is_pg pg_275) (Nat.le_of_ble_eq_true rfl) (v_visMany _ hw pg_275 hs.2 (hA.1.1.set3 (by omega)) _) ?_
    refine ev_istore (p' := 83) (ls' := [_, _, _, _, _, _, _, _]) i_88_81 rfl rfl (by decide) rfl ?_
    refine ev_iload (p' := 85) i_88_83 rfl rfl ?_
    refine ev_iload (p' := 87) i_88_85 rfl rfl ?_
    refine ev_icmp_le (p' := 90) (tg := 98) i_88_87 rfl rfl (fun c87 => ?_) (fun c87 => ?_)
    · refine ev_iinc (p' := 101) (ls' := [_, _, _, _, _, _, _, _]) i_88_98 rfl rfl rfl (by decide) (nI_inc _) rfl ?_
      refine ev_goto (tg := 52) i_88_101 rfl ?_
      have e : bestC (fun r => NV (setV A.1.1 3 i0 (nI r)) (nI oo)) (i + 1) = bestC (fun r => NV (setV A.1.1 3 i0 (nI r)) (nI oo)) i := if_neg (Int32.not_lt.mpr c87)
      refine ev_cast (by rw [e]) rfl rfl (ih (i + 1) _ _ (by omega) (CT.of (hs.hm hw)))
    · refine ev_iload (p' := 92) i_88_90 rfl rfl ?_
      refine ev_istore (p' := 94) (ls' := [_, _, _, _, _, _, _, _]) i_88_92 rfl rfl (by decide) rfl ?_
      refine ev_iload (p' := 96) i_88_94 rfl rfl ?_
      refine ev_istore (p' := 98) (ls' := [_, _, _, _, _, _, _, _]) i_88_96 rfl rfl (by decide) rfl ?_
      refine ev_iinc (p' := 101) (ls' := [_, _, _, _, _, _, _, _]) i_88_98 rfl rfl rfl (by decide) (nI_inc _) rfl ?_
      refine ev_goto (tg := 52) i_88_101 rfl ?_
      have e : bestC (fun r => NV (setV A.1.1 3 i0 (nI r)) (nI oo)) (i + 1) = (nI i, NV (setV A.1.1 3 i0 (nI i)) (nI oo)) := if_pos (Int32.not_le.mp c87)
      refine ev_cast (by rw [e]; rfl) rfl rfl (ih (i + 1) _ _ (by omega) (CT.of (hs.hm hw)))
theorem l_mplace {L : Nat} {π : Nat → Nat → Nat} {ml : Nat → Nat → Int64} {mr : Nat → Nat → Option Nat} {d : Nat} {E : Option Value → pm_M → Prop} (hw : WR π mr) {A : AV} (hA : okA A) {i0 oo : Nat} (hi0 : i0 < A.1.1.1) (ho : oo < 13) {x : Int32} (hE : ∀ mi, RR mi ml A → E (some (.int (if x = 0 then (bestR (fun r => NV (setV A.1.1 3 i0 (nI r)) (nI oo)) 10).1 else (bestR (fun r => NV (setV A.1.1 3 i0 (nI r)) (nI oo)) 10).2))) (WW L, mi, ml, mr)) : ∀ (k i : Nat) (mi : Nat → Nat → Int32) (x8 : Option Value), i + k = 10 → RT mi ml A 3 i0 → Ev gR (pm_ev gR (d + 7)) E q_194 46 [some (.ref 285), some (.int (nI i0)), some (.int (nI oo)), some (.int x), some (.int (A.1.1.2.2.2 3 i0)), some (.int (bestR (fun r => NV (setV A.1.1 3 i0 (nI r)) (nI oo)) i).1), some (.int (bestR (fun r => NV (setV A.1.1 3 i0 (nI r)) (nI oo)) i).2), some (.int (nI i)), x8] [] (WW L, mi, ml, mr) := by
  intro k
  induction k with
  | zero =>
    intro i mi x8 hi hc
    have hi : i = 10 := by omega
    subst hi
    have h7 := hA.n7
    have hn := hc.hn
    refine ev_iload (p' := 48) i_194_46 rfl rfl ?_
    refine ev_bipush (p' := 50) (v := 9) i_194_48 rfl (by decide) ?_
    refine ev_icmp_gt (p' := 53) (tg := 102) i_194_50 rfl rfl (fun c50 => ?_) (fun c50 => absurd (by decide) c50)
    refine ev_aload_n (p' := 103) i_194_102 rfl rfl ?_
    refine ev_getr (p' := 106) i_194_103 rfl fl_12_22 rfl is_285 (rf_285_9 hw) ?_
    refine ev_iload_n (p' := 107) i_194_106 rfl rfl ?_
    refine ev_iload (p' := 109) i_194_107 rfl rfl ?_
    refine ev_iastN (p' := 110) i_194_109 rfl is_290 len_290 (by omega) (by decide) (gr (by decide)) ?_
    have hs := (hc.step (by decide) (A.1.1.2.2.2 3 i0)).set_id
    refine ev_iload_n (p' := 111) i_194_110 rfl rfl ?_
    refine ev_if_ne (p' := 114) (tg := 119) i_194_111 rfl rfl (fun c111 => ?_) (fun c111 => ?_)
    · refine ev_iload (p' := 121) i_194_119 rfl rfl ?_
      exact ev_iretI i_194_121 rfl (by have z := hE _ hs; rw [if_neg c111] at z; exact z)
    · refine ev_iload (p' := 116) i_194_114 rfl rfl ?_
      refine ev_goto (tg := 121) i_194_116 rfl ?_
      exact ev_iretI i_194_121 rfl (by have z := hE _ hs; rw [if_pos (Classical.not_not.mp c111)] at z; exact z)
  | succ k ih =>
    intro i mi x8 hi hc
    have h7 := hA.n7
    have hn := hc.hn
    refine ev_iload (p' := 48) i_194_46 rfl rfl ?_
    refine ev_bipush (p' := 50) (v := 9) i_194_48 rfl (by decide) ?_
    refine ev_icmp_gt (p' := 53) (tg := 102) i_194_50 rfl rfl (fun c50 => absurd c50 (Int32.not_lt.mpr (nI_le (b := 9) (by omega) (by decide)))) (fun c50 => ?_)
    refine ev_aload_n (p' := 54) i_194_53 rfl rfl ?_
    refine ev_getr (p' := 57) i_194_54 rfl fl_12_22 rfl is_285 (rf_285_9 hw) ?_
    refine ev_iload_n (p' := 58) i_194_57 rfl rfl ?_
    refine ev_iload (p' := 60) i_194_58 rfl rfl ?_
    refine ev_iastN (p' := 61) i_194_60 rfl is_290 len_290 (by omega) (by decide) (gr (by decide)) ?_
    have hs := hc.step (by decide) (nI i)
    have hA2 := hA.set (hA.1.1.set3 (i := i0) (p := i) (by omega))
    refine ev_aload_n (p' := 62) i_194_61 rfl rfl ?_
    refine ev_iload_n (p' := 63) i_194_62 rfl rfl ?_
    refine ev_v1I (p' := 66) i_194_63 rfl cl_12_237_12 (by decide) is_285 (Nat.le_of_ble_eq_true rfl) (v_mSeen _ hw hs hA2 ho) ?_
    refine ev_s1I (p' := 69) i_194_66 rfl cl_12_249_0 (by decide) (Nat.le_of_ble_eq_true rfl) (s_bits _ _) ?_
    rw [show mbits (VS ((setV A.1.1 3 i0 (nI i), A.1.2), A.2).1.1 (nI oo) 0) 13 = NV (setV A.1.1 3 i0 (nI i)) (nI oo) from VS_bits (v := setV A.1.1 3 i0 (nI i)) h7]
    refine ev_istore (p' := 71) (ls' := [_, _, _, _, _, _, _, _, _]) i_194_69 rfl rfl (by decide) rfl ?_
    refine ev_iload (p' := 73) i_194_71 rfl rfl ?_
    refine ev_iload (p' := 75) i_194_73 rfl rfl ?_
    refine ev_icmp_le (p' := 78) (tg := 83) i_194_75 rfl rfl (fun c75 => ?_) (fun c75 => ?_)
    · refine ev_iload (p' := 85) i_194_83 rfl rfl ?_
      refine ev_istore (p' := 87) (ls' := [_, _, _, _, _, _, _, _, _]) i_194_85 rfl rfl (by decide) rfl ?_
      refine ev_iload (p' := 89) i_194_87 rfl rfl ?_
      refine ev_iload (p' := 91) i_194_89 rfl rfl ?_
      refine ev_s2I (p' := 94) i_194_91 rfl cl_12_252_0 (by decide) (Nat.le_of_ble_eq_true rfl) (s_greater _ _ _) ?_
      refine ev_istore (p' := 96) (ls' := [_, _, _, _, _, _, _, _, _]) i_194_94 rfl rfl (by decide) rfl ?_
      refine ev_iinc (p' := 99) (ls' := [_, _, _, _, _, _, _, _, _]) i_194_96 rfl rfl rfl (by decide) (nI_inc _) rfl ?_
      refine ev_goto (tg := 46) i_194_99 rfl ?_
      have e : bestR (fun r => NV (setV A.1.1 3 i0 (nI r)) (nI oo)) (i + 1) = ((bestR (fun r => NV (setV A.1.1 3 i0 (nI r)) (nI oo)) i).1, if NV (setV A.1.1 3 i0 (nI i)) (nI oo) < (bestR (fun r => NV (setV A.1.1 3 i0 (nI r)) (nI oo)) i).2 then (bestR (fun r => NV (setV A.1.1 3 i0 (nI r)) (nI oo)) i).2 else NV (setV A.1.1 3 i0 (nI i)) (nI oo)) := congrArg (fun z => (z, _)) (if_neg (Int32.not_lt.mpr c75))
      refine ev_cast (by rw [e]) rfl rfl (ih (i + 1) _ _ (by omega) (RT.of (hs.hr h7)))
    · refine ev_iload (p' := 80) i_194_78 rfl rfl ?_
      refine ev_goto (tg := 85) i_194_80 rfl ?_
      refine ev_istore (p' := 87) (ls' := [_, _, _, _, _, _, _, _, _]) i_194_85 rfl rfl (by decide) rfl ?_
      refine ev_iload (p' := 89) i_194_87 rfl rfl ?_
      refine ev_iload (p' := 91) i_194_89 rfl rfl ?_
      refine ev_s2I (p' := 94) i_194_91 rfl cl_12_252_0 (by decide) (Nat.le_of_ble_eq_true rfl) (s_greater _ _ _) ?_
      refine ev_istore (p' := 96) (ls' := [_, _, _, _, _, _, _, _, _]) i_194_94 rfl rfl (by decide) rfl ?_
      refine ev_iinc (p' := 99) (ls' := [_, _, _, _, _, _, _, _, _]) i_194_96 rfl rfl rfl (by decide) (nI_inc _) rfl ?_
      refine ev_goto (tg := 46) i_194_99 rfl ?_
      have e : bestR (fun r => NV (setV A.1.1 3 i0 (nI r)) (nI oo)) (i + 1) = (nI i, if NV (setV A.1.1 3 i0 (nI i)) (nI oo) < (bestR (fun r => NV (setV A.1.1 3 i0 (nI r)) (nI oo)) i).2 then (bestR (fun r => NV (setV A.1.1 3 i0 (nI r)) (nI oo)) i).2 else NV (setV A.1.1 3 i0 (nI i)) (nI oo)) := congrArg (fun z => (z, _)) (if_pos (Int32.not_le.mp c75))
      refine ev_cast (by rw [e]) rfl rfl (ih (i + 1) _ _ (by omega) (RT.of (hs.hr h7)))
theorem C_place_bad (L d : Nat) (A : AV) (hA : okA A) (y : Int32) (z : Int32) (x : Int32) (hb : ¬ ((0 ≤ y ∧ y ≤ nI A.1.1.1 - 1) ∧ (0 ≤ z ∧ z ≤ 12) ∧ (0 ≤ x ∧ x ≤ 1))) : Cst L (d + 24) 88 [.int y, .int z, .int x] A (.int (-2)) (badA A) := by
  refine C_of (q := q_88) rfl (Nat.le_of_ble_eq_true rfl) rfl (fun π mi ml mr hw hc => ?_)
  have hn := hc.hn
  have h7 := hA.n7
  refine ev_aload_n (p' := 1) i_88_0 rfl rfl ?_
  refine ev_iload_n (p' := 2) i_88_1 rfl rfl ?_
  refine ev_v1I (p' := 5) i_88_2 rfl cl_11_158_11 (by decide) is_1 (Nat.le_of_ble_eq_true rfl) (s_noPiece _ hw hn _) ?_
  refine ev_if_ne (p' := 8) (tg := 24) i_88_5 rfl rfl (fun c5 => ?_) (fun c5 => ?_)
  · replace c5 := B1 c5
    refine ev_aload_n (p' := 25) i_88_24 rfl rfl ?_
    refine ev_v0I (p' := 28) i_88_25 rfl cl_11_93_11 (by decide) is_1 (Nat.le_of_ble_eq_true rfl) (s_bad _) ?_
    exact ev_iretI i_88_28 rfl (EC.mk rfl hw (hc.bad hw))
  · replace c5 := B0n c5
    refine ev_iload_n (p' := 9) i_88_8 rfl rfl ?_
    refine ev_s1I (p' := 12) i_88_9 rfl cl_11_138_0 (by decide) (Nat.le_of_ble_eq_true rfl) (s_isNoOpening _ _) ?_
    refine ev_if_ne (p' := 15) (tg := 24) i_88_12 rfl rfl (fun c12 => ?_) (fun c12 => ?_)
    · replace c12 := B1 c12
      refine ev_aload_n (p' := 25) i_88_24 rfl rfl ?_
      refine ev_v0I (p' := 28) i_88_25 rfl cl_11_93_11 (by decide) is_1 (Nat.le_of_ble_eq_true rfl) (s_bad _) ?_
      exact ev_iretI i_88_28 rfl (EC.mk rfl hw (hc.bad hw))
    · replace c12 := B0n c12
      refine ev_iload_n (p' := 16) i_88_15 rfl rfl ?_
      refine ev_iconst (p' := 17) (v := 0) i_88_16 rfl (by decide) ?_
      refine ev_iconst (p' := 18) (v := 1) i_88_17 rfl (by decide) ?_
      refine ev_s3I (p' := 21) i_88_18 rfl cl_11_89_0 (by decide) (Nat.le_of_ble_eq_true rfl) (s_outside _ _ _ _) ?_
      refine ev_if_eq (p' := 24) (tg := 29) i_88_21 rfl rfl (fun c21 => ?_) (fun c21 => ?_)
      · replace c21 := B0 c21
        exact absurd ⟨ni c5, ni c12, ni c21⟩ hb
      · replace c21 := B1 c21
        refine ev_aload_n (p' := 25) i_88_24 rfl rfl ?_
        refine ev_v0I (p' := 28) i_88_25 rfl cl_11_93_11 (by decide) is_1 (Nat.le_of_ble_eq_true rfl) (s_bad _) ?_
        exact ev_iretI i_88_28 rfl (EC.mk rfl hw (hc.bad hw))
theorem R_place_bad (L d : Nat) (A : AV) (hA : okA A) (y : Int32) (z : Int32) (x : Int32) (hb : ¬ ((0 ≤ y ∧ y ≤ nI A.1.1.1 - 1) ∧ (0 ≤ z ∧ z ≤ 12) ∧ (0 ≤ x ∧ x ≤ 1))) : Rst L (d + 24) 194 [.int y, .int z, .int x] A (.int (-2)) (badA A) := by
  refine R_of (q := q_194) rfl (Nat.le_of_ble_eq_true rfl) rfl (fun π mi ml mr hw hc => ?_)
  have hn := hc.hn
  have h7 := hA.n7
  refine ev_aload_n (p' := 1) i_194_0 rfl rfl ?_
  refine ev_iload_n (p' := 2) i_194_1 rfl rfl ?_
  refine ev_v1I (p' := 5) i_194_2 rfl cl_12_240_12 (by decide) is_285 (Nat.le_of_ble_eq_true rfl) (s_isPiece (π := π) _ hn _) ?_
  refine ev_if_eq (p' := 8) (tg := 24) i_194_5 rfl rfl (fun c5 => ?_) (fun c5 => ?_)
  · replace c5 := B0 c5
    refine ev_aload_n (p' := 25) i_194_24 rfl rfl ?_
    refine ev_v0I (p' := 28) i_194_25 rfl cl_12_119_12 (by decide) is_285 (Nat.le_of_ble_eq_true rfl) (s_mbad _ hw) ?_
    exact ev_iretI i_194_28 rfl (ER.mk rfl (hc.bad h7))
  · replace c5 := B1 c5
    refine ev_iload_n (p' := 9) i_194_8 rfl rfl ?_
    refine ev_s1I (p' := 12) i_194_9 rfl cl_12_228_0 (by decide) (Nat.le_of_ble_eq_true rfl) (s_isOpening _ _) ?_
    refine ev_if_eq (p' := 15) (tg := 24) i_194_12 rfl rfl (fun c12 => ?_) (fun c12 => ?_)
    · replace c12 := B0 c12
      refine ev_aload_n (p' := 25) i_194_24 rfl rfl ?_
      refine ev_v0I (p' := 28) i_194_25 rfl cl_12_119_12 (by decide) is_285 (Nat.le_of_ble_eq_true rfl) (s_mbad _ hw) ?_
      exact ev_iretI i_194_28 rfl (ER.mk rfl (hc.bad h7))
    · replace c12 := B1 c12
      refine ev_iload_n (p' := 16) i_194_15 rfl rfl ?_
      refine ev_iconst (p' := 17) (v := 0) i_194_16 rfl (by decide) ?_
      refine ev_iconst (p' := 18) (v := 1) i_194_17 rfl (by decide) ?_
      refine ev_s3I (p' := 21) i_194_18 rfl cl_12_115_0 (by decide) (Nat.le_of_ble_eq_true rfl) (s_in _ _ _ _) ?_
      refine ev_if_ne (p' := 24) (tg := 29) i_194_21 rfl rfl (fun c21 => ?_) (fun c21 => ?_)
      · replace c21 := B1 c21
        exact absurd ⟨c5, c12, c21⟩ hb
      · replace c21 := B0n c21
        refine ev_aload_n (p' := 25) i_194_24 rfl rfl ?_
        refine ev_v0I (p' := 28) i_194_25 rfl cl_12_119_12 (by decide) is_285 (Nat.le_of_ble_eq_true rfl) (s_mbad _ hw) ?_
        exact ev_iretI i_194_28 rfl (ER.mk rfl (hc.bad h7))
theorem C_place (L d : Nat) (A : AV) (hA : okA A) {i oo : Nat} (hi : i < A.1.1.1) (ho : oo < 13) (x : Int32) (hx : 0 ≤ x ∧ x ≤ 1) : Cst L (d + 24) 88 [.int (nI i), .int (nI oo), .int x] A (.int (if x = 0 then (bestC (fun r => NV (setV A.1.1 3 i (nI r)) (nI oo)) 10).1 else (bestC (fun r => NV (setV A.1.1 3 i (nI r)) (nI oo)) 10).2)) (A) := by
  refine C_of (q := q_88) rfl (Nat.le_of_ble_eq_true rfl) rfl (fun π mi ml mr hw hc => ?_)
  have hn := hc.hn
  have h7 := hA.n7
  refine ev_aload_n (p' := 1) i_88_0 rfl rfl ?_
  refine ev_iload_n (p' := 2) i_88_1 rfl rfl ?_
  refine ev_v1I (p' := 5) i_88_2 rfl cl_11_158_11 (by decide) is_1 (Nat.le_of_ble_eq_true rfl) (s_noPiece _ hw hn _) ?_
  refine ev_if_ne (p' := 8) (tg := 24) i_88_5 rfl rfl (fun c5 => absurd c5 (fun z => z (B_f (nj (inn hi h7))))) (fun c5 => ?_)
  refine ev_iload_n (p' := 9) i_88_8 rfl rfl ?_
  refine ev_s1I (p' := 12) i_88_9 rfl cl_11_138_0 (by decide) (Nat.le_of_ble_eq_true rfl) (s_isNoOpening _ _) ?_
  refine ev_if_ne (p' := 15) (tg := 24) i_88_12 rfl rfl (fun c12 => absurd c12 (fun z => z (B_f (nj (in0 (m := 12) (by omega) (by decide) rfl))))) (fun c12 => ?_)
  refine ev_iload_n (p' := 16) i_88_15 rfl rfl ?_
  refine ev_iconst (p' := 17) (v := 0) i_88_16 rfl (by decide) ?_
  refine ev_iconst (p' := 18) (v := 1) i_88_17 rfl (by decide) ?_
  refine ev_s3I (p' := 21) i_88_18 rfl cl_11_89_0 (by decide) (Nat.le_of_ble_eq_true rfl) (s_outside _ _ _ _) ?_
  refine ev_if_eq (p' := 24) (tg := 29) i_88_21 rfl rfl (fun c21 => ?_) (fun c21 => absurd (B_f (nj hx)) c21)
  refine ev_aload_n (p' := 30) i_88_29 rfl rfl ?_
  refine ev_getr (p' := 33) i_88_30 rfl fl_11_85 rfl is_1 (rf_1_4 hw) ?_
  refine ev_aload_n (p' := 34) i_88_33 rfl rfl ?_
  refine ev_getr (p' := 37) i_88_34 rfl fl_11_78 rfl is_1 (rf_1_0 hw) ?_
  refine ev_getr (p' := 40) i_88_37 rfl fl_11_97 rfl (is_sp sp_17) (hw.page sp_17) ?_
  refine ev_v1V (p' := 43) i_88_40 rfl cl_11_134_2 (by decide) (is_pg pg_275) (Nat.le_of_ble_eq_true rfl) (s_pgc _ hw pg_275 pg_33 (by decide) hc.pg.1 hc.pg.2.1) ?_
  refine ev_iconst (p' := 44) (v := 0) i_88_43 rfl (by decide) ?_
  refine ev_istore (p' := 46) (ls' := [_, _, _, _, _, _, _, _]) i_88_44 rfl rfl (by decide) rfl ?_
  refine ev_iconst (p' := 47) (v := 0) i_88_46 rfl (by decide) ?_
  refine ev_istore (p' := 49) (ls' := [_, _, _, _, _, _, _, _]) i_88_47 rfl rfl (by decide) rfl ?_
  refine ev_iconst (p' := 50) (v := nI 0) i_88_49 rfl (by decide) ?_
  refine ev_istore (p' := 52) (ls' := [_, _, _, _, _, _, _, _]) i_88_50 rfl rfl (by decide) rfl ?_
  have h2 := hc.trial hw
  exact l_place hw hA hi (fun mi h => EC.mk rfl hw h) 10 0 _ _ (by decide) ⟨h2.1, _, h2.2, fun _ => rfl⟩
theorem R_place (L d : Nat) (A : AV) (hA : okA A) {i oo : Nat} (hi : i < A.1.1.1) (ho : oo < 13) (x : Int32) (hx : 0 ≤ x ∧ x ≤ 1) : Rst L (d + 24) 194 [.int (nI i), .int (nI oo), .int x] A (.int (if x = 0 then (bestC (fun r => NV (setV A.1.1 3 i (nI r)) (nI oo)) 10).1 else (bestC (fun r => NV (setV A.1.1 3 i (nI r)) (nI oo)) 10).2)) (A) := by
  refine R_of (q := q_194) rfl (Nat.le_of_ble_eq_true rfl) rfl (fun π mi ml mr hw hc => ?_)
  have hn := hc.hn
  have h7 := hA.n7
  refine ev_aload_n (p' := 1) i_194_0 rfl rfl ?_
  refine ev_iload_n (p' := 2) i_194_1 rfl rfl ?_
  refine ev_v1I (p' := 5) i_194_2 rfl cl_12_240_12 (by decide) is_285 (Nat.le_of_ble_eq_true rfl) (s_isPiece (π := π) _ hn _) ?_
  refine ev_if_eq (p' := 8) (tg := 24) i_194_5 rfl rfl (fun c5 => absurd c5 (B_tn (inn hi h7))) (fun c5 => ?_)
  refine ev_iload_n (p' := 9) i_194_8 rfl rfl ?_
  refine ev_s1I (p' := 12) i_194_9 rfl cl_12_228_0 (by decide) (Nat.le_of_ble_eq_true rfl) (s_isOpening _ _) ?_
  refine ev_if_eq (p' := 15) (tg := 24) i_194_12 rfl rfl (fun c12 => absurd c12 (B_tn (in0 (m := 12) (by omega) (by decide) rfl))) (fun c12 => ?_)
  refine ev_iload_n (p' := 16) i_194_15 rfl rfl ?_
  refine ev_iconst (p' := 17) (v := 0) i_194_16 rfl (by decide) ?_
  refine ev_iconst (p' := 18) (v := 1) i_194_17 rfl (by decide) ?_
  refine ev_s3I (p' := 21) i_194_18 rfl cl_12_115_0 (by decide) (Nat.le_of_ble_eq_true rfl) (s_in _ _ _ _) ?_
  refine ev_if_ne (p' := 24) (tg := 29) i_194_21 rfl rfl (fun c21 => ?_) (fun c21 => absurd (B_tn hx) c21)
  refine ev_aload_n (p' := 30) i_194_29 rfl rfl ?_
  refine ev_getr (p' := 33) i_194_30 rfl fl_12_22 rfl is_285 (rf_285_9 hw) ?_
  refine ev_iload_n (p' := 34) i_194_33 rfl rfl ?_
  refine ev_ialdN (p' := 35) i_194_34 rfl is_290 len_290 (by omega) (by decide) ?_
  rw [show mi 290 i = A.1.1.2.2.2 3 i from hc.f (j := 3) hi (by decide)]
  refine ev_istore (p' := 37) (ls' := [_, _, _, _, _, _, _, _, _]) i_194_35 rfl rfl (by decide) rfl ?_
  refine ev_iconst (p' := 38) (v := 0) i_194_37 rfl (by decide) ?_
  refine ev_istore (p' := 40) (ls' := [_, _, _, _, _, _, _, _, _]) i_194_38 rfl rfl (by decide) rfl ?_
  refine ev_iconst (p' := 41) (v := -1) i_194_40 rfl (by decide) ?_
  refine ev_istore (p' := 43) (ls' := [_, _, _, _, _, _, _, _, _]) i_194_41 rfl rfl (by decide) rfl ?_
  refine ev_iconst (p' := 44) (v := nI 0) i_194_43 rfl (by decide) ?_
  refine ev_istore (p' := 46) (ls' := [_, _, _, _, _, _, _, _, _]) i_194_44 rfl rfl (by decide) rfl ?_
  exact l_mplace hw hA hi ho (fun mi h => ER.mk (by rw [best_eq (n := (fun r => NV (setV A.1.1 3 i (nI r)) (nI oo))) (NV_0 (setV A.1.1 3 i (nI 0)) _ h7) 9]) h) 10 0 _ _ (by decide) (RT.of0 hc)
theorem Q_place (L : Nat) (A : AV) (hA : okA A) (y z x : Int32) : SameI L 88 194 [.int y, .int z, .int x] A := by
  by_cases h : (0 ≤ y ∧ y ≤ nI A.1.1.1 - 1) ∧ (0 ≤ z ∧ z ≤ 12) ∧ (0 ≤ x ∧ x ≤ 1)
  · obtain ⟨i, hi, rfl⟩ := ofn hA.n7 h.1
    obtain ⟨oo, ho, rfl⟩ := of0 (m := 12) h.2.1 rfl
    exact ⟨_, A, hA, fun d => C_place L d A hA hi (by omega) x h.2.2, fun d => R_place L d A hA hi (by omega) x h.2.2⟩
  · exact ⟨_, badA A, hA.bad, fun d => C_place_bad L d A hA y z x h, fun d => R_place_bad L d A hA y z x h⟩
/-- does the page stand as it was told -/
abbrev ST (w : PV) (s : Nat → Nat → Int32) (n : Nat) : Prop := ∀ k, k < n → VS w (s k 0) 0 = s k 1
theorem l_stands {L : Nat} {π : Nat → Nat → Nat} {ml : Nat → Nat → Int64} {mr : Nat → Nat → Option Nat} {d : Nat} {E : Option Value → pm_M → Prop} (hw : WR π mr) {A : AV} (hA : okA A) {w : PV} (hv : okPV w) (hE : ∀ mi, C2 π mi ml A w → E (some (.int (B (ST w A.1.2.2.2.2 A.1.2.2.2.1)))) (WW L, mi, ml, mr)) : ∀ (k i : Nat) (mi : Nat → Nat → Int32) (x2 : Option Value), i + k = A.1.2.2.2.1 → C2 π mi ml A w → (ST w A.1.2.2.2.2 i) → Ev gC (pm_ev gC (d + 5)) E q_121 2 [some (.ref 1), some (.int (nI i)), x2] [] (WW L, mi, ml, mr) := by
  intro k
  induction k with
  | zero =>
    intro i mi x2 hi hc hx
    have hi : i = A.1.2.2.2.1 := by omega
    subst hi
    have h7 := hA.n7
    have hn := hc.hn
    refine ev_iload_n (p' := 3) i_121_2 rfl rfl ?_
    refine ev_aload_n (p' := 4) i_121_3 rfl rfl ?_
    refine ev_getr (p' := 7) i_121_4 rfl fl_11_78 rfl is_1 (rf_1_0 hw) ?_
    refine ev_geti (p' := 10) i_121_7 rfl fl_11_173 rfl (is_sp sp_17) ?_
    refine ev_icmp_ge (p' := 13) (tg := 48) i_121_10 rfl rfl (fun c10 => ?_) (fun c10 => absurd (by have h6 := hA.1.2.2.2.1; rw [hc.1.1.2.2.2.2.1]; exact nI_le (by omega) (by omega)) c10)
    refine ev_iconst (p' := 49) (v := 1) i_121_48 rfl (by decide) ?_
    exact ev_iret i_121_49 rfl rfl (by have z := hE _ hc; rw [B_t hx] at z; exact z)
  | succ k ih =>
    intro i mi x2 hi hc hx
    have h7 := hA.n7
    have hn := hc.hn
    have h6 := hA.1.2.2.2.1
    have hs := hc.1.1.2.2.2
    refine ev_iload_n (p' := 3) i_121_2 rfl rfl ?_
    refine ev_aload_n (p' := 4) i_121_3 rfl rfl ?_
    refine ev_getr (p' := 7) i_121_4 rfl fl_11_78 rfl is_1 (rf_1_0 hw) ?_
    refine ev_geti (p' := 10) i_121_7 rfl fl_11_173 rfl (is_sp sp_17) ?_
    refine ev_icmp_ge (p' := 13) (tg := 48) i_121_10 rfl rfl (fun c10 => absurd c10 (by rw [hs.2.1]; exact nI_ge (by omega) (by omega))) (fun c10 => ?_)
    refine ev_aload_n (p' := 14) i_121_13 rfl rfl ?_
    refine ev_getr (p' := 17) i_121_14 rfl fl_11_78 rfl is_1 (rf_1_0 hw) ?_
    refine ev_getr (p' := 20) i_121_17 rfl fl_11_269 rfl (is_sp sp_17) (hw.stood sp_17) ?_
    refine ev_iload_n (p' := 21) i_121_20 rfl rfl ?_
    refine ev_aaldN (p' := 22) 27 i_121_21 rfl (is_so sp_17) (by decide) (len_so sp_17) (by omega) (by decide) (hw.stood1 sp_17 (by omega)) ?_
    refine ev_astore_n (p' := 23) (ls' := [_, _, _]) i_121_22 rfl rfl (by decide) rfl ?_
    refine ev_aload_n (p' := 24) i_121_23 rfl rfl ?_
    refine ev_getr (p' := 27) i_121_24 rfl fl_11_85 rfl is_1 (rf_1_4 hw) ?_
    refine ev_aload_n (p' := 28) i_121_27 rfl rfl ?_
    refine ev_iconst (p' := 29) (v := nI 0) i_121_28 rfl (by decide) ?_
    refine ev_ialdN (p' := 30) i_121_29 rfl (is_sor sp_17 (by omega)) (len_sor sp_17 (by omega)) (by omega) (by decide) ?_
    rw [hs.2.2 i (by omega) 0 (by decide)]
    refine ev_iconst (p' := 31) (v := 0) i_121_30 rfl (by decide) ?_
    refine ev_v2I (p' := 34) i_121_31 rfl cl_11_154_2 (by decide) (is_pg pg_275) (Nat.le_of_ble_eq_true rfl) (v_vis _ hw pg_275 hc.2 hv _ _) ?_
    refine ev_aload_n (p' := 35) i_121_34 rfl rfl ?_
    refine ev_iconst (p' := 36) (v := nI 1) i_121_35 rfl (by decide) ?_
    refine ev_ialdN (p' := 37) i_121_36 rfl (is_sor sp_17 (by omega)) (len_sor sp_17 (by omega)) (by omega) (by decide) ?_
    rw [hm_ne (by omega), hs.2.2 i (by omega) 1 (by decide)]
    refine ev_icmp_eq (p' := 40) (tg := 42) i_121_37 rfl rfl (fun c37 => ?_) (fun c37 => ?_)
    · refine ev_iinc (p' := 45) (ls' := [_, _, _]) i_121_42 rfl rfl rfl (by decide) (nI_inc _) rfl ?_
      refine ev_goto (tg := 2) i_121_45 rfl ?_
      exact ih (i + 1) _ _ (by omega) (hc.hm hw) (fun k hk => by
        rcases Nat.lt_succ_iff_lt_or_eq.mp hk with h | h
        · exact hx k h
        · subst h; exact c37)
    · refine ev_iconst (p' := 41) (v := 0) i_121_40 rfl (by decide) ?_
      exact ev_iret i_121_41 rfl rfl (by have z := hE _ (hc.hm hw (o := A.1.2.2.2.2 i 0) (h := 0) (n := w.1)); rw [B_f (fun y => c37 (y i (by omega)))] at z; exact z)
theorem s_stands {L : Nat} {π : Nat → Nat → Nat} {ml : Nat → Nat → Int64} {mr : Nat → Nat → Option Nat} {mi : Nat → Nat → Int32} (d : Nat) (hw : WR π mr) {A : AV} (hA : okA A) {w : PV} (hv : okPV w) (hc : C2 π mi ml A w) : ∃ mi', pm_ev gC (d + 6) 121 [.ref 1] (WW L, mi, ml, mr) (some (.int (B (ST w A.1.2.2.2.2 A.1.2.2.2.1)))) (WW L, mi', ml, mr) ∧ C2 π mi' ml A w := by
  have h7 := hA.n7
  obtain ⟨x, m', ⟨h1, mi1, h2, h3⟩, h5⟩ := ev_some (E := fun x m => x = some (.int (B (ST w A.1.2.2.2.2 A.1.2.2.2.1))) ∧ ∃ mi', m = (WW L, mi', ml, mr) ∧ C2 π mi' ml A w) (g := gC) (d := d + 5) (M := 121) (args := [.ref 1]) (mem := (WW L, mi, ml, mr)) (q := q_121) rfl (Nat.le_of_ble_eq_true rfl) rfl (by
    refine ev_iconst (p' := 1) (v := nI 0) i_121_0 rfl (by decide) ?_
    refine ev_istore_n (p' := 2) (ls' := [_, _, _]) i_121_1 rfl rfl (by decide) rfl ?_
    exact l_stands hw hA hv (fun mi1 h => ⟨rfl, mi1, rfl, h⟩) A.1.2.2.2.1 0 mi _ (by omega) hc (fun k hk => absurd hk (Nat.not_lt_zero k)))
  subst h1 h2
  exact ⟨mi1, h5, h3⟩
theorem l_mstood {L : Nat} {π : Nat → Nat → Nat} {ml : Nat → Nat → Int64} {mr : Nat → Nat → Option Nat} {d : Nat} {E : Option Value → pm_M → Prop} (hw : WR π mr) {A : AV} (hA : okA A)  (hE : ∀ mi, RR mi ml A → E (some (.int (B (ST A.1.1 A.1.2.2.2.2 A.1.2.2.2.1)))) (WW L, mi, ml, mr)) : ∀ (k i : Nat) (mi : Nat → Nat → Int32), i + k = A.1.2.2.2.1 → RR mi ml A → Ev gR (pm_ev gR (d + 5)) E q_206 4 [some (.ref 285), some (.int (B (ST A.1.1 A.1.2.2.2.2 i))), some (.int (nI i))] [] (WW L, mi, ml, mr) := by
  intro k
  induction k with
  | zero =>
    intro i mi hi hc
    have hi : i = A.1.2.2.2.1 := by omega
    subst hi
    have h7 := hA.n7
    have hn := hc.hn
    refine ev_iload_n (p' := 5) i_206_4 rfl rfl ?_
    refine ev_aload_n (p' := 6) i_206_5 rfl rfl ?_
    refine ev_geti (p' := 9) i_206_6 rfl fl_12_109 rfl is_285 ?_
    refine ev_icmp_ge (p' := 12) (tg := 47) i_206_9 rfl rfl (fun c9 => ?_) (fun c9 => absurd (by have h6 := hA.1.2.2.2.1; rw [hc.1.2.2.2.1]; exact nI_le (by omega) (by omega)) c9)
    refine ev_iload_n (p' := 48) i_206_47 rfl rfl ?_
    exact ev_iret i_206_48 rfl B_nar (hE _ hc)
  | succ k ih =>
    intro i mi hi hc
    have h7 := hA.n7
    have hn := hc.hn
    have h6 := hA.1.2.2.2.1
    have hs := hc.1.2.2.2
    refine ev_iload_n (p' := 5) i_206_4 rfl rfl ?_
    refine ev_aload_n (p' := 6) i_206_5 rfl rfl ?_
    refine ev_geti (p' := 9) i_206_6 rfl fl_12_109 rfl is_285 ?_
    refine ev_icmp_ge (p' := 12) (tg := 47) i_206_9 rfl rfl (fun c9 => absurd c9 (by rw [hs.1]; exact nI_ge (by omega) (by omega))) (fun c9 => ?_)
    refine ev_iload_n (p' := 13) i_206_12 rfl rfl ?_
    refine ev_if_eq (p' := 16) (tg := 39) i_206_13 rfl rfl (fun c13 => ?_) (fun c13 => ?_)
    · replace c13 := B0 c13
      refine ev_iconst (p' := 40) (v := 0) i_206_39 rfl (by decide) ?_
      refine ev_istore_n (p' := 41) (ls' := [_, _, _]) i_206_40 rfl rfl (by decide) rfl ?_
      refine ev_iinc (p' := 44) (ls' := [_, _, _]) i_206_41 rfl rfl rfl (by decide) (nI_inc _) rfl ?_
      refine ev_goto (tg := 4) i_206_44 rfl ?_
      refine ev_cast (by rw [B_f (fun z => c13 (fun k hk => z k (by omega)))]) rfl rfl (ih (i + 1) _ (by omega) hc)
    · replace c13 := B1 c13
      refine ev_aload_n (p' := 17) i_206_16 rfl rfl ?_
      refine ev_aload_n (p' := 18) i_206_17 rfl rfl ?_
      refine ev_getr (p' := 21) i_206_18 rfl fl_12_37 rfl is_285 (rf_285_14 hw) ?_
      refine ev_iload_n (p' := 22) i_206_21 rfl rfl ?_
      refine ev_ialdN (p' := 23) i_206_22 rfl is_295 len_295 (by omega) (by decide) ?_
      obtain ⟨oo, ho, e5⟩ := (hA.1.2.2.2.2 i (by omega)).1
      rw [(hs.2 i (by omega)).1, e5]
      refine ev_v1I (p' := 26) i_206_23 rfl cl_12_237_12 (by decide) is_285 (Nat.le_of_ble_eq_true rfl) (v_mSeen _ hw hc hA ho) ?_
      refine ev_aload_n (p' := 27) i_206_26 rfl rfl ?_
      refine ev_getr (p' := 30) i_206_27 rfl fl_12_40 rfl is_285 (rf_285_15 hw) ?_
      refine ev_iload_n (p' := 31) i_206_30 rfl rfl ?_
      refine ev_ialdN (p' := 32) i_206_31 rfl is_296 len_296 (by omega) (by decide) ?_
      rw [hr_ne (by decide), (hs.2 i (by omega)).2]
      refine ev_icmp_ne (p' := 35) (tg := 39) i_206_32 rfl rfl (fun c32 => ?_) (fun c32 => ?_)
      · refine ev_iconst (p' := 40) (v := 0) i_206_39 rfl (by decide) ?_
        refine ev_istore_n (p' := 41) (ls' := [_, _, _]) i_206_40 rfl rfl (by decide) rfl ?_
        refine ev_iinc (p' := 44) (ls' := [_, _, _]) i_206_41 rfl rfl rfl (by decide) (nI_inc _) rfl ?_
        refine ev_goto (tg := 4) i_206_44 rfl ?_
        refine ev_cast (by rw [B_f (fun z => c32 (by have y := z i (by omega); rw [e5] at y; exact y))]) rfl rfl (ih (i + 1) _ (by omega) (hc.hr h7))
      · refine ev_iconst (p' := 36) (v := 1) i_206_35 rfl (by decide) ?_
        refine ev_goto (tg := 40) i_206_36 rfl ?_
        refine ev_istore_n (p' := 41) (ls' := [_, _, _]) i_206_40 rfl rfl (by decide) rfl ?_
        refine ev_iinc (p' := 44) (ls' := [_, _, _]) i_206_41 rfl rfl rfl (by decide) (nI_inc _) rfl ?_
        refine ev_goto (tg := 4) i_206_44 rfl ?_
        refine ev_cast (by rw [B_t (fun k hk => by
          rcases Nat.lt_succ_iff_lt_or_eq.mp hk with h | h
          · exact c13 k h
          · subst h; rw [e5]; exact Classical.not_not.mp c32)]) rfl rfl (ih (i + 1) _ (by omega) (hc.hr h7))
theorem s_mstood {L : Nat} {π : Nat → Nat → Nat} {ml : Nat → Nat → Int64} {mr : Nat → Nat → Option Nat} {mi : Nat → Nat → Int32} (d : Nat) (hw : WR π mr) {A : AV} (hA : okA A)  (hc : RR mi ml A) : ∃ mi', pm_ev gR (d + 6) 206 [.ref 285] (WW L, mi, ml, mr) (some (.int (B (ST A.1.1 A.1.2.2.2.2 A.1.2.2.2.1)))) (WW L, mi', ml, mr) ∧ RR mi' ml A := by
  have h7 := hA.n7
  obtain ⟨x, m', ⟨h1, mi1, h2, h3⟩, h5⟩ := ev_some (E := fun x m => x = some (.int (B (ST A.1.1 A.1.2.2.2.2 A.1.2.2.2.1))) ∧ ∃ mi', m = (WW L, mi', ml, mr) ∧ RR mi' ml A) (g := gR) (d := d + 5) (M := 206) (args := [.ref 285]) (mem := (WW L, mi, ml, mr)) (q := q_206) rfl (Nat.le_of_ble_eq_true rfl) rfl (by
    refine ev_iconst (p' := 1) (v := 1) i_206_0 rfl (by decide) ?_
    refine ev_istore_n (p' := 2) (ls' := [_, _, _]) i_206_1 rfl rfl (by decide) rfl ?_
    refine ev_iconst (p' := 3) (v := nI 0) i_206_2 rfl (by decide) ?_
    refine ev_istore_n (p' := 4) (ls' := [_, _, _]) i_206_3 rfl rfl (by decide) rfl ?_
    refine ev_cast (by rw [← B_t (show ST A.1.1 A.1.2.2.2.2 0 from fun k hk => absurd hk (Nat.not_lt_zero k))]) rfl rfl (l_mstood hw hA (fun mi1 h => ⟨rfl, mi1, rfl, h⟩) A.1.2.2.2.1 0 mi (by omega) hc))
  subst h1 h2
  exact ⟨mi1, h5, h3⟩
theorem C_where_bad (L d : Nat) (A : AV) (hA : okA A) (y : Int32) (x : Int32) (hb : ¬ ((0 ≤ y ∧ y ≤ nI A.1.1.1 - 1) ∧ (0 ≤ x ∧ x ≤ 1))) : Cst L (d + 24) 96 [.int y, .int x] A (.int (-2)) (badA A) := by
  refine C_of (q := q_96) rfl (Nat.le_of_ble_eq_true rfl) rfl (fun π mi ml mr hw hc => ?_)
  have hn := hc.hn
  have h7 := hA.n7
  refine ev_aload_n (p' := 1) i_96_0 rfl rfl ?_
  refine ev_iload_n (p' := 2) i_96_1 rfl rfl ?_
  refine ev_v1I (p' := 5) i_96_2 rfl cl_11_158_11 (by decide) is_1 (Nat.le_of_ble_eq_true rfl) (s_noPiece _ hw hn _) ?_
  refine ev_if_ne (p' := 8) (tg := 17) i_96_5 rfl rfl (fun c5 => ?_) (fun c5 => ?_)
  · replace c5 := B1 c5
    refine ev_aload_n (p' := 18) i_96_17 rfl rfl ?_
    refine ev_v0I (p' := 21) i_96_18 rfl cl_11_93_11 (by decide) is_1 (Nat.le_of_ble_eq_true rfl) (s_bad _) ?_
    exact ev_iretI i_96_21 rfl (EC.mk rfl hw (hc.bad hw))
  · replace c5 := B0n c5
    refine ev_iload_n (p' := 9) i_96_8 rfl rfl ?_
    refine ev_iconst (p' := 10) (v := 0) i_96_9 rfl (by decide) ?_
    refine ev_iconst (p' := 11) (v := 1) i_96_10 rfl (by decide) ?_
    refine ev_s3I (p' := 14) i_96_11 rfl cl_11_89_0 (by decide) (Nat.le_of_ble_eq_true rfl) (s_outside _ _ _ _) ?_
    refine ev_if_eq (p' := 17) (tg := 22) i_96_14 rfl rfl (fun c14 => ?_) (fun c14 => ?_)
    · replace c14 := B0 c14
      exact absurd ⟨ni c5, ni c14⟩ hb
    · replace c14 := B1 c14
      refine ev_aload_n (p' := 18) i_96_17 rfl rfl ?_
      refine ev_v0I (p' := 21) i_96_18 rfl cl_11_93_11 (by decide) is_1 (Nat.le_of_ble_eq_true rfl) (s_bad _) ?_
      exact ev_iretI i_96_21 rfl (EC.mk rfl hw (hc.bad hw))
theorem R_where_bad (L d : Nat) (A : AV) (hA : okA A) (y : Int32) (x : Int32) (hb : ¬ ((0 ≤ y ∧ y ≤ nI A.1.1.1 - 1) ∧ (0 ≤ x ∧ x ≤ 1))) : Rst L (d + 24) 207 [.int y, .int x] A (.int (-2)) (badA A) := by
  refine R_of (q := q_207) rfl (Nat.le_of_ble_eq_true rfl) rfl (fun π mi ml mr hw hc => ?_)
  have hn := hc.hn
  have h7 := hA.n7
  refine ev_aload_n (p' := 1) i_207_0 rfl rfl ?_
  refine ev_iload_n (p' := 2) i_207_1 rfl rfl ?_
  refine ev_v1I (p' := 5) i_207_2 rfl cl_12_240_12 (by decide) is_285 (Nat.le_of_ble_eq_true rfl) (s_isPiece (π := π) _ hn _) ?_
  refine ev_if_eq (p' := 8) (tg := 17) i_207_5 rfl rfl (fun c5 => ?_) (fun c5 => ?_)
  · replace c5 := B0 c5
    refine ev_aload_n (p' := 18) i_207_17 rfl rfl ?_
    refine ev_v0I (p' := 21) i_207_18 rfl cl_12_119_12 (by decide) is_285 (Nat.le_of_ble_eq_true rfl) (s_mbad _ hw) ?_
    exact ev_iretI i_207_21 rfl (ER.mk rfl (hc.bad h7))
  · replace c5 := B1 c5
    refine ev_iload_n (p' := 9) i_207_8 rfl rfl ?_
    refine ev_iconst (p' := 10) (v := 0) i_207_9 rfl (by decide) ?_
    refine ev_iconst (p' := 11) (v := 1) i_207_10 rfl (by decide) ?_
    refine ev_s3I (p' := 14) i_207_11 rfl cl_12_115_0 (by decide) (Nat.le_of_ble_eq_true rfl) (s_in _ _ _ _) ?_
    refine ev_if_ne (p' := 17) (tg := 22) i_207_14 rfl rfl (fun c14 => ?_) (fun c14 => ?_)
    · replace c14 := B1 c14
      exact absurd ⟨c5, c14⟩ hb
    · replace c14 := B0n c14
      refine ev_aload_n (p' := 18) i_207_17 rfl rfl ?_
      refine ev_v0I (p' := 21) i_207_18 rfl cl_12_119_12 (by decide) is_285 (Nat.le_of_ble_eq_true rfl) (s_mbad _ hw) ?_
      exact ev_iretI i_207_21 rfl (ER.mk rfl (hc.bad h7))
theorem l_where0 {L : Nat} {π : Nat → Nat → Nat} {ml : Nat → Nat → Int64} {mr : Nat → Nat → Option Nat} {d : Nat} {E : Option Value → pm_M → Prop} (hw : WR π mr) {A : AV} (hA : okA A) {i0 : Nat} (hi0 : i0 < A.1.1.1) (hE : ∀ mi, CR π mi ml A → E (some (.int (bset (fun r => 0 ≤ r ∧ ST (setV A.1.1 3 i0 (nI r)) A.1.2.2.2.2 A.1.2.2.2.1) 10))) (WW L, mi, ml, mr)) : ∀ (k i : Nat) (mi : Nat → Nat → Int32), i + k = 10 → CT π mi ml A 3 i0 → Ev gC (pm_ev gC (d + 6)) E q_96 73 [some (.ref 1), some (.int (nI i0)), some (.int 0), some (.ref (275 + 3 + i0)), some (.int (nI 9)), some (.int (bset (fun r => 0 ≤ r ∧ ST (setV A.1.1 3 i0 (nI r)) A.1.2.2.2.2 A.1.2.2.2.1) i)), some (.int (nI i))] [] (WW L, mi, ml, mr) := by
  intro k
  induction k with
  | zero =>
    intro i mi hi hc
    have hi : i = 10 := by omega
    subst hi
    have h7 := hA.n7
    have hn := hc.hn
    refine ev_iload (p' := 75) i_96_73 rfl rfl ?_
    refine ev_iload (p' := 77) i_96_75 rfl rfl ?_
    refine ev_icmp_gt (p' := 80) (tg := 121) i_96_77 rfl rfl (fun c77 => ?_) (fun c77 => absurd (by decide) c77)
    refine ev_iload (p' := 123) i_96_121 rfl rfl ?_
    exact ev_iretI i_96_123 rfl (hE _ hc.1)
  | succ k ih =>
    intro i mi hi hc
    have h7 := hA.n7
    have hn := hc.hn
    refine ev_iload (p' := 75) i_96_73 rfl rfl ?_
    refine ev_iload (p' := 77) i_96_75 rfl rfl ?_
    refine ev_icmp_gt (p' := 80) (tg := 121) i_96_77 rfl rfl (fun c77 => absurd c77 (Int32.not_lt.mpr (nI_le (b := 9) (by omega) (by decide)))) (fun c77 => ?_)
    refine ev_iload_n (p' := 81) i_96_80 rfl rfl ?_
    refine ev_if_ne (p' := 84) (tg := 93) i_96_81 rfl rfl (fun c81 => absurd c81 (fun z => z rfl)) (fun c81 => ?_)
    refine ev_aload_n (p' := 85) i_96_84 rfl rfl ?_
    refine ev_iload (p' := 87) i_96_85 rfl rfl ?_
    refine ev_puti (p' := 90) i_96_87 rfl fl_11_192 rfl (is_pc pg_275 (show i0 < 7 by omega)) (gc_pc pg_275 (show i0 < 7 by omega)) rfl ?_
    refine ev_goto (tg := 99) i_96_90 rfl ?_
    obtain ⟨mi2, e2, h2⟩ := s_stands (L := L) d hw hA (hA.1.1.set3 (by omega)) (CT.step hw hc (by decide) (by decide) (nI i))
    refine ev_aload_n (p' := 100) i_96_99 rfl rfl ?_
    refine ev_v0I (p' := 103) i_96_100 rfl cl_11_278_11 (by decide) is_1 (Nat.le_of_ble_eq_true rfl) (e2) ?_
    refine ev_if_eq (p' := 106) (tg := 115) i_96_103 rfl rfl (fun c103 => ?_) (fun c103 => ?_)
    · replace c103 := B0 c103
      refine ev_iinc (p' := 118) (ls' := [_, _, _, _, _, _, _]) i_96_115 rfl rfl rfl (by decide) (nI_inc _) rfl ?_
      refine ev_goto (tg := 73) i_96_118 rfl ?_
      rw [← bset_f (p := (fun r => 0 ≤ r ∧ ST (setV A.1.1 3 i0 (nI r)) A.1.2.2.2.2 A.1.2.2.2.1)) (fun z => c103 z.2)]
      exact ih (i + 1) _ (by omega) (CT.of h2)
    · replace c103 := B1 c103
      refine ev_iload (p' := 108) i_96_106 rfl rfl ?_
      refine ev_iconst (p' := 109) (v := 1) i_96_108 rfl (by decide) ?_
      refine ev_iload (p' := 111) i_96_109 rfl rfl ?_
      refine ev_ishl (p' := 112) i_96_111 rfl ?_
      refine ev_ior (p' := 113) i_96_112 rfl ?_
      refine ev_istore (p' := 115) (ls' := [_, _, _, _, _, _, _]) i_96_113 rfl rfl (by decide) rfl ?_
      refine ev_iinc (p' := 118) (ls' := [_, _, _, _, _, _, _]) i_96_115 rfl rfl rfl (by decide) (nI_inc _) rfl ?_
      refine ev_goto (tg := 73) i_96_118 rfl ?_
      rw [← bset_t (p := (fun r => 0 ≤ r ∧ ST (setV A.1.1 3 i0 (nI r)) A.1.2.2.2.2 A.1.2.2.2.1)) ⟨by omega, c103⟩]
      exact ih (i + 1) _ (by omega) (CT.of h2)
theorem C_where0 (L d : Nat) (A : AV) (hA : okA A) {i : Nat} (hi : i < A.1.1.1) : Cst L (d + 24) 96 [.int (nI i), .int 0] A (.int (bset (fun r => 0 ≤ r ∧ ST (setV A.1.1 3 i (nI r)) A.1.2.2.2.2 A.1.2.2.2.1) 10)) (A) := by
  refine C_of (q := q_96) rfl (Nat.le_of_ble_eq_true rfl) rfl (fun π mi ml mr hw hc => ?_)
  have hn := hc.hn
  have h7 := hA.n7
  refine ev_aload_n (p' := 1) i_96_0 rfl rfl ?_
  refine ev_iload_n (p' := 2) i_96_1 rfl rfl ?_
  refine ev_v1I (p' := 5) i_96_2 rfl cl_11_158_11 (by decide) is_1 (Nat.le_of_ble_eq_true rfl) (s_noPiece _ hw hn _) ?_
  refine ev_if_ne (p' := 8) (tg := 17) i_96_5 rfl rfl (fun c5 => absurd c5 (fun z => z (B_f (nj (inn hi h7))))) (fun c5 => ?_)
  refine ev_iload_n (p' := 9) i_96_8 rfl rfl ?_
  refine ev_iconst (p' := 10) (v := 0) i_96_9 rfl (by decide) ?_
  refine ev_iconst (p' := 11) (v := 1) i_96_10 rfl (by decide) ?_
  refine ev_s3I (p' := 14) i_96_11 rfl cl_11_89_0 (by decide) (Nat.le_of_ble_eq_true rfl) (s_outside _ _ _ _) ?_
  refine ev_if_eq (p' := 17) (tg := 22) i_96_14 rfl rfl (fun c14 => ?_) (fun c14 => absurd (B_f (nj (by decide))) c14)
  refine ev_aload_n (p' := 23) i_96_22 rfl rfl ?_
  refine ev_getr (p' := 26) i_96_23 rfl fl_11_85 rfl is_1 (rf_1_4 hw) ?_
  refine ev_aload_n (p' := 27) i_96_26 rfl rfl ?_
  refine ev_getr (p' := 30) i_96_27 rfl fl_11_78 rfl is_1 (rf_1_0 hw) ?_
  refine ev_getr (p' := 33) i_96_30 rfl fl_11_97 rfl (is_sp sp_17) (hw.page sp_17) ?_
  refine ev_v1V (p' := 36) i_96_33 rfl cl_11_134_2 (by decide) (is_pg pg_275) (Nat.le_of_ble_eq_true rfl) (s_pgc _ hw pg_275 pg_33 (by decide) hc.pg.1 hc.pg.2.1) ?_
  refine ev_aload_n (p' := 37) i_96_36 rfl rfl ?_
  refine ev_getr (p' := 40) i_96_37 rfl fl_11_85 rfl is_1 (rf_1_4 hw) ?_
  refine ev_getr (p' := 43) i_96_40 rfl fl_11_161 rfl (is_pg pg_275) (hw.pieces pg_275) ?_
  refine ev_iload_n (p' := 44) i_96_43 rfl rfl ?_
  refine ev_aaldN (p' := 45) 25 i_96_44 rfl (is_pgp pg_275) (by decide) (len_pgp pg_275) (by omega) (by decide) (hw.piece pg_275 (by omega)) ?_
  refine ev_astore_n (p' := 46) (ls' := [_, _, _, _, _, _, _]) i_96_45 rfl rfl (by decide) rfl ?_
  refine ev_iload_n (p' := 47) i_96_46 rfl rfl ?_
  refine ev_if_ne (p' := 50) (tg := 55) i_96_47 rfl rfl (fun c47 => absurd c47 (fun z => z rfl)) (fun c47 => ?_)
  refine ev_bipush (p' := 52) (v := nI 9) i_96_50 rfl (by decide) ?_
  refine ev_goto (tg := 57) i_96_52 rfl ?_
  refine ev_istore (p' := 59) (ls' := [_, _, _, _, _, _, _]) i_96_57 rfl rfl (by decide) rfl ?_
  refine ev_iconst (p' := 60) (v := 0) i_96_59 rfl (by decide) ?_
  refine ev_istore (p' := 62) (ls' := [_, _, _, _, _, _, _]) i_96_60 rfl rfl (by decide) rfl ?_
  refine ev_iload_n (p' := 63) i_96_62 rfl rfl ?_
  refine ev_if_ne (p' := 66) (tg := 70) i_96_63 rfl rfl (fun c63 => absurd c63 (fun z => z rfl)) (fun c63 => ?_)
  refine ev_iconst (p' := 67) (v := nI 0) i_96_66 rfl (by decide) ?_
  refine ev_goto (tg := 71) i_96_67 rfl ?_
  refine ev_istore (p' := 73) (ls' := [_, _, _, _, _, _, _]) i_96_71 rfl rfl (by decide) rfl ?_
  have h2 := hc.trial hw
  exact l_where0 hw hA hi (fun mi h => EC.mk rfl hw h) 10 0 _ (by decide) ⟨h2.1, _, h2.2, fun _ => rfl⟩
theorem RT.oth {mi : Nat → Nat → Int32} {ml : Nat → Nat → Int64} {A : AV} {j0 i0 j : Nat} (h : RT mi ml A j0 i0) (hj : j ≠ j0) (hi : i0 < A.1.1.1) (h7 : j < 7) : mi (287 + j) i0 = A.1.1.2.2.2 j i0 := by
  obtain ⟨w, h1, h2, hx⟩ := h
  rw [h1.1.1.2.2.2 i0 (by show i0 < w.1; omega) j h7]
  have e := congrArg (fun v : PV => v.2.2.2 j i0) (hx 0)
  have e1 : (setV w j0 i0 0).2.2.2 j i0 = w.2.2.2 j i0 := if_neg (fun z => hj z.2)
  have e2 : (setV A.1.1 j0 i0 0).2.2.2 j i0 = A.1.1.2.2.2 j i0 := if_neg (fun z => hj z.2)
  exact e1.symm.trans (e.trans e2)
theorem pm_u_com {f : Nat → Nat → Int32} {k k' j j' : Nat} {x : Int32} (h : k ≠ k') : pm_u (pm_u f k j x) k' j' (f k' j') = pm_u f k j x := by
  funext a b
  unfold pm_u
  by_cases h1 : a = k' ∧ b = j'
  · rw [if_pos h1, h1.1, h1.2, if_neg (fun z => h z.1.symm)]
  · rw [if_neg h1]
theorem l_mwhere0 {L : Nat} {π : Nat → Nat → Nat} {ml : Nat → Nat → Int64} {mr : Nat → Nat → Option Nat} {d : Nat} {E : Option Value → pm_M → Prop} (hw : WR π mr) {A : AV} (hA : okA A) {i0 : Nat} (hi0 : i0 < A.1.1.1) (hE : ∀ mi, RR mi ml A → E (some (.int (bset (fun r => 0 ≤ r ∧ ST (setV A.1.1 3 i0 (nI r)) A.1.2.2.2.2 A.1.2.2.2.1) 10))) (WW L, mi, ml, mr)) : ∀ (k i : Nat) (mi : Nat → Nat → Int32), i + k = 10 → RT mi ml A 3 i0 → Ev gR (pm_ev gR (d + 6)) E q_207 43 [some (.ref 285), some (.int (nI i0)), some (.int 0), some (.int (A.1.1.2.2.2 3 i0)), some (.int (A.1.1.2.2.2 2 i0)), some (.int (bset (fun r => 0 ≤ r ∧ ST (setV A.1.1 3 i0 (nI r)) A.1.2.2.2.2 A.1.2.2.2.1) i)), some (.int (nI i))] [] (WW L, mi, ml, mr) := by
  intro k
  induction k with
  | zero =>
    intro i mi hi hc
    have hi : i = 10 := by omega
    subst hi
    have h7 := hA.n7
    have hn := hc.hn
    refine ev_iload (p' := 45) i_207_43 rfl rfl ?_
    refine ev_bipush (p' := 47) (v := 9) i_207_45 rfl (by decide) ?_
    refine ev_icmp_gt (p' := 50) (tg := 110) i_207_47 rfl rfl (fun c47 => ?_) (fun c47 => absurd (by decide) c47)
    refine ev_aload_n (p' := 111) i_207_110 rfl rfl ?_
    refine ev_getr (p' := 114) i_207_111 rfl fl_12_22 rfl is_285 (rf_285_9 hw) ?_
    refine ev_iload_n (p' := 115) i_207_114 rfl rfl ?_
    refine ev_iload_n (p' := 116) i_207_115 rfl rfl ?_
    refine ev_iastN (p' := 117) i_207_116 rfl is_290 len_290 (by omega) (by decide) (gr (by decide)) ?_
    refine ev_aload_n (p' := 118) i_207_117 rfl rfl ?_
    refine ev_getr (p' := 121) i_207_118 rfl fl_12_19 rfl is_285 (rf_285_8 hw) ?_
    refine ev_iload_n (p' := 122) i_207_121 rfl rfl ?_
    refine ev_iload (p' := 124) i_207_122 rfl rfl ?_
    refine ev_iastN (p' := 125) i_207_124 rfl is_289 len_289 (by omega) (by decide) (gr (by decide)) ?_
    rw [show pm_u (pm_u mi 290 i0 (A.1.1.2.2.2 3 i0)) 289 i0 (A.1.1.2.2.2 2 i0) = pm_u mi 290 i0 (A.1.1.2.2.2 3 i0) from by
      rw [← hc.oth (j := 2) (by decide) hi0 (by decide)]
      exact pm_u_com (by decide)]
    have hs := (hc.step (by decide) (A.1.1.2.2.2 3 i0)).set_id
    refine ev_iload (p' := 127) i_207_125 rfl rfl ?_
    exact ev_iretI i_207_127 rfl (hE _ hs)
  | succ k ih =>
    intro i mi hi hc
    have h7 := hA.n7
    have hn := hc.hn
    refine ev_iload (p' := 45) i_207_43 rfl rfl ?_
    refine ev_bipush (p' := 47) (v := 9) i_207_45 rfl (by decide) ?_
    refine ev_icmp_gt (p' := 50) (tg := 110) i_207_47 rfl rfl (fun c47 => absurd c47 (Int32.not_lt.mpr (nI_le (b := 9) (by omega) (by decide)))) (fun c47 => ?_)
    refine ev_aload_n (p' := 51) i_207_50 rfl rfl ?_
    refine ev_getr (p' := 54) i_207_51 rfl fl_12_22 rfl is_285 (rf_285_9 hw) ?_
    refine ev_iload_n (p' := 55) i_207_54 rfl rfl ?_
    refine ev_iload_n (p' := 56) i_207_55 rfl rfl ?_
    refine ev_if_ne (p' := 59) (tg := 64) i_207_56 rfl rfl (fun c56 => absurd c56 (fun z => z rfl)) (fun c56 => ?_)
    refine ev_iload (p' := 61) i_207_59 rfl rfl ?_
    refine ev_goto (tg := 65) i_207_61 rfl ?_
    refine ev_iastN (p' := 66) i_207_65 rfl is_290 len_290 (by omega) (by decide) (gr (by decide)) ?_
    refine ev_aload_n (p' := 67) i_207_66 rfl rfl ?_
    refine ev_getr (p' := 70) i_207_67 rfl fl_12_19 rfl is_285 (rf_285_8 hw) ?_
    refine ev_iload_n (p' := 71) i_207_70 rfl rfl ?_
    refine ev_iload_n (p' := 72) i_207_71 rfl rfl ?_
    refine ev_iconst (p' := 73) (v := 1) i_207_72 rfl (by decide) ?_
    refine ev_icmp_ne (p' := 76) (tg := 81) i_207_73 rfl rfl (fun c73 => ?_) (fun c73 => absurd (by decide) c73)
    refine ev_iload (p' := 83) i_207_81 rfl rfl ?_
    refine ev_iastN (p' := 84) i_207_83 rfl is_289 len_289 (by omega) (by decide) (gr (by decide)) ?_
    rw [show pm_u (pm_u mi 290 i0 (nI i)) 289 i0 (A.1.1.2.2.2 2 i0) = pm_u mi 290 i0 (nI i) from by
      rw [← hc.oth (j := 2) (by decide) hi0 (by decide)]
      exact pm_u_com (by decide)]
    have hs := hc.step (by decide) (nI i)
    have hA2 := hA.set (hA.1.1.set3 (i := i0) (p := i) (by omega))
    obtain ⟨mi2, e2, h2⟩ := s_mstood (L := L) d hw hA2 hs
    refine ev_iload (p' := 86) i_207_84 rfl rfl ?_
    refine ev_aload_n (p' := 87) i_207_86 rfl rfl ?_
    refine ev_v0I (p' := 90) i_207_87 rfl cl_12_297_12 (by decide) is_285 (Nat.le_of_ble_eq_true rfl) (e2) ?_
    refine ev_if_eq (p' := 93) (tg := 100) i_207_90 rfl rfl (fun c90 => ?_) (fun c90 => ?_)
    · replace c90 := B0 c90
      refine ev_iconst (p' := 101) (v := 0) i_207_100 rfl (by decide) ?_
      refine ev_ior (p' := 102) i_207_101 rfl ?_
      refine ev_istore (p' := 104) (ls' := [_, _, _, _, _, _, _]) i_207_102 rfl rfl (by decide) rfl ?_
      refine ev_iinc (p' := 107) (ls' := [_, _, _, _, _, _, _]) i_207_104 rfl rfl rfl (by decide) (nI_inc _) rfl ?_
      refine ev_goto (tg := 43) i_207_107 rfl ?_
      refine ev_cast (by rw [bset_f (p := (fun r => 0 ≤ r ∧ ST (setV A.1.1 3 i0 (nI r)) A.1.2.2.2.2 A.1.2.2.2.1)) (fun z => c90 z.2), Int32.or_zero]) rfl rfl (ih (i + 1) _ (by omega) (RT.of h2))
    · replace c90 := B1 c90
      refine ev_iconst (p' := 94) (v := 1) i_207_93 rfl (by decide) ?_
      refine ev_iload (p' := 96) i_207_94 rfl rfl ?_
      refine ev_ishl (p' := 97) i_207_96 rfl ?_
      refine ev_goto (tg := 101) i_207_97 rfl ?_
      refine ev_ior (p' := 102) i_207_101 rfl ?_
      refine ev_istore (p' := 104) (ls' := [_, _, _, _, _, _, _]) i_207_102 rfl rfl (by decide) rfl ?_
      refine ev_iinc (p' := 107) (ls' := [_, _, _, _, _, _, _]) i_207_104 rfl rfl rfl (by decide) (nI_inc _) rfl ?_
      refine ev_goto (tg := 43) i_207_107 rfl ?_
      refine ev_cast (by rw [bset_t (p := (fun r => 0 ≤ r ∧ ST (setV A.1.1 3 i0 (nI r)) A.1.2.2.2.2 A.1.2.2.2.1)) ⟨by omega, c90⟩]) rfl rfl (ih (i + 1) _ (by omega) (RT.of h2))
theorem R_where0 (L d : Nat) (A : AV) (hA : okA A) {i : Nat} (hi : i < A.1.1.1) : Rst L (d + 24) 207 [.int (nI i), .int 0] A (.int (bset (fun r => 0 ≤ r ∧ ST (setV A.1.1 3 i (nI r)) A.1.2.2.2.2 A.1.2.2.2.1) 10)) (A) := by
  refine R_of (q := q_207) rfl (Nat.le_of_ble_eq_true rfl) rfl (fun π mi ml mr hw hc => ?_)
  have hn := hc.hn
  have h7 := hA.n7
  refine ev_aload_n (p' := 1) i_207_0 rfl rfl ?_
  refine ev_iload_n (p' := 2) i_207_1 rfl rfl ?_
  refine ev_v1I (p' := 5) i_207_2 rfl cl_12_240_12 (by decide) is_285 (Nat.le_of_ble_eq_true rfl) (s_isPiece (π := π) _ hn _) ?_
  refine ev_if_eq (p' := 8) (tg := 17) i_207_5 rfl rfl (fun c5 => absurd c5 (B_tn (inn hi h7))) (fun c5 => ?_)
  refine ev_iload_n (p' := 9) i_207_8 rfl rfl ?_
  refine ev_iconst (p' := 10) (v := 0) i_207_9 rfl (by decide) ?_
  refine ev_iconst (p' := 11) (v := 1) i_207_10 rfl (by decide) ?_
  refine ev_s3I (p' := 14) i_207_11 rfl cl_12_115_0 (by decide) (Nat.le_of_ble_eq_true rfl) (s_in _ _ _ _) ?_
  refine ev_if_ne (p' := 17) (tg := 22) i_207_14 rfl rfl (fun c14 => ?_) (fun c14 => absurd (B_tn (by decide)) c14)
  refine ev_aload_n (p' := 23) i_207_22 rfl rfl ?_
  refine ev_getr (p' := 26) i_207_23 rfl fl_12_22 rfl is_285 (rf_285_9 hw) ?_
  refine ev_iload_n (p' := 27) i_207_26 rfl rfl ?_
  refine ev_ialdN (p' := 28) i_207_27 rfl is_290 len_290 (by omega) (by decide) ?_
  rw [show mi 290 i = A.1.1.2.2.2 3 i from hc.f (j := 3) hi (by decide)]
  refine ev_istore_n (p' := 29) (ls' := [_, _, _, _, _, _, _]) i_207_28 rfl rfl (by decide) rfl ?_
  refine ev_aload_n (p' := 30) i_207_29 rfl rfl ?_
  refine ev_getr (p' := 33) i_207_30 rfl fl_12_19 rfl is_285 (rf_285_8 hw) ?_
  refine ev_iload_n (p' := 34) i_207_33 rfl rfl ?_
  refine ev_ialdN (p' := 35) i_207_34 rfl is_289 len_289 (by omega) (by decide) ?_
  rw [show mi 289 i = A.1.1.2.2.2 2 i from hc.f (j := 2) hi (by decide)]
  refine ev_istore (p' := 37) (ls' := [_, _, _, _, _, _, _]) i_207_35 rfl rfl (by decide) rfl ?_
  refine ev_iconst (p' := 38) (v := 0) i_207_37 rfl (by decide) ?_
  refine ev_istore (p' := 40) (ls' := [_, _, _, _, _, _, _]) i_207_38 rfl rfl (by decide) rfl ?_
  refine ev_iload_n (p' := 41) i_207_40 rfl rfl ?_
  refine ev_istore (p' := 43) (ls' := [_, _, _, _, _, _, _]) i_207_41 rfl rfl (by decide) rfl ?_
  exact l_mwhere0 hw hA hi (fun mi h => ER.mk rfl h) 10 0 _ (by decide) (RT.of0 hc)
theorem l_where1 {L : Nat} {π : Nat → Nat → Nat} {ml : Nat → Nat → Int64} {mr : Nat → Nat → Option Nat} {d : Nat} {E : Option Value → pm_M → Prop} (hw : WR π mr) {A : AV} (hA : okA A) {i0 : Nat} (hi0 : i0 < A.1.1.1) (hE : ∀ mi, CR π mi ml A → E (some (.int (bset (fun r => 1 ≤ r ∧ ST (setV A.1.1 2 i0 (nI r)) A.1.2.2.2.2 A.1.2.2.2.1) 10))) (WW L, mi, ml, mr)) : ∀ (k i : Nat) (mi : Nat → Nat → Int32), i + k = 10 → CT π mi ml A 2 i0 → 1 ≤ i → Ev gC (pm_ev gC (d + 6)) E q_96 73 [some (.ref 1), some (.int (nI i0)), some (.int 1), some (.ref (275 + 3 + i0)), some (.int (nI 9)), some (.int (bset (fun r => 1 ≤ r ∧ ST (setV A.1.1 2 i0 (nI r)) A.1.2.2.2.2 A.1.2.2.2.1) i)), some (.int (nI i))] [] (WW L, mi, ml, mr) := by
  intro k
  induction k with
  | zero =>
    intro i mi hi hc hx
    have hi : i = 10 := by omega
    subst hi
    have h7 := hA.n7
    have hn := hc.hn
    refine ev_iload (p' := 75) i_96_73 rfl rfl ?_
    refine ev_iload (p' := 77) i_96_75 rfl rfl ?_
    refine ev_icmp_gt (p' := 80) (tg := 121) i_96_77 rfl rfl (fun c77 => ?_) (fun c77 => absurd (by decide) c77)
    refine ev_iload (p' := 123) i_96_121 rfl rfl ?_
    exact ev_iretI i_96_123 rfl (hE _ hc.1)
  | succ k ih =>
    intro i mi hi hc hx
    have h7 := hA.n7
    have hn := hc.hn
    refine ev_iload (p' := 75) i_96_73 rfl rfl ?_
    refine ev_iload (p' := 77) i_96_75 rfl rfl ?_
    refine ev_icmp_gt (p' := 80) (tg := 121) i_96_77 rfl rfl (fun c77 => absurd c77 (Int32.not_lt.mpr (nI_le (b := 9) (by omega) (by decide)))) (fun c77 => ?_)
    refine ev_iload_n (p' := 81) i_96_80 rfl rfl ?_
    refine ev_if_ne (p' := 84) (tg := 93) i_96_81 rfl rfl (fun c81 => ?_) (fun c81 => absurd (by decide) c81)
    refine ev_aload_n (p' := 94) i_96_93 rfl rfl ?_
    refine ev_iload (p' := 96) i_96_94 rfl rfl ?_
    refine ev_puti (p' := 99) i_96_96 rfl fl_11_189 rfl (is_pc pg_275 (show i0 < 7 by omega)) (gc_pc pg_275 (show i0 < 7 by omega)) rfl ?_
    obtain ⟨mi2, e2, h2⟩ := s_stands (L := L) d hw hA (hA.1.1.set2 (by omega) (by omega)) (CT.step hw hc (by decide) (by decide) (nI i))
    refine ev_aload_n (p' := 100) i_96_99 rfl rfl ?_
    refine ev_v0I (p' := 103) i_96_100 rfl cl_11_278_11 (by decide) is_1 (Nat.le_of_ble_eq_true rfl) (e2) ?_
    refine ev_if_eq (p' := 106) (tg := 115) i_96_103 rfl rfl (fun c103 => ?_) (fun c103 => ?_)
    · replace c103 := B0 c103
      refine ev_iinc (p' := 118) (ls' := [_, _, _, _, _, _, _]) i_96_115 rfl rfl rfl (by decide) (nI_inc _) rfl ?_
      refine ev_goto (tg := 73) i_96_118 rfl ?_
      rw [← bset_f (p := (fun r => 1 ≤ r ∧ ST (setV A.1.1 2 i0 (nI r)) A.1.2.2.2.2 A.1.2.2.2.1)) (fun z => c103 z.2)]
      exact ih (i + 1) _ (by omega) (CT.of h2) (by omega)
    · replace c103 := B1 c103
      refine ev_iload (p' := 108) i_96_106 rfl rfl ?_
      refine ev_iconst (p' := 109) (v := 1) i_96_108 rfl (by decide) ?_
      refine ev_iload (p' := 111) i_96_109 rfl rfl ?_
      refine ev_ishl (p' := 112) i_96_111 rfl ?_
      refine ev_ior (p' := 113) i_96_112 rfl ?_
      refine ev_istore (p' := 115) (ls' := [_, _, _, _, _, _, _]) i_96_113 rfl rfl (by decide) rfl ?_
      refine ev_iinc (p' := 118) (ls' := [_, _, _, _, _, _, _]) i_96_115 rfl rfl rfl (by decide) (nI_inc _) rfl ?_
      refine ev_goto (tg := 73) i_96_118 rfl ?_
      rw [← bset_t (p := (fun r => 1 ≤ r ∧ ST (setV A.1.1 2 i0 (nI r)) A.1.2.2.2.2 A.1.2.2.2.1)) ⟨by omega, c103⟩]
      exact ih (i + 1) _ (by omega) (CT.of h2) (by omega)
theorem C_where1 (L d : Nat) (A : AV) (hA : okA A) {i : Nat} (hi : i < A.1.1.1) : Cst L (d + 24) 96 [.int (nI i), .int 1] A (.int (bset (fun r => 1 ≤ r ∧ ST (setV A.1.1 2 i (nI r)) A.1.2.2.2.2 A.1.2.2.2.1) 10)) (A) := by
  refine C_of (q := q_96) rfl (Nat.le_of_ble_eq_true rfl) rfl (fun π mi ml mr hw hc => ?_)
  have hn := hc.hn
  have h7 := hA.n7
  refine ev_aload_n (p' := 1) i_96_0 rfl rfl ?_
  refine ev_iload_n (p' := 2) i_96_1 rfl rfl ?_
  refine ev_v1I (p' := 5) i_96_2 rfl cl_11_158_11 (by decide) is_1 (Nat.le_of_ble_eq_true rfl) (s_noPiece _ hw hn _) ?_
  refine ev_if_ne (p' := 8) (tg := 17) i_96_5 rfl rfl (fun c5 => absurd c5 (fun z => z (B_f (nj (inn hi h7))))) (fun c5 => ?_)
  refine ev_iload_n (p' := 9) i_96_8 rfl rfl ?_
  refine ev_iconst (p' := 10) (v := 0) i_96_9 rfl (by decide) ?_
  refine ev_iconst (p' := 11) (v := 1) i_96_10 rfl (by decide) ?_
  refine ev_s3I (p' := 14) i_96_11 rfl cl_11_89_0 (by decide) (Nat.le_of_ble_eq_true rfl) (s_outside _ _ _ _) ?_
  refine ev_if_eq (p' := 17) (tg := 22) i_96_14 rfl rfl (fun c14 => ?_) (fun c14 => absurd (B_f (nj (by decide))) c14)
  refine ev_aload_n (p' := 23) i_96_22 rfl rfl ?_
  refine ev_getr (p' := 26) i_96_23 rfl fl_11_85 rfl is_1 (rf_1_4 hw) ?_
  refine ev_aload_n (p' := 27) i_96_26 rfl rfl ?_
  refine ev_getr (p' := 30) i_96_27 rfl fl_11_78 rfl is_1 (rf_1_0 hw) ?_
  refine ev_getr (p' := 33) i_96_30 rfl fl_11_97 rfl (is_sp sp_17) (hw.page sp_17) ?_
  refine ev_v1V (p' := 36) i_96_33 rfl cl_11_134_2 (by decide) (is_pg pg_275) (Nat.le_of_ble_eq_true rfl) (s_pgc _ hw pg_275 pg_33 (by decide) hc.pg.1 hc.pg.2.1) ?_
  refine ev_aload_n (p' := 37) i_96_36 rfl rfl ?_
  refine ev_getr (p' := 40) i_96_37 rfl fl_11_85 rfl is_1 (rf_1_4 hw) ?_
  refine ev_getr (p' := 43) i_96_40 rfl fl_11_161 rfl (is_pg pg_275) (hw.pieces pg_275) ?_
  refine ev_iload_n (p' := 44) i_96_43 rfl rfl ?_
  refine ev_aaldN (p' := 45) 25 i_96_44 rfl (is_pgp pg_275) (by decide) (len_pgp pg_275) (by omega) (by decide) (hw.piece pg_275 (by omega)) ?_
  refine ev_astore_n (p' := 46) (ls' := [_, _, _, _, _, _, _]) i_96_45 rfl rfl (by decide) rfl ?_
  refine ev_iload_n (p' := 47) i_96_46 rfl rfl ?_
  refine ev_if_ne (p' := 50) (tg := 55) i_96_47 rfl rfl (fun c47 => ?_) (fun c47 => absurd (by decide) c47)
  refine ev_bipush (p' := 57) (v := nI 9) i_96_55 rfl (by decide) ?_
  refine ev_istore (p' := 59) (ls' := [_, _, _, _, _, _, _]) i_96_57 rfl rfl (by decide) rfl ?_
  refine ev_iconst (p' := 60) (v := 0) i_96_59 rfl (by decide) ?_
  refine ev_istore (p' := 62) (ls' := [_, _, _, _, _, _, _]) i_96_60 rfl rfl (by decide) rfl ?_
  refine ev_iload_n (p' := 63) i_96_62 rfl rfl ?_
  refine ev_if_ne (p' := 66) (tg := 70) i_96_63 rfl rfl (fun c63 => ?_) (fun c63 => absurd (by decide) c63)
  refine ev_iconst (p' := 71) (v := nI 1) i_96_70 rfl (by decide) ?_
  refine ev_istore (p' := 73) (ls' := [_, _, _, _, _, _, _]) i_96_71 rfl rfl (by decide) rfl ?_
  have h2 := hc.trial hw
  refine ev_cast (by rw [show bset (fun r => 1 ≤ r ∧ ST (setV A.1.1 2 i (nI r)) A.1.2.2.2.2 A.1.2.2.2.1) 1 = 0 from bset_f (fun z => absurd z.1 (by decide))]) rfl rfl (l_where1 hw hA hi (fun mi h => EC.mk rfl hw h) 9 1 _ (by decide) ⟨h2.1, _, h2.2, fun _ => rfl⟩ (by decide))
theorem l_mwhere1 {L : Nat} {π : Nat → Nat → Nat} {ml : Nat → Nat → Int64} {mr : Nat → Nat → Option Nat} {d : Nat} {E : Option Value → pm_M → Prop} (hw : WR π mr) {A : AV} (hA : okA A) {i0 : Nat} (hi0 : i0 < A.1.1.1) (hE : ∀ mi, RR mi ml A → E (some (.int (bset (fun r => 1 ≤ r ∧ ST (setV A.1.1 2 i0 (nI r)) A.1.2.2.2.2 A.1.2.2.2.1) 10))) (WW L, mi, ml, mr)) : ∀ (k i : Nat) (mi : Nat → Nat → Int32), i + k = 10 → RT mi ml A 2 i0 → 1 ≤ i → Ev gR (pm_ev gR (d + 6)) E q_207 43 [some (.ref 285), some (.int (nI i0)), some (.int 1), some (.int (A.1.1.2.2.2 3 i0)), some (.int (A.1.1.2.2.2 2 i0)), some (.int (bset (fun r => 1 ≤ r ∧ ST (setV A.1.1 2 i0 (nI r)) A.1.2.2.2.2 A.1.2.2.2.1) i)), some (.int (nI i))] [] (WW L, mi, ml, mr) := by
  intro k
  induction k with
  | zero =>
    intro i mi hi hc hx
    have hi : i = 10 := by omega
    subst hi
    have h7 := hA.n7
    have hn := hc.hn
    refine ev_iload (p' := 45) i_207_43 rfl rfl ?_
    refine ev_bipush (p' := 47) (v := 9) i_207_45 rfl (by decide) ?_
    refine ev_icmp_gt (p' := 50) (tg := 110) i_207_47 rfl rfl (fun c47 => ?_) (fun c47 => absurd (by decide) c47)
    refine ev_aload_n (p' := 111) i_207_110 rfl rfl ?_
    refine ev_getr (p' := 114) i_207_111 rfl fl_12_22 rfl is_285 (rf_285_9 hw) ?_
    refine ev_iload_n (p' := 115) i_207_114 rfl rfl ?_
    refine ev_iload_n (p' := 116) i_207_115 rfl rfl ?_
    refine ev_iastN (p' := 117) i_207_116 rfl is_290 len_290 (by omega) (by decide) (gr (by decide)) ?_
    refine ev_aload_n (p' := 118) i_207_117 rfl rfl ?_
    refine ev_getr (p' := 121) i_207_118 rfl fl_12_19 rfl is_285 (rf_285_8 hw) ?_
    refine ev_iload_n (p' := 122) i_207_121 rfl rfl ?_
    refine ev_iload (p' := 124) i_207_122 rfl rfl ?_
    refine ev_iastN (p' := 125) i_207_124 rfl is_289 len_289 (by omega) (by decide) (gr (by decide)) ?_
    rw [show pm_u (pm_u mi 290 i0 (A.1.1.2.2.2 3 i0)) 289 i0 (A.1.1.2.2.2 2 i0) = pm_u mi 289 i0 (A.1.1.2.2.2 2 i0) from by
      rw [← hc.oth (j := 3) (by decide) hi0 (by decide)]
      exact congrArg (fun z => pm_u z 289 i0 (A.1.1.2.2.2 2 i0)) pm_u_same]
    have hs := (hc.step (by decide) (A.1.1.2.2.2 2 i0)).set_id
    refine ev_iload (p' := 127) i_207_125 rfl rfl ?_
    exact ev_iretI i_207_127 rfl (hE _ hs)
  | succ k ih =>
    intro i mi hi hc hx
    have h7 := hA.n7
    have hn := hc.hn
    refine ev_iload (p' := 45) i_207_43 rfl rfl ?_
    refine ev_bipush (p' := 47) (v := 9) i_207_45 rfl (by decide) ?_
    refine ev_icmp_gt (p' := 50) (tg := 110) i_207_47 rfl rfl (fun c47 => absurd c47 (Int32.not_lt.mpr (nI_le (b := 9) (by omega) (by decide)))) (fun c47 => ?_)
    refine ev_aload_n (p' := 51) i_207_50 rfl rfl ?_
    refine ev_getr (p' := 54) i_207_51 rfl fl_12_22 rfl is_285 (rf_285_9 hw) ?_
    refine ev_iload_n (p' := 55) i_207_54 rfl rfl ?_
    refine ev_iload_n (p' := 56) i_207_55 rfl rfl ?_
    refine ev_if_ne (p' := 59) (tg := 64) i_207_56 rfl rfl (fun c56 => ?_) (fun c56 => absurd (by decide) c56)
    refine ev_iload_n (p' := 65) i_207_64 rfl rfl ?_
    refine ev_iastN (p' := 66) i_207_65 rfl is_290 len_290 (by omega) (by decide) (gr (by decide)) ?_
    refine ev_aload_n (p' := 67) i_207_66 rfl rfl ?_
    refine ev_getr (p' := 70) i_207_67 rfl fl_12_19 rfl is_285 (rf_285_8 hw) ?_
    refine ev_iload_n (p' := 71) i_207_70 rfl rfl ?_
    refine ev_iload_n (p' := 72) i_207_71 rfl rfl ?_
    refine ev_iconst (p' := 73) (v := 1) i_207_72 rfl (by decide) ?_
    refine ev_icmp_ne (p' := 76) (tg := 81) i_207_73 rfl rfl (fun c73 => absurd c73 (fun z => z rfl)) (fun c73 => ?_)
    refine ev_iload (p' := 78) i_207_76 rfl rfl ?_
    refine ev_goto (tg := 83) i_207_78 rfl ?_
    refine ev_iastN (p' := 84) i_207_83 rfl is_289 len_289 (by omega) (by decide) (gr (by decide)) ?_
    rw [show pm_u (pm_u mi 290 i0 (A.1.1.2.2.2 3 i0)) 289 i0 (nI i) = pm_u mi 289 i0 (nI i) from by
      rw [← hc.oth (j := 3) (by decide) hi0 (by decide)]
      exact congrArg (fun z => pm_u z 289 i0 (nI i)) pm_u_same]
    have hs := hc.step (by decide) (nI i)
    have hA2 := hA.set (hA.1.1.set2 (i := i0) (p := i) (by omega) (by omega))
    obtain ⟨mi2, e2, h2⟩ := s_mstood (L := L) d hw hA2 hs
    refine ev_iload (p' := 86) i_207_84 rfl rfl ?_
    refine ev_aload_n (p' := 87) i_207_86 rfl rfl ?_
    refine ev_v0I (p' := 90) i_207_87 rfl cl_12_297_12 (by decide) is_285 (Nat.le_of_ble_eq_true rfl) (e2) ?_
    refine ev_if_eq (p' := 93) (tg := 100) i_207_90 rfl rfl (fun c90 => ?_) (fun c90 => ?_)
    · replace c90 := B0 c90
      refine ev_iconst (p' := 101) (v := 0) i_207_100 rfl (by decide) ?_
      refine ev_ior (p' := 102) i_207_101 rfl ?_
      refine ev_istore (p' := 104) (ls' := [_, _, _, _, _, _, _]) i_207_102 rfl rfl (by decide) rfl ?_
      refine ev_iinc (p' := 107) (ls' := [_, _, _, _, _, _, _]) i_207_104 rfl rfl rfl (by decide) (nI_inc _) rfl ?_
      refine ev_goto (tg := 43) i_207_107 rfl ?_
      refine ev_cast (by rw [bset_f (p := (fun r => 1 ≤ r ∧ ST (setV A.1.1 2 i0 (nI r)) A.1.2.2.2.2 A.1.2.2.2.1)) (fun z => c90 z.2), Int32.or_zero]) rfl rfl (ih (i + 1) _ (by omega) (RT.of h2) (by omega))
    · replace c90 := B1 c90
      refine ev_iconst (p' := 94) (v := 1) i_207_93 rfl (by decide) ?_
      refine ev_iload (p' := 96) i_207_94 rfl rfl ?_
      refine ev_ishl (p' := 97) i_207_96 rfl ?_
      refine ev_goto (tg := 101) i_207_97 rfl ?_
      refine ev_ior (p' := 102) i_207_101 rfl ?_
      refine ev_istore (p' := 104) (ls' := [_, _, _, _, _, _, _]) i_207_102 rfl rfl (by decide) rfl ?_
      refine ev_iinc (p' := 107) (ls' := [_, _, _, _, _, _, _]) i_207_104 rfl rfl rfl (by decide) (nI_inc _) rfl ?_
      refine ev_goto (tg := 43) i_207_107 rfl ?_
      refine ev_cast (by rw [bset_t (p := (fun r => 1 ≤ r ∧ ST (setV A.1.1 2 i0 (nI r)) A.1.2.2.2.2 A.1.2.2.2.1)) ⟨by omega, c90⟩]) rfl rfl (ih (i + 1) _ (by omega) (RT.of h2) (by omega))
theorem R_where1 (L d : Nat) (A : AV) (hA : okA A) {i : Nat} (hi : i < A.1.1.1) : Rst L (d + 24) 207 [.int (nI i), .int 1] A (.int (bset (fun r => 1 ≤ r ∧ ST (setV A.1.1 2 i (nI r)) A.1.2.2.2.2 A.1.2.2.2.1) 10)) (A) := by
  refine R_of (q := q_207) rfl (Nat.le_of_ble_eq_true rfl) rfl (fun π mi ml mr hw hc => ?_)
  have hn := hc.hn
  have h7 := hA.n7
  refine ev_aload_n (p' := 1) i_207_0 rfl rfl ?_
  refine ev_iload_n (p' := 2) i_207_1 rfl rfl ?_
  refine ev_v1I (p' := 5) i_207_2 rfl cl_12_240_12 (by decide) is_285 (Nat.le_of_ble_eq_true rfl) (s_isPiece (π := π) _ hn _) ?_
  refine ev_if_eq (p' := 8) (tg := 17) i_207_5 rfl rfl (fun c5 => absurd c5 (B_tn (inn hi h7))) (fun c5 => ?_)
  refine ev_iload_n (p' := 9) i_207_8 rfl rfl ?_
  refine ev_iconst (p' := 10) (v := 0) i_207_9 rfl (by decide) ?_
  refine ev_iconst (p' := 11) (v := 1) i_207_10 rfl (by decide) ?_
  refine ev_s3I (p' := 14) i_207_11 rfl cl_12_115_0 (by decide) (Nat.le_of_ble_eq_true rfl) (s_in _ _ _ _) ?_
  refine ev_if_ne (p' := 17) (tg := 22) i_207_14 rfl rfl (fun c14 => ?_) (fun c14 => absurd (B_tn (by decide)) c14)
  refine ev_aload_n (p' := 23) i_207_22 rfl rfl ?_
  refine ev_getr (p' := 26) i_207_23 rfl fl_12_22 rfl is_285 (rf_285_9 hw) ?_
  refine ev_iload_n (p' := 27) i_207_26 rfl rfl ?_
  refine ev_ialdN (p' := 28) i_207_27 rfl is_290 len_290 (by omega) (by decide) ?_
  rw [show mi 290 i = A.1.1.2.2.2 3 i from hc.f (j := 3) hi (by decide)]
  refine ev_istore_n (p' := 29) (ls' := [_, _, _, _, _, _, _]) i_207_28 rfl rfl (by decide) rfl ?_
  refine ev_aload_n (p' := 30) i_207_29 rfl rfl ?_
  refine ev_getr (p' := 33) i_207_30 rfl fl_12_19 rfl is_285 (rf_285_8 hw) ?_
  refine ev_iload_n (p' := 34) i_207_33 rfl rfl ?_
  refine ev_ialdN (p' := 35) i_207_34 rfl is_289 len_289 (by omega) (by decide) ?_
  rw [show mi 289 i = A.1.1.2.2.2 2 i from hc.f (j := 2) hi (by decide)]
  refine ev_istore (p' := 37) (ls' := [_, _, _, _, _, _, _]) i_207_35 rfl rfl (by decide) rfl ?_
  refine ev_iconst (p' := 38) (v := 0) i_207_37 rfl (by decide) ?_
  refine ev_istore (p' := 40) (ls' := [_, _, _, _, _, _, _]) i_207_38 rfl rfl (by decide) rfl ?_
  refine ev_iload_n (p' := 41) i_207_40 rfl rfl ?_
  refine ev_istore (p' := 43) (ls' := [_, _, _, _, _, _, _]) i_207_41 rfl rfl (by decide) rfl ?_
  refine ev_cast (by rw [show bset (fun r => 1 ≤ r ∧ ST (setV A.1.1 2 i (nI r)) A.1.2.2.2.2 A.1.2.2.2.1) 1 = 0 from bset_f (fun z => absurd z.1 (by decide))]; rfl) rfl rfl (l_mwhere1 hw hA hi (fun mi h => ER.mk rfl h) 9 1 _ (by decide) (RT.of0 hc) (by decide))
theorem Q_where (L : Nat) (A : AV) (hA : okA A) (y x : Int32) : SameI L 96 207 [.int y, .int x] A := by
  by_cases h : (0 ≤ y ∧ y ≤ nI A.1.1.1 - 1) ∧ (0 ≤ x ∧ x ≤ 1)
  · obtain ⟨i, hi, rfl⟩ := ofn hA.n7 h.1
    rcases in01 h.2 with rfl | rfl
    · exact ⟨_, A, hA, fun d => C_where0 L d A hA hi, fun d => R_where0 L d A hA hi⟩
    · exact ⟨_, A, hA, fun d => C_where1 L d A hA hi, fun d => R_where1 L d A hA hi⟩
  · exact ⟨_, badA A, hA.bad, fun d => C_where_bad L d A hA y x h, fun d => R_where_bad L d A hA y x h⟩
