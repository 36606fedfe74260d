/-! ===== pages of the class ===== -/
def gC : Nat → Prop := fun k => k ≤ 284
theorem gc {k : Nat} (h : k ≤ 284) : gC k := h
theorem gc_pg {P : Nat} (hP : P ∈ k_pg) : gC P := by have := (sh_pg P hP).2.2.2.2.2; show P ≤ 284; omega
theorem gc_pgh {P : Nat} (hP : P ∈ k_pg) : gC (P + 2) := by have := (sh_pg P hP).2.2.2.2.2; show P + 2 ≤ 284; omega
theorem gc_pc {P i : Nat} (hP : P ∈ k_pg) (hi : i < 7) : gC (P + 3 + i) := by have := (sh_pg P hP).2.2.2.2.2; show P + 3 + i ≤ 284; omega
theorem gc_sp {S : Nat} (hS : S ∈ k_sp) : gC S := by have := (sh_sp S hS).2.2.2.2.2.2.2.2.2; show S ≤ 284; omega
def fold {α : Type} (f : Nat → α → α) : Nat → α → α
  | 0, a => a
  | n + 1, a => f n (fold f n a)
theorem fold_congr {α : Type} {f g : Nat → α → α} {n : Nat} {a : α} (h : ∀ i, i < n → ∀ x, f i x = g i x) : fold f n a = fold g n a := by
  induction n with
  | zero => rfl
  | succ n ih => show f n (fold f n a) = g n (fold g n a); rw [ih (fun i hi => h i (by omega)), h n (by omega)]
/-- field j of piece i of page P -/
def pf (mi : Nat → Nat → Int32) (P : Nat) : Nat → Nat → Int32 := fun j i => mi (P + 3 + i) j
theorem i32_ge {a b : Int32} (h : b ≤ a) : ¬ a < b := Int32.not_lt.mpr h
theorem u_ne {f : Nat → Nat → Int32} {k j a i : Nat} {v : Int32} (h : ¬ (a = k ∧ i = j)) : pm_u f k j v a i = f a i := if_neg h
theorem u_eq {f : Nat → Nat → Int32} {k j a i : Nat} {v : Int32} (h : a = k ∧ i = j) : pm_u f k j v a i = v := if_pos h
def bcnt (x0 : Int32) : Int32 :=
  let us : Int32 → Int32 → Int32 := fun x y => (x.toUInt32 >>> (y &&& 31).toUInt32).toInt32
  let x1 := x0 - (us x0 1 &&& 1431655765)
  let x2 := (x1 &&& 858993459) + (us x1 2 &&& 858993459)
  let x3 := (x2 + us x2 4) &&& 252645135
  let x4 := x3 + us x3 8
  let x5 := x4 + us x4 16
  x5 &&& 63
theorem s_bitCount {g : Nat → Prop} (d : Nat) {mem : pm_M} (x : Int32) : pm_ev g (d + 1) 227 [.int x] mem (some (.int (bcnt x))) mem := by
  refine ev_enter (q := q_227) rfl (Nat.le_of_ble_eq_true rfl) rfl ?_
  refine ev_iload_n (p' := 1) i_227_0 rfl rfl ?_
  refine ev_iload_n (p' := 2) i_227_1 rfl rfl ?_
  refine ev_iconst (p' := 3) (v := 1) i_227_2 rfl (by decide) ?_
  refine ev_iushr (p' := 4) i_227_3 rfl ?_
  refine ev_ldc_w (p' := 7) (v := 1431655765) i_227_4 rfl (by decide +kernel) ?_
  refine ev_iand (p' := 8) i_227_7 rfl ?_
  refine ev_isub (p' := 9) i_227_8 rfl ?_
  refine ev_istore_n (p' := 10) (ls' := [_]) i_227_9 rfl rfl (by decide) rfl ?_
  refine ev_iload_n (p' := 11) i_227_10 rfl rfl ?_
  refine ev_ldc_w (p' := 14) (v := 858993459) i_227_11 rfl (by decide +kernel) ?_
  refine ev_iand (p' := 15) i_227_14 rfl ?_
  refine ev_iload_n (p' := 16) i_227_15 rfl rfl ?_
  refine ev_iconst (p' := 17) (v := 2) i_227_16 rfl (by decide) ?_
  refine ev_iushr (p' := 18) i_227_17 rfl ?_
  refine ev_ldc_w (p' := 21) (v := 858993459) i_227_18 rfl (by decide +kernel) ?_
  refine ev_iand (p' := 22) i_227_21 rfl ?_
  refine ev_iadd (p' := 23) i_227_22 rfl ?_
  refine ev_istore_n (p' := 24) (ls' := [_]) i_227_23 rfl rfl (by decide) rfl ?_
  refine ev_iload_n (p' := 25) i_227_24 rfl rfl ?_
  refine ev_iload_n (p' := 26) i_227_25 rfl rfl ?_
  refine ev_iconst (p' := 27) (v := 4) i_227_26 rfl (by decide) ?_
  refine ev_iushr (p' := 28) i_227_27 rfl ?_
  refine ev_iadd (p' := 29) i_227_28 rfl ?_
  refine ev_ldc_w (p' := 32) (v := 252645135) i_227_29 rfl (by decide +kernel) ?_
  refine ev_iand (p' := 33) i_227_32 rfl ?_
  refine ev_istore_n (p' := 34) (ls' := [_]) i_227_33 rfl rfl (by decide) rfl ?_
  refine ev_iload_n (p' := 35) i_227_34 rfl rfl ?_
  refine ev_iload_n (p' := 36) i_227_35 rfl rfl ?_
  refine ev_bipush (p' := 38) (v := 8) i_227_36 rfl (by decide) ?_
  refine ev_iushr (p' := 39) i_227_38 rfl ?_
  refine ev_iadd (p' := 40) i_227_39 rfl ?_
  refine ev_istore_n (p' := 41) (ls' := [_]) i_227_40 rfl rfl (by decide) rfl ?_
  refine ev_iload_n (p' := 42) i_227_41 rfl rfl ?_
  refine ev_iload_n (p' := 43) i_227_42 rfl rfl ?_
  refine ev_bipush (p' := 45) (v := 16) i_227_43 rfl (by decide) ?_
  refine ev_iushr (p' := 46) i_227_45 rfl ?_
  refine ev_iadd (p' := 47) i_227_46 rfl ?_
  refine ev_istore_n (p' := 48) (ls' := [_]) i_227_47 rfl rfl (by decide) rfl ?_
  refine ev_iload_n (p' := 49) i_227_48 rfl rfl ?_
  refine ev_bipush (p' := 51) (v := 63) i_227_49 rfl (by decide) ?_
  refine ev_iand (p' := 52) i_227_51 rfl ?_
  exact ev_iretI i_227_52 rfl ⟨rfl, rfl⟩
theorem s_isStuck {g : Nat → Prop} {L : Nat} {mi : Nat → Nat → Int32} {ml : Nat → Nat → Int64} {mr : Nat → Nat → Option Nat} (d : Nat) {Q : Nat} (hq : pm_is (WW L, mi, ml, mr) Q 3) : pm_ev g (d + 1) 30 [.ref Q] (WW L, mi, ml, mr) (some (.int (B (mi Q 7 ≤ mi Q 6)))) (WW L, mi, ml, mr) := by
  refine ev_enter (q := q_30) rfl (Nat.le_of_ble_eq_true rfl) rfl ?_
  refine ev_aload_n (p' := 1) i_30_0 rfl rfl ?_
  refine ev_geti (p' := 4) i_30_1 rfl fl_3_7 rfl hq ?_
  refine ev_aload_n (p' := 5) i_30_4 rfl rfl ?_
  refine ev_geti (p' := 8) i_30_5 rfl fl_3_13 rfl hq ?_
  refine ev_icmp_lt (p' := 11) (tg := 15) i_30_8 rfl rfl (fun c8 => ?_) (fun c8 => ?_)
  · refine ev_iconst (p' := 16) (v := 0) i_30_15 rfl (by decide) ?_
    exact ev_iret i_30_16 rfl rfl ⟨by simp [B, c8, Int32.not_le.mpr c8], rfl⟩
  · refine ev_iconst (p' := 12) (v := 1) i_30_11 rfl (by decide) ?_
    refine ev_goto (tg := 16) i_30_12 rfl ?_
    exact ev_iret i_30_16 rfl rfl ⟨by simp [B, c8, Int32.not_lt.mp c8], rfl⟩
/-- the piece at Q becomes as the one at T -/
def cpc (mi : Nat → Nat → Int32) (Q T : Nat) : Nat → Nat → Int32 := fun a j => if a = Q ∧ j < 8 then mi T j else mi a j
theorem cpc_step {mi : Nat → Nat → Int32} {Q T j : Nat} (hj : j < 8) : pm_u (fun a i => if a = Q ∧ i < j then mi T i else mi a i) Q j ((fun a i => if a = Q ∧ i < j then mi T i else mi a i) T j) = fun a i => if a = Q ∧ i < j + 1 then mi T i else mi a i := by
  funext a i
  unfold pm_u
  dsimp only
  by_cases h1 : a = Q ∧ i = j
  · obtain ⟨rfl, rfl⟩ := h1
    rw [if_pos ⟨rfl, rfl⟩, if_neg (fun z => Nat.lt_irrefl _ z.2), if_pos ⟨rfl, by omega⟩]
  · rw [if_neg h1]
    by_cases h2 : a = Q ∧ i < j
    · rw [if_pos h2, if_pos ⟨h2.1, by omega⟩]
    · rw [if_neg h2, if_neg (fun h3 => by have : i ≠ j := fun z => h1 ⟨h3.1, z⟩; exact h2 ⟨h3.1, by omega⟩)]
theorem cpc_zero {mi : Nat → Nat → Int32} {Q T : Nat} : mi = fun a i => if a = Q ∧ i < 0 then mi T i else mi a i := by
  funext a i
  rw [if_neg (by omega)]
theorem s_pcopy {g : Nat → Prop} {L : Nat} {mi : Nat → Nat → Int32} {ml : Nat → Nat → Int64} {mr : Nat → Nat → Option Nat} (d : Nat) {Q T : Nat} (hq : ∀ mi : Nat → Nat → Int32, pm_is (WW L, mi, ml, mr) Q 3) (ht : ∀ mi : Nat → Nat → Int32, pm_is (WW L, mi, ml, mr) T 3) (hgq : g Q) : pm_ev g (d + 1) 31 [.ref Q, .ref T] (WW L, mi, ml, mr) none (WW L, cpc mi Q T, ml, mr) := by
  refine ev_enter (q := q_31) rfl (Nat.le_of_ble_eq_true rfl) rfl ?_
  rw [show (WW L, mi, ml, mr) = ((WW L, (fun a i => if a = Q ∧ i < 0 then mi T i else mi a i), ml, mr) : pm_M) by rw [← cpc_zero]]
  refine ev_aload_n (p' := 1) i_31_0 rfl rfl ?_
  refine ev_aload_n (p' := 2) i_31_1 rfl rfl ?_
  refine ev_geti (p' := 5) i_31_2 rfl fl_3_16 rfl (ht _) ?_
  refine ev_puti (p' := 8) i_31_5 rfl fl_3_16 rfl (hq _) hgq rfl ?_
  rw [cpc_step (by decide)]
  refine ev_aload_n (p' := 9) i_31_8 rfl rfl ?_
  refine ev_aload_n (p' := 10) i_31_9 rfl rfl ?_
  refine ev_geti (p' := 13) i_31_10 rfl fl_3_19 rfl (ht _) ?_
  refine ev_puti (p' := 16) i_31_13 rfl fl_3_19 rfl (hq _) hgq rfl ?_
  rw [cpc_step (by decide)]
  refine ev_aload_n (p' := 17) i_31_16 rfl rfl ?_
  refine ev_aload_n (p' := 18) i_31_17 rfl rfl ?_
  refine ev_geti (p' := 21) i_31_18 rfl fl_3_22 rfl (ht _) ?_
  refine ev_puti (p' := 24) i_31_21 rfl fl_3_22 rfl (hq _) hgq rfl ?_
  rw [cpc_step (by decide)]
  refine ev_aload_n (p' := 25) i_31_24 rfl rfl ?_
  refine ev_aload_n (p' := 26) i_31_25 rfl rfl ?_
  refine ev_geti (p' := 29) i_31_26 rfl fl_3_25 rfl (ht _) ?_
  refine ev_puti (p' := 32) i_31_29 rfl fl_3_25 rfl (hq _) hgq rfl ?_
  rw [cpc_step (by decide)]
  refine ev_aload_n (p' := 33) i_31_32 rfl rfl ?_
  refine ev_aload_n (p' := 34) i_31_33 rfl rfl ?_
  refine ev_geti (p' := 37) i_31_34 rfl fl_3_28 rfl (ht _) ?_
  refine ev_puti (p' := 40) i_31_37 rfl fl_3_28 rfl (hq _) hgq rfl ?_
  rw [cpc_step (by decide)]
  refine ev_aload_n (p' := 41) i_31_40 rfl rfl ?_
  refine ev_aload_n (p' := 42) i_31_41 rfl rfl ?_
  refine ev_geti (p' := 45) i_31_42 rfl fl_3_31 rfl (ht _) ?_
  refine ev_puti (p' := 48) i_31_45 rfl fl_3_31 rfl (hq _) hgq rfl ?_
  rw [cpc_step (by decide)]
  refine ev_aload_n (p' := 49) i_31_48 rfl rfl ?_
  refine ev_aload_n (p' := 50) i_31_49 rfl rfl ?_
  refine ev_geti (p' := 53) i_31_50 rfl fl_3_7 rfl (ht _) ?_
  refine ev_puti (p' := 56) i_31_53 rfl fl_3_7 rfl (hq _) hgq rfl ?_
  rw [cpc_step (by decide)]
  refine ev_aload_n (p' := 57) i_31_56 rfl rfl ?_
  refine ev_aload_n (p' := 58) i_31_57 rfl rfl ?_
  refine ev_geti (p' := 61) i_31_58 rfl fl_3_13 rfl (ht _) ?_
  refine ev_puti (p' := 64) i_31_61 rfl fl_3_13 rfl (hq _) hgq rfl ?_
  rw [cpc_step (by decide)]
  exact ev_ret i_31_64 rfl ⟨rfl, rfl⟩
theorem s_isFull {L : Nat} {π : Nat → Nat → Nat} {mi : Nat → Nat → Int32} {ml : Nat → Nat → Int64} {mr : Nat → Nat → Option Nat} (d : Nat) {P : Nat} (hP : P ∈ k_pg) : pm_ev gC (d + 1) 10 [.ref P] (WW L, mi, ml, mr) (some (.int (B (¬ mi P 5 < 7)))) (WW L, mi, ml, mr) := by
  refine ev_enter (q := q_10) rfl (Nat.le_of_ble_eq_true rfl) rfl ?_
  refine ev_aload_n (p' := 1) i_10_0 rfl rfl ?_
  refine ev_geti (p' := 4) i_10_1 rfl fl_2_28 rfl (is_pg hP) ?_
  refine ev_bipush (p' := 6) (v := 7) i_10_4 rfl (by decide) ?_
  refine ev_icmp_lt (p' := 9) (tg := 13) i_10_6 rfl rfl (fun c6 => ?_) (fun c6 => ?_)
  · refine ev_iconst (p' := 14) (v := 0) i_10_13 rfl (by decide) ?_
    exact ev_iret i_10_14 rfl rfl ⟨by simp [B, c6, Int32.not_le.mpr c6], rfl⟩
  · refine ev_iconst (p' := 10) (v := 1) i_10_9 rfl (by decide) ?_
    refine ev_goto (tg := 14) i_10_10 rfl ?_
    exact ev_iret i_10_14 rfl rfl ⟨by simp [B, c6, Int32.not_lt.mp c6], rfl⟩
theorem s_pgNew {L : Nat} {π : Nat → Nat → Nat} {mi : Nat → Nat → Int32} {ml : Nat → Nat → Int64} {mr : Nat → Nat → Option Nat} (d : Nat) {P : Nat} (hP : P ∈ k_pg) (w : Int32) : pm_ev gC (d + 1) 8 [.ref P, .int w] (WW L, mi, ml, mr) none (WW L, pm_u (pm_u (pm_u mi P 3 w) P 4 0) P 5 0, ml, mr) := by
  refine ev_enter (q := q_8) rfl (Nat.le_of_ble_eq_true rfl) rfl ?_
  refine ev_aload_n (p' := 1) i_8_0 rfl rfl ?_
  refine ev_iload_n (p' := 2) i_8_1 rfl rfl ?_
  refine ev_puti (p' := 5) i_8_2 rfl fl_2_21 rfl (is_pg hP) (gc_pg hP) rfl ?_
  refine ev_aload_n (p' := 6) i_8_5 rfl rfl ?_
  refine ev_iconst (p' := 7) (v := 0) i_8_6 rfl (by decide) ?_
  refine ev_puti (p' := 10) i_8_7 rfl fl_2_25 rfl (is_pg hP) (gc_pg hP) rfl ?_
  refine ev_aload_n (p' := 11) i_8_10 rfl rfl ?_
  refine ev_iconst (p' := 12) (v := 0) i_8_11 rfl (by decide) ?_
  refine ev_puti (p' := 15) i_8_12 rfl fl_2_28 rfl (is_pg hP) (gc_pg hP) rfl ?_
  exact ev_ret i_8_15 rfl ⟨rfl, rfl⟩
def wearN (f : Nat → Nat → Int32) (n : Nat) : Int32 := fold (fun i a => a + f 6 i) n 0
theorem l_wear {L : Nat} {π : Nat → Nat → Nat} {mi : Nat → Nat → Int32} {ml : Nat → Nat → Int64} {mr : Nat → Nat → Option Nat} (hw : WR π mr) {P : Nat} (hP : P ∈ k_pg) {n : Nat} (hn7 : n ≤ 7) (hn : mi P 5 = nI n) {C : Nat → List Value → pm_M → Option Value → pm_M → Prop} {E : Option Value → pm_M → Prop} (hE : E (some (.int (wearN (pf mi P) n))) (WW L, mi, ml, mr)) : ∀ k i, i + k = n → Ev gC C E q_19 4 [some (.ref P), some (.int (wearN (pf mi P) i)), some (.int (nI i))] [] (WW L, mi, ml, mr) := by
  intro k
  induction k with
  | zero =>
    intro i hi
    have hi : i = n := by omega
    subst hi
    refine ev_iload_n (p' := 5) i_19_4 rfl rfl ?_
    refine ev_aload_n (p' := 6) i_19_5 rfl rfl ?_
    refine ev_geti (p' := 9) i_19_6 rfl fl_2_28 rfl (is_pg hP) ?_
    refine ev_icmp_ge (p' := 12) (tg := 30) i_19_9 rfl rfl (fun c9 => ?_) (fun c9 => absurd ((by rw [hn]; exact nI_le (by omega) (by omega))) c9)
    refine ev_iload_n (p' := 31) i_19_30 rfl rfl ?_
    exact ev_iretI i_19_31 rfl hE
  | succ k ih =>
    intro i hi
    refine ev_iload_n (p' := 5) i_19_4 rfl rfl ?_
    refine ev_aload_n (p' := 6) i_19_5 rfl rfl ?_
    refine ev_geti (p' := 9) i_19_6 rfl fl_2_28 rfl (is_pg hP) ?_
    refine ev_icmp_ge (p' := 12) (tg := 30) i_19_9 rfl rfl (fun c9 => absurd c9 ((by rw [hn]; exact nI_ge (by omega) (by omega)))) (fun c9 => ?_)
    refine ev_iload_n (p' := 13) i_19_12 rfl rfl ?_
    refine ev_aload_n (p' := 14) i_19_13 rfl rfl ?_
    refine ev_getr (p' := 17) i_19_14 rfl fl_2_11 rfl (is_pg hP) (hw.pieces hP) ?_
    refine ev_iload_n (p' := 18) i_19_17 rfl rfl ?_
    refine ev_aaldN (p' := 19) 25 i_19_18 rfl (is_pgp hP) (by decide) (len_pgp hP) (by omega) (by decide) (hw.piece hP (by omega)) ?_
    refine ev_geti (p' := 22) i_19_19 rfl fl_2_62 rfl (is_pc hP (by omega)) ?_
    refine ev_iadd (p' := 23) i_19_22 rfl ?_
    refine ev_istore_n (p' := 24) (ls' := [_, _, _]) i_19_23 rfl rfl (by decide) rfl ?_
    refine ev_iinc (p' := 27) (ls' := [_, _, _]) i_19_24 rfl rfl rfl (by decide) (nI_inc _) rfl ?_
    refine ev_goto (tg := 4) i_19_27 rfl ?_
    exact ih (i + 1) (by omega)
theorem s_wear {L : Nat} {π : Nat → Nat → Nat} {mi : Nat → Nat → Int32} {ml : Nat → Nat → Int64} {mr : Nat → Nat → Option Nat} (d : Nat) (hw : WR π mr) {P : Nat} (hP : P ∈ k_pg) {n : Nat} (hn7 : n ≤ 7) (hn : mi P 5 = nI n) : pm_ev gC (d + 1) 19 [.ref P] (WW L, mi, ml, mr) (some (.int (wearN (pf mi P) n))) (WW L, mi, ml, mr) := by
  refine ev_enter (q := q_19) rfl (Nat.le_of_ble_eq_true rfl) rfl ?_
  refine ev_iconst (p' := 1) (v := 0) i_19_0 rfl (by decide) ?_
  refine ev_istore_n (p' := 2) (ls' := [_, _, _]) i_19_1 rfl rfl (by decide) rfl ?_
  refine ev_iconst (p' := 3) (v := nI 0) i_19_2 rfl (by decide) ?_
  refine ev_istore_n (p' := 4) (ls' := [_, _, _]) i_19_3 rfl rfl (by decide) rfl ?_
  exact l_wear hw hP hn7 hn ⟨rfl, rfl⟩ n 0 (by omega)
def looseN (f : Nat → Nat → Int32) (n : Nat) : Int32 := fold (fun i a => if f 7 i ≤ f 6 i then a else a ||| (1 <<< (nI i &&& 31))) n 0
theorem l_loose {L : Nat} {π : Nat → Nat → Nat} {mi : Nat → Nat → Int32} {ml : Nat → Nat → Int64} {mr : Nat → Nat → Option Nat} (hw : WR π mr) {P : Nat} (hP : P ∈ k_pg) {n : Nat} (hn7 : n ≤ 7) (hn : mi P 5 = nI n) {C : Nat → List Value → pm_M → Option Value → pm_M → Prop} {E : Option Value → pm_M → Prop} {d : Nat} (hC : C = pm_ev gC (d + 1)) (hE : E (some (.int (looseN (pf mi P) n))) (WW L, mi, ml, mr)) : ∀ k i, i + k = n → Ev gC C E q_17 4 [some (.ref P), some (.int (looseN (pf mi P) i)), some (.int (nI i))] [] (WW L, mi, ml, mr) := by
  subst hC
  intro k
  induction k with
  | zero =>
    intro i hi
    have hi : i = n := by omega
    subst hi
    refine ev_iload_n (p' := 5) i_17_4 rfl rfl ?_
    refine ev_aload_n (p' := 6) i_17_5 rfl rfl ?_
    refine ev_geti (p' := 9) i_17_6 rfl fl_2_28 rfl (is_pg hP) ?_
    refine ev_icmp_ge (p' := 12) (tg := 36) i_17_9 rfl rfl (fun c9 => ?_) (fun c9 => absurd ((by rw [hn]; exact nI_le (by omega) (by omega))) c9)
    refine ev_iload_n (p' := 37) i_17_36 rfl rfl ?_
    exact ev_iretI i_17_37 rfl hE
  | succ k ih =>
    intro i hi
    refine ev_iload_n (p' := 5) i_17_4 rfl rfl ?_
    refine ev_aload_n (p' := 6) i_17_5 rfl rfl ?_
    refine ev_geti (p' := 9) i_17_6 rfl fl_2_28 rfl (is_pg hP) ?_
    refine ev_icmp_ge (p' := 12) (tg := 36) i_17_9 rfl rfl (fun c9 => absurd c9 ((by rw [hn]; exact nI_ge (by omega) (by omega)))) (fun c9 => ?_)
    refine ev_aload_n (p' := 13) i_17_12 rfl rfl ?_
    refine ev_getr (p' := 16) i_17_13 rfl fl_2_11 rfl (is_pg hP) (hw.pieces hP) ?_
    refine ev_iload_n (p' := 17) i_17_16 rfl rfl ?_
    refine ev_aaldN (p' := 18) 25 i_17_17 rfl (is_pgp hP) (by decide) (len_pgp hP) (by omega) (by decide) (hw.piece hP (by omega)) ?_
    refine ev_v0I (p' := 21) i_17_18 rfl cl_2_80_3 (by decide) (is_pc hP (by omega)) (Nat.le_of_ble_eq_true rfl) (s_isStuck _ (is_pc hP (by omega))) ?_
    refine ev_if_ne (p' := 24) (tg := 30) i_17_21 rfl rfl (fun c21 => ?_) (fun c21 => ?_)
    · replace c21 := B1 c21
      refine ev_iinc (p' := 33) (ls' := [_, _, _]) i_17_30 rfl rfl rfl (by decide) (nI_inc _) rfl ?_
      refine ev_goto (tg := 4) i_17_33 rfl ?_
      refine ev_cast (by rw [show looseN (pf mi P) (i + 1) = _ from if_pos c21]; rfl) rfl rfl (ih (i + 1) (by omega))
    · replace c21 := B0n c21
      refine ev_iload_n (p' := 25) i_17_24 rfl rfl ?_
      refine ev_iconst (p' := 26) (v := 1) i_17_25 rfl (by decide) ?_
      refine ev_iload_n (p' := 27) i_17_26 rfl rfl ?_
      refine ev_ishl (p' := 28) i_17_27 rfl ?_
      refine ev_ior (p' := 29) i_17_28 rfl ?_
      refine ev_istore_n (p' := 30) (ls' := [_, _, _]) i_17_29 rfl rfl (by decide) rfl ?_
      refine ev_iinc (p' := 33) (ls' := [_, _, _]) i_17_30 rfl rfl rfl (by decide) (nI_inc _) rfl ?_
      refine ev_goto (tg := 4) i_17_33 rfl ?_
      refine ev_cast (by rw [show looseN (pf mi P) (i + 1) = _ from if_neg c21]; rfl) rfl rfl (ih (i + 1) (by omega))
theorem s_loose {L : Nat} {π : Nat → Nat → Nat} {mi : Nat → Nat → Int32} {ml : Nat → Nat → Int64} {mr : Nat → Nat → Option Nat} (d : Nat) (hw : WR π mr) {P : Nat} (hP : P ∈ k_pg) {n : Nat} (hn7 : n ≤ 7) (hn : mi P 5 = nI n) : pm_ev gC (d + 2) 17 [.ref P] (WW L, mi, ml, mr) (some (.int (looseN (pf mi P) n))) (WW L, mi, ml, mr) := by
  refine ev_enter (q := q_17) rfl (Nat.le_of_ble_eq_true rfl) rfl ?_
  refine ev_iconst (p' := 1) (v := 0) i_17_0 rfl (by decide) ?_
  refine ev_istore_n (p' := 2) (ls' := [_, _, _]) i_17_1 rfl rfl (by decide) rfl ?_
  refine ev_iconst (p' := 3) (v := nI 0) i_17_2 rfl (by decide) ?_
  refine ev_istore_n (p' := 4) (ls' := [_, _, _]) i_17_3 rfl rfl (by decide) rfl ?_
  exact l_loose hw hP hn7 hn rfl ⟨rfl, rfl⟩ n 0 (by omega)
theorem l_sticks {L : Nat} {π : Nat → Nat → Nat} {mi : Nat → Nat → Int32} {ml : Nat → Nat → Int64} {mr : Nat → Nat → Option Nat} (hw : WR π mr) {P : Nat} (hP : P ∈ k_pg) {n : Nat} (hn7 : n ≤ 7) (hn : mi P 5 = nI n) {C : Nat → List Value → pm_M → Option Value → pm_M → Prop} {E : Option Value → pm_M → Prop} {x : Int32} (hE : E (some (.int (B (∃ j, j < n ∧ mi (P + 3 + j) 7 ≤ mi (P + 3 + j) 6 + x)))) (WW L, mi, ml, mr)) : ∀ k i, i + k = n → (∀ j, j < i → ¬ mi (P + 3 + j) 7 ≤ mi (P + 3 + j) 6 + x) → Ev gC C E q_18 2 [some (.ref P), some (.int x), some (.int (nI i))] [] (WW L, mi, ml, mr) := by
  intro k
  induction k with
  | zero =>
    intro i hi hno
    have hi : i = n := by omega
    subst hi
    refine ev_iload_n (p' := 3) i_18_2 rfl rfl ?_
    refine ev_aload_n (p' := 4) i_18_3 rfl rfl ?_
    refine ev_geti (p' := 7) i_18_4 rfl fl_2_28 rfl (is_pg hP) ?_
    refine ev_icmp_ge (p' := 10) (tg := 41) i_18_7 rfl rfl (fun c7 => ?_) (fun c7 => absurd ((by rw [hn]; exact nI_le (by omega) (by omega))) c7)
    refine ev_iconst (p' := 42) (v := 0) i_18_41 rfl (by decide) ?_
    exact ev_iret i_18_42 rfl rfl (by rw [← B_f (p := ∃ j, j < i ∧ mi (P + 3 + j) 7 ≤ mi (P + 3 + j) 6 + x) (fun ⟨j, h1, h2⟩ => hno j h1 h2)]; exact hE)
  | succ k ih =>
    intro i hi hno
    refine ev_iload_n (p' := 3) i_18_2 rfl rfl ?_
    refine ev_aload_n (p' := 4) i_18_3 rfl rfl ?_
    refine ev_geti (p' := 7) i_18_4 rfl fl_2_28 rfl (is_pg hP) ?_
    refine ev_icmp_ge (p' := 10) (tg := 41) i_18_7 rfl rfl (fun c7 => absurd c7 ((by rw [hn]; exact nI_ge (by omega) (by omega)))) (fun c7 => ?_)
    refine ev_aload_n (p' := 11) i_18_10 rfl rfl ?_
    refine ev_getr (p' := 14) i_18_11 rfl fl_2_11 rfl (is_pg hP) (hw.pieces hP) ?_
    refine ev_iload_n (p' := 15) i_18_14 rfl rfl ?_
    refine ev_aaldN (p' := 16) 25 i_18_15 rfl (is_pgp hP) (by decide) (len_pgp hP) (by omega) (by decide) (hw.piece hP (by omega)) ?_
    refine ev_geti (p' := 19) i_18_16 rfl fl_2_62 rfl (is_pc hP (by omega)) ?_
    refine ev_iload_n (p' := 20) i_18_19 rfl rfl ?_
    refine ev_iadd (p' := 21) i_18_20 rfl ?_
    refine ev_aload_n (p' := 22) i_18_21 rfl rfl ?_
    refine ev_getr (p' := 25) i_18_22 rfl fl_2_11 rfl (is_pg hP) (hw.pieces hP) ?_
    refine ev_iload_n (p' := 26) i_18_25 rfl rfl ?_
    refine ev_aaldN (p' := 27) 25 i_18_26 rfl (is_pgp hP) (by decide) (len_pgp hP) (by omega) (by decide) (hw.piece hP (by omega)) ?_
    refine ev_geti (p' := 30) i_18_27 rfl fl_2_71 rfl (is_pc hP (by omega)) ?_
    refine ev_icmp_lt (p' := 33) (tg := 35) i_18_30 rfl rfl (fun c30 => ?_) (fun c30 => ?_)
    · refine ev_iinc (p' := 38) (ls' := [_, _, _]) i_18_35 rfl rfl rfl (by decide) (nI_inc _) rfl ?_
      refine ev_goto (tg := 2) i_18_38 rfl ?_
      exact ih (i + 1) (by omega) (fun j hj => by rcases Nat.lt_succ_iff_lt_or_eq.mp hj with z | z
                                                  · exact hno j z
                                                  · rw [z]; exact Int32.not_le.mpr c30)
    · refine ev_iconst (p' := 34) (v := 1) i_18_33 rfl (by decide) ?_
      exact ev_iret i_18_34 rfl rfl (by rw [← B_t (p := ∃ j, j < n ∧ mi (P + 3 + j) 7 ≤ mi (P + 3 + j) 6 + x) ⟨i, by omega, Int32.not_lt.mp c30⟩]; exact hE)
theorem s_sticks {L : Nat} {π : Nat → Nat → Nat} {mi : Nat → Nat → Int32} {ml : Nat → Nat → Int64} {mr : Nat → Nat → Option Nat} (d : Nat) (hw : WR π mr) {P : Nat} (hP : P ∈ k_pg) {n : Nat} (hn7 : n ≤ 7) (hn : mi P 5 = nI n) (x : Int32) : pm_ev gC (d + 1) 18 [.ref P, .int x] (WW L, mi, ml, mr) (some (.int (B (∃ j, j < n ∧ mi (P + 3 + j) 7 ≤ mi (P + 3 + j) 6 + x)))) (WW L, mi, ml, mr) := by
  refine ev_enter (q := q_18) rfl (Nat.le_of_ble_eq_true rfl) rfl ?_
  refine ev_iconst (p' := 1) (v := nI 0) i_18_0 rfl (by decide) ?_
  refine ev_istore_n (p' := 2) (ls' := [_, _, _]) i_18_1 rfl rfl (by decide) rfl ?_
  exact l_sticks hw hP hn7 hn ⟨rfl, rfl⟩ n 0 (by omega) (fun j hj => absurd hj (Nat.not_lt_zero j))
theorem l_hid {L : Nat} {π : Nat → Nat → Nat} {mi : Nat → Nat → Int32} {ml : Nat → Nat → Int64} {mr : Nat → Nat → Option Nat} (hw : WR π mr) {P : Nat} (hP : P ∈ k_pg) {n : Nat} (hn7 : n ≤ 7) (hn : mi P 5 = nI n) {C : Nat → List Value → pm_M → Option Value → pm_M → Prop} {E : Option Value → pm_M → Prop} {i0 : Nat} (hi0 : i0 < n) (hE : E (some (.int (B (∃ j, j < n ∧ mi (P + 3 + j) 3 < mi (P + 3 + i0) 3 ∧ mi (P + 2) i0 ≤ mi (P + 2) j)))) (WW L, mi, ml, mr)) : ∀ k i, i + k = n → (∀ j, j < i → ¬ (mi (P + 3 + j) 3 < mi (P + 3 + i0) 3 ∧ mi (P + 2) i0 ≤ mi (P + 2) j)) → Ev gC C E q_22 2 [some (.ref P), some (.int (nI i0)), some (.int (nI i))] [] (WW L, mi, ml, mr) := by
  intro k
  induction k with
  | zero =>
    intro i hi hno
    have hi : i = n := by omega
    subst hi
    refine ev_iload_n (p' := 3) i_22_2 rfl rfl ?_
    refine ev_aload_n (p' := 4) i_22_3 rfl rfl ?_
    refine ev_geti (p' := 7) i_22_4 rfl fl_2_28 rfl (is_pg hP) ?_
    refine ev_icmp_ge (p' := 10) (tg := 54) i_22_7 rfl rfl (fun c7 => ?_) (fun c7 => absurd ((by rw [hn]; exact nI_le (by omega) (by omega))) c7)
    refine ev_iconst (p' := 55) (v := 0) i_22_54 rfl (by decide) ?_
    exact ev_iret i_22_55 rfl rfl (by rw [← B_f (p := ∃ j, j < i ∧ mi (P + 3 + j) 3 < mi (P + 3 + i0) 3 ∧ mi (P + 2) i0 ≤ mi (P + 2) j) (fun ⟨j, h1, h2⟩ => hno j h1 h2)]; exact hE)
  | succ k ih =>
    intro i hi hno
    refine ev_iload_n (p' := 3) i_22_2 rfl rfl ?_
    refine ev_aload_n (p' := 4) i_22_3 rfl rfl ?_
    refine ev_geti (p' := 7) i_22_4 rfl fl_2_28 rfl (is_pg hP) ?_
    refine ev_icmp_ge (p' := 10) (tg := 54) i_22_7 rfl rfl (fun c7 => absurd c7 ((by rw [hn]; exact nI_ge (by omega) (by omega)))) (fun c7 => ?_)
    refine ev_aload_n (p' := 11) i_22_10 rfl rfl ?_
    refine ev_getr (p' := 14) i_22_11 rfl fl_2_11 rfl (is_pg hP) (hw.pieces hP) ?_
    refine ev_iload_n (p' := 15) i_22_14 rfl rfl ?_
    refine ev_aaldN (p' := 16) 25 i_22_15 rfl (is_pgp hP) (by decide) (len_pgp hP) (by omega) (by decide) (hw.piece hP (by omega)) ?_
    refine ev_geti (p' := 19) i_22_16 rfl fl_2_53 rfl (is_pc hP (by omega)) ?_
    refine ev_aload_n (p' := 20) i_22_19 rfl rfl ?_
    refine ev_getr (p' := 23) i_22_20 rfl fl_2_11 rfl (is_pg hP) (hw.pieces hP) ?_
    refine ev_iload_n (p' := 24) i_22_23 rfl rfl ?_
    refine ev_aaldN (p' := 25) 25 i_22_24 rfl (is_pgp hP) (by decide) (len_pgp hP) (by omega) (by decide) (hw.piece hP (by omega)) ?_
    refine ev_geti (p' := 28) i_22_25 rfl fl_2_53 rfl (is_pc hP (by omega)) ?_
    refine ev_icmp_ge (p' := 31) (tg := 48) i_22_28 rfl rfl (fun c28 => ?_) (fun c28 => ?_)
    · refine ev_iinc (p' := 51) (ls' := [_, _, _]) i_22_48 rfl rfl rfl (by decide) (nI_inc _) rfl ?_
      refine ev_goto (tg := 2) i_22_51 rfl ?_
      exact ih (i + 1) (by omega) (fun j hj h9 => by
        rcases Nat.lt_succ_iff_lt_or_eq.mp hj with z | z
        · exact hno j z h9
        · subst z
          exact Int32.not_lt.mpr c28 h9.1)
    · refine ev_aload_n (p' := 32) i_22_31 rfl rfl ?_
      refine ev_getr (p' := 35) i_22_32 rfl fl_2_17 rfl (is_pg hP) (hw.heights hP) ?_
      refine ev_iload_n (p' := 36) i_22_35 rfl rfl ?_
      refine ev_ialdN (p' := 37) i_22_36 rfl (is_pgh hP) (len_pgh hP) (by omega) (by decide) ?_
      refine ev_aload_n (p' := 38) i_22_37 rfl rfl ?_
      refine ev_getr (p' := 41) i_22_38 rfl fl_2_17 rfl (is_pg hP) (hw.heights hP) ?_
      refine ev_iload_n (p' := 42) i_22_41 rfl rfl ?_
      refine ev_ialdN (p' := 43) i_22_42 rfl (is_pgh hP) (len_pgh hP) (by omega) (by decide) ?_
      refine ev_icmp_lt (p' := 46) (tg := 48) i_22_43 rfl rfl (fun c43 => ?_) (fun c43 => ?_)
      · refine ev_iinc (p' := 51) (ls' := [_, _, _]) i_22_48 rfl rfl rfl (by decide) (nI_inc _) rfl ?_
        refine ev_goto (tg := 2) i_22_51 rfl ?_
        exact ih (i + 1) (by omega) (fun j hj h9 => by
          rcases Nat.lt_succ_iff_lt_or_eq.mp hj with z | z
          · exact hno j z h9
          · subst z
            exact Int32.not_le.mpr c43 h9.2)
      · refine ev_iconst (p' := 47) (v := 1) i_22_46 rfl (by decide) ?_
        exact ev_iret i_22_47 rfl rfl (by rw [← B_t (p := ∃ j, j < n ∧ mi (P + 3 + j) 3 < mi (P + 3 + i0) 3 ∧ mi (P + 2) i0 ≤ mi (P + 2) j) ⟨i, by omega, Int32.not_le.mp c28, Int32.not_lt.mp c43⟩]; exact hE)
theorem s_hid {L : Nat} {π : Nat → Nat → Nat} {mi : Nat → Nat → Int32} {ml : Nat → Nat → Int64} {mr : Nat → Nat → Option Nat} (d : Nat) (hw : WR π mr) {P : Nat} (hP : P ∈ k_pg) {n : Nat} (hn7 : n ≤ 7) (hn : mi P 5 = nI n) {i0 : Nat} (hi0 : i0 < n) : pm_ev gC (d + 1) 22 [.ref P, .int (nI i0)] (WW L, mi, ml, mr) (some (.int (B (∃ j, j < n ∧ mi (P + 3 + j) 3 < mi (P + 3 + i0) 3 ∧ mi (P + 2) i0 ≤ mi (P + 2) j)))) (WW L, mi, ml, mr) := by
  refine ev_enter (q := q_22) rfl (Nat.le_of_ble_eq_true rfl) rfl ?_
  refine ev_iconst (p' := 1) (v := nI 0) i_22_0 rfl (by decide) ?_
  refine ev_istore_n (p' := 2) (ls' := [_, _, _]) i_22_1 rfl rfl (by decide) rfl ?_
  exact l_hid hw hP hn7 hn hi0 ⟨rfl, rfl⟩ n 0 (by omega) (fun j hj => absurd hj (Nat.not_lt_zero j))
