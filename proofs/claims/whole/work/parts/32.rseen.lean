/-! ===== the reference: seenAt, bits ===== -/
def mbits (x : Int32) (m : Nat) : Int32 := fold (fun k c => c + ((x >>> (nI k &&& 31)) &&& 1)) m 0
theorem or_up : ∀ i, i < 7 → ∀ s, s < 2 ^ i → nI s ||| (1 <<< (nI i &&& 31)) = nI (s + 2 ^ i) := by decide +kernel
theorem bits_eq : ∀ s, s < 128 → mbits (nI s) 13 = bcnt (nI s) := by decide +kernel
theorem vis_nat (f : Nat → Nat → Int32) (n : Nat) (o h : Int32) : ∀ m, m ≤ 7 → ∃ s, s < 2 ^ m ∧ vis f n o h m = nI s
  | 0, _ => ⟨0, by decide, rfl⟩
  | m + 1, hm => by
    obtain ⟨s, hs, e⟩ := vis_nat f n o h m (by omega)
    by_cases hc : sees f n o h m
    · rw [vis_t hc, e, or_up m (by omega) s hs]
      exact ⟨_, by rw [Nat.pow_succ]; omega, rfl⟩
    · rw [vis_f hc, e]
      exact ⟨s, by rw [Nat.pow_succ]; omega, rfl⟩
theorem vis_bits {f : Nat → Nat → Int32} {n m : Nat} {o h : Int32} (hm : m ≤ 7) : mbits (vis f n o h m) 13 = bcnt (vis f n o h m) := by
  obtain ⟨s, hs, e⟩ := vis_nat f n o h m hm
  rw [e]
  exact bits_eq s (Nat.lt_of_lt_of_le hs (Nat.pow_le_pow_right (by decide) hm))
theorem pos_iff (x : Int32) : 0 < x ↔ ¬ x < 1 := by
  simp only [Int32.lt_iff_toInt_lt]
  have h0 : (0 : Int32).toInt = 0 := rfl
  have h1 : (1 : Int32).toInt = 1 := rfl
  omega
theorem l_bits {g : Nat → Prop} {mem : pm_M} {C : Nat → List Value → pm_M → Option Value → pm_M → Prop} {E : Option Value → pm_M → Prop} {x : Int32} (hE : E (some (.int (mbits x 13))) mem) : ∀ k i, i + k = 13 → Ev g C E q_138 4 [some (.int x), some (.int (mbits x i)), some (.int (nI i))] [] mem := by
  intro k
  induction k with
  | zero =>
    intro i hi
    have hi : i = 13 := by omega
    subst hi
    refine ev_iload_n (p' := 5) i_138_4 rfl rfl ?_
    refine ev_bipush (p' := 7) (v := 13) i_138_5 rfl (by decide) ?_
    refine ev_icmp_ge (p' := 10) (tg := 24) i_138_7 rfl rfl (fun c7 => ?_) (fun c7 => absurd ((by decide)) c7)
    refine ev_iload_n (p' := 25) i_138_24 rfl rfl ?_
    exact ev_iretI i_138_25 rfl hE
  | succ k ih =>
    intro i hi
    refine ev_iload_n (p' := 5) i_138_4 rfl rfl ?_
    refine ev_bipush (p' := 7) (v := 13) i_138_5 rfl (by decide) ?_
    refine ev_icmp_ge (p' := 10) (tg := 24) i_138_7 rfl rfl (fun c7 => absurd c7 ((by have := nI_ge (a := i) (b := 13) (by omega) (by omega); exact this))) (fun c7 => ?_)
    refine ev_iload_n (p' := 11) i_138_10 rfl rfl ?_
    refine ev_iload_n (p' := 12) i_138_11 rfl rfl ?_
    refine ev_iload_n (p' := 13) i_138_12 rfl rfl ?_
    refine ev_ishr (p' := 14) i_138_13 rfl ?_
    refine ev_iconst (p' := 15) (v := 1) i_138_14 rfl (by decide) ?_
    refine ev_iand (p' := 16) i_138_15 rfl ?_
    refine ev_iadd (p' := 17) i_138_16 rfl ?_
    refine ev_istore_n (p' := 18) (ls' := [_, _, _]) i_138_17 rfl rfl (by decide) rfl ?_
    refine ev_iinc (p' := 21) (ls' := [_, _, _]) i_138_18 rfl rfl rfl (by decide) (nI_inc _) rfl ?_
    refine ev_goto (tg := 4) i_138_21 rfl ?_
    exact ih (i + 1) (by omega)
theorem s_bits {g : Nat → Prop} (d : Nat) {mem : pm_M} (x : Int32) : pm_ev g (d + 1) 138 [.int x] mem (some (.int (mbits x 13))) mem := by
  refine ev_enter (q := q_138) rfl (Nat.le_of_ble_eq_true rfl) rfl ?_
  refine ev_iconst (p' := 1) (v := 0) i_138_0 rfl (by decide) ?_
  refine ev_istore_n (p' := 2) (ls' := [_, _, _]) i_138_1 rfl rfl (by decide) rfl ?_
  refine ev_iconst (p' := 3) (v := nI 0) i_138_2 rfl (by decide) ?_
  refine ev_istore_n (p' := 4) (ls' := [_, _, _]) i_138_3 rfl rfl (by decide) rfl ?_
  exact l_bits ⟨rfl, rfl⟩ 13 0 (by omega)
/-- the heights up to i are in row 300 -/
def hr (mi : Nat → Nat → Int32) (oo i : Nat) : Nat → Nat → Int32 := fun a j => if a = 300 ∧ j < i then hgt (rf mi) (nI oo) (mi 285 22) j else mi a j
section HR
variable {mi : Nat → Nat → Int32} {oo i j : Nat}
theorem hr_ne {a : Nat} (h : a ≠ 300) : hr mi oo i a = mi a := by
  funext j
  exact if_neg (fun z => h z.1)
theorem hr_h (h : j < i) : hr mi oo i 300 j = hgt (rf mi) (nI oo) (mi 285 22) j := if_pos ⟨rfl, h⟩
theorem hr_0 : hr mi oo 0 = mi := by
  funext a j
  exact if_neg (by omega)
theorem hr_up : pm_u (hr mi oo i) 300 i (hgt (rf mi) (nI oo) (mi 285 22) i) = hr mi oo (i + 1) := by
  funext a j
  unfold pm_u hr
  by_cases h1 : a = 300 ∧ j = i
  · rw [if_pos h1, if_pos ⟨h1.1, by omega⟩, h1.2]
  · rw [if_neg h1]
    by_cases h2 : a = 300 ∧ j < i
    · rw [if_pos h2, if_pos ⟨h2.1, by omega⟩]
    · rw [if_neg h2, if_neg (fun h3 => h2 ⟨h3.1, by have : j ≠ i := fun z => h1 ⟨h3.1, z⟩; omega⟩)]
theorem okp_cg {f f' : Nat → Nat → Int32} {i : Nat} (h : okp f i) (he : ∀ j, j < 7 → f' j i = f j i) : okp f' i := by
  unfold okp at *
  rw [he 0 (by omega), he 1 (by omega), he 2 (by omega), he 3 (by omega), he 4 (by omega), he 5 (by omega), he 6 (by omega)]
  exact h
theorem okp_hr (h : okp (RFv mi) j) : okp (RFv (hr mi oo i)) j := okp_cg h (fun k hk => by show hr mi oo i (287 + k) j = _; rw [hr_ne (by omega)]; rfl)
theorem rise_cg {f f' : Nat → Nat → Int32} {o h : Int32} {i : Nat} (he : ∀ j, j < 8 → f' j i = f j i) : rise f' o h i = rise f o h i := by
  unfold rise
  rw [he 0 (by omega), he 2 (by omega), he 5 (by omega)]
  by_cases hc : (¬ (h >>> (nI i &&& 31)) &&& 1 = 0) ∨ f 7 i ≤ f 6 i
  · rw [if_pos hc, if_pos (by rw [he 7 (by omega), he 6 (by omega)]; exact hc)]
  · rw [if_neg hc, if_neg (by rw [he 7 (by omega), he 6 (by omega)]; exact hc)]
theorem hgt_cg {f f' : Nat → Nat → Int32} {o h : Int32} {n : Nat} (hn : n < 2 ^ 31) (he : ∀ i, i < n → ∀ j, j < 8 → f' j i = f j i) : ∀ i, i < n → hgt f' o h i = hgt f o h i := by
  intro i
  induction i using Nat.strongRecOn with
  | _ i ih =>
  intro hi
  by_cases h0 : f 4 i < 0
  · rw [hgt_off (Or.inl h0), hgt_off (f := f') (Or.inl (by rw [he i hi 4 (by omega)]; exact h0)), rise_cg (he i hi)]
  · by_cases h1 : nI i ≤ f 4 i
    · rw [hgt_off (Or.inr h1), hgt_off (f := f') (Or.inr (by rw [he i hi 4 (by omega)]; exact h1)), rise_cg (he i hi)]
    · obtain ⟨j, hj, e⟩ := on_nat h0 h1 (by omega)
      rw [hgt_on hj (by omega) e, hgt_on (f := f') hj (by omega) (by rw [he i hi 4 (by omega)]; exact e), rise_cg (he i hi), ih j hj (by omega)]
theorem rf_hr {k : Nat} (hk : k < 8) : rf (hr mi oo i) k j = rf mi k j := by
  unfold rf fx
  by_cases h7 : k = 7
  · rw [if_pos h7, if_pos h7]
    show brN (hr mi oo i 287 j).toNatClampNeg = brN (mi 287 j).toNatClampNeg
    rw [hr_ne (by decide)]
  · rw [if_neg h7, if_neg h7]
    show hr mi oo i (287 + k) j = mi (287 + k) j
    rw [hr_ne (by omega)]
end HR
theorem l_mS1 {L : Nat} {π : Nat → Nat → Nat} {mi : Nat → Nat → Int32} {ml : Nat → Nat → Int64} {mr : Nat → Nat → Option Nat} (hw : WR π mr) {n : Nat} (hn7 : n ≤ 7) (hn : mi 285 1 = nI n) (hok : ∀ i, i < n → okp (RFv mi) i) {oo : Nat} (ho : oo < 13) {d : Nat} {E : Option Value → pm_M → Prop} {x3 x4 x5 : Option Value} (kk : Ev gR (pm_ev gR (d + 4)) E q_171 28 [some (.ref 285), some (.int (nI oo)), some (.int (nI n)), x3, x4, x5] [] (WW L, hr mi oo n, ml, mr)) : ∀ k i, i + k = n → Ev gR (pm_ev gR (d + 4)) E q_171 2 [some (.ref 285), some (.int (nI oo)), some (.int (nI i)), x3, x4, x5] [] (WW L, hr mi oo i, ml, mr) := by
  intro k
  induction k with
  | zero =>
    intro i hi
    have hi : i = n := by omega
    subst hi
    refine ev_iload_n (p' := 3) i_171_2 rfl rfl ?_
    refine ev_aload_n (p' := 4) i_171_3 rfl rfl ?_
    refine ev_geti (p' := 7) i_171_4 rfl fl_12_96 rfl is_285 ?_
    refine ev_icmp_ge (p' := 10) (tg := 28) i_171_7 rfl rfl (fun c7 => ?_) (fun c7 => absurd ((by rw [hr_ne (by decide), hn]; exact nI_le (by omega) (by omega))) c7)
    exact kk
  | succ k ih =>
    intro i hi
    refine ev_iload_n (p' := 3) i_171_2 rfl rfl ?_
    refine ev_aload_n (p' := 4) i_171_3 rfl rfl ?_
    refine ev_geti (p' := 7) i_171_4 rfl fl_12_96 rfl is_285 ?_
    refine ev_icmp_ge (p' := 10) (tg := 28) i_171_7 rfl rfl (fun c7 => absurd c7 ((by rw [hr_ne (by decide), hn]; exact nI_ge (by omega) (by omega)))) (fun c7 => ?_)
    refine ev_aload_n (p' := 11) i_171_10 rfl rfl ?_
    refine ev_getr (p' := 14) i_171_11 rfl fl_12_52 rfl is_285 (rf_285_23 hw) ?_
    refine ev_iload_n (p' := 15) i_171_14 rfl rfl ?_
    refine ev_aload_n (p' := 16) i_171_15 rfl rfl ?_
    refine ev_iload_n (p' := 17) i_171_16 rfl rfl ?_
    refine ev_iload_n (p' := 18) i_171_17 rfl rfl ?_
    refine ev_v2I (p' := 21) i_171_18 rfl cl_12_219_12 (by decide) is_285 (Nat.le_of_ble_eq_true rfl) (s_mHeight _ hw hn7 (by rw [hr_ne (by decide)]; exact hn) (fun j hj => okp_hr (hok j hj)) ho (show i < n by omega)) ?_
    rw [hr_ne (a := 285) (by decide), hgt_cg (n := n) (f := rf mi) (f' := rf (hr mi oo i)) (by omega) (fun j _ k hk => rf_hr hk) i (by omega)]
    refine ev_iastN (p' := 22) i_171_21 rfl is_300 len_300 (by omega) (by decide) (gr (by decide)) ?_
    refine ev_iinc (p' := 25) (ls' := [_, _, _, _, _, _]) i_171_22 rfl rfl rfl (by decide) (nI_inc _) rfl ?_
    refine ev_goto (tg := 2) i_171_25 rfl ?_
    rw [hr_up]
    exact ih (i + 1) (by omega)
/-- whether piece i is seen as far as the pieces below k go -/
def mQ (f : Nat → Nat → Int32) (o h : Int32) (i k : Nat) : Prop := 0 < hgt f o h i ∧ ∀ j, j < k → ¬ (f 3 j < f 3 i ∧ hgt f o h i ≤ hgt f o h j)
theorem mQ_sees {f : Nat → Nat → Int32} {o h : Int32} {i n : Nat} : mQ f o h i n ↔ sees f n o h i := by
  unfold mQ sees
  rw [pos_iff]
  constructor
  · rintro ⟨h1, h2⟩
    exact ⟨h1, fun ⟨j, h3, h4⟩ => h2 j h3 h4⟩
  · rintro ⟨h1, h2⟩
    exact ⟨h1, fun j h3 h4 => h2 ⟨j, h3, h4⟩⟩
theorem mQ_s {f : Nat → Nat → Int32} {o h : Int32} {i k : Nat} : mQ f o h i (k + 1) ↔ mQ f o h i k ∧ ¬ (f 3 k < f 3 i ∧ hgt f o h i ≤ hgt f o h k) := by
  unfold mQ
  constructor
  · rintro ⟨h1, h2⟩
    exact ⟨⟨h1, fun j hj => h2 j (by omega)⟩, h2 k (by omega)⟩
  · rintro ⟨⟨h1, h2⟩, h3⟩
    refine ⟨h1, fun j hj => ?_⟩
    rcases Nat.lt_succ_iff_lt_or_eq.mp hj with z | z
    · exact h2 j z
    · rw [z]; exact h3
theorem l_mS3 {L : Nat} {π : Nat → Nat → Nat} {mi : Nat → Nat → Int32} {ml : Nat → Nat → Int64} {mr : Nat → Nat → Option Nat} (hw : WR π mr) {n : Nat} (hn7 : n ≤ 7) (hn : mi 285 1 = nI n) (hok : ∀ i, i < n → okp (RFv mi) i) {oo : Nat} (ho : oo < 13) {C : Nat → List Value → pm_M → Option Value → pm_M → Prop} {E : Option Value → pm_M → Prop} {st : Int32} {i : Nat} (hi : i < n) (kk : ∀ x, (x = 1 ∧ mQ (rf mi) (nI oo) (mi 285 22) i n) ∨ (x = 0 ∧ ¬ mQ (rf mi) (nI oo) (mi 285 22) i n) → Ev gR C E q_171 118 [some (.ref 285), some (.int (nI oo)), some (.int st), some (.int (nI i)), some (.int x), some (.int (nI n))] [] (WW L, hr mi oo n, ml, mr)) : ∀ m k x, k + m = n → ((x = 1 ∧ mQ (rf mi) (nI oo) (mi 285 22) i k) ∨ (x = 0 ∧ ¬ mQ (rf mi) (nI oo) (mi 285 22) i k)) → Ev gR C E q_171 59 [some (.ref 285), some (.int (nI oo)), some (.int st), some (.int (nI i)), some (.int x), some (.int (nI k))] [] (WW L, hr mi oo n, ml, mr) := by
  intro m
  induction m with
  | zero =>
    intro k x hk hx
    have hk : k = n := by omega
    subst hk
    refine ev_iload (p' := 61) i_171_59 rfl rfl ?_
    refine ev_aload_n (p' := 62) i_171_61 rfl rfl ?_
    refine ev_geti (p' := 65) i_171_62 rfl fl_12_96 rfl is_285 ?_
    refine ev_icmp_ge (p' := 68) (tg := 118) i_171_65 rfl rfl (fun c65 => ?_) (fun c65 => absurd ((by rw [hr_ne (by decide), hn]; exact nI_le (by omega) (by omega))) c65)
    exact kk x hx
  | succ m ih =>
    intro k x hk hx
    refine ev_iload (p' := 61) i_171_59 rfl rfl ?_
    refine ev_aload_n (p' := 62) i_171_61 rfl rfl ?_
    refine ev_geti (p' := 65) i_171_62 rfl fl_12_96 rfl is_285 ?_
    refine ev_icmp_ge (p' := 68) (tg := 118) i_171_65 rfl rfl (fun c65 => absurd c65 ((by rw [hr_ne (by decide), hn]; exact nI_ge (by omega) (by omega)))) (fun c65 => ?_)
    refine ev_iload (p' := 70) i_171_68 rfl rfl ?_
    refine ev_if_eq (p' := 73) (tg := 109) i_171_70 rfl rfl (fun c70 => ?_) (fun c70 => ?_)
    · refine ev_iconst (p' := 110) (v := 0) i_171_109 rfl (by decide) ?_
      refine ev_istore (p' := 112) (ls' := [_, _, _, _, _, _]) i_171_110 rfl rfl (by decide) rfl ?_
      refine ev_iinc (p' := 115) (ls' := [_, _, _, _, _, _]) i_171_112 rfl rfl rfl (by decide) (nI_inc _) rfl ?_
      refine ev_goto (tg := 59) i_171_115 rfl ?_
      have hq : ¬ mQ (rf mi) (nI oo) (mi 285 22) i (k + 1) := fun z => by
        rcases hx with h9 | h9
        · rw [h9.1] at c70
          exact absurd c70 (by decide)
        · exact h9.2 (mQ_s.mp z).1
      exact ih (k + 1) 0 (by omega) (Or.inr ⟨rfl, hq⟩)
    · refine ev_aload_n (p' := 74) i_171_73 rfl rfl ?_
      refine ev_getr (p' := 77) i_171_74 rfl fl_12_22 rfl is_285 (rf_285_9 hw) ?_
      refine ev_iload (p' := 79) i_171_77 rfl rfl ?_
      refine ev_ialdN (p' := 80) i_171_79 rfl is_290 len_290 (by omega) (by decide) ?_
      refine ev_aload_n (p' := 81) i_171_80 rfl rfl ?_
      refine ev_getr (p' := 84) i_171_81 rfl fl_12_22 rfl is_285 (rf_285_9 hw) ?_
      refine ev_iload_n (p' := 85) i_171_84 rfl rfl ?_
      refine ev_ialdN (p' := 86) i_171_85 rfl is_290 len_290 (by omega) (by decide) ?_
      rw [hr_ne (a := 290) (by decide)]
      refine ev_icmp_ge (p' := 89) (tg := 105) i_171_86 rfl rfl (fun c86 => ?_) (fun c86 => ?_)
      · refine ev_iconst (p' := 106) (v := 1) i_171_105 rfl (by decide) ?_
        refine ev_goto (tg := 110) i_171_106 rfl ?_
        refine ev_istore (p' := 112) (ls' := [_, _, _, _, _, _]) i_171_110 rfl rfl (by decide) rfl ?_
        refine ev_iinc (p' := 115) (ls' := [_, _, _, _, _, _]) i_171_112 rfl rfl rfl (by decide) (nI_inc _) rfl ?_
        refine ev_goto (tg := 59) i_171_115 rfl ?_
        have hq : mQ (rf mi) (nI oo) (mi 285 22) i k := by
          rcases hx with h9 | h9
          · exact h9.2
          · exact absurd h9.1 c70
        exact ih (k + 1) 1 (by omega) (Or.inl ⟨rfl, mQ_s.mpr ⟨hq, fun z => Int32.not_lt.mpr c86 z.1⟩⟩)
      · refine ev_aload_n (p' := 90) i_171_89 rfl rfl ?_
        refine ev_getr (p' := 93) i_171_90 rfl fl_12_52 rfl is_285 (rf_285_23 hw) ?_
        refine ev_iload (p' := 95) i_171_93 rfl rfl ?_
        refine ev_ialdN (p' := 96) i_171_95 rfl is_300 len_300 (by omega) (by decide) ?_
        refine ev_aload_n (p' := 97) i_171_96 rfl rfl ?_
        refine ev_getr (p' := 100) i_171_97 rfl fl_12_52 rfl is_285 (rf_285_23 hw) ?_
        refine ev_iload_n (p' := 101) i_171_100 rfl rfl ?_
        refine ev_ialdN (p' := 102) i_171_101 rfl is_300 len_300 (by omega) (by decide) ?_
        rw [hr_h (show k < n by omega), hr_h (show i < n by omega)]
        refine ev_icmp_ge (p' := 105) (tg := 109) i_171_102 rfl rfl (fun c102 => ?_) (fun c102 => ?_)
        · refine ev_iconst (p' := 110) (v := 0) i_171_109 rfl (by decide) ?_
          refine ev_istore (p' := 112) (ls' := [_, _, _, _, _, _]) i_171_110 rfl rfl (by decide) rfl ?_
          refine ev_iinc (p' := 115) (ls' := [_, _, _, _, _, _]) i_171_112 rfl rfl rfl (by decide) (nI_inc _) rfl ?_
          refine ev_goto (tg := 59) i_171_115 rfl ?_
          have hq : mQ (rf mi) (nI oo) (mi 285 22) i k := by
            rcases hx with h9 | h9
            · exact h9.2
            · exact absurd h9.1 c70
          exact ih (k + 1) 0 (by omega) (Or.inr ⟨rfl, fun z => (mQ_s.mp z).2 ⟨Int32.not_le.mp c86, c102⟩⟩)
        · refine ev_iconst (p' := 106) (v := 1) i_171_105 rfl (by decide) ?_
          refine ev_goto (tg := 110) i_171_106 rfl ?_
          refine ev_istore (p' := 112) (ls' := [_, _, _, _, _, _]) i_171_110 rfl rfl (by decide) rfl ?_
          refine ev_iinc (p' := 115) (ls' := [_, _, _, _, _, _]) i_171_112 rfl rfl rfl (by decide) (nI_inc _) rfl ?_
          refine ev_goto (tg := 59) i_171_115 rfl ?_
          have hq : mQ (rf mi) (nI oo) (mi 285 22) i k := by
            rcases hx with h9 | h9
            · exact h9.2
            · exact absurd h9.1 c70
          exact ih (k + 1) 1 (by omega) (Or.inl ⟨rfl, mQ_s.mpr ⟨hq, fun z => c102 z.2⟩⟩)
theorem l_mS2 {L : Nat} {π : Nat → Nat → Nat} {mi : Nat → Nat → Int32} {ml : Nat → Nat → Int64} {mr : Nat → Nat → Option Nat} (hw : WR π mr) {n : Nat} (hn7 : n ≤ 7) (hn : mi 285 1 = nI n) (hok : ∀ i, i < n → okp (RFv mi) i) {oo : Nat} (ho : oo < 13) {d : Nat} {E : Option Value → pm_M → Prop} (hE : E (some (.int (vis (rf mi) n (nI oo) (mi 285 22) n))) (WW L, hr mi oo n, ml, mr)) : ∀ k i x4 x5, i + k = n → Ev gR (pm_ev gR (d + 4)) E q_171 32 [some (.ref 285), some (.int (nI oo)), some (.int (vis (rf mi) n (nI oo) (mi 285 22) i)), some (.int (nI i)), x4, x5] [] (WW L, hr mi oo n, ml, mr) := by
  intro k
  induction k with
  | zero =>
    intro i x4 x5 hi
    have hi : i = n := by omega
    subst hi
    refine ev_iload_n (p' := 33) i_171_32 rfl rfl ?_
    refine ev_aload_n (p' := 34) i_171_33 rfl rfl ?_
    refine ev_geti (p' := 37) i_171_34 rfl fl_12_96 rfl is_285 ?_
    refine ev_icmp_ge (p' := 40) (tg := 139) i_171_37 rfl rfl (fun c37 => ?_) (fun c37 => absurd ((by rw [hr_ne (by decide), hn]; exact nI_le (by omega) (by omega))) c37)
    refine ev_iload_n (p' := 140) i_171_139 rfl rfl ?_
    exact ev_iretI i_171_140 rfl hE
  | succ k ih =>
    intro i x4 x5 hi
    refine ev_iload_n (p' := 33) i_171_32 rfl rfl ?_
    refine ev_aload_n (p' := 34) i_171_33 rfl rfl ?_
    refine ev_geti (p' := 37) i_171_34 rfl fl_12_96 rfl is_285 ?_
    refine ev_icmp_ge (p' := 40) (tg := 139) i_171_37 rfl rfl (fun c37 => absurd c37 ((by rw [hr_ne (by decide), hn]; exact nI_ge (by omega) (by omega)))) (fun c37 => ?_)
    refine ev_aload_n (p' := 41) i_171_40 rfl rfl ?_
    refine ev_getr (p' := 44) i_171_41 rfl fl_12_52 rfl is_285 (rf_285_23 hw) ?_
    refine ev_iload_n (p' := 45) i_171_44 rfl rfl ?_
    refine ev_ialdN (p' := 46) i_171_45 rfl is_300 len_300 (by omega) (by decide) ?_
    rw [hr_h (show i < n by omega)]
    refine ev_if_le (p' := 49) (tg := 53) i_171_46 rfl rfl (fun c46 => ?_) (fun c46 => ?_)
    · refine ev_iconst (p' := 54) (v := 0) i_171_53 rfl (by decide) ?_
      refine ev_istore (p' := 56) (ls' := [_, _, _, _, _, _]) i_171_54 rfl rfl (by decide) rfl ?_
      refine ev_iconst (p' := 57) (v := nI 0) i_171_56 rfl (by decide) ?_
      refine ev_istore (p' := 59) (ls' := [_, _, _, _, _, _]) i_171_57 rfl rfl (by decide) rfl ?_
      refine l_mS3 hw hn7 hn hok ho (show i < n by omega) ?_ n 0 _ (by omega) (Or.inr ⟨rfl, fun z => Int32.not_lt.mpr c46 z.1⟩)
      intro x hx
      refine ev_iload_n (p' := 119) i_171_118 rfl rfl ?_
      refine ev_iload (p' := 121) i_171_119 rfl rfl ?_
      refine ev_if_eq (p' := 124) (tg := 130) i_171_121 rfl rfl (fun c121 => ?_) (fun c121 => ?_)
      · refine ev_iconst (p' := 131) (v := 0) i_171_130 rfl (by decide) ?_
        refine ev_ior (p' := 132) i_171_131 rfl ?_
        refine ev_istore_n (p' := 133) (ls' := [_, _, _, _, _, _]) i_171_132 rfl rfl (by decide) rfl ?_
        refine ev_iinc (p' := 136) (ls' := [_, _, _, _, _, _]) i_171_133 rfl rfl rfl (by decide) (nI_inc _) rfl ?_
        refine ev_goto (tg := 32) i_171_136 rfl ?_
        have hs : ¬ sees (rf mi) n (nI oo) (mi 285 22) i := fun z => by
          rcases hx with h9 | h9
          · rw [h9.1] at c121; exact absurd c121 (by decide)
          · exact h9.2 (mQ_sees.mpr z)
        rw [Int32.or_zero]
        refine ev_cast (by rw [show vis (rf mi) n (nI oo) (mi 285 22) (i + 1) = _ from vis_f hs]) rfl rfl (ih (i + 1) _ _ (by omega))
      · refine ev_iconst (p' := 125) (v := 1) i_171_124 rfl (by decide) ?_
        refine ev_iload_n (p' := 126) i_171_125 rfl rfl ?_
        refine ev_ishl (p' := 127) i_171_126 rfl ?_
        refine ev_goto (tg := 131) i_171_127 rfl ?_
        refine ev_ior (p' := 132) i_171_131 rfl ?_
        refine ev_istore_n (p' := 133) (ls' := [_, _, _, _, _, _]) i_171_132 rfl rfl (by decide) rfl ?_
        refine ev_iinc (p' := 136) (ls' := [_, _, _, _, _, _]) i_171_133 rfl rfl rfl (by decide) (nI_inc _) rfl ?_
        refine ev_goto (tg := 32) i_171_136 rfl ?_
        have hs : sees (rf mi) n (nI oo) (mi 285 22) i := by
          rcases hx with h9 | h9
          · exact mQ_sees.mp h9.2
          · exact absurd h9.1 c121
        refine ev_cast (by rw [show vis (rf mi) n (nI oo) (mi 285 22) (i + 1) = _ from vis_t hs]) rfl rfl (ih (i + 1) _ _ (by omega))
    · refine ev_iconst (p' := 50) (v := 1) i_171_49 rfl (by decide) ?_
      refine ev_goto (tg := 54) i_171_50 rfl ?_
      refine ev_istore (p' := 56) (ls' := [_, _, _, _, _, _]) i_171_54 rfl rfl (by decide) rfl ?_
      refine ev_iconst (p' := 57) (v := nI 0) i_171_56 rfl (by decide) ?_
      refine ev_istore (p' := 59) (ls' := [_, _, _, _, _, _]) i_171_57 rfl rfl (by decide) rfl ?_
      refine l_mS3 hw hn7 hn hok ho (show i < n by omega) ?_ n 0 _ (by omega) (Or.inl ⟨rfl, Int32.not_le.mp c46, fun j hj => absurd hj (Nat.not_lt_zero j)⟩)
      intro x hx
      refine ev_iload_n (p' := 119) i_171_118 rfl rfl ?_
      refine ev_iload (p' := 121) i_171_119 rfl rfl ?_
      refine ev_if_eq (p' := 124) (tg := 130) i_171_121 rfl rfl (fun c121 => ?_) (fun c121 => ?_)
      · refine ev_iconst (p' := 131) (v := 0) i_171_130 rfl (by decide) ?_
        refine ev_ior (p' := 132) i_171_131 rfl ?_
        refine ev_istore_n (p' := 133) (ls' := [_, _, _, _, _, _]) i_171_132 rfl rfl (by decide) rfl ?_
        refine ev_iinc (p' := 136) (ls' := [_, _, _, _, _, _]) i_171_133 rfl rfl rfl (by decide) (nI_inc _) rfl ?_
        refine ev_goto (tg := 32) i_171_136 rfl ?_
        have hs : ¬ sees (rf mi) n (nI oo) (mi 285 22) i := fun z => by
          rcases hx with h9 | h9
          · rw [h9.1] at c121; exact absurd c121 (by decide)
          · exact h9.2 (mQ_sees.mpr z)
        rw [Int32.or_zero]
        refine ev_cast (by rw [show vis (rf mi) n (nI oo) (mi 285 22) (i + 1) = _ from vis_f hs]) rfl rfl (ih (i + 1) _ _ (by omega))
      · refine ev_iconst (p' := 125) (v := 1) i_171_124 rfl (by decide) ?_
        refine ev_iload_n (p' := 126) i_171_125 rfl rfl ?_
        refine ev_ishl (p' := 127) i_171_126 rfl ?_
        refine ev_goto (tg := 131) i_171_127 rfl ?_
        refine ev_ior (p' := 132) i_171_131 rfl ?_
        refine ev_istore_n (p' := 133) (ls' := [_, _, _, _, _, _]) i_171_132 rfl rfl (by decide) rfl ?_
        refine ev_iinc (p' := 136) (ls' := [_, _, _, _, _, _]) i_171_133 rfl rfl rfl (by decide) (nI_inc _) rfl ?_
        refine ev_goto (tg := 32) i_171_136 rfl ?_
        have hs : sees (rf mi) n (nI oo) (mi 285 22) i := by
          rcases hx with h9 | h9
          · exact mQ_sees.mp h9.2
          · exact absurd h9.1 c121
        refine ev_cast (by rw [show vis (rf mi) n (nI oo) (mi 285 22) (i + 1) = _ from vis_t hs]) rfl rfl (ih (i + 1) _ _ (by omega))
theorem s_mSeen {L : Nat} {π : Nat → Nat → Nat} {mi : Nat → Nat → Int32} {ml : Nat → Nat → Int64} {mr : Nat → Nat → Option Nat} (d : Nat) (hw : WR π mr) {n : Nat} (hn7 : n ≤ 7) (hn : mi 285 1 = nI n) (hok : ∀ i, i < n → okp (RFv mi) i) {oo : Nat} (ho : oo < 13) : pm_ev gR (d + 5) 171 [.ref 285, .int (nI oo)] (WW L, mi, ml, mr) (some (.int (vis (rf mi) n (nI oo) (mi 285 22) n))) (WW L, hr mi oo n, ml, mr) := by
  refine ev_enter (q := q_171) rfl (Nat.le_of_ble_eq_true rfl) rfl ?_
  refine ev_iconst (p' := 1) (v := nI 0) i_171_0 rfl (by decide) ?_
  refine ev_istore_n (p' := 2) (ls' := [_, _, _, _, _, _]) i_171_1 rfl rfl (by decide) rfl ?_
  refine ev_cast (mem2 := (WW L, hr mi oo 0, ml, mr)) rfl rfl (by rw [hr_0]) (l_mS1 hw hn7 hn hok ho ?_ n 0 (by omega))
  refine ev_iconst (p' := 29) (v := 0) i_171_28 rfl (by decide) ?_
  refine ev_istore_n (p' := 30) (ls' := [_, _, _, _, _, _]) i_171_29 rfl rfl (by decide) rfl ?_
  refine ev_iconst (p' := 31) (v := nI 0) i_171_30 rfl (by decide) ?_
  refine ev_istore_n (p' := 32) (ls' := [_, _, _, _, _, _]) i_171_31 rfl rfl (by decide) rfl ?_
  exact l_mS2 hw hn7 hn hok ho ⟨rfl, rfl⟩ n 0 _ _ (by omega)
