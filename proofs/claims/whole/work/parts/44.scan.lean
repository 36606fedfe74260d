/-! ===== first, best, lasts ===== -/
theorem or_and1 (x y : Int32) : (x ||| y) &&& 1 = (x &&& 1) ||| (y &&& 1) := by
  apply Int32.toBitVec_inj.mp
  rw [Int32.toBitVec_and, Int32.toBitVec_or, Int32.toBitVec_or, Int32.toBitVec_and, Int32.toBitVec_and]
  ext i
  simp only [BitVec.getElem_and, BitVec.getElem_or]
  cases x.toBitVec[i] <;> cases y.toBitVec[i] <;> simp
def HS (x : Int32) (o : Nat) : Prop := ¬ (x >>> (nI o &&& 31)) &&& 1 = 0
theorem HS_m {x : Int32} {o : Nat} : (x >>> (nI o &&& 31)) &&& 1 = 1 ↔ HS x o := and1_iff _
theorem sh1 : ∀ j, j < 13 → ∀ o, o < 13 → ((1 : Int32) <<< (nI j &&& 31)) >>> (nI o &&& 31) &&& 1 = if j = o then 1 else 0 := by decide +kernel
theorem HS_or {x : Int32} {j o : Nat} (hj : j < 13) (ho : o < 13) : HS (x ||| (1 <<< (nI j &&& 31))) o ↔ HS x o ∨ j = o := by
  unfold HS
  rw [Int32.shiftRight_or, or_and1, sh1 j hj o ho]
  by_cases h : j = o
  · rw [if_pos h]
    rcases and1 (x >>> (nI o &&& 31)) with e | e
    · rw [e]; simp [h]
    · rw [e]; simp [h]
  · rw [if_neg h, Int32.or_zero]
    simp [h]
theorem HS_0 : ∀ o, o < 32 → ¬ HS 0 o := by unfold HS; decide +kernel
noncomputable def bset (p : Nat → Prop) (m : Nat) : Int32 := fold (fun o b => @ite _ (p o) (Classical.propDecidable _) (b ||| (1 <<< (nI o &&& 31))) b) m 0
theorem bset_t {p : Nat → Prop} {m : Nat} (h : p m) : bset p (m + 1) = bset p m ||| (1 <<< (nI m &&& 31)) := @if_pos _ (Classical.propDecidable _) h _ _ _
theorem bset_f {p : Nat → Prop} {m : Nat} (h : ¬ p m) : bset p (m + 1) = bset p m := @if_neg _ (Classical.propDecidable _) h _ _ _
theorem bset_has {p : Nat → Prop} {o : Nat} (ho : o < 13) : ∀ m, m ≤ 13 → (HS (bset p m) o ↔ o < m ∧ p o) := by
  intro m
  induction m with
  | zero => intro _; exact ⟨fun h => absurd h (HS_0 o (by omega)), fun h => absurd h.1 (Nat.not_lt_zero o)⟩
  | succ m ih =>
    intro hm
    by_cases h : p m
    · rw [bset_t h, HS_or (by omega) ho, ih (by omega)]
      constructor
      · rintro (h1 | h1)
        · exact ⟨by omega, h1.2⟩
        · subst h1; exact ⟨by omega, h⟩
      · rintro ⟨h1, h2⟩
        by_cases hh : m = o
        · exact Or.inr hh
        · exact Or.inl ⟨by omega, h2⟩
    · rw [bset_f h, ih (by omega)]
      constructor
      · rintro ⟨h1, h2⟩; exact ⟨by omega, h2⟩
      · rintro ⟨h1, h2⟩
        refine ⟨?_, h2⟩
        by_cases hh : o = m
        · subst hh; exact absurd h2 h
        · omega
theorem bset_cg {p p' : Nat → Prop} : ∀ m, (∀ o, o < m → (p o ↔ p' o)) → bset p m = bset p' m := by
  intro m
  induction m with
  | zero => intro _; rfl
  | succ m ih =>
    intro h
    have e := ih (fun o ho => h o (by omega))
    by_cases hp : p m
    · rw [bset_t hp, bset_t ((h m (by omega)).mp hp), e]
    · rw [bset_f hp, bset_f (fun z => hp ((h m (by omega)).mpr z)), e]
noncomputable def scan (p : Nat → Prop) : Nat → Nat → Int32
  | 0, _ => -1
  | k + 1, o => @ite _ (p o) (Classical.propDecidable _) (nI o) (scan p k (o + 1))
theorem scan_t {p : Nat → Prop} {k o : Nat} (h : p o) : scan p (k + 1) o = nI o := @if_pos _ (Classical.propDecidable _) h _ _ _
theorem scan_f {p : Nat → Prop} {k o : Nat} (h : ¬ p o) : scan p (k + 1) o = scan p k (o + 1) := @if_neg _ (Classical.propDecidable _) h _ _ _
/-- is piece i seen at opening o -/
def SE (v : PV) (i o : Nat) : Prop := HS (VS v (nI o) 0) i
theorem l_show {L : Nat} {π : Nat → Nat → Nat} {ml : Nat → Nat → Int64} {mr : Nat → Nat → Option Nat} {d : Nat} {E : Option Value → pm_M → Prop} (hw : WR π mr) {A : AV} (hA : okA A) {i0 : Nat} (hE : ∀ mi, CR π mi ml A → E (some (.int (bset (SE A.1.1 i0) 13))) (WW L, mi, ml, mr)) : ∀ (k i : Nat) (mi : Nat → Nat → Int32), i + k = 13 → CR π mi ml A → Ev gC (pm_ev gC (d + 6)) E q_115 4 [some (.ref 1), some (.int (nI i0)), some (.int (bset (SE A.1.1 i0) i)), some (.int (nI i))] [] (WW L, mi, ml, mr) := by
  intro k
  induction k with
  | zero =>
    intro i mi hi hc
    have hi : i = 13 := by omega
    subst hi
    have h7 := hA.n7
    have hn := hc.hn
    refine ev_iload_n (p' := 5) i_115_4 rfl rfl ?_
    refine ev_bipush (p' := 7) (v := 12) i_115_5 rfl (by decide) ?_
    refine ev_icmp_gt (p' := 10) (tg := 41) i_115_7 rfl rfl (fun c7 => ?_) (fun c7 => absurd (by decide) c7)
    refine ev_iload_n (p' := 42) i_115_41 rfl rfl ?_
    exact ev_iretI i_115_42 rfl (hE _ hc)
  | succ k ih =>
    intro i mi hi hc
    have h7 := hA.n7
    have hn := hc.hn
    refine ev_iload_n (p' := 5) i_115_4 rfl rfl ?_
    refine ev_bipush (p' := 7) (v := 12) i_115_5 rfl (by decide) ?_
    refine ev_icmp_gt (p' := 10) (tg := 41) i_115_7 rfl rfl (fun c7 => absurd c7 (Int32.not_lt.mpr (nI_le (b := 12) (by omega) (by decide)))) (fun c7 => ?_)
    refine ev_aload_n (p' := 11) i_115_10 rfl rfl ?_
    refine ev_getr (p' := 14) i_115_11 rfl fl_11_78 rfl is_1 (rf_1_0 hw) ?_
    refine ev_getr (p' := 17) i_115_14 rfl fl_11_97 rfl (is_sp sp_17) (hw.page sp_17) ?_
    refine ev_iload_n (p' := 18) i_115_17 rfl rfl ?_
    refine ev_iconst (p' := 19) (v := 0) i_115_18 rfl (by decide) ?_
    refine ev_v2I (p' := 22) i_115_19 rfl cl_11_154_2 (by decide) (is_pg pg_33) (Nat.le_of_ble_eq_true rfl) (v_vis _ hw pg_33 hc.pg hA.1.1 _ _) ?_
    refine ev_iload_n (p' := 23) i_115_22 rfl rfl ?_
    refine ev_s2I (p' := 26) i_115_23 rfl cl_11_223_0 (by decide) (Nat.le_of_ble_eq_true rfl) (s_has _ _ _) ?_
    refine ev_if_eq (p' := 29) (tg := 35) i_115_26 rfl rfl (fun c26 => ?_) (fun c26 => ?_)
    · replace c26 := B0 c26
      refine ev_iinc (p' := 38) (ls' := [_, _, _, _]) i_115_35 rfl rfl rfl (by decide) (nI_inc _) rfl ?_
      refine ev_goto (tg := 4) i_115_38 rfl ?_
      rw [← bset_f (p := SE A.1.1 i0) c26]
      exact ih (i + 1) _ (by omega) (hc.hm hw pg_33)
    · replace c26 := B1 c26
      refine ev_iload_n (p' := 30) i_115_29 rfl rfl ?_
      refine ev_iconst (p' := 31) (v := 1) i_115_30 rfl (by decide) ?_
      refine ev_iload_n (p' := 32) i_115_31 rfl rfl ?_
      refine ev_ishl (p' := 33) i_115_32 rfl ?_
      refine ev_ior (p' := 34) i_115_33 rfl ?_
      refine ev_istore_n (p' := 35) (ls' := [_, _, _, _]) i_115_34 rfl rfl (by decide) rfl ?_
      refine ev_iinc (p' := 38) (ls' := [_, _, _, _]) i_115_35 rfl rfl rfl (by decide) (nI_inc _) rfl ?_
      refine ev_goto (tg := 4) i_115_38 rfl ?_
      rw [← bset_t (p := SE A.1.1 i0) c26]
      exact ih (i + 1) _ (by omega) (hc.hm hw pg_33)
theorem s_show {L : Nat} {π : Nat → Nat → Nat} {ml : Nat → Nat → Int64} {mr : Nat → Nat → Option Nat} {mi : Nat → Nat → Int32} (d : Nat) (hw : WR π mr) {A : AV} (hc : CR π mi ml A) (hA : okA A) (i0 : Nat) : ∃ mi', pm_ev gC (d + 7) 115 [.ref 1, .int (nI i0)] (WW L, mi, ml, mr) (some (.int (bset (SE A.1.1 i0) 13))) (WW L, mi', ml, mr) ∧ CR π mi' ml A := by
  obtain ⟨x, m', ⟨h1, mi1, h2, h3⟩, h5⟩ := ev_some (E := fun x m => x = some (.int (bset (SE A.1.1 i0) 13)) ∧ ∃ mi', m = (WW L, mi', ml, mr) ∧ CR π mi' ml A) (g := gC) (d := d + 6) (M := 115) (args := [.ref 1, .int (nI i0)]) (mem := (WW L, mi, ml, mr)) (q := q_115) rfl (Nat.le_of_ble_eq_true rfl) rfl (by
    refine ev_iconst (p' := 1) (v := 0) i_115_0 rfl (by decide) ?_
    refine ev_istore_n (p' := 2) (ls' := [_, _, _, _]) i_115_1 rfl rfl (by decide) rfl ?_
    refine ev_iconst (p' := 3) (v := nI 0) i_115_2 rfl (by decide) ?_
    refine ev_istore_n (p' := 4) (ls' := [_, _, _, _]) i_115_3 rfl rfl (by decide) rfl ?_
    exact l_show hw hA (fun mi1 h => ⟨rfl, mi1, rfl, h⟩) 13 0 mi (by decide) hc)
  subst h1 h2
  exact ⟨mi1, h5, h3⟩
theorem l_first {L : Nat} {π : Nat → Nat → Nat} {ml : Nat → Nat → Int64} {mr : Nat → Nat → Option Nat} {d : Nat} {E : Option Value → pm_M → Prop} (hw : WR π mr) {A : AV} (hA : okA A) {i0 : Nat} (hE : True) : ∀ (k i : Nat) (mi : Nat → Nat → Int32), i + k = 13 → CR π mi ml A → (∀ mi, CR π mi ml A → E (some (.int (scan (SE A.1.1 i0) k i))) (WW L, mi, ml, mr)) → Ev gC (pm_ev gC (d + 6)) E q_84 21 [some (.ref 1), some (.int (nI i0)), some (.int (bset (SE A.1.1 i0) 13)), some (.int (nI i))] [] (WW L, mi, ml, mr) := by
  intro k
  induction k with
  | zero =>
    intro i mi hi hc hx
    have hi : i = 13 := by omega
    subst hi
    have h7 := hA.n7
    have hn := hc.hn
    refine ev_iload_n (p' := 22) i_84_21 rfl rfl ?_
    refine ev_bipush (p' := 24) (v := 12) i_84_22 rfl (by decide) ?_
    refine ev_icmp_gt (p' := 27) (tg := 43) i_84_24 rfl rfl (fun c24 => ?_) (fun c24 => absurd (by decide) c24)
    refine ev_iconst (p' := 44) (v := -1) i_84_43 rfl (by decide) ?_
    exact ev_iretI i_84_44 rfl (hx _ hc)
  | succ k ih =>
    intro i mi hi hc hx
    have h7 := hA.n7
    have hn := hc.hn
    refine ev_iload_n (p' := 22) i_84_21 rfl rfl ?_
    refine ev_bipush (p' := 24) (v := 12) i_84_22 rfl (by decide) ?_
    refine ev_icmp_gt (p' := 27) (tg := 43) i_84_24 rfl rfl (fun c24 => absurd c24 (Int32.not_lt.mpr (nI_le (b := 12) (by omega) (by decide)))) (fun c24 => ?_)
    refine ev_iload_n (p' := 28) i_84_27 rfl rfl ?_
    refine ev_iload_n (p' := 29) i_84_28 rfl rfl ?_
    refine ev_s2I (p' := 32) i_84_29 rfl cl_11_223_0 (by decide) (Nat.le_of_ble_eq_true rfl) (s_has _ _ _) ?_
    refine ev_if_eq (p' := 35) (tg := 37) i_84_32 rfl rfl (fun c32 => ?_) (fun c32 => ?_)
    · replace c32 := B0 c32
      refine ev_iinc (p' := 40) (ls' := [_, _, _, _]) i_84_37 rfl rfl rfl (by decide) (nI_inc _) rfl ?_
      refine ev_goto (tg := 21) i_84_40 rfl ?_
      rw [scan_f (fun z => c32 ((bset_has (by omega) 13 (by decide)).mpr ⟨by omega, z⟩))] at hx
      exact ih (i + 1) mi (by omega) hc hx
    · replace c32 := B1 c32
      refine ev_iload_n (p' := 36) i_84_35 rfl rfl ?_
      exact ev_iretI i_84_36 rfl (by rw [scan_t ((bset_has (by omega) 13 (by decide)).mp c32).2] at hx; exact hx _ hc)
theorem l_mfirst {L : Nat} {π : Nat → Nat → Nat} {ml : Nat → Nat → Int64} {mr : Nat → Nat → Option Nat} {d : Nat} {E : Option Value → pm_M → Prop} (hw : WR π mr) {A : AV} (hA : okA A) {i0 : Nat} (hE : True) : ∀ (k i : Nat) (mi : Nat → Nat → Int32), i + k = 13 → RR mi ml A → (∀ mi, RR mi ml A → E (some (.int (scan (SE A.1.1 i0) k i))) (WW L, mi, ml, mr)) → Ev gR (pm_ev gR (d + 6)) E q_184 15 [some (.ref 285), some (.int (nI i0)), some (.int (nI i))] [] (WW L, mi, ml, mr) := by
  intro k
  induction k with
  | zero =>
    intro i mi hi hc hx
    have hi : i = 13 := by omega
    subst hi
    have h7 := hA.n7
    have hn := hc.hn
    refine ev_iload_n (p' := 16) i_184_15 rfl rfl ?_
    refine ev_bipush (p' := 18) (v := 12) i_184_16 rfl (by decide) ?_
    refine ev_icmp_gt (p' := 21) (tg := 39) i_184_18 rfl rfl (fun c18 => ?_) (fun c18 => absurd (by decide) c18)
    refine ev_iload_n (p' := 40) i_184_39 rfl rfl ?_
    refine ev_bipush (p' := 42) (v := 12) i_184_40 rfl (by decide) ?_
    refine ev_icmp_gt (p' := 45) (tg := 49) i_184_42 rfl rfl (fun c42 => ?_) (fun c42 => absurd (by decide) c42)
    refine ev_iconst (p' := 50) (v := -1) i_184_49 rfl (by decide) ?_
    exact ev_iretI i_184_50 rfl (hx _ hc)
  | succ k ih =>
    intro i mi hi hc hx
    have h7 := hA.n7
    have hn := hc.hn
    refine ev_iload_n (p' := 16) i_184_15 rfl rfl ?_
    refine ev_bipush (p' := 18) (v := 12) i_184_16 rfl (by decide) ?_
    refine ev_icmp_gt (p' := 21) (tg := 39) i_184_18 rfl rfl (fun c18 => absurd c18 (Int32.not_lt.mpr (nI_le (b := 12) (by omega) (by decide)))) (fun c18 => ?_)
    refine ev_aload_n (p' := 22) i_184_21 rfl rfl ?_
    refine ev_iload_n (p' := 23) i_184_22 rfl rfl ?_
    refine ev_v1I (p' := 26) i_184_23 rfl cl_12_237_12 (by decide) is_285 (Nat.le_of_ble_eq_true rfl) (v_mSeen _ hw hc hA (by omega)) ?_
    refine ev_iload_n (p' := 27) i_184_26 rfl rfl ?_
    refine ev_s2I (p' := 30) i_184_27 rfl cl_12_208_0 (by decide) (Nat.le_of_ble_eq_true rfl) (s_mhas _ _ _) ?_
    refine ev_if_ne (p' := 33) (tg := 39) i_184_30 rfl rfl (fun c30 => ?_) (fun c30 => ?_)
    · replace c30 := B1 c30
      refine ev_iload_n (p' := 40) i_184_39 rfl rfl ?_
      refine ev_bipush (p' := 42) (v := 12) i_184_40 rfl (by decide) ?_
      refine ev_icmp_gt (p' := 45) (tg := 49) i_184_42 rfl rfl (fun c42 => absurd c42 (Int32.not_lt.mpr (nI_le (b := 12) (by omega) (by decide)))) (fun c42 => ?_)
      refine ev_iload_n (p' := 46) i_184_45 rfl rfl ?_
      refine ev_goto (tg := 50) i_184_46 rfl ?_
      exact ev_iretI i_184_50 rfl (by rw [scan_t (p := SE A.1.1 i0) (HS_m.mp c30)] at hx; exact hx _ (hc.hr h7))
    · replace c30 := B0n c30
      refine ev_iinc (p' := 36) (ls' := [_, _, _]) i_184_33 rfl rfl rfl (by decide) (nI_inc _) rfl ?_
      refine ev_goto (tg := 15) i_184_36 rfl ?_
      rw [scan_f (p := SE A.1.1 i0) (fun z => c30 (HS_m.mpr z))] at hx
      exact ih (i + 1) _ (by omega) (hc.hr h7) hx
theorem C_first_bad (L d : Nat) (A : AV) (hA : okA A) (x : Int32) (hb : ¬ (0 ≤ x ∧ x ≤ nI A.1.1.1 - 1)) : Cst L (d + 24) 84 [.int x] A (.int (-2)) (badA A) := by
  refine C_of (q := q_84) rfl (Nat.le_of_ble_eq_true rfl) rfl (fun π mi ml mr hw hc => ?_)
  have hn := hc.hn
  have h7 := hA.n7
  refine ev_aload_n (p' := 1) i_84_0 rfl rfl ?_
  refine ev_iload_n (p' := 2) i_84_1 rfl rfl ?_
  refine ev_v1I (p' := 5) i_84_2 rfl cl_11_158_11 (by decide) is_1 (Nat.le_of_ble_eq_true rfl) (s_noPiece _ hw hn _) ?_
  refine ev_if_eq (p' := 8) (tg := 13) i_84_5 rfl rfl (fun c5 => ?_) (fun c5 => ?_)
  · replace c5 := B0 c5
    exact absurd (ni c5) hb
  · replace c5 := B1 c5
    refine ev_aload_n (p' := 9) i_84_8 rfl rfl ?_
    refine ev_v0I (p' := 12) i_84_9 rfl cl_11_93_11 (by decide) is_1 (Nat.le_of_ble_eq_true rfl) (s_bad _) ?_
    exact ev_iretI i_84_12 rfl (EC.mk rfl hw (hc.bad hw))
theorem R_first_bad (L d : Nat) (A : AV) (hA : okA A) (x : Int32) (hb : ¬ (0 ≤ x ∧ x ≤ nI A.1.1.1 - 1)) : Rst L (d + 24) 184 [.int x] A (.int (-2)) (badA A) := by
  refine R_of (q := q_184) rfl (Nat.le_of_ble_eq_true rfl) rfl (fun π mi ml mr hw hc => ?_)
  have hn := hc.hn
  have h7 := hA.n7
  refine ev_aload_n (p' := 1) i_184_0 rfl rfl ?_
  refine ev_iload_n (p' := 2) i_184_1 rfl rfl ?_
  refine ev_v1I (p' := 5) i_184_2 rfl cl_12_240_12 (by decide) is_285 (Nat.le_of_ble_eq_true rfl) (s_isPiece (π := π) _ hn _) ?_
  refine ev_if_ne (p' := 8) (tg := 13) i_184_5 rfl rfl (fun c5 => ?_) (fun c5 => ?_)
  · replace c5 := B1 c5
    exact absurd (c5) hb
  · replace c5 := B0n c5
    refine ev_aload_n (p' := 9) i_184_8 rfl rfl ?_
    refine ev_v0I (p' := 12) i_184_9 rfl cl_12_119_12 (by decide) is_285 (Nat.le_of_ble_eq_true rfl) (s_mbad _ hw) ?_
    exact ev_iretI i_184_12 rfl (ER.mk rfl (hc.bad h7))
theorem C_first (L d : Nat) (A : AV) (hA : okA A) {i : Nat} (hi : i < A.1.1.1) : Cst L (d + 24) 84 [.int (nI i)] A (.int (scan (SE A.1.1 i) 13 0)) (A) := by
  refine C_of (q := q_84) rfl (Nat.le_of_ble_eq_true rfl) rfl (fun π mi ml mr hw hc => ?_)
  have hn := hc.hn
  have h7 := hA.n7
  refine ev_aload_n (p' := 1) i_84_0 rfl rfl ?_
  refine ev_iload_n (p' := 2) i_84_1 rfl rfl ?_
  refine ev_v1I (p' := 5) i_84_2 rfl cl_11_158_11 (by decide) is_1 (Nat.le_of_ble_eq_true rfl) (s_noPiece _ hw hn _) ?_
  refine ev_if_eq (p' := 8) (tg := 13) i_84_5 rfl rfl (fun c5 => ?_) (fun c5 => absurd (B_f (nj (inn hi h7))) c5)
  refine ev_aload_n (p' := 14) i_84_13 rfl rfl ?_
  refine ev_iload_n (p' := 15) i_84_14 rfl rfl ?_
  obtain ⟨mi1, e1, hc1⟩ := s_show (L := L) (d + 16) hw hc hA i
  refine ev_v1I (p' := 18) i_84_15 rfl cl_11_220_11 (by decide) is_1 (Nat.le_of_ble_eq_true rfl) (e1) ?_
  refine ev_istore_n (p' := 19) (ls' := [_, _, _, _]) i_84_18 rfl rfl (by decide) rfl ?_
  refine ev_iconst (p' := 20) (v := nI 0) i_84_19 rfl (by decide) ?_
  refine ev_istore_n (p' := 21) (ls' := [_, _, _, _]) i_84_20 rfl rfl (by decide) rfl ?_
  exact l_first hw hA trivial 13 0 mi1 (by decide) hc1 (fun mi h => EC.mk rfl hw h)
theorem R_first (L d : Nat) (A : AV) (hA : okA A) {i : Nat} (hi : i < A.1.1.1) : Rst L (d + 24) 184 [.int (nI i)] A (.int (scan (SE A.1.1 i) 13 0)) (A) := by
  refine R_of (q := q_184) rfl (Nat.le_of_ble_eq_true rfl) rfl (fun π mi ml mr hw hc => ?_)
  have hn := hc.hn
  have h7 := hA.n7
  refine ev_aload_n (p' := 1) i_184_0 rfl rfl ?_
  refine ev_iload_n (p' := 2) i_184_1 rfl rfl ?_
  refine ev_v1I (p' := 5) i_184_2 rfl cl_12_240_12 (by decide) is_285 (Nat.le_of_ble_eq_true rfl) (s_isPiece (π := π) _ hn _) ?_
  refine ev_if_ne (p' := 8) (tg := 13) i_184_5 rfl rfl (fun c5 => ?_) (fun c5 => absurd (B_tn (inn hi h7)) c5)
  refine ev_iconst (p' := 14) (v := nI 0) i_184_13 rfl (by decide) ?_
  refine ev_istore_n (p' := 15) (ls' := [_, _, _]) i_184_14 rfl rfl (by decide) rfl ?_
  exact l_mfirst hw hA trivial 13 0 mi (by decide) hc (fun mi h => ER.mk rfl h)
theorem Q_first (L : Nat) (A : AV) (hA : okA A) (x : Int32) : SameI L 84 184 [.int x] A := by
  by_cases h : 0 ≤ x ∧ x ≤ nI A.1.1.1 - 1
  · obtain ⟨i, hi, rfl⟩ := ofn hA.n7 h
    exact ⟨_, A, hA, fun d => C_first L d A hA hi, fun d => R_first L d A hA hi⟩
  · exact ⟨_, badA A, hA.bad, fun d => C_first_bad L d A hA x h, fun d => R_first_bad L d A hA x h⟩
noncomputable def bestC (n : Nat → Int32) (m : Nat) : Int32 × Int32 := fold (fun o p => if p.2 < n o then (nI o, n o) else p) m (0, 0)
noncomputable def bestR (n : Nat → Int32) (m : Nat) : Int32 × Int32 := fold (fun o p => (if p.2 < n o then nI o else p.1, if n o < p.2 then p.2 else n o)) m (0, -1)
theorem best_step {n : Nat → Int32} {o : Nat} (p : Int32 × Int32) : (if p.2 < n o then (nI o, n o) else p) = ((if p.2 < n o then nI o else p.1, if n o < p.2 then p.2 else n o) : Int32 × Int32) := by
  by_cases h : p.2 < n o
  · rw [if_pos h, if_pos h, if_neg (fun z => absurd (Int32.lt_trans h z) Int32.lt_irrefl)]
  · rw [if_neg h, if_neg h]
    by_cases h2 : n o < p.2
    · rw [if_pos h2]
    · rw [if_neg h2, Int32.le_antisymm (Int32.not_lt.mp h) (Int32.not_lt.mp h2)]
theorem best_eq {n : Nat → Int32} (h0 : 0 ≤ n 0) : ∀ m, bestC n (m + 1) = bestR n (m + 1) := by
  intro m
  induction m with
  | zero =>
    show (if (0 : Int32) < n 0 then (nI 0, n 0) else (0, 0)) = ((if (-1 : Int32) < n 0 then nI 0 else 0, if n 0 < (-1 : Int32) then -1 else n 0) : Int32 × Int32)
    have h1 : (-1 : Int32) < n 0 := Int32.lt_of_lt_of_le (by decide) h0
    rw [if_pos h1, if_neg (fun z => absurd (Int32.lt_trans h1 z) Int32.lt_irrefl)]
    by_cases h : 0 < n 0
    · rw [if_pos h]
    · rw [if_neg h, Int32.le_antisymm (Int32.not_lt.mp h) h0]; rfl
  | succ m ih =>
    have e1 : bestC n (m + 1 + 1) = (if (bestC n (m + 1)).2 < n (m + 1) then (nI (m + 1), n (m + 1)) else bestC n (m + 1)) := rfl
    rw [e1, ih]
    exact best_step _
theorem VS_nat (v : PV) (o h : Int32) (h7 : v.1 ≤ 7) : ∃ s, s < 2 ^ v.1 ∧ VS v o h = nI s := vis_nat _ _ _ _ _ h7
theorem VS_lt (v : PV) (o h : Int32) (h7 : v.1 ≤ 7) : ∃ s, s < 128 ∧ VS v o h = nI s := by
  obtain ⟨s, h1, h2⟩ := VS_nat v o h h7
  exact ⟨s, Nat.lt_of_lt_of_le h1 (Nat.pow_le_pow_right (by decide) h7), h2⟩
theorem bc_ok : ∀ s, s < 128 → ∃ c, c < 8 ∧ bcnt (nI s) = nI c := by decide +kernel
noncomputable def NV (v : PV) (o : Int32) : Int32 := bcnt (VS v o 0)
theorem NV_nat (v : PV) (o : Int32) (h7 : v.1 ≤ 7) : ∃ c, c < 8 ∧ NV v o = nI c := by
  obtain ⟨s, h1, h2⟩ := VS_lt v o 0 h7
  unfold NV
  rw [h2]
  exact bc_ok s h1
theorem NV_0 (v : PV) (o : Int32) (h7 : v.1 ≤ 7) : 0 ≤ NV v o := by
  obtain ⟨c, h1, h2⟩ := NV_nat v o h7
  rw [h2]
  exact nI_pos' (by omega)
theorem VS_bits {v : PV} {o h : Int32} (h7 : v.1 ≤ 7) : mbits (VS v o h) 13 = bcnt (VS v o h) := vis_bits h7
theorem l_best {L : Nat} {π : Nat → Nat → Nat} {ml : Nat → Nat → Int64} {mr : Nat → Nat → Option Nat} {d : Nat} {E : Option Value → pm_M → Prop} (hw : WR π mr) {A : AV} (hA : okA A) {x : Int32} (hE : ∀ mi, CR π mi ml A → E (some (.int (if x = 0 then (bestC (fun o => NV A.1.1 (nI o)) 13).1 else (bestC (fun o => NV A.1.1 (nI o)) 13).2))) (WW L, mi, ml, mr)) : ∀ (k i : Nat) (mi : Nat → Nat → Int32) (x5 : Option Value), i + k = 13 → CR π mi ml A → Ev gC (pm_ev gC (d + 7)) E q_85 21 [some (.ref 1), some (.int x), some (.int (bestC (fun o => NV A.1.1 (nI o)) i).1), some (.int (bestC (fun o => NV A.1.1 (nI o)) i).2), some (.int (nI i)), x5] [] (WW L, mi, ml, mr) := by
  intro k
  induction k with
  | zero =>
    intro i mi x5 hi hc
    have hi : i = 13 := by omega
    subst hi
    have h7 := hA.n7
    have hn := hc.hn
    refine ev_iload (p' := 23) i_85_21 rfl rfl ?_
    refine ev_bipush (p' := 25) (v := 12) i_85_23 rfl (by decide) ?_
    refine ev_icmp_gt (p' := 28) (tg := 60) i_85_25 rfl rfl (fun c25 => ?_) (fun c25 => absurd (by decide) c25)
    refine ev_iload_n (p' := 61) i_85_60 rfl rfl ?_
    refine ev_if_ne (p' := 64) (tg := 68) i_85_61 rfl rfl (fun c61 => ?_) (fun c61 => ?_)
    · refine ev_iload_n (p' := 69) i_85_68 rfl rfl ?_
      exact ev_iretI i_85_69 rfl (by have z := hE mi hc; rw [if_neg c61] at z; exact z)
    · refine ev_iload_n (p' := 65) i_85_64 rfl rfl ?_
      refine ev_goto (tg := 69) i_85_65 rfl ?_
      exact ev_iretI i_85_69 rfl (by have z := hE mi hc; rw [if_pos (Classical.not_not.mp c61)] at z; exact z)
  | succ k ih =>
    intro i mi x5 hi hc
    have h7 := hA.n7
    have hn := hc.hn
    refine ev_iload (p' := 23) i_85_21 rfl rfl ?_
    refine ev_bipush (p' := 25) (v := 12) i_85_23 rfl (by decide) ?_
    refine ev_icmp_gt (p' := 28) (tg := 60) i_85_25 rfl rfl (fun c25 => absurd c25 (Int32.not_lt.mpr (nI_le (b := 12) (by omega) (by decide)))) (fun c25 => ?_)
    refine ev_aload_n (p' := 29) i_85_28 rfl rfl ?_
    refine ev_getr (p' := 32) i_85_29 rfl fl_11_78 rfl is_1 (rf_1_0 hw) ?_
    refine ev_getr (p' := 35) i_85_32 rfl fl_11_97 rfl (is_sp sp_17) (hw.page sp_17) ?_
    refine ev_iload (p' := 37) i_85_35 rfl rfl ?_
    refine ev_v1I (p' := 40) i_85_37 rfl cl_11_227_2 (by decide) (is_pg pg_33) (Nat.le_of_ble_eq_true rfl) (v_visMany _ hw pg_33 hc.pg hA.1.1 _) ?_
    refine ev_istore (p' := 42) (ls' := [_, _, _, _, _, _]) i_85_40 rfl rfl (by decide) rfl ?_
    refine ev_iload (p' := 44) i_85_42 rfl rfl ?_
    refine ev_iload_n (p' := 45) i_85_44 rfl rfl ?_
    refine ev_icmp_le (p' := 48) (tg := 54) i_85_45 rfl rfl (fun c45 => ?_) (fun c45 => ?_)
    · refine ev_iinc (p' := 57) (ls' := [_, _, _, _, _, _]) i_85_54 rfl rfl rfl (by decide) (nI_inc _) rfl ?_
      refine ev_goto (tg := 21) i_85_57 rfl ?_
      have e : bestC (fun o => NV A.1.1 (nI o)) (i + 1) = bestC (fun o => NV A.1.1 (nI o)) i := if_neg (Int32.not_lt.mpr c45)
      refine ev_cast (by rw [e]) rfl rfl (ih (i + 1) _ _ (by omega) (hc.hm hw pg_33))
    · refine ev_iload (p' := 50) i_85_48 rfl rfl ?_
      refine ev_istore_n (p' := 51) (ls' := [_, _, _, _, _, _]) i_85_50 rfl rfl (by decide) rfl ?_
      refine ev_iload (p' := 53) i_85_51 rfl rfl ?_
      refine ev_istore_n (p' := 54) (ls' := [_, _, _, _, _, _]) i_85_53 rfl rfl (by decide) rfl ?_
      refine ev_iinc (p' := 57) (ls' := [_, _, _, _, _, _]) i_85_54 rfl rfl rfl (by decide) (nI_inc _) rfl ?_
      refine ev_goto (tg := 21) i_85_57 rfl ?_
      have e : bestC (fun o => NV A.1.1 (nI o)) (i + 1) = (nI i, NV A.1.1 (nI i)) := if_pos (Int32.not_le.mp c45)
      refine ev_cast (by rw [e]; rfl) rfl rfl (ih (i + 1) _ _ (by omega) (hc.hm hw pg_33))
theorem l_mbest {L : Nat} {π : Nat → Nat → Nat} {ml : Nat → Nat → Int64} {mr : Nat → Nat → Option Nat} {d : Nat} {E : Option Value → pm_M → Prop} (hw : WR π mr) {A : AV} (hA : okA A) {x : Int32} (hE : ∀ mi, RR mi ml A → E (some (.int (if x = 0 then (bestR (fun o => NV A.1.1 (nI o)) 13).1 else (bestR (fun o => NV A.1.1 (nI o)) 13).2))) (WW L, mi, ml, mr)) : ∀ (k i : Nat) (mi : Nat → Nat → Int32) (x5 : Option Value), i + k = 13 → RR mi ml A → Ev gR (pm_ev gR (d + 7)) E q_185 21 [some (.ref 285), some (.int x), some (.int (bestR (fun o => NV A.1.1 (nI o)) i).1), some (.int (bestR (fun o => NV A.1.1 (nI o)) i).2), some (.int (nI i)), x5] [] (WW L, mi, ml, mr) := by
  intro k
  induction k with
  | zero =>
    intro i mi x5 hi hc
    have hi : i = 13 := by omega
    subst hi
    have h7 := hA.n7
    have hn := hc.hn
    refine ev_iload (p' := 23) i_185_21 rfl rfl ?_
    refine ev_bipush (p' := 25) (v := 12) i_185_23 rfl (by decide) ?_
    refine ev_icmp_gt (p' := 28) (tg := 65) i_185_25 rfl rfl (fun c25 => ?_) (fun c25 => absurd (by decide) c25)
    refine ev_iload_n (p' := 66) i_185_65 rfl rfl ?_
    refine ev_if_ne (p' := 69) (tg := 73) i_185_66 rfl rfl (fun c66 => ?_) (fun c66 => ?_)
    · refine ev_iload_n (p' := 74) i_185_73 rfl rfl ?_
      exact ev_iretI i_185_74 rfl (by have z := hE mi hc; rw [if_neg c66] at z; exact z)
    · refine ev_iload_n (p' := 70) i_185_69 rfl rfl ?_
      refine ev_goto (tg := 74) i_185_70 rfl ?_
      exact ev_iretI i_185_74 rfl (by have z := hE mi hc; rw [if_pos (Classical.not_not.mp c66)] at z; exact z)
  | succ k ih =>
    intro i mi x5 hi hc
    have h7 := hA.n7
    have hn := hc.hn
    refine ev_iload (p' := 23) i_185_21 rfl rfl ?_
    refine ev_bipush (p' := 25) (v := 12) i_185_23 rfl (by decide) ?_
    refine ev_icmp_gt (p' := 28) (tg := 65) i_185_25 rfl rfl (fun c25 => absurd c25 (Int32.not_lt.mpr (nI_le (b := 12) (by omega) (by decide)))) (fun c25 => ?_)
    refine ev_aload_n (p' := 29) i_185_28 rfl rfl ?_
    refine ev_iload (p' := 31) i_185_29 rfl rfl ?_
    refine ev_v1I (p' := 34) i_185_31 rfl cl_12_237_12 (by decide) is_285 (Nat.le_of_ble_eq_true rfl) (v_mSeen _ hw hc hA (by omega)) ?_
    refine ev_s1I (p' := 37) i_185_34 rfl cl_12_249_0 (by decide) (Nat.le_of_ble_eq_true rfl) (s_bits _ _) ?_
    refine ev_istore (p' := 39) (ls' := [_, _, _, _, _, _]) i_185_37 rfl rfl (by decide) rfl ?_
    refine ev_iload (p' := 41) i_185_39 rfl rfl ?_
    refine ev_iload_n (p' := 42) i_185_41 rfl rfl ?_
    refine ev_icmp_le (p' := 45) (tg := 50) i_185_42 rfl rfl (fun c42 => ?_) (fun c42 => ?_)
    · refine ev_iload_n (p' := 51) i_185_50 rfl rfl ?_
      refine ev_istore_n (p' := 52) (ls' := [_, _, _, _, _, _]) i_185_51 rfl rfl (by decide) rfl ?_
      refine ev_iload_n (p' := 53) i_185_52 rfl rfl ?_
      refine ev_iload (p' := 55) i_185_53 rfl rfl ?_
      refine ev_s2I (p' := 58) i_185_55 rfl cl_12_252_0 (by decide) (Nat.le_of_ble_eq_true rfl) (s_greater _ _ _) ?_
      refine ev_istore_n (p' := 59) (ls' := [_, _, _, _, _, _]) i_185_58 rfl rfl (by decide) rfl ?_
      refine ev_iinc (p' := 62) (ls' := [_, _, _, _, _, _]) i_185_59 rfl rfl rfl (by decide) (nI_inc _) rfl ?_
      refine ev_goto (tg := 21) i_185_62 rfl ?_
      have e : bestR (fun o => NV A.1.1 (nI o)) (i + 1) = ((bestR (fun o => NV A.1.1 (nI o)) i).1, if NV A.1.1 (nI i) < (bestR (fun o => NV A.1.1 (nI o)) i).2 then (bestR (fun o => NV A.1.1 (nI o)) i).2 else NV A.1.1 (nI i)) := congrArg (fun z => (z, _)) (if_neg (Int32.not_lt.mpr (by rw [VS_bits h7] at c42; exact c42)))
      refine ev_cast (by rw [e, VS_bits h7]; rfl) rfl rfl (ih (i + 1) _ _ (by omega) (hc.hr h7))
    · refine ev_iload (p' := 47) i_185_45 rfl rfl ?_
      refine ev_goto (tg := 51) i_185_47 rfl ?_
      refine ev_istore_n (p' := 52) (ls' := [_, _, _, _, _, _]) i_185_51 rfl rfl (by decide) rfl ?_
      refine ev_iload_n (p' := 53) i_185_52 rfl rfl ?_
      refine ev_iload (p' := 55) i_185_53 rfl rfl ?_
      refine ev_s2I (p' := 58) i_185_55 rfl cl_12_252_0 (by decide) (Nat.le_of_ble_eq_true rfl) (s_greater _ _ _) ?_
      refine ev_istore_n (p' := 59) (ls' := [_, _, _, _, _, _]) i_185_58 rfl rfl (by decide) rfl ?_
      refine ev_iinc (p' := 62) (ls' := [_, _, _, _, _, _]) i_185_59 rfl rfl rfl (by decide) (nI_inc _) rfl ?_
      refine ev_goto (tg := 21) i_185_62 rfl ?_
      have e : bestR (fun o => NV A.1.1 (nI o)) (i + 1) = (nI i, if NV A.1.1 (nI i) < (bestR (fun o => NV A.1.1 (nI o)) i).2 then (bestR (fun o => NV A.1.1 (nI o)) i).2 else NV A.1.1 (nI i)) := congrArg (fun z => (z, _)) (if_pos (by rw [VS_bits h7] at c42; exact Int32.not_le.mp c42))
      refine ev_cast (by rw [e, VS_bits h7]; rfl) rfl rfl (ih (i + 1) _ _ (by omega) (hc.hr h7))
theorem C_best_bad (L d : Nat) (A : AV) (hA : okA A) (x : Int32) (hb : ¬ (0 ≤ x ∧ x ≤ 1)) : Cst L (d + 24) 85 [.int x] A (.int (-2)) (badA A) := by
  refine C_of (q := q_85) rfl (Nat.le_of_ble_eq_true rfl) rfl (fun π mi ml mr hw hc => ?_)
  have hn := hc.hn
  have h7 := hA.n7
  refine ev_iload_n (p' := 1) i_85_0 rfl rfl ?_
  refine ev_iconst (p' := 2) (v := 0) i_85_1 rfl (by decide) ?_
  refine ev_iconst (p' := 3) (v := 1) i_85_2 rfl (by decide) ?_
  refine ev_s3I (p' := 6) i_85_3 rfl cl_11_89_0 (by decide) (Nat.le_of_ble_eq_true rfl) (s_outside _ _ _ _) ?_
  refine ev_if_eq (p' := 9) (tg := 14) i_85_6 rfl rfl (fun c6 => ?_) (fun c6 => ?_)
  · replace c6 := B0 c6
    exact absurd (ni c6) hb
  · replace c6 := B1 c6
    refine ev_aload_n (p' := 10) i_85_9 rfl rfl ?_
    refine ev_v0I (p' := 13) i_85_10 rfl cl_11_93_11 (by decide) is_1 (Nat.le_of_ble_eq_true rfl) (s_bad _) ?_
    exact ev_iretI i_85_13 rfl (EC.mk rfl hw (hc.bad hw))
theorem R_best_bad (L d : Nat) (A : AV) (hA : okA A) (x : Int32) (hb : ¬ (0 ≤ x ∧ x ≤ 1)) : Rst L (d + 24) 185 [.int x] A (.int (-2)) (badA A) := by
  refine R_of (q := q_185) rfl (Nat.le_of_ble_eq_true rfl) rfl (fun π mi ml mr hw hc => ?_)
  have hn := hc.hn
  have h7 := hA.n7
  refine ev_iload_n (p' := 1) i_185_0 rfl rfl ?_
  refine ev_iconst (p' := 2) (v := 0) i_185_1 rfl (by decide) ?_
  refine ev_iconst (p' := 3) (v := 1) i_185_2 rfl (by decide) ?_
  refine ev_s3I (p' := 6) i_185_3 rfl cl_12_115_0 (by decide) (Nat.le_of_ble_eq_true rfl) (s_in _ _ _ _) ?_
  refine ev_if_ne (p' := 9) (tg := 14) i_185_6 rfl rfl (fun c6 => ?_) (fun c6 => ?_)
  · replace c6 := B1 c6
    exact absurd (c6) hb
  · replace c6 := B0n c6
    refine ev_aload_n (p' := 10) i_185_9 rfl rfl ?_
    refine ev_v0I (p' := 13) i_185_10 rfl cl_12_119_12 (by decide) is_285 (Nat.le_of_ble_eq_true rfl) (s_mbad _ hw) ?_
    exact ev_iretI i_185_13 rfl (ER.mk rfl (hc.bad h7))
theorem C_best (L d : Nat) (A : AV) (hA : okA A) (x : Int32) (hx : 0 ≤ x ∧ x ≤ 1) : Cst L (d + 24) 85 [.int x] A (.int (if x = 0 then (bestC (fun o => NV A.1.1 (nI o)) 13).1 else (bestC (fun o => NV A.1.1 (nI o)) 13).2)) (A) := by
  refine C_of (q := q_85) rfl (Nat.le_of_ble_eq_true rfl) rfl (fun π mi ml mr hw hc => ?_)
  have hn := hc.hn
  have h7 := hA.n7
  refine ev_iload_n (p' := 1) i_85_0 rfl rfl ?_
  refine ev_iconst (p' := 2) (v := 0) i_85_1 rfl (by decide) ?_
  refine ev_iconst (p' := 3) (v := 1) i_85_2 rfl (by decide) ?_
  refine ev_s3I (p' := 6) i_85_3 rfl cl_11_89_0 (by decide) (Nat.le_of_ble_eq_true rfl) (s_outside _ _ _ _) ?_
  refine ev_if_eq (p' := 9) (tg := 14) i_85_6 rfl rfl (fun c6 => ?_) (fun c6 => absurd (B_f (nj hx)) c6)
  refine ev_iconst (p' := 15) (v := 0) i_85_14 rfl (by decide) ?_
  refine ev_istore_n (p' := 16) (ls' := [_, _, _, _, _, _]) i_85_15 rfl rfl (by decide) rfl ?_
  refine ev_iconst (p' := 17) (v := 0) i_85_16 rfl (by decide) ?_
  refine ev_istore_n (p' := 18) (ls' := [_, _, _, _, _, _]) i_85_17 rfl rfl (by decide) rfl ?_
  refine ev_iconst (p' := 19) (v := nI 0) i_85_18 rfl (by decide) ?_
  refine ev_istore (p' := 21) (ls' := [_, _, _, _, _, _]) i_85_19 rfl rfl (by decide) rfl ?_
  exact l_best hw hA (fun mi h => EC.mk rfl hw h) 13 0 mi _ (by decide) hc
theorem R_best (L d : Nat) (A : AV) (hA : okA A) (x : Int32) (hx : 0 ≤ x ∧ x ≤ 1) : Rst L (d + 24) 185 [.int x] A (.int (if x = 0 then (bestC (fun o => NV A.1.1 (nI o)) 13).1 else (bestC (fun o => NV A.1.1 (nI o)) 13).2)) (A) := by
  refine R_of (q := q_185) rfl (Nat.le_of_ble_eq_true rfl) rfl (fun π mi ml mr hw hc => ?_)
  have hn := hc.hn
  have h7 := hA.n7
  refine ev_iload_n (p' := 1) i_185_0 rfl rfl ?_
  refine ev_iconst (p' := 2) (v := 0) i_185_1 rfl (by decide) ?_
  refine ev_iconst (p' := 3) (v := 1) i_185_2 rfl (by decide) ?_
  refine ev_s3I (p' := 6) i_185_3 rfl cl_12_115_0 (by decide) (Nat.le_of_ble_eq_true rfl) (s_in _ _ _ _) ?_
  refine ev_if_ne (p' := 9) (tg := 14) i_185_6 rfl rfl (fun c6 => ?_) (fun c6 => absurd (B_tn hx) c6)
  refine ev_iconst (p' := 15) (v := 0) i_185_14 rfl (by decide) ?_
  refine ev_istore_n (p' := 16) (ls' := [_, _, _, _, _, _]) i_185_15 rfl rfl (by decide) rfl ?_
  refine ev_iconst (p' := 17) (v := -1) i_185_16 rfl (by decide) ?_
  refine ev_istore_n (p' := 18) (ls' := [_, _, _, _, _, _]) i_185_17 rfl rfl (by decide) rfl ?_
  refine ev_iconst (p' := 19) (v := nI 0) i_185_18 rfl (by decide) ?_
  refine ev_istore (p' := 21) (ls' := [_, _, _, _, _, _]) i_185_19 rfl rfl (by decide) rfl ?_
  exact l_mbest hw hA (fun mi h => ER.mk (by rw [best_eq (NV_0 _ _ h7) 12]) h) 13 0 mi _ (by decide) hc
theorem Q_best (L : Nat) (A : AV) (hA : okA A) (x : Int32) : SameI L 85 185 [.int x] A := by
  by_cases h : 0 ≤ x ∧ x ≤ 1
  · exact ⟨_, A, hA, fun d => C_best L d A hA x h, fun d => R_best L d A hA x h⟩
  · exact ⟨_, badA A, hA.bad, fun d => C_best_bad L d A hA x h, fun d => R_best_bad L d A hA x h⟩
def WO (v : PV) (t : Nat) : Prop := ∃ j, j < v.1 ∧ fx v.2.2.2 7 j ≤ fx v.2.2.2 6 j + nI (24 * t)
theorem WO_c {π : Nat → Nat → Nat} {mi : Nat → Nat → Int32} {ml : Nat → Nat → Int64} {A : AV} {t : Nat} (hc : CR π mi ml A) : (∃ j, j < A.1.1.1 ∧ mi (33 + 3 + j) 7 ≤ mi (33 + 3 + j) 6 + nI (24 * t)) ↔ WO A.1.1 t := by
  unfold WO
  constructor
  · rintro ⟨j, h1, h2⟩; rw [hc.f h1 (by decide), hc.f h1 (by decide)] at h2; exact ⟨j, h1, h2⟩
  · rintro ⟨j, h1, h2⟩; rw [← hc.f h1 (by decide), ← hc.f h1 (by decide)] at h2; exact ⟨j, h1, h2⟩
theorem l_lasts {L : Nat} {π : Nat → Nat → Nat} {ml : Nat → Nat → Int64} {mr : Nat → Nat → Option Nat} {d : Nat} {E : Option Value → pm_M → Prop} (hw : WR π mr) {A : AV} (hA : okA A)  (hE : True) : ∀ (k i : Nat) (mi : Nat → Nat → Int32), i + k = 100 → CR π mi ml A → (∀ mi, CR π mi ml A → E (some (.int (scan (WO A.1.1) k i))) (WW L, mi, ml, mr)) → Ev gC (pm_ev gC (d + 6)) E q_89 2 [some (.ref 1), some (.int (nI i))] [] (WW L, mi, ml, mr) := by
  intro k
  induction k with
  | zero =>
    intro i mi hi hc hx
    have hi : i = 100 := by omega
    subst hi
    have h7 := hA.n7
    have hn := hc.hn
    refine ev_iload_n (p' := 3) i_89_2 rfl rfl ?_
    refine ev_bipush (p' := 5) (v := 99) i_89_3 rfl (by decide) ?_
    refine ev_icmp_gt (p' := 8) (tg := 33) i_89_5 rfl rfl (fun c5 => ?_) (fun c5 => absurd (by decide) c5)
    refine ev_iconst (p' := 34) (v := -1) i_89_33 rfl (by decide) ?_
    exact ev_iretI i_89_34 rfl (hx _ hc)
  | succ k ih =>
    intro i mi hi hc hx
    have h7 := hA.n7
    have hn := hc.hn
    refine ev_iload_n (p' := 3) i_89_2 rfl rfl ?_
    refine ev_bipush (p' := 5) (v := 99) i_89_3 rfl (by decide) ?_
    refine ev_icmp_gt (p' := 8) (tg := 33) i_89_5 rfl rfl (fun c5 => absurd c5 (Int32.not_lt.mpr (nI_le (b := 99) (by omega) (by decide)))) (fun c5 => ?_)
    refine ev_aload_n (p' := 9) i_89_8 rfl rfl ?_
    refine ev_getr (p' := 12) i_89_9 rfl fl_11_78 rfl is_1 (rf_1_0 hw) ?_
    refine ev_getr (p' := 15) i_89_12 rfl fl_11_97 rfl (is_sp sp_17) (hw.page sp_17) ?_
    refine ev_bipush (p' := 17) (v := nI 24) i_89_15 rfl (by decide) ?_
    refine ev_iload_n (p' := 18) i_89_17 rfl rfl ?_
    refine ev_imulN (p' := 19) i_89_18 rfl ?_
    refine ev_v1I (p' := 22) i_89_19 rfl cl_11_258_2 (by decide) (is_pg pg_33) (Nat.le_of_ble_eq_true rfl) (s_sticks _ hw pg_33 hc.pg.1 hc.pg.2.1 _) ?_
    refine ev_if_eq (p' := 25) (tg := 27) i_89_22 rfl rfl (fun c22 => ?_) (fun c22 => ?_)
    · replace c22 := B0 c22
      refine ev_iinc (p' := 30) (ls' := [_, _]) i_89_27 rfl rfl rfl (by decide) (nI_inc _) rfl ?_
      refine ev_goto (tg := 2) i_89_30 rfl ?_
      rw [scan_f (fun z => c22 ((WO_c hc).mpr z))] at hx
      exact ih (i + 1) mi (by omega) hc hx
    · replace c22 := B1 c22
      refine ev_iload_n (p' := 26) i_89_25 rfl rfl ?_
      exact ev_iretI i_89_26 rfl (by rw [scan_t ((WO_c hc).mp c22)] at hx; exact hx _ hc)
theorem l_worn {L : Nat} {π : Nat → Nat → Nat} {mi : Nat → Nat → Int32} {ml : Nat → Nat → Int64} {mr : Nat → Nat → Option Nat} {d : Nat} {E : Option Value → pm_M → Prop} (hw : WR π mr) {n : Nat} (hn7 : n ≤ 7) (hn : mi 285 1 = nI n) (hok : ∀ i, i < n → okp (RFv mi) i) {y : Int32} (hE : E (some (.int (B (∃ j, j < n ∧ rf mi 7 j ≤ rf mi 6 j + y)))) (WW L, mi, ml, mr)) : ∀ k i, i + k = n → Ev gR (pm_ev gR (d + 1)) E q_195 4 [some (.ref 285), some (.int y), some (.int (B (∃ j, j < i ∧ rf mi 7 j ≤ rf mi 6 j + y))), some (.int (nI i))] [] (WW L, mi, ml, mr) := by
  intro k
  induction k with
  | zero =>
    intro i hi
    have hi : i = n := by omega
    subst hi
    refine ev_iload_n (p' := 5) i_195_4 rfl rfl ?_
    refine ev_aload_n (p' := 6) i_195_5 rfl rfl ?_
    refine ev_geti (p' := 9) i_195_6 rfl fl_12_96 rfl is_285 ?_
    refine ev_icmp_ge (p' := 12) (tg := 48) i_195_9 rfl rfl (fun c9 => ?_) (fun c9 => absurd (by rw [hn]; exact nI_le (by omega) (by omega)) c9)
    refine ev_iload_n (p' := 49) i_195_48 rfl rfl ?_
    exact ev_iret i_195_49 rfl B_nar hE
  | succ k ih =>
    intro i hi
    refine ev_iload_n (p' := 5) i_195_4 rfl rfl ?_
    refine ev_aload_n (p' := 6) i_195_5 rfl rfl ?_
    refine ev_geti (p' := 9) i_195_6 rfl fl_12_96 rfl is_285 ?_
    refine ev_icmp_ge (p' := 12) (tg := 48) i_195_9 rfl rfl (fun c9 => absurd c9 (by rw [hn]; exact nI_ge (by omega) (by omega))) (fun c9 => ?_)
    obtain ⟨k9, hk6, hk⟩ := (hok i (by omega)).1
    replace hk : mi 287 i = nI k9 := hk
    refine ev_iload_n (p' := 13) i_195_12 rfl rfl ?_
    refine ev_if_ne (p' := 16) (tg := 36) i_195_13 rfl rfl (fun c13 => ?_) (fun c13 => ?_)
    · replace c13 := B1 c13
      refine ev_iconst (p' := 37) (v := 1) i_195_36 rfl (by decide) ?_
      refine ev_goto (tg := 41) i_195_37 rfl ?_
      refine ev_istore_n (p' := 42) (ls' := [_, _, _, _]) i_195_41 rfl rfl (by decide) rfl ?_
      refine ev_iinc (p' := 45) (ls' := [_, _, _, _]) i_195_42 rfl rfl rfl (by decide) (nI_inc _) rfl ?_
      refine ev_goto (tg := 4) i_195_45 rfl ?_
      rw [show (1 : Int32) = B (∃ j, j < i + 1 ∧ rf mi 7 j ≤ rf mi 6 j + y) from (B_t (by obtain ⟨j, h1, h2⟩ := c13; exact ⟨j, by omega, h2⟩)).symm]
      exact ih (i + 1) (by omega)
    · replace c13 := B0n c13
      refine ev_aload_n (p' := 17) i_195_16 rfl rfl ?_
      refine ev_getr (p' := 20) i_195_17 rfl fl_12_31 rfl is_285 (rf_285_12 hw) ?_
      refine ev_iload_n (p' := 21) i_195_20 rfl rfl ?_
      refine ev_ialdN (p' := 22) i_195_21 rfl is_293 len_293 (by omega) (by decide) ?_
      refine ev_iload_n (p' := 23) i_195_22 rfl rfl ?_
      refine ev_iadd (p' := 24) i_195_23 rfl ?_
      refine ev_aload_n (p' := 25) i_195_24 rfl rfl ?_
      refine ev_getr (p' := 28) i_195_25 rfl fl_12_13 rfl is_285 (rf_285_6 hw) ?_
      refine ev_iload_n (p' := 29) i_195_28 rfl rfl ?_
      refine ev_ialdN (p' := 30) i_195_29 rfl is_287 len_287 (by omega) (by decide) ?_
      rw [hk]
      refine ev_s1I (p' := 33) i_195_30 rfl cl_12_199_0 (by decide) (Nat.le_of_ble_eq_true rfl) (s_bearsBy _ hk6) ?_
      refine ev_icmp_lt (p' := 36) (tg := 40) i_195_33 rfl rfl (fun c33 => ?_) (fun c33 => ?_)
      · refine ev_iconst (p' := 41) (v := 0) i_195_40 rfl (by decide) ?_
        refine ev_istore_n (p' := 42) (ls' := [_, _, _, _]) i_195_41 rfl rfl (by decide) rfl ?_
        refine ev_iinc (p' := 45) (ls' := [_, _, _, _]) i_195_42 rfl rfl rfl (by decide) (nI_inc _) rfl ?_
        refine ev_goto (tg := 4) i_195_45 rfl ?_
        have hno : ¬ (∃ j, j < i + 1 ∧ rf mi 7 j ≤ rf mi 6 j + y) := fun ⟨j, h1, h2⟩ => by
          rcases Nat.lt_succ_iff_lt_or_eq.mp h1 with z | z
          · exact c13 ⟨j, z, h2⟩
          · subst z
            exact absurd c33 (Int32.not_lt.mpr (by rw [rf_k hk6 hk] at h2; exact h2))
        rw [show (0 : Int32) = B (∃ j, j < i + 1 ∧ rf mi 7 j ≤ rf mi 6 j + y) from (B_f hno).symm]
        exact ih (i + 1) (by omega)
      · refine ev_iconst (p' := 37) (v := 1) i_195_36 rfl (by decide) ?_
        refine ev_goto (tg := 41) i_195_37 rfl ?_
        refine ev_istore_n (p' := 42) (ls' := [_, _, _, _]) i_195_41 rfl rfl (by decide) rfl ?_
        refine ev_iinc (p' := 45) (ls' := [_, _, _, _]) i_195_42 rfl rfl rfl (by decide) (nI_inc _) rfl ?_
        refine ev_goto (tg := 4) i_195_45 rfl ?_
        rw [show (1 : Int32) = B (∃ j, j < i + 1 ∧ rf mi 7 j ≤ rf mi 6 j + y) from (B_t ⟨i, by omega, by rw [rf_k hk6 hk]; exact Int32.not_lt.mp c33⟩).symm]
        exact ih (i + 1) (by omega)
theorem s_worn {L : Nat} {π : Nat → Nat → Nat} {mi : Nat → Nat → Int32} {ml : Nat → Nat → Int64} {mr : Nat → Nat → Option Nat} (d : Nat) (hw : WR π mr) {n : Nat} (hn7 : n ≤ 7) (hn : mi 285 1 = nI n) (hok : ∀ i, i < n → okp (RFv mi) i) (y : Int32) : pm_ev gR (d + 2) 195 [.ref 285, .int y] (WW L, mi, ml, mr) (some (.int (B (∃ j, j < n ∧ rf mi 7 j ≤ rf mi 6 j + y)))) (WW L, mi, ml, mr) := by
  refine ev_enter (q := q_195) rfl (Nat.le_of_ble_eq_true rfl) rfl ?_
  refine ev_iconst (p' := 1) (v := 0) i_195_0 rfl (by decide) ?_
  refine ev_istore_n (p' := 2) (ls' := [_, _, _, _]) i_195_1 rfl rfl (by decide) rfl ?_
  refine ev_iconst (p' := 3) (v := nI 0) i_195_2 rfl (by decide) ?_
  refine ev_istore_n (p' := 4) (ls' := [_, _, _, _]) i_195_3 rfl rfl (by decide) rfl ?_
  refine ev_cast (by rw [B_f (fun ⟨j, h, _⟩ => absurd h (Nat.not_lt_zero j))]) rfl rfl (l_worn hw hn7 hn hok ⟨rfl, rfl⟩ n 0 (by omega))
theorem WO_r {mi : Nat → Nat → Int32} {ml : Nat → Nat → Int64} {A : AV} {t : Nat} (hc : RR mi ml A) : (∃ j, j < A.1.1.1 ∧ rf mi 7 j ≤ rf mi 6 j + nI (24 * t)) ↔ WO A.1.1 t := by
  unfold WO
  constructor
  · rintro ⟨j, h1, h2⟩; rw [hc.1.1.rfe j h1 7 (by decide), hc.1.1.rfe j h1 6 (by decide)] at h2; exact ⟨j, h1, h2⟩
  · rintro ⟨j, h1, h2⟩; rw [← hc.1.1.rfe j h1 7 (by decide), ← hc.1.1.rfe j h1 6 (by decide)] at h2; exact ⟨j, h1, h2⟩
theorem l_mlasts {L : Nat} {π : Nat → Nat → Nat} {ml : Nat → Nat → Int64} {mr : Nat → Nat → Option Nat} {d : Nat} {E : Option Value → pm_M → Prop} (hw : WR π mr) {A : AV} (hA : okA A)  (hE : True) : ∀ (k i : Nat) (mi : Nat → Nat → Int32), i + k = 100 → RR mi ml A → (∀ mi, RR mi ml A → E (some (.int (scan (WO A.1.1) k i))) (WW L, mi, ml, mr)) → Ev gR (pm_ev gR (d + 6)) E q_196 2 [some (.ref 285), some (.int (nI i))] [] (WW L, mi, ml, mr) := by
  intro k
  induction k with
  | zero =>
    intro i mi hi hc hx
    have hi : i = 100 := by omega
    subst hi
    have h7 := hA.n7
    have hn := hc.hn
    refine ev_iload_n (p' := 3) i_196_2 rfl rfl ?_
    refine ev_bipush (p' := 5) (v := 99) i_196_3 rfl (by decide) ?_
    refine ev_icmp_gt (p' := 8) (tg := 25) i_196_5 rfl rfl (fun c5 => ?_) (fun c5 => absurd (by decide) c5)
    refine ev_iload_n (p' := 26) i_196_25 rfl rfl ?_
    refine ev_bipush (p' := 28) (v := 99) i_196_26 rfl (by decide) ?_
    refine ev_icmp_gt (p' := 31) (tg := 35) i_196_28 rfl rfl (fun c28 => ?_) (fun c28 => absurd (by decide) c28)
    refine ev_iconst (p' := 36) (v := -1) i_196_35 rfl (by decide) ?_
    exact ev_iretI i_196_36 rfl (hx _ hc)
  | succ k ih =>
    intro i mi hi hc hx
    have h7 := hA.n7
    have hn := hc.hn
    refine ev_iload_n (p' := 3) i_196_2 rfl rfl ?_
    refine ev_bipush (p' := 5) (v := 99) i_196_3 rfl (by decide) ?_
    refine ev_icmp_gt (p' := 8) (tg := 25) i_196_5 rfl rfl (fun c5 => absurd c5 (Int32.not_lt.mpr (nI_le (b := 99) (by omega) (by decide)))) (fun c5 => ?_)
    refine ev_aload_n (p' := 9) i_196_8 rfl rfl ?_
    refine ev_bipush (p' := 11) (v := nI 24) i_196_9 rfl (by decide) ?_
    refine ev_iload_n (p' := 12) i_196_11 rfl rfl ?_
    refine ev_imulN (p' := 13) i_196_12 rfl ?_
    refine ev_v1I (p' := 16) i_196_13 rfl cl_12_284_12 (by decide) is_285 (Nat.le_of_ble_eq_true rfl) (s_worn _ hw h7 hn (hc.1.1.oke hA.1.1) _) ?_
    refine ev_if_ne (p' := 19) (tg := 25) i_196_16 rfl rfl (fun c16 => ?_) (fun c16 => ?_)
    · replace c16 := B1 c16
      refine ev_iload_n (p' := 26) i_196_25 rfl rfl ?_
      refine ev_bipush (p' := 28) (v := 99) i_196_26 rfl (by decide) ?_
      refine ev_icmp_gt (p' := 31) (tg := 35) i_196_28 rfl rfl (fun c28 => absurd c28 (Int32.not_lt.mpr (nI_le (b := 99) (by omega) (by decide)))) (fun c28 => ?_)
      refine ev_iload_n (p' := 32) i_196_31 rfl rfl ?_
      refine ev_goto (tg := 36) i_196_32 rfl ?_
      exact ev_iretI i_196_36 rfl (by rw [scan_t ((WO_r hc).mp c16)] at hx; exact hx _ hc)
    · replace c16 := B0n c16
      refine ev_iinc (p' := 22) (ls' := [_, _]) i_196_19 rfl rfl rfl (by decide) (nI_inc _) rfl ?_
      refine ev_goto (tg := 2) i_196_22 rfl ?_
      rw [scan_f (fun z => c16 ((WO_r hc).mpr z))] at hx
      exact ih (i + 1) mi (by omega) hc hx
theorem C_lasts (L d : Nat) (A : AV) (hA : okA A)  : Cst L (d + 24) 89 [] A (.int (scan (WO A.1.1) 100 0)) (A) := by
  refine C_of (q := q_89) rfl (Nat.le_of_ble_eq_true rfl) rfl (fun π mi ml mr hw hc => ?_)
  have hn := hc.hn
  have h7 := hA.n7
  refine ev_iconst (p' := 1) (v := nI 0) i_89_0 rfl (by decide) ?_
  refine ev_istore_n (p' := 2) (ls' := [_, _]) i_89_1 rfl rfl (by decide) rfl ?_
  exact l_lasts hw hA trivial 100 0 mi (by decide) hc (fun mi h => EC.mk rfl hw h)
theorem R_lasts (L d : Nat) (A : AV) (hA : okA A)  : Rst L (d + 24) 196 [] A (.int (scan (WO A.1.1) 100 0)) (A) := by
  refine R_of (q := q_196) rfl (Nat.le_of_ble_eq_true rfl) rfl (fun π mi ml mr hw hc => ?_)
  have hn := hc.hn
  have h7 := hA.n7
  refine ev_iconst (p' := 1) (v := nI 0) i_196_0 rfl (by decide) ?_
  refine ev_istore_n (p' := 2) (ls' := [_, _]) i_196_1 rfl rfl (by decide) rfl ?_
  exact l_mlasts hw hA trivial 100 0 mi (by decide) hc (fun mi h => ER.mk rfl h)
theorem Q_lasts (L : Nat) (A : AV) (hA : okA A) : SameI L 89 196 [] A := ⟨_, A, hA, fun d => C_lasts L d A hA, fun d => R_lasts L d A hA⟩
