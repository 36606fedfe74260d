/-! ===== read: words, books; the class ===== -/
theorem pmw_0 : pm_wd 0 = [98, 111, 111, 107] := by decide +kernel
theorem wd_0 {T : Nat → Int32} {n s : Nat} : (lE T n s = s + (pm_wd 0).length ∧ ∀ i, i < (pm_wd 0).length → T (s + i) = (pm_wd 0).getD i 0) ↔ wd T n s = nI 0 := by
  rw [pmw_0]
  unfold wd
  generalize lE T n s = m
  constructor
  · rintro ⟨hl, h⟩
    have hc : T s = 98 ∧ T (s + 1) = 111 ∧ T (s + 2) = 111 ∧ T (s + 3) = 107 := ⟨h 0 (by decide), h 1 (by decide), h 2 (by decide), h 3 (by decide)⟩
    replace hl : m = s + 4 := hl
    rw [if_neg (by omega), if_neg (by omega), if_pos hl, if_pos hc]
    rfl
  · intro h
    have hh : m = s + 4 ∧ (T s = 98 ∧ T (s + 1) = 111 ∧ T (s + 2) = 111 ∧ T (s + 3) = 107) := by
      repeat' split at h
      all_goals first | exact ⟨by assumption, by assumption⟩ | exact absurd h (by decide)
    refine ⟨hh.1, fun i hi => ?_⟩
    obtain ⟨-, h0, h1, h2, h3⟩ := hh
    replace hi : i < 4 := hi
    match i, hi with
    | 0, _ => exact h0
    | 1, _ => exact h1
    | 2, _ => exact h2
    | 3, _ => exact h3
theorem pmw_1 : pm_wd 1 = [112, 105, 101, 99, 101] := by decide +kernel
theorem wd_1 {T : Nat → Int32} {n s : Nat} : (lE T n s = s + (pm_wd 1).length ∧ ∀ i, i < (pm_wd 1).length → T (s + i) = (pm_wd 1).getD i 0) ↔ wd T n s = nI 1 := by
  rw [pmw_1]
  unfold wd
  generalize lE T n s = m
  constructor
  · rintro ⟨hl, h⟩
    have hc : T s = 112 ∧ T (s + 1) = 105 ∧ T (s + 2) = 101 ∧ T (s + 3) = 99 ∧ T (s + 4) = 101 := ⟨h 0 (by decide), h 1 (by decide), h 2 (by decide), h 3 (by decide), h 4 (by decide)⟩
    replace hl : m = s + 5 := hl
    rw [if_neg (by omega), if_pos hl, if_pos hc]
    rfl
  · intro h
    have hh : m = s + 5 ∧ (T s = 112 ∧ T (s + 1) = 105 ∧ T (s + 2) = 101 ∧ T (s + 3) = 99 ∧ T (s + 4) = 101) := by
      repeat' split at h
      all_goals first | exact ⟨by assumption, by assumption⟩ | exact absurd h (by decide)
    refine ⟨hh.1, fun i hi => ?_⟩
    obtain ⟨-, h0, h1, h2, h3, h4⟩ := hh
    replace hi : i < 5 := hi
    match i, hi with
    | 0, _ => exact h0
    | 1, _ => exact h1
    | 2, _ => exact h2
    | 3, _ => exact h3
    | 4, _ => exact h4
theorem pmw_2 : pm_wd 2 = [111, 110] := by decide +kernel
theorem wd_2 {T : Nat → Int32} {n s : Nat} : (lE T n s = s + (pm_wd 2).length ∧ ∀ i, i < (pm_wd 2).length → T (s + i) = (pm_wd 2).getD i 0) ↔ wd T n s = nI 2 := by
  rw [pmw_2]
  unfold wd
  generalize lE T n s = m
  constructor
  · rintro ⟨hl, h⟩
    have hc : T s = 111 ∧ T (s + 1) = 110 := ⟨h 0 (by decide), h 1 (by decide)⟩
    replace hl : m = s + 2 := hl
    rw [if_pos hl, if_pos hc]
    rfl
  · intro h
    have hh : m = s + 2 ∧ (T s = 111 ∧ T (s + 1) = 110) := by
      repeat' split at h
      all_goals first | exact ⟨by assumption, by assumption⟩ | exact absurd h (by decide)
    refine ⟨hh.1, fun i hi => ?_⟩
    obtain ⟨-, h0, h1⟩ := hh
    replace hi : i < 2 := hi
    match i, hi with
    | 0, _ => exact h0
    | 1, _ => exact h1
theorem pmw_3 : pm_wd 3 = [111, 112, 101, 110] := by decide +kernel
theorem wd_3 {T : Nat → Int32} {n s : Nat} : (lE T n s = s + (pm_wd 3).length ∧ ∀ i, i < (pm_wd 3).length → T (s + i) = (pm_wd 3).getD i 0) ↔ wd T n s = nI 3 := by
  rw [pmw_3]
  unfold wd
  generalize lE T n s = m
  constructor
  · rintro ⟨hl, h⟩
    have hc : T s = 111 ∧ T (s + 1) = 112 ∧ T (s + 2) = 101 ∧ T (s + 3) = 110 := ⟨h 0 (by decide), h 1 (by decide), h 2 (by decide), h 3 (by decide)⟩
    replace hl : m = s + 4 := hl
    rw [if_neg (by omega), if_neg (by omega), if_pos hl, if_neg (fun z => by have := hc.1.symm.trans z.1; exact absurd this (by decide)), if_pos hc]
    rfl
  · intro h
    have hh : m = s + 4 ∧ (T s = 111 ∧ T (s + 1) = 112 ∧ T (s + 2) = 101 ∧ T (s + 3) = 110) := by
      repeat' split at h
      all_goals first | exact ⟨by assumption, by assumption⟩ | exact absurd h (by decide)
    refine ⟨hh.1, fun i hi => ?_⟩
    obtain ⟨-, h0, h1, h2, h3⟩ := hh
    replace hi : i < 4 := hi
    match i, hi with
    | 0, _ => exact h0
    | 1, _ => exact h1
    | 2, _ => exact h2
    | 3, _ => exact h3
theorem pmw_4 : pm_wd 4 = [112, 117, 108, 108] := by decide +kernel
theorem wd_4 {T : Nat → Int32} {n s : Nat} : (lE T n s = s + (pm_wd 4).length ∧ ∀ i, i < (pm_wd 4).length → T (s + i) = (pm_wd 4).getD i 0) ↔ wd T n s = nI 4 := by
  rw [pmw_4]
  unfold wd
  generalize lE T n s = m
  constructor
  · rintro ⟨hl, h⟩
    have hc : T s = 112 ∧ T (s + 1) = 117 ∧ T (s + 2) = 108 ∧ T (s + 3) = 108 := ⟨h 0 (by decide), h 1 (by decide), h 2 (by decide), h 3 (by decide)⟩
    replace hl : m = s + 4 := hl
    rw [if_neg (by omega), if_neg (by omega), if_pos hl, if_neg (fun z => by have := hc.1.symm.trans z.1; exact absurd this (by decide)), if_neg (fun z => by have := hc.1.symm.trans z.1; exact absurd this (by decide)), if_pos hc]
    rfl
  · intro h
    have hh : m = s + 4 ∧ (T s = 112 ∧ T (s + 1) = 117 ∧ T (s + 2) = 108 ∧ T (s + 3) = 108) := by
      repeat' split at h
      all_goals first | exact ⟨by assumption, by assumption⟩ | exact absurd h (by decide)
    refine ⟨hh.1, fun i hi => ?_⟩
    obtain ⟨-, h0, h1, h2, h3⟩ := hh
    replace hi : i < 4 := hi
    match i, hi with
    | 0, _ => exact h0
    | 1, _ => exact h1
    | 2, _ => exact h2
    | 3, _ => exact h3
theorem wd_k {T : Nat → Int32} {n s k : Nat} (hk : k < 5) : (lE T n s = s + (pm_wd k).length ∧ ∀ i, i < (pm_wd k).length → T (s + i) = (pm_wd k).getD i 0) ↔ wd T n s = nI k := by
  match k, hk with
  | 0, _ => exact wd_0
  | 1, _ => exact wd_1
  | 2, _ => exact wd_2
  | 3, _ => exact wd_3
  | 4, _ => exact wd_4
theorem pmw_len {k : Nat} (hk : k < 5) : 1 ≤ (pm_wd k).length ∧ (pm_wd k).length ≤ 5 := by
  match k, hk with
  | 0, _ => rw [pmw_0]; decide
  | 1, _ => rw [pmw_1]; decide
  | 2, _ => rw [pmw_2]; decide
  | 3, _ => rw [pmw_3]; decide
  | 4, _ => rw [pmw_4]; decide
theorem lE_in {T : Nat → Int32} {n i j : Nat} (h : i ≤ n) (h1 : i ≤ j) (h2 : j < lE T n i) : pLe (T j) := by
  obtain ⟨-, -, h3, -⟩ := rE_all (p := pLe) (T := T) (n := n) (n - i) i (by omega)
  exact h3 j h1 h2
theorem TKN.let {mi : Nat → Nat → Int32} {T : Nat → Int32} {n e : Nat} (hK : TKN mi T n e) (he : e ≤ n) (h : skp T n e < lE T n (skp T n e)) : mi 4 2 = 1 ∧ mi 4 4 = nI (lE T n (skp T n e)) := by
  have hs := (skp_le (T := T) he).2
  have hl := (lE_le (T := T) hs).2
  have hp := lE_in hs (Nat.le_refl _) h
  rcases hK.2 with ⟨z, -⟩ | ⟨-, -, z1, z2⟩ | ⟨-, z, -⟩ | ⟨-, z, -⟩
  · omega
  · exact ⟨z1, z2⟩
  · exact absurd hp z
  · exact absurd hp z
theorem TKN.one {mi : Nat → Nat → Int32} {T : Nat → Int32} {n e : Nat} (hK : TKN mi T n e) (h : mi 4 2 = 1) : mi 4 4 = nI (lE T n (skp T n e)) := by
  rcases hK.2 with ⟨-, z⟩ | ⟨-, -, -, z⟩ | ⟨-, -, -, -, h5, h6⟩ | ⟨-, -, -, -, z⟩
  · rw [z] at h; exact absurd h (by decide)
  · exact z
  · by_cases hk : fE T n (skp T n e) ≤ skp T n e + 2
    · rw [(h5 hk).1] at h; exact absurd h (by decide)
    · rw [h6 (by omega)] at h; exact absurd h (by decide)
  · rw [z] at h
    split at h <;> exact absurd h (by decide)
theorem isw_iff {mi : Nat → Nat → Int32} {T : Nat → Int32} {n e k : Nat} (hB : TB mi T n) (he : e ≤ n) (hK : TKN mi T n e) (hk : k < 5) : (mi 4 2 = 1 ∧ mi 4 4 - mi 4 3 = nI (pm_wd k).length ∧ ∀ i, i < (pm_wd k).length → mi 5 (mi 4 3 + nI i).toNatClampNeg = (pm_wd k).getD i 0) ↔ wd T n (skp T n e) = nI k := by
  rw [← wd_k hk]
  have h150 := hB.1
  have hs := (skp_le (T := T) he).2
  have hl := lE_le (T := T) hs
  have hL := pmw_len hk
  have key : ∀ i, skp T n e + i < n → mi 5 (mi 4 3 + nI i).toNatClampNeg = T (skp T n e + i) := fun i hi => by
    rw [hK.1, nI_add, nI_clamp (by omega)]
    exact hB.2.2.1 _ hi
  constructor
  · rintro ⟨h1, h2, h3⟩
    rw [hK.one h1, hK.1, pk_sub hl.1] at h2
    have e2 := (nI_eq (by omega) (by omega)).mp h2
    exact ⟨by omega, fun i hi => by rw [← key i (by omega)]; exact h3 i hi⟩
  · rintro ⟨h1, h2⟩
    obtain ⟨g1, g2⟩ := hK.let he (by omega)
    refine ⟨g1, ?_, fun i hi => by rw [key i (by omega)]; exact h2 i hi⟩
    rw [g2, hK.1, pk_sub hl.1, h1, Nat.add_sub_cancel_left]
theorem s_isW {L : Nat} {π : Nat → Nat → Nat} {mi : Nat → Nat → Int32} {ml : Nat → Nat → Int64} {mr : Nat → Nat → Option Nat} (d : Nat) (hw : WR π mr) {T : Nat → Int32} {n e k : Nat} (hB : TB mi T n) (he : e ≤ n) (hK : TKN mi T n e) (hk : k < 5) : pm_ev gC (d + 8) 53 [.ref 4, .ref (1000000 + k)] (WW L, mi, ml, mr) (some (.int (B (wd T n (skp T n e) = nI k)))) (WW L, mi, ml, mr) := by
  refine Or.inl ⟨by omega, rfl, 4, 5, k, hk, rfl, is_4, rf_4_0 hw, is_5, ?_, rfl, ?_⟩
  · intro h1 h2 i hi
    replace h1 : mi 4 2 = 1 := h1
    replace h2 : mi 4 4 - mi 4 3 = nI (pm_wd k).length := h2
    have h150 := hB.1
    have hs := (skp_le (T := T) he).2
    have hl := lE_le (T := T) hs
    have hL := pmw_len hk
    rw [hK.one h1, hK.1, pk_sub hl.1] at h2
    have e2 := (nI_eq (by omega) (by omega)).mp h2
    show vp_in (mi 4 3 + nI i) (SH L 5).2
    rw [hK.1, nI_add, len_5]
    exact vp_in_nI (by omega) (by decide)
  · have hi := isw_iff hB he hK hk
    by_cases h : wd T n (skp T n e) = nI k
    · rw [B_t h]
      exact congrArg (fun z => some (Value.int z)) (if_pos (hi.mpr h)).symm
    · rw [B_f h]
      exact congrArg (fun z => some (Value.int z)) (if_neg (fun z => h (hi.mp z))).symm
theorem wd_len {T : Nat → Int32} {n s k : Nat} (hk : k < 5) (h : wd T n s = nI k) : lE T n s = s + (pm_wd k).length := ((wd_k hk).mpr h).1
theorem TKN.wd {mi : Nat → Nat → Int32} {T : Nat → Int32} {n e k : Nat} (hK : TKN mi T n e) (he : e ≤ n) (hk : k < 5) (h : wd T n (skp T n e) = nI k) : mi 4 4 = nI (lE T n (skp T n e)) := (hK.let he (by have := wd_len hk h; have := pmw_len hk; omega)).2
/-- an item at s, m pieces glued: where reading is behind it, the page -/
noncomputable def iS (T : Nat → Int32) (n m s : Nat) : Bool × Nat := if wd T n s = nI 1 ∧ m < 7 then enS T n (nmS T n 0 9 (nmS T n 1 9 (nmS T n 1 9 (nmS T n 0 5 ((true, lE T n s)))))) else if wd T n s = nI 2 ∧ m < 7 then enS T n (nmS T n (0) (nI m - 1) (nmS T n 0 9 (nmS T n 1 9 (nmS T n 1 9 (nmS T n 0 5 ((true, lE T n s))))))) else if wd T n s = nI 3 then enS T n (nmS T n 0 12 (true, lE T n s)) else if wd T n s = nI 4 then enS T n (nmS T n 0 3 (nmS T n 0 (nI m - 1) (true, lE T n s))) else (false, s)
noncomputable def iV (T : Nat → Int32) (n : Nat) (v : PV) (s : Nat) : PV := if wd T n s = nI 1 ∧ v.1 < 7 then glueV v (nmV T n 0 5 ((true, lE T n s))) (nmV T n 1 9 (nmS T n 0 5 ((true, lE T n s)))) (nmV T n 1 9 (nmS T n 1 9 (nmS T n 0 5 ((true, lE T n s))))) (nmV T n 0 9 (nmS T n 1 9 (nmS T n 1 9 (nmS T n 0 5 ((true, lE T n s)))))) (-1) else if wd T n s = nI 2 ∧ v.1 < 7 then glueV v (nmV T n 0 5 ((true, lE T n s))) (nmV T n 1 9 (nmS T n 0 5 ((true, lE T n s)))) (nmV T n 1 9 (nmS T n 1 9 (nmS T n 0 5 ((true, lE T n s))))) (nmV T n 0 9 (nmS T n 1 9 (nmS T n 1 9 (nmS T n 0 5 ((true, lE T n s)))))) (nmV T n (0) (nI v.1 - 1) (nmS T n 0 9 (nmS T n 1 9 (nmS T n 1 9 (nmS T n 0 5 ((true, lE T n s))))))) else if wd T n s = nI 3 then opV v (nmV T n 0 12 (true, lE T n s)) else if wd T n s = nI 4 then setV v 5 (nmV T n 0 (nI v.1 - 1) (true, lE T n s)).toNatClampNeg (nmV T n 0 3 (nmS T n 0 (nI v.1 - 1) (true, lE T n s))) else v
noncomputable def bk (T : Nat → Int32) (n : Nat) : Nat → (Bool × Nat) → PV → Nat → (Bool × Nat) × PV × Nat
  | 0, st, v, i => (st, v, i)
  | k + 1, st, v, i => if st.1 = true ∧ skp T n st.2 < n then bk T n k (iS T n v.1 (skp T n st.2)) (iV T n v (skp T n st.2)) (i + 1) else (st, v, i)
theorem bk_t {T : Nat → Int32} {n k e i : Nat} {v : PV} (h : skp T n e < n) : bk T n (k + 1) (true, e) v i = bk T n k (iS T n v.1 (skp T n e)) (iV T n v (skp T n e)) (i + 1) := if_pos ⟨rfl, h⟩
theorem bk_f {T : Nat → Int32} {n k e i : Nat} {v : PV} (h : ¬ skp T n e < n) : bk T n (k + 1) (true, e) v i = ((true, e), v, i) := if_neg (fun z => h z.2)
theorem bk_n {T : Nat → Int32} {n k e i : Nat} {v : PV} : bk T n k (false, e) v i = ((false, e), v, i) := by
  cases k with
  | zero => rfl
  | succ k => exact if_neg (fun z => absurd z.1 Bool.false_ne_true)
theorem bk_0 {T : Nat → Int32} {n i : Nat} {st : Bool × Nat} {v : PV} : bk T n 0 st v i = (st, v, i) := rfl
def RES (R : (Bool × Nat) × PV × Nat) : Int32 := if R.1.1 = true then nI R.2.2 else -10 - nI R.1.2
theorem RES_t {e i : Nat} {v : PV} : RES ((true, e), v, i) = nI i := if_pos rfl
theorem RES_f {e i : Nat} {v : PV} : RES ((false, e), v, i) = -10 - nI e := if_neg Bool.false_ne_true
theorem AF.trans {a b c : Nat → Nat → Int32} (h1 : AF a b) (h2 : AF b c) : AF a c := fun x z1 z2 => by rw [h2 x z1 z2, h1 x z1 z2]
theorem AF.u4 {a b : Nat → Nat → Int32} {j : Nat} {x : Int32} (h1 : AF a b) : AF a (pm_u b 4 j x) := fun y z1 z2 => by rw [pm_u_ne z1, h1 y z1 z2]
theorem l_tell {L : Nat} {π : Nat → Nat → Nat} {ml : Nat → Nat → Int64} {mr : Nat → Nat → Option Nat} {d : Nat} {E : Option Value → pm_M → Prop} (hw : WR π mr) {mi0 : Nat → Nat → Int32} {T : Nat → Int32} {n : Nat} : ∀ k st v i mi, TB mi T n → CS mi T n st → (st.1 = true → CPg mi 275 v) → AF mi0 mi → i + k < 1000 → (∀ mi, TB mi T n → CS mi T n (bk T n k st v i).1 → ((bk T n k st v i).1.1 = true → CPg mi 275 (bk T n k st v i).2.1) → AF mi0 mi → E (some (.int (RES (bk T n k st v i)))) (WW L, mi, ml, mr)) → Ev gC (pm_ev gC (d + 9)) E q_46 26 [some (.ref 4), some (.ref 275), some (.int (nI i)), some (.int (nI k))] [] (WW L, mi, ml, mr) := by
  intro k
  induction k with
  | zero =>
    intro st v i mi hB hS hP hA hik hE
    have h150 := hB.1
    obtain ⟨b, e⟩ := st
    have he : e ≤ n := hS.1
    cases b with
    | false =>
      have h6 : mi 4 6 = nI e := hS.2.2 rfl
      refine ev_iload_n (p' := 27) i_46_26 rfl rfl ?_
      refine ev_if_le (p' := 30) (tg := 146) i_46_27 rfl rfl (fun c27 => ?_) (fun c27 => absurd (by decide) c27)
      refine ev_aload_n (p' := 147) i_46_146 rfl rfl ?_
      refine ev_geti (p' := 150) i_46_147 rfl fl_7_31 rfl is_4 ?_
      rw [h6]
      refine ev_iconst (p' := 151) (v := -1) i_46_150 rfl (by decide) ?_
      refine ev_icmp_ne (p' := 154) (tg := 158) i_46_151 rfl rfl (fun c151 => ?_) (fun c151 => absurd (ne_m1 (by omega)) c151)
      refine ev_bipush (p' := 160) (v := -10) i_46_158 rfl (by decide) ?_
      refine ev_aload_n (p' := 161) i_46_160 rfl rfl ?_
      refine ev_geti (p' := 164) i_46_161 rfl fl_7_31 rfl is_4 ?_
      rw [h6]
      refine ev_isub (p' := 165) i_46_164 rfl ?_
      exact ev_iretI i_46_165 rfl (by have z := hE mi hB; rw [bk_n, RES_f] at z; exact z hS (fun y => absurd y Bool.false_ne_true) hA)
    | true =>
      have h6 : mi 4 6 = -1 := (hS.2.1 rfl).1
      refine ev_iload_n (p' := 27) i_46_26 rfl rfl ?_
      refine ev_if_le (p' := 30) (tg := 146) i_46_27 rfl rfl (fun c27 => ?_) (fun c27 => absurd (by decide) c27)
      refine ev_aload_n (p' := 147) i_46_146 rfl rfl ?_
      refine ev_geti (p' := 150) i_46_147 rfl fl_7_31 rfl is_4 ?_
      rw [h6]
      refine ev_iconst (p' := 151) (v := -1) i_46_150 rfl (by decide) ?_
      refine ev_icmp_ne (p' := 154) (tg := 158) i_46_151 rfl rfl (fun c151 => absurd c151 (fun z => z rfl)) (fun c151 => ?_)
      refine ev_iload_n (p' := 155) i_46_154 rfl rfl ?_
      refine ev_goto (tg := 165) i_46_155 rfl ?_
      exact ev_iretI i_46_165 rfl (by have z := hE mi hB; rw [bk_0, RES_t] at z; exact z hS (fun _ => hP rfl) hA)
  | succ k ih =>
    intro st v i mi hB hS hP hA hik hE
    have h150 := hB.1
    obtain ⟨b, e⟩ := st
    have he : e ≤ n := hS.1
    cases b with
    | false =>
      have h6 : mi 4 6 = nI e := hS.2.2 rfl
      refine ev_iload_n (p' := 27) i_46_26 rfl rfl ?_
      refine ev_if_le (p' := 30) (tg := 146) i_46_27 rfl rfl (fun c27 => absurd c27 (nI_nle (by omega) (by omega))) (fun c27 => ?_)
      refine ev_aload_n (p' := 31) i_46_30 rfl rfl ?_
      refine ev_geti (p' := 34) i_46_31 rfl fl_7_31 rfl is_4 ?_
      rw [h6]
      refine ev_iconst (p' := 35) (v := -1) i_46_34 rfl (by decide) ?_
      refine ev_icmp_ne (p' := 38) (tg := 146) i_46_35 rfl rfl (fun c35 => ?_) (fun c35 => absurd (ne_m1 (by omega)) c35)
      refine ev_aload_n (p' := 147) i_46_146 rfl rfl ?_
      refine ev_geti (p' := 150) i_46_147 rfl fl_7_31 rfl is_4 ?_
      rw [h6]
      refine ev_iconst (p' := 151) (v := -1) i_46_150 rfl (by decide) ?_
      refine ev_icmp_ne (p' := 154) (tg := 158) i_46_151 rfl rfl (fun c151 => ?_) (fun c151 => absurd (ne_m1 (by omega)) c151)
      refine ev_bipush (p' := 160) (v := -10) i_46_158 rfl (by decide) ?_
      refine ev_aload_n (p' := 161) i_46_160 rfl rfl ?_
      refine ev_geti (p' := 164) i_46_161 rfl fl_7_31 rfl is_4 ?_
      rw [h6]
      refine ev_isub (p' := 165) i_46_164 rfl ?_
      exact ev_iretI i_46_165 rfl (by have z := hE mi hB; rw [bk_n, RES_f] at z; exact z hS (fun y => absurd y Bool.false_ne_true) hA)
    | true =>
      have h6 : mi 4 6 = -1 := (hS.2.1 rfl).1
      have hK : TKN mi T n e := (hS.2.1 rfl).2
      have hsk := skp_le (T := T) he
      refine ev_iload_n (p' := 27) i_46_26 rfl rfl ?_
      refine ev_if_le (p' := 30) (tg := 146) i_46_27 rfl rfl (fun c27 => absurd c27 (nI_nle (by omega) (by omega))) (fun c27 => ?_)
      refine ev_aload_n (p' := 31) i_46_30 rfl rfl ?_
      refine ev_geti (p' := 34) i_46_31 rfl fl_7_31 rfl is_4 ?_
      rw [h6]
      refine ev_iconst (p' := 35) (v := -1) i_46_34 rfl (by decide) ?_
      refine ev_icmp_ne (p' := 38) (tg := 146) i_46_35 rfl rfl (fun c35 => absurd c35 (fun z => z rfl)) (fun c35 => ?_)
      refine ev_aload_n (p' := 39) i_46_38 rfl rfl ?_
      refine ev_geti (p' := 42) i_46_39 rfl fl_7_19 rfl is_4 ?_
      refine ev_if_eq (p' := 45) (tg := 146) i_46_42 rfl rfl (fun c42 => ?_) (fun c42 => ?_)
      · refine ev_aload_n (p' := 147) i_46_146 rfl rfl ?_
        refine ev_geti (p' := 150) i_46_147 rfl fl_7_31 rfl is_4 ?_
        rw [h6]
        refine ev_iconst (p' := 151) (v := -1) i_46_150 rfl (by decide) ?_
        refine ev_icmp_ne (p' := 154) (tg := 158) i_46_151 rfl rfl (fun c151 => absurd c151 (fun z => z rfl)) (fun c151 => ?_)
        refine ev_iload_n (p' := 155) i_46_154 rfl rfl ?_
        refine ev_goto (tg := 165) i_46_155 rfl ?_
        exact ev_iretI i_46_165 rfl (by have z := hE mi hB; rw [bk_f ((hK.ended he).mp c42), RES_t] at z; exact z hS (fun _ => hP rfl) hA)
      · have hsn : skp T n e < n := Classical.byContradiction (fun z => c42 ((hK.ended he).mpr z))
        have hp := hP rfl
        have hv7 := hp.1
        refine ev_aload_n (p' := 46) i_46_45 rfl rfl ?_
        refine ev_ldcs (p' := 48) (j := 1) i_46_46 rfl (by decide +kernel) ?_
        refine ev_v1I (p' := 51) i_46_48 rfl cl_7_43_7 (by decide) is_4 (Nat.le_of_ble_eq_true rfl) (s_isW _ hw (k := 1) hB he hK (by decide)) ?_
        refine ev_if_eq (p' := 54) (tg := 70) i_46_51 rfl rfl (fun c51 => ?_) (fun c51 => ?_)
        · replace c51 := B0 c51
          refine ev_aload_n (p' := 71) i_46_70 rfl rfl ?_
          refine ev_ldcs (p' := 73) (j := 2) i_46_71 rfl (by decide +kernel) ?_
          refine ev_v1I (p' := 76) i_46_73 rfl cl_7_43_7 (by decide) is_4 (Nat.le_of_ble_eq_true rfl) (s_isW _ hw (k := 2) hB he hK (by decide)) ?_
          refine ev_if_eq (p' := 79) (tg := 95) i_46_76 rfl rfl (fun c76 => ?_) (fun c76 => ?_)
          · replace c76 := B0 c76
            refine ev_aload_n (p' := 96) i_46_95 rfl rfl ?_
            refine ev_ldcs (p' := 98) (j := 3) i_46_96 rfl (by decide +kernel) ?_
            refine ev_v1I (p' := 101) i_46_98 rfl cl_7_43_7 (by decide) is_4 (Nat.le_of_ble_eq_true rfl) (s_isW _ hw (k := 3) hB he hK (by decide)) ?_
            refine ev_if_eq (p' := 104) (tg := 112) i_46_101 rfl rfl (fun c101 => ?_) (fun c101 => ?_)
            · replace c101 := B0 c101
              refine ev_aload_n (p' := 113) i_46_112 rfl rfl ?_
              refine ev_ldcs (p' := 115) (j := 4) i_46_113 rfl (by decide +kernel) ?_
              refine ev_v1I (p' := 118) i_46_115 rfl cl_7_43_7 (by decide) is_4 (Nat.le_of_ble_eq_true rfl) (s_isW _ hw (k := 4) hB he hK (by decide)) ?_
              refine ev_if_eq (p' := 121) (tg := 129) i_46_118 rfl rfl (fun c118 => ?_) (fun c118 => ?_)
              · replace c118 := B0 c118
                refine ev_aload_n (p' := 130) i_46_129 rfl rfl ?_
                refine ev_aload_n (p' := 131) i_46_130 rfl rfl ?_
                refine ev_geti (p' := 134) i_46_131 rfl fl_7_22 rfl is_4 ?_
                rw [hK.1]
                refine ev_puti (p' := 137) i_46_134 rfl fl_7_31 rfl is_4 (gc (by decide)) rfl ?_
                refine ev_iinc (p' := 140) (ls' := [_, _, _, _]) i_46_137 rfl rfl rfl (by decide) (nI_inc _) rfl ?_
                refine ev_iinc (p' := 143) (ls' := [_, _, _, _]) i_46_140 rfl rfl rfl (by decide) (nI_dec _) rfl ?_
                refine ev_goto (tg := 26) i_46_143 rfl ?_
                rw [bk_t hsn] at hE
                unfold iS iV at hE
                rw [if_neg (fun z => c51 z.1), if_neg (fun z => c76 z.1), if_neg c101, if_neg c118, if_neg (fun z => c51 z.1), if_neg (fun z => c76 z.1), if_neg c101, if_neg c118] at hE
                exact ih (false, skp T n e) v (i + 1) _ (hB.fr (pm_u_oth (by decide)) (pm_u_ne (by decide))) (CS.off hsk.2 pm_u_self) (fun z => absurd z Bool.false_ne_true) hA.u4 (by omega) hE
              · replace c118 := B1 c118
                refine ev_aload_n (p' := 122) i_46_121 rfl rfl ?_
                refine ev_aload_n (p' := 123) i_46_122 rfl rfl ?_
                obtain ⟨mi1, e1, a1, b1, c1, d1⟩ := s_tPull (L := L) (ml := ml) (d + 4) hw hB (lE_le (T := T) hsk.2).2 (hK.wd he (by decide) c118) h6 hp
                refine ev_v1V (p' := 126) i_46_123 rfl cl_7_66_7 (by decide) is_4 (Nat.le_of_ble_eq_true rfl) (e1) ?_
                refine ev_goto (tg := 137) i_46_126 rfl ?_
                refine ev_iinc (p' := 140) (ls' := [_, _, _, _]) i_46_137 rfl rfl rfl (by decide) (nI_inc _) rfl ?_
                refine ev_iinc (p' := 143) (ls' := [_, _, _, _]) i_46_140 rfl rfl rfl (by decide) (nI_dec _) rfl ?_
                refine ev_goto (tg := 26) i_46_143 rfl ?_
                rw [bk_t hsn] at hE
                unfold iS iV at hE
                rw [if_neg (fun z => c51 z.1), if_neg (fun z => c76 z.1), if_neg c101, if_pos c118, if_neg (fun z => c51 z.1), if_neg (fun z => c76 z.1), if_neg c101, if_pos c118] at hE
                exact ih _ _ (i + 1) mi1 b1 c1 d1 (hA.trans a1) (by omega) hE
            · replace c101 := B1 c101
              refine ev_aload_n (p' := 105) i_46_104 rfl rfl ?_
              refine ev_aload_n (p' := 106) i_46_105 rfl rfl ?_
              obtain ⟨mi1, e1, a1, b1, c1, d1⟩ := s_tOpen (L := L) (ml := ml) (d + 4) hw hB (lE_le (T := T) hsk.2).2 (hK.wd he (by decide) c101) h6 hp
              refine ev_v1V (p' := 109) i_46_106 rfl cl_7_61_7 (by decide) is_4 (Nat.le_of_ble_eq_true rfl) (e1) ?_
              refine ev_goto (tg := 137) i_46_109 rfl ?_
              refine ev_iinc (p' := 140) (ls' := [_, _, _, _]) i_46_137 rfl rfl rfl (by decide) (nI_inc _) rfl ?_
              refine ev_iinc (p' := 143) (ls' := [_, _, _, _]) i_46_140 rfl rfl rfl (by decide) (nI_dec _) rfl ?_
              refine ev_goto (tg := 26) i_46_143 rfl ?_
              rw [bk_t hsn] at hE
              unfold iS iV at hE
              rw [if_neg (fun z => c51 z.1), if_neg (fun z => c76 z.1), if_pos c101, if_neg (fun z => c51 z.1), if_neg (fun z => c76 z.1), if_pos c101] at hE
              exact ih _ _ (i + 1) mi1 b1 c1 d1 (hA.trans a1) (by omega) hE
          · replace c76 := B1 c76
            refine ev_aload_n (p' := 80) i_46_79 rfl rfl ?_
            refine ev_v0I (p' := 83) i_46_80 rfl cl_7_47_2 (by decide) (is_pg pg_275) (Nat.le_of_ble_eq_true rfl) (s_isFull (π := π) _ pg_275) ?_
            refine ev_if_ne (p' := 86) (tg := 95) i_46_83 rfl rfl (fun c83 => ?_) (fun c83 => ?_)
            · replace c83 := B1 c83
              refine ev_aload_n (p' := 96) i_46_95 rfl rfl ?_
              refine ev_ldcs (p' := 98) (j := 3) i_46_96 rfl (by decide +kernel) ?_
              refine ev_v1I (p' := 101) i_46_98 rfl cl_7_43_7 (by decide) is_4 (Nat.le_of_ble_eq_true rfl) (s_isW _ hw (k := 3) hB he hK (by decide)) ?_
              refine ev_if_eq (p' := 104) (tg := 112) i_46_101 rfl rfl (fun c101 => ?_) (fun c101 => ?_)
              · replace c101 := B0 c101
                refine ev_aload_n (p' := 113) i_46_112 rfl rfl ?_
                refine ev_ldcs (p' := 115) (j := 4) i_46_113 rfl (by decide +kernel) ?_
                refine ev_v1I (p' := 118) i_46_115 rfl cl_7_43_7 (by decide) is_4 (Nat.le_of_ble_eq_true rfl) (s_isW _ hw (k := 4) hB he hK (by decide)) ?_
                refine ev_if_eq (p' := 121) (tg := 129) i_46_118 rfl rfl (fun c118 => ?_) (fun c118 => ?_)
                · replace c118 := B0 c118
                  refine ev_aload_n (p' := 130) i_46_129 rfl rfl ?_
                  refine ev_aload_n (p' := 131) i_46_130 rfl rfl ?_
                  refine ev_geti (p' := 134) i_46_131 rfl fl_7_22 rfl is_4 ?_
                  rw [hK.1]
                  refine ev_puti (p' := 137) i_46_134 rfl fl_7_31 rfl is_4 (gc (by decide)) rfl ?_
                  refine ev_iinc (p' := 140) (ls' := [_, _, _, _]) i_46_137 rfl rfl rfl (by decide) (nI_inc _) rfl ?_
                  refine ev_iinc (p' := 143) (ls' := [_, _, _, _]) i_46_140 rfl rfl rfl (by decide) (nI_dec _) rfl ?_
                  refine ev_goto (tg := 26) i_46_143 rfl ?_
                  rw [bk_t hsn] at hE
                  unfold iS iV at hE
                  rw [if_neg (fun z => c51 z.1), if_neg (fun z => c83 (by rw [hp.2.1]; exact nI_lt (b := 7) z.2 (by decide))), if_neg c101, if_neg c118, if_neg (fun z => c51 z.1), if_neg (fun z => c83 (by rw [hp.2.1]; exact nI_lt (b := 7) z.2 (by decide))), if_neg c101, if_neg c118] at hE
                  exact ih (false, skp T n e) v (i + 1) _ (hB.fr (pm_u_oth (by decide)) (pm_u_ne (by decide))) (CS.off hsk.2 pm_u_self) (fun z => absurd z Bool.false_ne_true) hA.u4 (by omega) hE
                · replace c118 := B1 c118
                  refine ev_aload_n (p' := 122) i_46_121 rfl rfl ?_
                  refine ev_aload_n (p' := 123) i_46_122 rfl rfl ?_
                  obtain ⟨mi1, e1, a1, b1, c1, d1⟩ := s_tPull (L := L) (ml := ml) (d + 4) hw hB (lE_le (T := T) hsk.2).2 (hK.wd he (by decide) c118) h6 hp
                  refine ev_v1V (p' := 126) i_46_123 rfl cl_7_66_7 (by decide) is_4 (Nat.le_of_ble_eq_true rfl) (e1) ?_
                  refine ev_goto (tg := 137) i_46_126 rfl ?_
                  refine ev_iinc (p' := 140) (ls' := [_, _, _, _]) i_46_137 rfl rfl rfl (by decide) (nI_inc _) rfl ?_
                  refine ev_iinc (p' := 143) (ls' := [_, _, _, _]) i_46_140 rfl rfl rfl (by decide) (nI_dec _) rfl ?_
                  refine ev_goto (tg := 26) i_46_143 rfl ?_
                  rw [bk_t hsn] at hE
                  unfold iS iV at hE
                  rw [if_neg (fun z => c51 z.1), if_neg (fun z => c83 (by rw [hp.2.1]; exact nI_lt (b := 7) z.2 (by decide))), if_neg c101, if_pos c118, if_neg (fun z => c51 z.1), if_neg (fun z => c83 (by rw [hp.2.1]; exact nI_lt (b := 7) z.2 (by decide))), if_neg c101, if_pos c118] at hE
                  exact ih _ _ (i + 1) mi1 b1 c1 d1 (hA.trans a1) (by omega) hE
              · replace c101 := B1 c101
                refine ev_aload_n (p' := 105) i_46_104 rfl rfl ?_
                refine ev_aload_n (p' := 106) i_46_105 rfl rfl ?_
                obtain ⟨mi1, e1, a1, b1, c1, d1⟩ := s_tOpen (L := L) (ml := ml) (d + 4) hw hB (lE_le (T := T) hsk.2).2 (hK.wd he (by decide) c101) h6 hp
                refine ev_v1V (p' := 109) i_46_106 rfl cl_7_61_7 (by decide) is_4 (Nat.le_of_ble_eq_true rfl) (e1) ?_
                refine ev_goto (tg := 137) i_46_109 rfl ?_
                refine ev_iinc (p' := 140) (ls' := [_, _, _, _]) i_46_137 rfl rfl rfl (by decide) (nI_inc _) rfl ?_
                refine ev_iinc (p' := 143) (ls' := [_, _, _, _]) i_46_140 rfl rfl rfl (by decide) (nI_dec _) rfl ?_
                refine ev_goto (tg := 26) i_46_143 rfl ?_
                rw [bk_t hsn] at hE
                unfold iS iV at hE
                rw [if_neg (fun z => c51 z.1), if_neg (fun z => c83 (by rw [hp.2.1]; exact nI_lt (b := 7) z.2 (by decide))), if_pos c101, if_neg (fun z => c51 z.1), if_neg (fun z => c83 (by rw [hp.2.1]; exact nI_lt (b := 7) z.2 (by decide))), if_pos c101] at hE
                exact ih _ _ (i + 1) mi1 b1 c1 d1 (hA.trans a1) (by omega) hE
            · replace c83 := B0n c83
              refine ev_aload_n (p' := 87) i_46_86 rfl rfl ?_
              refine ev_aload_n (p' := 88) i_46_87 rfl rfl ?_
              refine ev_iconst (p' := 89) (v := 1) i_46_88 rfl (by decide) ?_
              have h7 : v.1 < 7 := (nI_ltI (b := 7) (by omega) (by decide)).mp (by rw [← hp.2.1]; exact Classical.not_not.mp c83)
              obtain ⟨mi1, e1, a1, b1, c1, d1⟩ := s_tPiece1 (L := L) (ml := ml) (d + 4) hw hB (lE_le (T := T) hsk.2).2 (hK.wd he (by decide) c76) h6 hp h7
              refine ev_v2V (p' := 92) i_46_89 rfl cl_7_53_7 (by decide) is_4 (Nat.le_of_ble_eq_true rfl) (e1) ?_
              refine ev_goto (tg := 137) i_46_92 rfl ?_
              refine ev_iinc (p' := 140) (ls' := [_, _, _, _]) i_46_137 rfl rfl rfl (by decide) (nI_inc _) rfl ?_
              refine ev_iinc (p' := 143) (ls' := [_, _, _, _]) i_46_140 rfl rfl rfl (by decide) (nI_dec _) rfl ?_
              refine ev_goto (tg := 26) i_46_143 rfl ?_
              rw [bk_t hsn] at hE
              unfold iS iV at hE
              rw [if_neg (fun z => c51 z.1), if_pos ⟨c76, h7⟩, if_neg (fun z => c51 z.1), if_pos ⟨c76, h7⟩] at hE
              exact ih _ _ (i + 1) mi1 b1 c1 d1 (hA.trans a1) (by omega) hE
        · replace c51 := B1 c51
          refine ev_aload_n (p' := 55) i_46_54 rfl rfl ?_
          refine ev_v0I (p' := 58) i_46_55 rfl cl_7_47_2 (by decide) (is_pg pg_275) (Nat.le_of_ble_eq_true rfl) (s_isFull (π := π) _ pg_275) ?_
          refine ev_if_ne (p' := 61) (tg := 70) i_46_58 rfl rfl (fun c58 => ?_) (fun c58 => ?_)
          · replace c58 := B1 c58
            refine ev_aload_n (p' := 71) i_46_70 rfl rfl ?_
            refine ev_ldcs (p' := 73) (j := 2) i_46_71 rfl (by decide +kernel) ?_
            refine ev_v1I (p' := 76) i_46_73 rfl cl_7_43_7 (by decide) is_4 (Nat.le_of_ble_eq_true rfl) (s_isW _ hw (k := 2) hB he hK (by decide)) ?_
            refine ev_if_eq (p' := 79) (tg := 95) i_46_76 rfl rfl (fun c76 => ?_) (fun c76 => ?_)
            · replace c76 := B0 c76
              refine ev_aload_n (p' := 96) i_46_95 rfl rfl ?_
              refine ev_ldcs (p' := 98) (j := 3) i_46_96 rfl (by decide +kernel) ?_
              refine ev_v1I (p' := 101) i_46_98 rfl cl_7_43_7 (by decide) is_4 (Nat.le_of_ble_eq_true rfl) (s_isW _ hw (k := 3) hB he hK (by decide)) ?_
              refine ev_if_eq (p' := 104) (tg := 112) i_46_101 rfl rfl (fun c101 => ?_) (fun c101 => ?_)
              · replace c101 := B0 c101
                refine ev_aload_n (p' := 113) i_46_112 rfl rfl ?_
                refine ev_ldcs (p' := 115) (j := 4) i_46_113 rfl (by decide +kernel) ?_
                refine ev_v1I (p' := 118) i_46_115 rfl cl_7_43_7 (by decide) is_4 (Nat.le_of_ble_eq_true rfl) (s_isW _ hw (k := 4) hB he hK (by decide)) ?_
                refine ev_if_eq (p' := 121) (tg := 129) i_46_118 rfl rfl (fun c118 => ?_) (fun c118 => ?_)
                · replace c118 := B0 c118
                  refine ev_aload_n (p' := 130) i_46_129 rfl rfl ?_
                  refine ev_aload_n (p' := 131) i_46_130 rfl rfl ?_
                  refine ev_geti (p' := 134) i_46_131 rfl fl_7_22 rfl is_4 ?_
                  rw [hK.1]
                  refine ev_puti (p' := 137) i_46_134 rfl fl_7_31 rfl is_4 (gc (by decide)) rfl ?_
                  refine ev_iinc (p' := 140) (ls' := [_, _, _, _]) i_46_137 rfl rfl rfl (by decide) (nI_inc _) rfl ?_
                  refine ev_iinc (p' := 143) (ls' := [_, _, _, _]) i_46_140 rfl rfl rfl (by decide) (nI_dec _) rfl ?_
                  refine ev_goto (tg := 26) i_46_143 rfl ?_
                  rw [bk_t hsn] at hE
                  unfold iS iV at hE
                  rw [if_neg (fun z => c58 (by rw [hp.2.1]; exact nI_lt (b := 7) z.2 (by decide))), if_neg (fun z => c76 z.1), if_neg c101, if_neg c118, if_neg (fun z => c58 (by rw [hp.2.1]; exact nI_lt (b := 7) z.2 (by decide))), if_neg (fun z => c76 z.1), if_neg c101, if_neg c118] at hE
                  exact ih (false, skp T n e) v (i + 1) _ (hB.fr (pm_u_oth (by decide)) (pm_u_ne (by decide))) (CS.off hsk.2 pm_u_self) (fun z => absurd z Bool.false_ne_true) hA.u4 (by omega) hE
                · replace c118 := B1 c118
                  refine ev_aload_n (p' := 122) i_46_121 rfl rfl ?_
                  refine ev_aload_n (p' := 123) i_46_122 rfl rfl ?_
                  obtain ⟨mi1, e1, a1, b1, c1, d1⟩ := s_tPull (L := L) (ml := ml) (d + 4) hw hB (lE_le (T := T) hsk.2).2 (hK.wd he (by decide) c118) h6 hp
                  refine ev_v1V (p' := 126) i_46_123 rfl cl_7_66_7 (by decide) is_4 (Nat.le_of_ble_eq_true rfl) (e1) ?_
                  refine ev_goto (tg := 137) i_46_126 rfl ?_
                  refine ev_iinc (p' := 140) (ls' := [_, _, _, _]) i_46_137 rfl rfl rfl (by decide) (nI_inc _) rfl ?_
                  refine ev_iinc (p' := 143) (ls' := [_, _, _, _]) i_46_140 rfl rfl rfl (by decide) (nI_dec _) rfl ?_
                  refine ev_goto (tg := 26) i_46_143 rfl ?_
                  rw [bk_t hsn] at hE
                  unfold iS iV at hE
                  rw [if_neg (fun z => c58 (by rw [hp.2.1]; exact nI_lt (b := 7) z.2 (by decide))), if_neg (fun z => c76 z.1), if_neg c101, if_pos c118, if_neg (fun z => c58 (by rw [hp.2.1]; exact nI_lt (b := 7) z.2 (by decide))), if_neg (fun z => c76 z.1), if_neg c101, if_pos c118] at hE
                  exact ih _ _ (i + 1) mi1 b1 c1 d1 (hA.trans a1) (by omega) hE
              · replace c101 := B1 c101
                refine ev_aload_n (p' := 105) i_46_104 rfl rfl ?_
                refine ev_aload_n (p' := 106) i_46_105 rfl rfl ?_
                obtain ⟨mi1, e1, a1, b1, c1, d1⟩ := s_tOpen (L := L) (ml := ml) (d + 4) hw hB (lE_le (T := T) hsk.2).2 (hK.wd he (by decide) c101) h6 hp
                refine ev_v1V (p' := 109) i_46_106 rfl cl_7_61_7 (by decide) is_4 (Nat.le_of_ble_eq_true rfl) (e1) ?_
                refine ev_goto (tg := 137) i_46_109 rfl ?_
                refine ev_iinc (p' := 140) (ls' := [_, _, _, _]) i_46_137 rfl rfl rfl (by decide) (nI_inc _) rfl ?_
                refine ev_iinc (p' := 143) (ls' := [_, _, _, _]) i_46_140 rfl rfl rfl (by decide) (nI_dec _) rfl ?_
                refine ev_goto (tg := 26) i_46_143 rfl ?_
                rw [bk_t hsn] at hE
                unfold iS iV at hE
                rw [if_neg (fun z => c58 (by rw [hp.2.1]; exact nI_lt (b := 7) z.2 (by decide))), if_neg (fun z => c76 z.1), if_pos c101, if_neg (fun z => c58 (by rw [hp.2.1]; exact nI_lt (b := 7) z.2 (by decide))), if_neg (fun z => c76 z.1), if_pos c101] at hE
                exact ih _ _ (i + 1) mi1 b1 c1 d1 (hA.trans a1) (by omega) hE
            · replace c76 := B1 c76
              refine ev_aload_n (p' := 80) i_46_79 rfl rfl ?_
              refine ev_v0I (p' := 83) i_46_80 rfl cl_7_47_2 (by decide) (is_pg pg_275) (Nat.le_of_ble_eq_true rfl) (s_isFull (π := π) _ pg_275) ?_
              refine ev_if_ne (p' := 86) (tg := 95) i_46_83 rfl rfl (fun c83 => ?_) (fun c83 => ?_)
              · replace c83 := B1 c83
                refine ev_aload_n (p' := 96) i_46_95 rfl rfl ?_
                refine ev_ldcs (p' := 98) (j := 3) i_46_96 rfl (by decide +kernel) ?_
                refine ev_v1I (p' := 101) i_46_98 rfl cl_7_43_7 (by decide) is_4 (Nat.le_of_ble_eq_true rfl) (s_isW _ hw (k := 3) hB he hK (by decide)) ?_
                refine ev_if_eq (p' := 104) (tg := 112) i_46_101 rfl rfl (fun c101 => ?_) (fun c101 => ?_)
                · replace c101 := B0 c101
                  refine ev_aload_n (p' := 113) i_46_112 rfl rfl ?_
                  refine ev_ldcs (p' := 115) (j := 4) i_46_113 rfl (by decide +kernel) ?_
                  refine ev_v1I (p' := 118) i_46_115 rfl cl_7_43_7 (by decide) is_4 (Nat.le_of_ble_eq_true rfl) (s_isW _ hw (k := 4) hB he hK (by decide)) ?_
                  refine ev_if_eq (p' := 121) (tg := 129) i_46_118 rfl rfl (fun c118 => ?_) (fun c118 => ?_)
                  · replace c118 := B0 c118
                    refine ev_aload_n (p' := 130) i_46_129 rfl rfl ?_
                    refine ev_aload_n (p' := 131) i_46_130 rfl rfl ?_
                    refine ev_geti (p' := 134) i_46_131 rfl fl_7_22 rfl is_4 ?_
                    rw [hK.1]
                    refine ev_puti (p' := 137) i_46_134 rfl fl_7_31 rfl is_4 (gc (by decide)) rfl ?_
                    refine ev_iinc (p' := 140) (ls' := [_, _, _, _]) i_46_137 rfl rfl rfl (by decide) (nI_inc _) rfl ?_
                    refine ev_iinc (p' := 143) (ls' := [_, _, _, _]) i_46_140 rfl rfl rfl (by decide) (nI_dec _) rfl ?_
                    refine ev_goto (tg := 26) i_46_143 rfl ?_
                    rw [bk_t hsn] at hE
                    unfold iS iV at hE
                    rw [if_neg (fun z => c58 (by rw [hp.2.1]; exact nI_lt (b := 7) z.2 (by decide))), if_neg (fun z => c83 (by rw [hp.2.1]; exact nI_lt (b := 7) z.2 (by decide))), if_neg c101, if_neg c118, if_neg (fun z => c58 (by rw [hp.2.1]; exact nI_lt (b := 7) z.2 (by decide))), if_neg (fun z => c83 (by rw [hp.2.1]; exact nI_lt (b := 7) z.2 (by decide))), if_neg c101, if_neg c118] at hE
                    exact ih (false, skp T n e) v (i + 1) _ (hB.fr (pm_u_oth (by decide)) (pm_u_ne (by decide))) (CS.off hsk.2 pm_u_self) (fun z => absurd z Bool.false_ne_true) hA.u4 (by omega) hE
                  · replace c118 := B1 c118
                    refine ev_aload_n (p' := 122) i_46_121 rfl rfl ?_
                    refine ev_aload_n (p' := 123) i_46_122 rfl rfl ?_
                    obtain ⟨mi1, e1, a1, b1, c1, d1⟩ := s_tPull (L := L) (ml := ml) (d + 4) hw hB (lE_le (T := T) hsk.2).2 (hK.wd he (by decide) c118) h6 hp
                    refine ev_v1V (p' := 126) i_46_123 rfl cl_7_66_7 (by decide) is_4 (Nat.le_of_ble_eq_true rfl) (e1) ?_
                    refine ev_goto (tg := 137) i_46_126 rfl ?_
                    refine ev_iinc (p' := 140) (ls' := [_, _, _, _]) i_46_137 rfl rfl rfl (by decide) (nI_inc _) rfl ?_
                    refine ev_iinc (p' := 143) (ls' := [_, _, _, _]) i_46_140 rfl rfl rfl (by decide) (nI_dec _) rfl ?_
                    refine ev_goto (tg := 26) i_46_143 rfl ?_
                    rw [bk_t hsn] at hE
                    unfold iS iV at hE
                    rw [if_neg (fun z => c58 (by rw [hp.2.1]; exact nI_lt (b := 7) z.2 (by decide))), if_neg (fun z => c83 (by rw [hp.2.1]; exact nI_lt (b := 7) z.2 (by decide))), if_neg c101, if_pos c118, if_neg (fun z => c58 (by rw [hp.2.1]; exact nI_lt (b := 7) z.2 (by decide))), if_neg (fun z => c83 (by rw [hp.2.1]; exact nI_lt (b := 7) z.2 (by decide))), if_neg c101, if_pos c118] at hE
                    exact ih _ _ (i + 1) mi1 b1 c1 d1 (hA.trans a1) (by omega) hE
                · replace c101 := B1 c101
                  refine ev_aload_n (p' := 105) i_46_104 rfl rfl ?_
                  refine ev_aload_n (p' := 106) i_46_105 rfl rfl ?_
                  obtain ⟨mi1, e1, a1, b1, c1, d1⟩ := s_tOpen (L := L) (ml := ml) (d + 4) hw hB (lE_le (T := T) hsk.2).2 (hK.wd he (by decide) c101) h6 hp
                  refine ev_v1V (p' := 109) i_46_106 rfl cl_7_61_7 (by decide) is_4 (Nat.le_of_ble_eq_true rfl) (e1) ?_
                  refine ev_goto (tg := 137) i_46_109 rfl ?_
                  refine ev_iinc (p' := 140) (ls' := [_, _, _, _]) i_46_137 rfl rfl rfl (by decide) (nI_inc _) rfl ?_
                  refine ev_iinc (p' := 143) (ls' := [_, _, _, _]) i_46_140 rfl rfl rfl (by decide) (nI_dec _) rfl ?_
                  refine ev_goto (tg := 26) i_46_143 rfl ?_
                  rw [bk_t hsn] at hE
                  unfold iS iV at hE
                  rw [if_neg (fun z => c58 (by rw [hp.2.1]; exact nI_lt (b := 7) z.2 (by decide))), if_neg (fun z => c83 (by rw [hp.2.1]; exact nI_lt (b := 7) z.2 (by decide))), if_pos c101, if_neg (fun z => c58 (by rw [hp.2.1]; exact nI_lt (b := 7) z.2 (by decide))), if_neg (fun z => c83 (by rw [hp.2.1]; exact nI_lt (b := 7) z.2 (by decide))), if_pos c101] at hE
                  exact ih _ _ (i + 1) mi1 b1 c1 d1 (hA.trans a1) (by omega) hE
              · replace c83 := B0n c83
                refine ev_aload_n (p' := 87) i_46_86 rfl rfl ?_
                refine ev_aload_n (p' := 88) i_46_87 rfl rfl ?_
                refine ev_iconst (p' := 89) (v := 1) i_46_88 rfl (by decide) ?_
                have h7 : v.1 < 7 := (nI_ltI (b := 7) (by omega) (by decide)).mp (by rw [← hp.2.1]; exact Classical.not_not.mp c83)
                obtain ⟨mi1, e1, a1, b1, c1, d1⟩ := s_tPiece1 (L := L) (ml := ml) (d + 4) hw hB (lE_le (T := T) hsk.2).2 (hK.wd he (by decide) c76) h6 hp h7
                refine ev_v2V (p' := 92) i_46_89 rfl cl_7_53_7 (by decide) is_4 (Nat.le_of_ble_eq_true rfl) (e1) ?_
                refine ev_goto (tg := 137) i_46_92 rfl ?_
                refine ev_iinc (p' := 140) (ls' := [_, _, _, _]) i_46_137 rfl rfl rfl (by decide) (nI_inc _) rfl ?_
                refine ev_iinc (p' := 143) (ls' := [_, _, _, _]) i_46_140 rfl rfl rfl (by decide) (nI_dec _) rfl ?_
                refine ev_goto (tg := 26) i_46_143 rfl ?_
                rw [bk_t hsn] at hE
                unfold iS iV at hE
                rw [if_neg (fun z => c58 (by rw [hp.2.1]; exact nI_lt (b := 7) z.2 (by decide))), if_pos ⟨c76, h7⟩, if_neg (fun z => c58 (by rw [hp.2.1]; exact nI_lt (b := 7) z.2 (by decide))), if_pos ⟨c76, h7⟩] at hE
                exact ih _ _ (i + 1) mi1 b1 c1 d1 (hA.trans a1) (by omega) hE
          · replace c58 := B0n c58
            refine ev_aload_n (p' := 62) i_46_61 rfl rfl ?_
            refine ev_aload_n (p' := 63) i_46_62 rfl rfl ?_
            refine ev_iconst (p' := 64) (v := 0) i_46_63 rfl (by decide) ?_
            have h7 : v.1 < 7 := (nI_ltI (b := 7) (by omega) (by decide)).mp (by rw [← hp.2.1]; exact Classical.not_not.mp c58)
            obtain ⟨mi1, e1, a1, b1, c1, d1⟩ := s_tPiece0 (L := L) (ml := ml) (d + 4) hw hB (lE_le (T := T) hsk.2).2 (hK.wd he (by decide) c51) h6 hp h7
            refine ev_v2V (p' := 67) i_46_64 rfl cl_7_53_7 (by decide) is_4 (Nat.le_of_ble_eq_true rfl) (e1) ?_
            refine ev_goto (tg := 137) i_46_67 rfl ?_
            refine ev_iinc (p' := 140) (ls' := [_, _, _, _]) i_46_137 rfl rfl rfl (by decide) (nI_inc _) rfl ?_
            refine ev_iinc (p' := 143) (ls' := [_, _, _, _]) i_46_140 rfl rfl rfl (by decide) (nI_dec _) rfl ?_
            refine ev_goto (tg := 26) i_46_143 rfl ?_
            rw [bk_t hsn] at hE
            unfold iS iV at hE
            rw [if_pos ⟨c51, h7⟩, if_pos ⟨c51, h7⟩] at hE
            exact ih _ _ (i + 1) mi1 b1 c1 d1 (hA.trans a1) (by omega) hE
noncomputable def b0S (T : Nat → Int32) (n : Nat) : Bool × Nat := if wd T n (skp T n 0) = nI 0 then enS T n (nmS T n 6 40 (true, lE T n (skp T n 0))) else (false, skp T n 0)
noncomputable def b0V (T : Nat → Int32) (n : Nat) : PV := (0, nmV T n 6 40 (true, lE T n (skp T n 0)), 0, fun _ _ => 0)
noncomputable def BOOK (T : Nat → Int32) (n : Nat) : (Bool × Nat) × PV × Nat := bk T n n (b0S T n) (b0V T n) 1
theorem s_tBook {L : Nat} {π : Nat → Nat → Nat} {ml : Nat → Nat → Int64} {mr : Nat → Nat → Option Nat} {mi : Nat → Nat → Int32} (d : Nat) (hw : WR π mr) {T : Nat → Int32} {n : Nat} (hB : TB mi T n) (h6 : mi 4 6 = -1) (hK : TKN mi T n 0) : ∃ mi', pm_ev gC (d + 9) 47 [.ref 4, .ref 275] (WW L, mi, ml, mr) (none) (WW L, mi', ml, mr) ∧ AF mi mi' ∧ TB mi' T n ∧ CS mi' T n (b0S T n) ∧ ((b0S T n).1 = true → CPg mi' 275 (b0V T n)) := by
  have hsk := skp_le (T := T) (Nat.zero_le n)
  obtain ⟨_x, m', ⟨h1, mi1, h2, h3⟩, h5⟩ := ev_some (E := fun _x m => _x = none ∧ ∃ mi', m = (WW L, mi', ml, mr) ∧ AF mi mi' ∧ TB mi' T n ∧ CS mi' T n (b0S T n) ∧ ((b0S T n).1 = true → CPg mi' 275 (b0V T n))) (g := gC) (d := d + 8) (M := 47) (args := [.ref 4, .ref 275]) (mem := (WW L, mi, ml, mr)) (q := q_47) rfl (Nat.le_of_ble_eq_true rfl) rfl (by
    refine ev_aload_n (p' := 1) i_47_0 rfl rfl ?_
    refine ev_ldcs (p' := 3) (j := 0) i_47_1 rfl (by decide +kernel) ?_
    refine ev_v1I (p' := 6) i_47_3 rfl cl_7_43_7 (by decide) is_4 (Nat.le_of_ble_eq_true rfl) (s_isW _ hw (k := 0) hB (Nat.zero_le n) hK (by decide)) ?_
    refine ev_if_ne (p' := 9) (tg := 18) i_47_6 rfl rfl (fun c6 => ?_) (fun c6 => ?_)
    · replace c6 := B1 c6
      refine ev_aload_n (p' := 19) i_47_18 rfl rfl ?_
      obtain ⟨mi1, e1, f1, hB1, hS1⟩ := s_stp (L := L) (ml := ml) (d + 5) hw hB (lE_le (T := T) hsk.2).2 (hK.wd (Nat.zero_le n) (by decide) c6) h6
      refine ev_v0V (p' := 22) i_47_19 rfl cl_7_34_7 (by decide) is_4 (Nat.le_of_ble_eq_true rfl) (e1) ?_
      refine ev_aload_n (p' := 23) i_47_22 rfl rfl ?_
      refine ev_bipush (p' := 25) (v := 6) i_47_23 rfl (by decide) ?_
      refine ev_bipush (p' := 27) (v := 40) i_47_25 rfl (by decide) ?_
      obtain ⟨mi2, e2, f2, hB2, hS2⟩ := s_num (L := L) (ml := ml) (d + 4) hw hB1 hS1 6 40
      refine ev_v2I (p' := 30) i_47_27 rfl cl_7_71_7 (by decide) is_4 (Nat.le_of_ble_eq_true rfl) (e2) ?_
      refine ev_istore_n (p' := 31) (ls' := [_, _, _]) i_47_30 rfl rfl (by decide) rfl ?_
      refine ev_aload_n (p' := 32) i_47_31 rfl rfl ?_
      obtain ⟨mi3, e3, f3, hB3, hS3⟩ := s_end (L := L) (ml := ml) (d + 4) hw hB2 hS2
      refine ev_v0V (p' := 35) i_47_32 rfl cl_7_75_7 (by decide) is_4 (Nat.le_of_ble_eq_true rfl) (e3) ?_
      refine ev_aload_n (p' := 36) i_47_35 rfl rfl ?_
      refine ev_iload_n (p' := 37) i_47_36 rfl rfl ?_
      refine ev_v1V (p' := 40) i_47_37 rfl cl_7_78_2 (by decide) (is_pg pg_275) (Nat.le_of_ble_eq_true rfl) (s_pgNew (π := π) _ pg_275 _) ?_
      exact ev_ret i_47_40 rfl ⟨rfl, _, rfl, fun a z1 z2 => by rw [pm_u_ne (by omega), pm_u_ne (by omega), pm_u_ne (by omega), f3 a z1, f2 a z1, f1 a z1], hB3.fr (by rw [pm_u_ne (by omega), pm_u_ne (by omega), pm_u_ne (by omega)]) (by rw [pm_u_ne (by omega), pm_u_ne (by omega), pm_u_ne (by omega)]), by unfold b0S; rw [if_pos c6]; exact hS3.fr (by rw [pm_u_ne (by omega), pm_u_ne (by omega), pm_u_ne (by omega)]), fun _ => ⟨Nat.zero_le _, pm_u_self, by rw [pm_u_oth (by decide), pm_u_oth (by decide)]; exact pm_u_self, by rw [pm_u_oth (by decide)]; exact pm_u_self, fun i hi => absurd hi (Nat.not_lt_zero i)⟩⟩
    · replace c6 := B0n c6
      refine ev_aload_n (p' := 10) i_47_9 rfl rfl ?_
      refine ev_aload_n (p' := 11) i_47_10 rfl rfl ?_
      refine ev_geti (p' := 14) i_47_11 rfl fl_7_22 rfl is_4 ?_
      rw [hK.1]
      refine ev_puti (p' := 17) i_47_14 rfl fl_7_31 rfl is_4 (gc (by decide)) rfl ?_
      exact ev_ret i_47_17 rfl ⟨rfl, _, rfl, fun a z1 z2 => pm_u_ne z1, hB.fr (pm_u_oth (by decide)) (pm_u_ne (by decide)), by unfold b0S; rw [if_neg c6]; exact CS.off hsk.2 pm_u_self, fun z => by unfold b0S at z; rw [if_neg c6] at z; exact absurd z Bool.false_ne_true⟩)
  subst h1 h2
  exact ⟨mi1, h5, h3⟩
theorem s_tellTo {L : Nat} {π : Nat → Nat → Nat} {ml : Nat → Nat → Int64} {mr : Nat → Nat → Option Nat} {mi : Nat → Nat → Int32} (d : Nat) (hw : WR π mr) {T : Nat → Int32} {n : Nat} (hB : TB mi T n) : ∃ mi', pm_ev gC (d + 10) 46 [.ref 4, .ref 275] (WW L, mi, ml, mr) (some (.int (RES (BOOK T n)))) (WW L, mi', ml, mr) ∧ TB mi' T n ∧ CS mi' T n (BOOK T n).1 ∧ ((BOOK T n).1.1 = true → CPg mi' 275 (BOOK T n).2.1) ∧ AF mi mi' := by
  have h150 := hB.1
  obtain ⟨_x, m', ⟨h1, mi1, h2, h3⟩, h5⟩ := ev_some (E := fun _x m => _x = some (.int (RES (BOOK T n))) ∧ ∃ mi', m = (WW L, mi', ml, mr) ∧ TB mi' T n ∧ CS mi' T n (BOOK T n).1 ∧ ((BOOK T n).1.1 = true → CPg mi' 275 (BOOK T n).2.1) ∧ AF mi mi') (g := gC) (d := d + 9) (M := 46) (args := [.ref 4, .ref 275]) (mem := (WW L, mi, ml, mr)) (q := q_46) rfl (Nat.le_of_ble_eq_true rfl) rfl (by
    refine ev_aload_n (p' := 1) i_46_0 rfl rfl ?_
    refine ev_iconst (p' := 2) (v := nI 0) i_46_1 rfl (by decide) ?_
    refine ev_puti (p' := 5) i_46_2 rfl fl_7_25 rfl is_4 (gc (by decide)) rfl ?_
    refine ev_aload_n (p' := 6) i_46_5 rfl rfl ?_
    refine ev_iconst (p' := 7) (v := -1) i_46_6 rfl (by decide) ?_
    refine ev_puti (p' := 10) i_46_7 rfl fl_7_31 rfl is_4 (gc (by decide)) rfl ?_
    refine ev_aload_n (p' := 11) i_46_10 rfl rfl ?_
    have hB0 : TB (pm_u (pm_u mi 4 4 (nI 0)) 4 6 (-1)) T n := hB.fr (by rw [pm_u_oth (by decide), pm_u_oth (by decide)]) (by rw [pm_u_ne (by decide), pm_u_ne (by decide)])
    obtain ⟨mi1, e1, f1, hB1, hS1⟩ := s_stp (L := L) (ml := ml) (d + 6) hw hB0 (Nat.zero_le n) (by rw [pm_u_oth (by decide)]; exact pm_u_self) pm_u_self
    refine ev_v0V (p' := 14) i_46_11 rfl cl_7_34_7 (by decide) is_4 (Nat.le_of_ble_eq_true rfl) (e1) ?_
    refine ev_aload_n (p' := 15) i_46_14 rfl rfl ?_
    refine ev_aload_n (p' := 16) i_46_15 rfl rfl ?_
    obtain ⟨mi2, e2, a2, hB2, hS2, hP2⟩ := s_tBook (L := L) (ml := ml) d hw hB1 (hS1.2.1 rfl).1 (hS1.2.1 rfl).2
    refine ev_v1V (p' := 19) i_46_16 rfl cl_7_37_7 (by decide) is_4 (Nat.le_of_ble_eq_true rfl) (e2) ?_
    refine ev_iconst (p' := 20) (v := nI 1) i_46_19 rfl (by decide) ?_
    refine ev_istore_n (p' := 21) (ls' := [_, _, _, _]) i_46_20 rfl rfl (by decide) rfl ?_
    refine ev_aload_n (p' := 22) i_46_21 rfl rfl ?_
    refine ev_geti (p' := 25) i_46_22 rfl fl_7_15 rfl is_4 ?_
    rw [hB2.2.1]
    refine ev_istore_n (p' := 26) (ls' := [_, _, _, _]) i_46_25 rfl rfl (by decide) rfl ?_
    exact l_tell (mi0 := mi) hw n (b0S T n) (b0V T n) 1 mi2 hB2 hS2 hP2 (fun a z1 z2 => by rw [a2 a z1 z2, f1 a z1, pm_u_ne z1, pm_u_ne z1]) (by omega) (fun mi3 h1 h2 h3 h4 => ⟨rfl, mi3, rfl, h1, h2, h3, h4⟩))
  subst h1 h2
  exact ⟨mi1, h5, h3⟩
