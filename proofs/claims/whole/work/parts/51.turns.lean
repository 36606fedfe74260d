/-! ===== turns ===== -/
theorem or_nI (a b : Nat) : nI a ||| nI b = nI (a ||| b) := by
  apply Int32.toBitVec_inj.1
  show BitVec.ofNat 32 a ||| BitVec.ofNat 32 b = BitVec.ofNat 32 (a ||| b)
  apply BitVec.eq_of_getLsbD_eq
  intro i hi
  simp [hi]
theorem sm_l : ∀ n, n < 32 → ((nI n &&& 31).toBitVec.smod 32).toNat = n := by decide +kernel
theorem pw_sh : ∀ o, o < 13 → (1 : Int32) <<< (nI o &&& 31) = nI (2 ^ o) := by decide +kernel
theorem HS_tb {m o : Nat} (hm : m < 2 ^ 31) (ho : o < 32) : HS (nI m) o ↔ m.testBit o = true := by
  unfold HS
  have hd : m / 2 ^ o ≤ m := Nat.div_le_self _ _
  rw [pk_shrN hm _ o (sm_l o ho), pk_andN (by omega) (m := 1) 1 (by decide), Nat.testBit_eq_decide_div_mod_eq]
  have h2 : m / 2 ^ o % 2 ^ 1 < 2 := Nat.mod_lt _ (by decide)
  rw [Nat.pow_one] at *
  simp only [decide_eq_true_eq]
  constructor
  · intro h
    by_cases h0 : m / 2 ^ o % 2 = 0
    · exact absurd (by rw [h0]; rfl) h
    · omega
  · intro h h3
    rw [h] at h3
    exact absurd h3 (by decide)
theorem or_up2 {m o : Nat} (ho : o < 13) : nI m ||| (1 <<< (nI o &&& 31)) = nI (m ||| 2 ^ o) := by rw [pw_sh o ho, or_nI]
theorem or_gt {m o : Nat} (h : ¬ m.testBit o = true) : m < m ||| 2 ^ o := by
  rcases Nat.lt_or_eq_of_le (Nat.left_le_or : m ≤ m ||| 2 ^ o) with h1 | h1
  · exact h1
  · exfalso
    apply h
    rw [h1, Nat.testBit_or, Nat.testBit_two_pow_self, Bool.or_true]
theorem or_lt {m o : Nat} (hm : m < 8192) (ho : o < 13) : m ||| 2 ^ o < 8192 := Nat.or_lt_two_pow (n := 13) hm (Nat.pow_lt_pow_right (by decide) ho)
theorem or_bit {m o k : Nat} : (m ||| 2 ^ o).testBit k = (m.testBit k || decide (o = k)) := by rw [Nat.testBit_or, Nat.testBit_two_pow]
/-- who is to go from c, m gone, wins -/
def GW (G : Int32) (m c : Nat) : Prop := ∃ o, ∃ _ : (o ≤ 12 ∧ c ≤ o + 2 ∧ o ≤ c + 2) ∧ m < 8192 ∧ ¬ m.testBit o = true, HS G o ∨ ¬ GW G (m ||| 2 ^ o) o
termination_by 8192 - m
decreasing_by
  rename_i h
  have h1 := or_gt h.2.2
  have h2 := h.2.1
  omega
def MV (G : Int32) (m c o : Nat) : Prop := (o ≤ 12 ∧ c ≤ o + 2 ∧ o ≤ c + 2) ∧ ¬ m.testBit o = true ∧ (HS G o ∨ ¬ GW G (m ||| 2 ^ o) o)
theorem GW_iff {G : Int32} {m c : Nat} (hm : m < 8192) : GW G m c ↔ ∃ o, MV G m c o := by
  rw [GW]
  constructor
  · rintro ⟨o, ⟨h1, -, h2⟩, h3⟩
    exact ⟨o, h1, h2, h3⟩
  · rintro ⟨o, h1, h2, h3⟩
    exact ⟨o, ⟨h1, hm, h2⟩, h3⟩
theorem scan_none {p : Nat → Prop} : ∀ k b, (∀ o, b ≤ o → o < b + k → ¬ p o) → scan p k b = -1 := by
  intro k
  induction k with
  | zero => intro b _; rfl
  | succ k ih => intro b h; rw [scan_f (h b (Nat.le_refl _) (by omega)), ih (b + 1) (fun o h1 h2 => h o (by omega) (by omega))]
theorem scan_some {p : Nat → Prop} : ∀ k b, (∃ o, b ≤ o ∧ o < b + k ∧ p o) → ∃ o, b ≤ o ∧ o < b + k ∧ p o ∧ scan p k b = nI o := by
  intro k
  induction k with
  | zero => rintro b ⟨o, h1, h2, -⟩; omega
  | succ k ih =>
    rintro b ⟨o, h1, h2, h3⟩
    by_cases h : p b
    · exact ⟨b, Nat.le_refl _, by omega, h, scan_t h⟩
    · obtain ⟨o', g1, g2, g3, g4⟩ := ih (b + 1) ⟨o, by have : o ≠ b := fun z => h (z ▸ h3); omega, by omega, h3⟩
      exact ⟨o', by omega, by omega, g3, by rw [scan_f h, g4]⟩
theorem scan_ext {p : Nat → Prop} : ∀ k b e, (∀ o, b + k ≤ o → ¬ p o) → scan p (k + e) b = scan p k b := by
  intro k
  induction k with
  | zero => intro b e h; rw [Nat.zero_add, scan_none e b (fun o h1 _ => h o (by omega)), scan_none 0 b (fun o h1 h2 => by omega)]
  | succ k ih =>
    intro b e h
    rw [show k + 1 + e = k + e + 1 by omega]
    by_cases hb : p b
    · rw [scan_t hb, scan_t hb]
    · rw [scan_f hb, scan_f hb, ih (b + 1) e (fun o ho => h o (by omega))]
theorem scan_skip {p : Nat → Prop} : ∀ e k b, (∀ o, b ≤ o → o < b + e → ¬ p o) → scan p (e + k) b = scan p k (b + e) := by
  intro e
  induction e with
  | zero => intro k b _; rw [Nat.zero_add, Nat.add_zero]
  | succ e ih =>
    intro k b h
    rw [show e + 1 + k = e + k + 1 by omega, scan_f (h b (Nat.le_refl _) (by omega)), ih k (b + 1) (fun o h1 h2 => h o (by omega) (by omega))]
    congr 1
    omega
noncomputable def WS (G : Int32) (m c : Nat) : Int32 := scan (MV G m c) 13 0
theorem WS_at {G : Int32} {m c lo k : Nat} (hlo : lo ≤ 13) (h1 : c ≤ lo + 2) (h2 : lo = 0 ∨ lo + 2 = c) (h3 : c + 3 ≤ lo + k ∨ 13 ≤ lo + k) : scan (MV G m c) k lo = WS G m c := by
  unfold WS
  have e1 := scan_skip (p := MV G m c) lo (13 - lo) 0 (fun o _ ho h => by have := h.1.2.1; omega)
  rw [show lo + (13 - lo) = 13 by omega, Nat.zero_add] at e1
  rw [e1]
  by_cases hk : 13 ≤ lo + k
  · have e2 := scan_ext (p := MV G m c) (13 - lo) lo (k - (13 - lo)) (fun o ho h => by have := h.1.1; omega)
    rw [show 13 - lo + (k - (13 - lo)) = k by omega] at e2
    exact e2
  · have e2 := scan_ext (p := MV G m c) k lo (13 - lo - k) (fun o ho h => by have := h.1.2.2; omega)
    rw [show k + (13 - lo - k) = 13 - lo by omega] at e2
    exact e2.symm
theorem WS_ne {G : Int32} {m c : Nat} (hm : m < 8192) : ¬ WS G m c = -1 ↔ GW G m c := by
  rw [GW_iff hm]
  unfold WS
  constructor
  · intro h
    apply Classical.byContradiction
    intro hn
    exact h (scan_none 13 0 (fun o _ _ ho => hn ⟨o, ho⟩))
  · rintro ⟨o, ho⟩ h
    obtain ⟨o', -, h2, -, h4⟩ := scan_some (p := MV G m c) 13 0 ⟨o, Nat.zero_le _, by have := ho.1.1; omega, ho⟩
    rw [h4] at h
    exact ne_m1 (by omega) h
/-- how many openings are not gone -/
def zc (m K : Nat) : Nat := fold (fun k c => c + (if m.testBit k = true then 0 else 1)) K 0
theorem zc_s {m K : Nat} : zc m (K + 1) = zc m K + (if m.testBit K = true then 0 else 1) := rfl
theorem zc_0 {m : Nat} : zc m 0 = 0 := rfl
theorem zc_or {m o : Nat} (h : ¬ m.testBit o = true) : ∀ K, zc (m ||| 2 ^ o) K + (if o < K then 1 else 0) = zc m K := by
  intro K
  induction K with
  | zero => rw [zc_0, zc_0, if_neg (by omega)]
  | succ K ih =>
    rw [zc_s, zc_s, ← ih, or_bit]
    by_cases hk : o = K
    · subst hk
      have e1 : (m.testBit o || decide (o = o)) = true := by simp
      rw [e1, if_pos rfl, if_pos (show o < o + 1 by omega), if_neg (Nat.lt_irrefl o), if_neg h]
    · have e : (m.testBit K || decide (o = K)) = m.testBit K := by simp [hk]
      rw [e]
      by_cases h1 : o < K
      · rw [if_pos (show o < K + 1 by omega), if_pos h1]; omega
      · rw [if_neg (show ¬ o < K + 1 by omega), if_neg h1]; omega
theorem zc_le {m : Nat} : ∀ K, zc m K ≤ K := by
  intro K
  induction K with
  | zero => rw [zc_0]; exact Nat.le_refl _
  | succ K ih =>
    rw [zc_s]
    split <;> omega
theorem mnC : ∀ c, c < 13 → (if nI (c + 2) < 12 then nI (c + 2) else 12) = nI (min 12 (c + 2)) := by decide +kernel
theorem mxZ : ∀ c, c < 13 → (if 0 < nI c - 2 then nI c - 2 else 0) = nI (c - 2) := by decide +kernel
theorem s_ws {g : Nat → Prop} {mem : pm_M} {G : Int32} (d : Nat) : ∀ l m c, m < 8192 → c < 13 → zc m 13 < l → l ≤ 20 → pm_ev g (d + l + 1) 116 [.int (nI c), .int (nI m), .int G, .int (nI l)] mem (some (.int (WS G m c))) mem := by
  intro l
  induction l with
  | zero => intro m c _ _ h _; exact absurd h (Nat.not_lt_zero _)
  | succ l ih0 =>
    intro m c hm hc hz hl
    have ih : ∀ m c, m < 8192 → c < 13 → zc m 13 < l → pm_ev g (d + l + 1) 116 [.int (nI c), .int (nI m), .int G, .int (nI l)] mem (some (.int (WS G m c))) mem := fun m c h1 h2 h3 => ih0 m c h1 h2 h3 (by omega)
    have hzz : ∀ t, t < 13 → ¬ m.testBit t = true → zc (m ||| 2 ^ t) 13 < l := fun t ht hb => by
      have h1 := zc_or hb 13
      rw [if_pos ht] at h1
      omega
    have lp : ∀ {E : Option Value → pm_M → Prop} (k t : Nat), t + k = min 12 (c + 2) + 1 → c ≤ t + 2 → t ≤ 13 → E (some (.int (scan (MV G m c) (13 - t) t))) mem → Ev g (pm_ev g (d + l + 1)) E q_116 25 [some (.int (nI c)), some (.int (nI m)), some (.int G), some (.int (nI (l + 1))), some (.int (nI (min 12 (c + 2)))), some (.int (nI t))] [] mem := by
      intro E k
      induction k with
      | zero =>
        intro t ht h2 h13 hE
        refine ev_iload (p' := 27) i_116_25 rfl rfl ?_
        refine ev_iload (p' := 29) i_116_27 rfl rfl ?_
        refine ev_icmp_gt (p' := 32) (tg := 81) i_116_29 rfl rfl (fun c29 => ?_) (fun c29 => absurd (nI_lt (by omega) (by omega)) c29)
        refine ev_iconst (p' := 82) (v := -1) i_116_81 rfl (by decide) ?_
        exact ev_iretI i_116_82 rfl (by rw [scan_none (13 - t) t (fun o h1 _ h => by have := h.1; omega)] at hE; exact hE)
      | succ k ih2 =>
        intro t ht h2 h13 hE
        refine ev_iload (p' := 27) i_116_25 rfl rfl ?_
        refine ev_iload (p' := 29) i_116_27 rfl rfl ?_
        refine ev_icmp_gt (p' := 32) (tg := 81) i_116_29 rfl rfl (fun c29 => absurd c29 (Int32.not_lt.mpr (nI_le (by omega) (by omega)))) (fun c29 => ?_)
        refine ev_iload_n (p' := 33) i_116_32 rfl rfl ?_
        refine ev_iload (p' := 35) i_116_33 rfl rfl ?_
        refine ev_s2I (p' := 38) i_116_35 rfl cl_11_223_0 (by decide) (Nat.le_of_ble_eq_true rfl) (s_has _ _ _) ?_
        refine ev_if_eq (p' := 41) (tg := 44) i_116_38 rfl rfl (fun c38 => ?_) (fun c38 => ?_)
        · replace c38 := B0 c38
          refine ev_iload_n (p' := 45) i_116_44 rfl rfl ?_
          refine ev_iload (p' := 47) i_116_45 rfl rfl ?_
          refine ev_s2I (p' := 50) i_116_47 rfl cl_11_223_0 (by decide) (Nat.le_of_ble_eq_true rfl) (s_has _ _ _) ?_
          refine ev_if_ne (p' := 53) (tg := 72) i_116_50 rfl rfl (fun c50 => ?_) (fun c50 => ?_)
          · replace c50 := B1 c50
            refine ev_iload (p' := 74) i_116_72 rfl rfl ?_
            exact ev_iretI i_116_74 rfl (by rw [show 13 - t = 13 - (t + 1) + 1 by omega, scan_t (p := MV G m c) ⟨⟨by omega, by omega, by omega⟩, (fun z => c38 ((HS_tb (by omega) (by omega)).mpr z)), Or.inl c50⟩] at hE; exact hE)
          · replace c50 := B0n c50
            refine ev_iload (p' := 55) i_116_53 rfl rfl ?_
            refine ev_iload_n (p' := 56) i_116_55 rfl rfl ?_
            refine ev_iconst (p' := 57) (v := 1) i_116_56 rfl (by decide) ?_
            refine ev_iload (p' := 59) i_116_57 rfl rfl ?_
            refine ev_ishl (p' := 60) i_116_59 rfl ?_
            refine ev_ior (p' := 61) i_116_60 rfl ?_
            rw [or_up2 (show t < 13 by omega)]
            refine ev_iload_n (p' := 62) i_116_61 rfl rfl ?_
            refine ev_iload_n (p' := 63) i_116_62 rfl rfl ?_
            refine ev_iconst (p' := 64) (v := 1) i_116_63 rfl (by decide) ?_
            refine ev_isub (p' := 65) i_116_64 rfl ?_
            rw [nI_pred]
            refine ev_s4I (p' := 68) i_116_65 rfl cl_11_261_0 (by decide) (Nat.le_of_ble_eq_true rfl) (ih (m ||| 2 ^ t) t (or_lt hm (show t < 13 by omega)) (by omega) (hzz t (by omega) (fun z => c38 ((HS_tb (by omega) (by omega)).mpr z)))) ?_
            refine ev_iconst (p' := 69) (v := -1) i_116_68 rfl (by decide) ?_
            refine ev_icmp_ne (p' := 72) (tg := 75) i_116_69 rfl rfl (fun c69 => ?_) (fun c69 => ?_)
            · refine ev_iinc (p' := 78) (ls' := [_, _, _, _, _, _]) i_116_75 rfl rfl rfl (by decide) (nI_inc _) rfl ?_
              refine ev_goto (tg := 25) i_116_78 rfl ?_
              rw [show 13 - t = 13 - (t + 1) + 1 by omega, scan_f (fun z => z.2.2.elim c50 (fun y => y ((WS_ne (or_lt hm (show t < 13 by omega))).mp c69)))] at hE
              exact ih2 (t + 1) (by omega) (by omega) (by omega) hE
            · refine ev_iload (p' := 74) i_116_72 rfl rfl ?_
              exact ev_iretI i_116_74 rfl (by rw [show 13 - t = 13 - (t + 1) + 1 by omega, scan_t (p := MV G m c) ⟨⟨by omega, by omega, by omega⟩, (fun z => c38 ((HS_tb (by omega) (by omega)).mpr z)), Or.inr (fun z => (WS_ne (or_lt hm (show t < 13 by omega))).mpr z (Classical.not_not.mp c69))⟩] at hE; exact hE)
        · replace c38 := B1 c38
          refine ev_goto (tg := 75) i_116_41 rfl ?_
          refine ev_iinc (p' := 78) (ls' := [_, _, _, _, _, _]) i_116_75 rfl rfl rfl (by decide) (nI_inc _) rfl ?_
          refine ev_goto (tg := 25) i_116_78 rfl ?_
          rw [show 13 - t = 13 - (t + 1) + 1 by omega, scan_f (fun z => z.2.1 ((HS_tb (by omega) (by omega)).mp c38))] at hE
          exact ih2 (t + 1) (by omega) (by omega) (by omega) hE
    have key : pm_ev g (d + l + 1 + 1) 116 [.int (nI c), .int (nI m), .int G, .int (nI (l + 1))] mem (some (.int (WS G m c))) mem := by
      refine ev_enter (q := q_116) rfl (Nat.le_of_ble_eq_true rfl) rfl ?_
      refine ev_iload_n (p' := 1) i_116_0 rfl rfl ?_
      refine ev_if_gt (p' := 4) (tg := 6) i_116_1 rfl rfl (fun c1 => ?_) (fun c1 => absurd (nI_lt (a := 0) (by omega) (by omega)) c1)
      refine ev_bipush (p' := 8) (v := 12) i_116_6 rfl (by decide) ?_
      refine ev_iload_n (p' := 9) i_116_8 rfl rfl ?_
      refine ev_iconst (p' := 10) (v := nI 2) i_116_9 rfl (by decide) ?_
      refine ev_iaddN (p' := 11) i_116_10 rfl ?_
      refine ev_min (p' := 14) i_116_11 rfl cl_11_337_0 (Nat.le_of_ble_eq_true rfl) ?_
      rw [mnC c hc]
      refine ev_istore (p' := 16) (ls' := [_, _, _, _, _, _]) i_116_14 rfl rfl (by decide) rfl ?_
      refine ev_iconst (p' := 17) (v := 0) i_116_16 rfl (by decide) ?_
      refine ev_iload_n (p' := 18) i_116_17 rfl rfl ?_
      refine ev_iconst (p' := 19) (v := 2) i_116_18 rfl (by decide) ?_
      refine ev_isub (p' := 20) i_116_19 rfl ?_
      refine ev_max (p' := 23) i_116_20 rfl cl_11_342_0 (Nat.le_of_ble_eq_true rfl) ?_
      rw [mxZ c hc]
      refine ev_istore (p' := 25) (ls' := [_, _, _, _, _, _]) i_116_23 rfl rfl (by decide) rfl ?_
      exact lp (min 12 (c + 2) + 1 - (c - 2)) (c - 2) (by omega) (by omega) (by omega) ⟨by rw [WS_at (by omega) (by omega) (by omega) (by omega)], rfl⟩
    exact key
def RSn (mi : Nat → Nat → Int32) (ml : Nat → Nat → Int64) (A : AV) (i : Nat) : Prop := RR mi ml A ∧ ∀ o, o < i → mi 304 o = VS A.1.1 (nI o) 0
theorem RSn.hn {mi : Nat → Nat → Int32} {ml : Nat → Nat → Int64} {A : AV} {i : Nat} (h : RSn mi ml A i) : mi 285 1 = nI A.1.1.1 := h.1.hn
theorem RSn.step {mi : Nat → Nat → Int32} {ml : Nat → Nat → Int64} {A : AV} {i : Nat} (h7 : A.1.1.1 ≤ 7) (h : RSn mi ml A i) : RSn (pm_u (hr mi i A.1.1.1) 304 i (VS A.1.1 (nI i) 0)) ml A (i + 1) := by
  refine ⟨(h.1.hr h7).scr h7 (k := 304) (by omega) (fun a ha => pm_u_ne ha), fun o ho => ?_⟩
  by_cases hh : o = i
  · subst hh
    exact pm_u_self
  · rw [pm_u_oth hh, hr_ne (by decide)]
    exact h.2 o (by omega)
theorem l_setSeen {L : Nat} {π : Nat → Nat → Nat} {ml : Nat → Nat → Int64} {mr : Nat → Nat → Option Nat} {d : Nat} {E : Option Value → pm_M → Prop} (hw : WR π mr) {A : AV} (hA : okA A)  (hE : ∀ mi, RSn mi ml A 13 → E none (WW L, mi, ml, mr)) : ∀ (k i : Nat) (mi : Nat → Nat → Int32), i + k = 13 → RSn mi ml A i → Ev gR (pm_ev gR (d + 5)) E q_188 2 [some (.ref 285), some (.int (nI i))] [] (WW L, mi, ml, mr) := by
  intro k
  induction k with
  | zero =>
    intro i mi hi hc
    have hi : i = 13 := by omega
    subst hi
    have h7 := hA.n7
    have hn := hc.hn
    refine ev_iload_n (p' := 3) i_188_2 rfl rfl ?_
    refine ev_bipush (p' := 5) (v := 12) i_188_3 rfl (by decide) ?_
    refine ev_icmp_gt (p' := 8) (tg := 25) i_188_5 rfl rfl (fun c5 => ?_) (fun c5 => absurd (by decide) c5)
    exact ev_ret i_188_25 rfl (hE _ hc)
  | succ k ih =>
    intro i mi hi hc
    have h7 := hA.n7
    have hn := hc.hn
    refine ev_iload_n (p' := 3) i_188_2 rfl rfl ?_
    refine ev_bipush (p' := 5) (v := 12) i_188_3 rfl (by decide) ?_
    refine ev_icmp_gt (p' := 8) (tg := 25) i_188_5 rfl rfl (fun c5 => absurd c5 (Int32.not_lt.mpr (nI_le (b := 12) (by omega) (by decide)))) (fun c5 => ?_)
    refine ev_aload_n (p' := 9) i_188_8 rfl rfl ?_
    refine ev_getr (p' := 12) i_188_9 rfl fl_12_64 rfl is_285 (rf_285_28 hw) ?_
    refine ev_iload_n (p' := 13) i_188_12 rfl rfl ?_
    refine ev_aload_n (p' := 14) i_188_13 rfl rfl ?_
    refine ev_iload_n (p' := 15) i_188_14 rfl rfl ?_
    refine ev_v1I (p' := 18) i_188_15 rfl cl_12_237_12 (by decide) is_285 (Nat.le_of_ble_eq_true rfl) (v_mSeen _ hw hc.1 hA (show i < 13 by omega)) ?_
    refine ev_iastN (p' := 19) i_188_18 rfl is_304 len_304 (by omega) (by decide) (gr (by decide)) ?_
    refine ev_iinc (p' := 22) (ls' := [_, _]) i_188_19 rfl rfl rfl (by decide) (nI_inc _) rfl ?_
    refine ev_goto (tg := 2) i_188_22 rfl ?_
    exact ih (i + 1) _ (by omega) (hc.step h7)
theorem s_setSeen {L : Nat} {π : Nat → Nat → Nat} {ml : Nat → Nat → Int64} {mr : Nat → Nat → Option Nat} {mi : Nat → Nat → Int32} (d : Nat) (hw : WR π mr) {A : AV} (hA : okA A)  (hc : RR mi ml A) : ∃ mi', pm_ev gR (d + 6) 188 [.ref 285] (WW L, mi, ml, mr) (none) (WW L, mi', ml, mr) ∧ RSn mi' ml A 13 := by
  have h7 := hA.n7
  obtain ⟨x, m', ⟨h1, mi1, h2, h3⟩, h5⟩ := ev_some (E := fun x m => x = none ∧ ∃ mi', m = (WW L, mi', ml, mr) ∧ RSn mi' ml A 13) (g := gR) (d := d + 5) (M := 188) (args := [.ref 285]) (mem := (WW L, mi, ml, mr)) (q := q_188) rfl (Nat.le_of_ble_eq_true rfl) rfl (by
    refine ev_iconst (p' := 1) (v := nI 0) i_188_0 rfl (by decide) ?_
    refine ev_istore_n (p' := 2) (ls' := [_, _]) i_188_1 rfl rfl (by decide) rfl ?_
    exact l_setSeen hw hA (fun mi1 h => ⟨rfl, mi1, rfl, h⟩) 13 0 mi (by decide) ⟨hc, fun o ho => absurd ho (Nat.not_lt_zero o)⟩)
  subst h1 h2
  exact ⟨mi1, h5, h3⟩
noncomputable def wset (G : Int32) (m : Nat) : Int32 := bset (fun c => m.testBit c = true ∧ GW G m c) 13
theorem cdk : ∀ c, c < 13 → ∀ k, k < 5 → k ≤ c + 2 → nI c + (2 - nI k) = nI (c + 2 - k) := by decide +kernel
theorem cdn : ∀ c, c < 13 → ∀ k, k < 5 → ¬ k ≤ c + 2 → ¬ (0 ≤ nI c + (2 - nI k) ∧ nI c + (2 - nI k) ≤ 12) := by decide +kernel
theorem cdi : ∀ k, k < 5 → (2 - nI k) + Int32.ofInt (-1) = 2 - nI (k + 1) := by decide +kernel
theorem cdb : ∀ k, k < 5 → ¬ (2 - nI k) < -2 := by decide +kernel
noncomputable def SCk (G : Int32) (m c k : Nat) : Int32 := if k ≤ c + 3 then scan (MV G m c) k (c + 3 - k) else scan (MV G m c) (c + 3) 0
theorem SCk_a {G : Int32} {m c k : Nat} (hk : k ≤ c + 2) : SCk G m c (k + 1) = scan (MV G m c) (k + 1) (c + 2 - k) ∧ SCk G m c k = scan (MV G m c) k (c + 2 - k + 1) := by
  unfold SCk
  rw [if_pos (by omega), if_pos (by omega), show c + 3 - (k + 1) = c + 2 - k by omega, show c + 3 - k = c + 2 - k + 1 by omega]
  exact ⟨rfl, rfl⟩
theorem SCk_b {G : Int32} {m c k : Nat} (hk : ¬ k ≤ c + 2) : SCk G m c (k + 1) = SCk G m c k := by
  unfold SCk
  rw [if_neg (by omega)]
  by_cases h : k ≤ c + 3
  · have : k = c + 3 := by omega
    subst this
    rw [if_pos (Nat.le_refl _), Nat.sub_self]
  · rw [if_neg h]
theorem SCk_5 {G : Int32} {m c : Nat} (hc : c < 13) : SCk G m c 5 = WS G m c := by
  unfold SCk
  by_cases h : 5 ≤ c + 3
  · rw [if_pos h]; exact WS_at (by omega) (by omega) (by omega) (by omega)
  · rw [if_neg h]; exact WS_at (by omega) (by omega) (by omega) (by omega)
theorem l_gf {L : Nat} {π : Nat → Nat → Nat} {mi : Nat → Nat → Int32} {ml : Nat → Nat → Int64} {mr : Nat → Nat → Option Nat} {d : Nat} {E : Option Value → pm_M → Prop} (hw : WR π mr) {G : Int32} {m c : Nat} (hm : m < 8192) (hc : c < 13) (hW : ∀ m2, m < m2 → m2 < 8192 → mi 307 m2 = wset G m2) (hE : E (some (.int (WS G m c))) (WW L, mi, ml, mr)) : ∀ q k x6 x7, k + q = 5 → Ev gR (pm_ev gR (d + 2)) E q_197 6 [some (.ref 285), some (.int (nI m)), some (.int (nI c)), some (.int G), some (.int (SCk G m c k)), some (.int (2 - nI k)), x6, x7] [] (WW L, mi, ml, mr) := by
  intro q
  induction q with
  | zero =>
    intro k x6 x7 hk
    have hk : k = 5 := by omega
    subst hk
    refine ev_iload (p' := 8) i_197_6 rfl rfl ?_
    refine ev_bipush (p' := 10) (v := -2) i_197_8 rfl (by decide) ?_
    refine ev_icmp_lt (p' := 13) (tg := 91) i_197_10 rfl rfl (fun c10 => ?_) (fun c10 => absurd (by decide) c10)
    refine ev_iload (p' := 93) i_197_91 rfl rfl ?_
    exact ev_iretI i_197_93 rfl (by rw [SCk_5 hc]; exact hE)
  | succ q ih =>
    intro k x6 x7 hk
    have hk5 : k < 5 := by omega
    by_cases hk2 : k ≤ c + 2
    · refine ev_iload (p' := 8) i_197_6 rfl rfl ?_
      refine ev_bipush (p' := 10) (v := -2) i_197_8 rfl (by decide) ?_
      refine ev_icmp_lt (p' := 13) (tg := 91) i_197_10 rfl rfl (fun c10 => absurd c10 (cdb k hk5)) (fun c10 => ?_)
      refine ev_iload_n (p' := 14) i_197_13 rfl rfl ?_
      refine ev_iload (p' := 16) i_197_14 rfl rfl ?_
      refine ev_iadd (p' := 17) i_197_16 rfl ?_
      rw [cdk c hc k hk5 hk2]
      refine ev_istore (p' := 19) (ls' := [_, _, _, _, _, _, _, _]) i_197_17 rfl rfl (by decide) rfl ?_
      refine ev_iload (p' := 21) i_197_19 rfl rfl ?_
      refine ev_s1I (p' := 24) i_197_21 rfl cl_12_228_0 (by decide) (Nat.le_of_ble_eq_true rfl) (s_isOpening _ _) ?_
      refine ev_if_eq (p' := 27) (tg := 40) i_197_24 rfl rfl (fun c24 => ?_) (fun c24 => ?_)
      · replace c24 := B0 c24
        refine ev_iconst (p' := 41) (v := 0) i_197_40 rfl (by decide) ?_
        refine ev_istore (p' := 43) (ls' := [_, _, _, _, _, _, _, _]) i_197_41 rfl rfl (by decide) rfl ?_
        refine ev_iload (p' := 45) i_197_43 rfl rfl ?_
        refine ev_if_eq (p' := 48) (tg := 81) i_197_45 rfl rfl (fun c45 => ?_) (fun c45 => absurd (rfl) c45)
        refine ev_iload (p' := 83) i_197_81 rfl rfl ?_
        refine ev_istore (p' := 85) (ls' := [_, _, _, _, _, _, _, _]) i_197_83 rfl rfl (by decide) rfl ?_
        refine ev_iinc (p' := 88) (ls' := [_, _, _, _, _, _, _, _]) i_197_85 rfl rfl rfl (by decide) rfl rfl ?_
        refine ev_goto (tg := 6) i_197_88 rfl ?_
        refine ev_cast (by rw [(SCk_a hk2).1, scan_f (fun z => c24 (in0 (m := 12) z.1.1 (by decide) rfl)), ← (SCk_a hk2).2, cdi k hk5]) rfl rfl (ih (k + 1) _ _ (by omega))
      · replace c24 := B1 c24
        have ho12 : c + 2 - k ≤ 12 := (nI_leI (by omega) (by decide)).mp c24.2
        refine ev_iload_n (p' := 28) i_197_27 rfl rfl ?_
        refine ev_iload (p' := 30) i_197_28 rfl rfl ?_
        refine ev_s2I (p' := 33) i_197_30 rfl cl_12_208_0 (by decide) (Nat.le_of_ble_eq_true rfl) (s_mhas _ _ _) ?_
        refine ev_if_ne (p' := 36) (tg := 40) i_197_33 rfl rfl (fun c33 => ?_) (fun c33 => ?_)
        · replace c33 := B1 c33
          refine ev_iconst (p' := 41) (v := 0) i_197_40 rfl (by decide) ?_
          refine ev_istore (p' := 43) (ls' := [_, _, _, _, _, _, _, _]) i_197_41 rfl rfl (by decide) rfl ?_
          refine ev_iload (p' := 45) i_197_43 rfl rfl ?_
          refine ev_if_eq (p' := 48) (tg := 81) i_197_45 rfl rfl (fun c45 => ?_) (fun c45 => absurd (rfl) c45)
          refine ev_iload (p' := 83) i_197_81 rfl rfl ?_
          refine ev_istore (p' := 85) (ls' := [_, _, _, _, _, _, _, _]) i_197_83 rfl rfl (by decide) rfl ?_
          refine ev_iinc (p' := 88) (ls' := [_, _, _, _, _, _, _, _]) i_197_85 rfl rfl rfl (by decide) rfl rfl ?_
          refine ev_goto (tg := 6) i_197_88 rfl ?_
          refine ev_cast (by rw [(SCk_a hk2).1, scan_f (fun z => z.2.1 ((HS_tb (by omega) (by omega)).mp (HS_m.mp c33))), ← (SCk_a hk2).2, cdi k hk5]) rfl rfl (ih (k + 1) _ _ (by omega))
        · replace c33 := B0n c33
          refine ev_iconst (p' := 37) (v := 1) i_197_36 rfl (by decide) ?_
          refine ev_goto (tg := 41) i_197_37 rfl ?_
          refine ev_istore (p' := 43) (ls' := [_, _, _, _, _, _, _, _]) i_197_41 rfl rfl (by decide) rfl ?_
          refine ev_iload (p' := 45) i_197_43 rfl rfl ?_
          refine ev_if_eq (p' := 48) (tg := 81) i_197_45 rfl rfl (fun c45 => absurd c45 (by decide)) (fun c45 => ?_)
          refine ev_iload_n (p' := 49) i_197_48 rfl rfl ?_
          refine ev_iload (p' := 51) i_197_49 rfl rfl ?_
          refine ev_s2I (p' := 54) i_197_51 rfl cl_12_208_0 (by decide) (Nat.le_of_ble_eq_true rfl) (s_mhas _ _ _) ?_
          refine ev_if_ne (p' := 57) (tg := 76) i_197_54 rfl rfl (fun c54 => ?_) (fun c54 => ?_)
          · replace c54 := B1 c54
            refine ev_iload (p' := 78) i_197_76 rfl rfl ?_
            refine ev_goto (tg := 83) i_197_78 rfl ?_
            refine ev_istore (p' := 85) (ls' := [_, _, _, _, _, _, _, _]) i_197_83 rfl rfl (by decide) rfl ?_
            refine ev_iinc (p' := 88) (ls' := [_, _, _, _, _, _, _, _]) i_197_85 rfl rfl rfl (by decide) rfl rfl ?_
            refine ev_goto (tg := 6) i_197_88 rfl ?_
            refine ev_cast (by rw [(SCk_a hk2).1, scan_t (p := MV G m c) ⟨⟨by omega, by omega, by omega⟩, (fun z => c33 (HS_m.mpr ((HS_tb (by omega) (by omega)).mpr z))), Or.inl (HS_m.mp c54)⟩, cdi k hk5]) rfl rfl (ih (k + 1) _ _ (by omega))
          · replace c54 := B0n c54
            refine ev_aload_n (p' := 58) i_197_57 rfl rfl ?_
            refine ev_getr (p' := 61) i_197_58 rfl fl_12_73 rfl is_285 (rf_285_32 hw) ?_
            refine ev_iload_n (p' := 62) i_197_61 rfl rfl ?_
            refine ev_iconst (p' := 63) (v := 1) i_197_62 rfl (by decide) ?_
            refine ev_iload (p' := 65) i_197_63 rfl rfl ?_
            refine ev_ishl (p' := 66) i_197_65 rfl ?_
            refine ev_ior (p' := 67) i_197_66 rfl ?_
            rw [or_up2 (show c + 2 - k < 13 by omega)]
            refine ev_ialdN (p' := 68) i_197_67 rfl is_307 len_307 (or_lt hm (show c + 2 - k < 13 by omega)) (by decide) ?_
            rw [hW (m ||| 2 ^ (c + 2 - k)) (or_gt (fun z => c33 (HS_m.mpr ((HS_tb (by omega) (by omega)).mpr z)))) (or_lt hm (show c + 2 - k < 13 by omega))]
            refine ev_iload (p' := 70) i_197_68 rfl rfl ?_
            refine ev_s2I (p' := 73) i_197_70 rfl cl_12_208_0 (by decide) (Nat.le_of_ble_eq_true rfl) (s_mhas _ _ _) ?_
            refine ev_if_ne (p' := 76) (tg := 81) i_197_73 rfl rfl (fun c73 => ?_) (fun c73 => ?_)
            · replace c73 := B1 c73
              refine ev_iload (p' := 83) i_197_81 rfl rfl ?_
              refine ev_istore (p' := 85) (ls' := [_, _, _, _, _, _, _, _]) i_197_83 rfl rfl (by decide) rfl ?_
              refine ev_iinc (p' := 88) (ls' := [_, _, _, _, _, _, _, _]) i_197_85 rfl rfl rfl (by decide) rfl rfl ?_
              refine ev_goto (tg := 6) i_197_88 rfl ?_
              refine ev_cast (by rw [(SCk_a hk2).1, scan_f (fun z => z.2.2.elim (fun y => c54 (HS_m.mpr y)) (fun y => y ((bset_has (show c + 2 - k < 13 by omega) 13 (by decide)).mp (HS_m.mp c73)).2.2)), ← (SCk_a hk2).2, cdi k hk5]) rfl rfl (ih (k + 1) _ _ (by omega))
            · replace c73 := B0n c73
              refine ev_iload (p' := 78) i_197_76 rfl rfl ?_
              refine ev_goto (tg := 83) i_197_78 rfl ?_
              refine ev_istore (p' := 85) (ls' := [_, _, _, _, _, _, _, _]) i_197_83 rfl rfl (by decide) rfl ?_
              refine ev_iinc (p' := 88) (ls' := [_, _, _, _, _, _, _, _]) i_197_85 rfl rfl rfl (by decide) rfl rfl ?_
              refine ev_goto (tg := 6) i_197_88 rfl ?_
              refine ev_cast (by rw [(SCk_a hk2).1, scan_t (p := MV G m c) ⟨⟨by omega, by omega, by omega⟩, (fun z => c33 (HS_m.mpr ((HS_tb (by omega) (by omega)).mpr z))), Or.inr (fun y => c73 (HS_m.mpr ((bset_has (show c + 2 - k < 13 by omega) 13 (by decide)).mpr ⟨by omega, by rw [or_bit]; simp, y⟩)))⟩, cdi k hk5]) rfl rfl (ih (k + 1) _ _ (by omega))
    · refine ev_iload (p' := 8) i_197_6 rfl rfl ?_
      refine ev_bipush (p' := 10) (v := -2) i_197_8 rfl (by decide) ?_
      refine ev_icmp_lt (p' := 13) (tg := 91) i_197_10 rfl rfl (fun c10 => absurd c10 (cdb k hk5)) (fun c10 => ?_)
      refine ev_iload_n (p' := 14) i_197_13 rfl rfl ?_
      refine ev_iload (p' := 16) i_197_14 rfl rfl ?_
      refine ev_iadd (p' := 17) i_197_16 rfl ?_
      refine ev_istore (p' := 19) (ls' := [_, _, _, _, _, _, _, _]) i_197_17 rfl rfl (by decide) rfl ?_
      refine ev_iload (p' := 21) i_197_19 rfl rfl ?_
      refine ev_s1I (p' := 24) i_197_21 rfl cl_12_228_0 (by decide) (Nat.le_of_ble_eq_true rfl) (s_isOpening _ _) ?_
      refine ev_if_eq (p' := 27) (tg := 40) i_197_24 rfl rfl (fun c24 => ?_) (fun c24 => absurd (B_f (cdn c hc k hk5 hk2)) c24)
      refine ev_iconst (p' := 41) (v := 0) i_197_40 rfl (by decide) ?_
      refine ev_istore (p' := 43) (ls' := [_, _, _, _, _, _, _, _]) i_197_41 rfl rfl (by decide) rfl ?_
      refine ev_iload (p' := 45) i_197_43 rfl rfl ?_
      refine ev_if_eq (p' := 48) (tg := 81) i_197_45 rfl rfl (fun c45 => ?_) (fun c45 => absurd (rfl) c45)
      refine ev_iload (p' := 83) i_197_81 rfl rfl ?_
      refine ev_istore (p' := 85) (ls' := [_, _, _, _, _, _, _, _]) i_197_83 rfl rfl (by decide) rfl ?_
      refine ev_iinc (p' := 88) (ls' := [_, _, _, _, _, _, _, _]) i_197_85 rfl rfl rfl (by decide) rfl rfl ?_
      refine ev_goto (tg := 6) i_197_88 rfl ?_
      refine ev_cast (by rw [SCk_b hk2, cdi k hk5]) rfl rfl (ih (k + 1) _ _ (by omega))
theorem s_gf {L : Nat} {π : Nat → Nat → Nat} {mi : Nat → Nat → Int32} {ml : Nat → Nat → Int64} {mr : Nat → Nat → Option Nat} (d : Nat) (hw : WR π mr) {G : Int32} {m c : Nat} (hm : m < 8192) (hc : c < 13) (hW : ∀ m2, m < m2 → m2 < 8192 → mi 307 m2 = wset G m2) : pm_ev gR (d + 3) 197 [.ref 285, .int (nI m), .int (nI c), .int G] (WW L, mi, ml, mr) (some (.int (WS G m c))) (WW L, mi, ml, mr) := by
  refine ev_enter (q := q_197) rfl (Nat.le_of_ble_eq_true rfl) rfl ?_
  refine ev_iconst (p' := 1) (v := -1) i_197_0 rfl (by decide) ?_
  refine ev_istore (p' := 3) (ls' := [_, _, _, _, _, _, _, _]) i_197_1 rfl rfl (by decide) rfl ?_
  refine ev_iconst (p' := 4) (v := 2) i_197_3 rfl (by decide) ?_
  refine ev_istore (p' := 6) (ls' := [_, _, _, _, _, _, _, _]) i_197_4 rfl rfl (by decide) rfl ?_
  refine ev_cast (by rw [show SCk G m c 0 = -1 from by unfold SCk; rw [if_pos (by omega)]; exact scan_none 0 _ (fun o h1 h2 => by omega)]; rfl) rfl rfl (l_gf hw hm hc hW ⟨rfl, rfl⟩ 5 0 _ _ (by decide))
def WI (mi1 mi : Nat → Nat → Int32) (G : Int32) (m : Nat) : Prop := (∀ a, a ≠ 307 → mi a = mi1 a) ∧ ∀ m2, m < m2 → m2 < 8192 → mi 307 m2 = wset G m2
def WJ (mi1 mi : Nat → Nat → Int32) (G : Int32) (m c : Nat) : Prop := WI mi1 mi G m ∧ mi 307 m = bset (fun c => m.testBit c = true ∧ GW G m c) c
theorem WJ.step {mi1 mi : Nat → Nat → Int32} {G x : Int32} {m c : Nat} (h : WJ mi1 mi G m c) (hx : x = bset (fun c => m.testBit c = true ∧ GW G m c) (c + 1)) : WJ mi1 (pm_u mi 307 m x) G m (c + 1) :=
  ⟨⟨fun a ha => by rw [pm_u_ne ha]; exact h.1.1 a ha, fun m2 h1 h2 => by rw [pm_u_oth (by omega)]; exact h.1.2 m2 h1 h2⟩, by rw [pm_u_self, hx]⟩
theorem WJ.end {mi1 mi : Nat → Nat → Int32} {G : Int32} {m : Nat} (h : WJ mi1 mi G (m + 1) 13) : WI mi1 mi G m :=
  ⟨h.1.1, fun m2 h1 h2 => by
    by_cases hh : m2 = m + 1
    · subst hh; exact h.2
    · exact h.1.2 m2 (by omega) h2⟩
theorem l_wj {L : Nat} {π : Nat → Nat → Nat} {ml : Nat → Nat → Int64} {mr : Nat → Nat → Option Nat} {mi1 : Nat → Nat → Int32} {d : Nat} {E : Option Value → pm_M → Prop} (hw : WR π mr) {G : Int32} {m : Nat} (hm : m < 8192) {x1 x2 : Option Value} (hE : ∀ mi, WJ mi1 mi G m 13 → Ev gR (pm_ev gR (d + 7)) E q_198 165 [some (.ref 285), x1, x2, some (.int G), some (.int (nI m)), some (.int (nI 13))] [] (WW L, mi, ml, mr)) : ∀ k c mi, c + k = 13 → WJ mi1 mi G m c → Ev gR (pm_ev gR (d + 7)) E q_198 111 [some (.ref 285), x1, x2, some (.int G), some (.int (nI m)), some (.int (nI c))] [] (WW L, mi, ml, mr) := by
  intro k
  induction k with
  | zero =>
    intro c mi hc hJ
    have hc : c = 13 := by omega
    subst hc
    refine ev_iload (p' := 113) i_198_111 rfl rfl ?_
    refine ev_bipush (p' := 115) (v := 12) i_198_113 rfl (by decide) ?_
    refine ev_icmp_gt (p' := 118) (tg := 165) i_198_115 rfl rfl (fun c115 => ?_) (fun c115 => absurd (by decide) c115)
    exact hE _ hJ
  | succ k ih =>
    intro c mi hc hJ
    refine ev_iload (p' := 113) i_198_111 rfl rfl ?_
    refine ev_bipush (p' := 115) (v := 12) i_198_113 rfl (by decide) ?_
    refine ev_icmp_gt (p' := 118) (tg := 165) i_198_115 rfl rfl (fun c115 => absurd c115 (Int32.not_lt.mpr (nI_le (b := 12) (by omega) (by decide)))) (fun c115 => ?_)
    refine ev_aload_n (p' := 119) i_198_118 rfl rfl ?_
    refine ev_getr (p' := 122) i_198_119 rfl fl_12_73 rfl is_285 (rf_285_32 hw) ?_
    refine ev_iload (p' := 124) i_198_122 rfl rfl ?_
    refine ev_dup2 (p' := 125) i_198_124 rfl rfl rfl ?_
    refine ev_ialdN (p' := 126) i_198_125 rfl is_307 len_307 hm (by decide) ?_
    refine ev_iload (p' := 128) i_198_126 rfl rfl ?_
    refine ev_iload (p' := 130) i_198_128 rfl rfl ?_
    refine ev_s2I (p' := 133) i_198_130 rfl cl_12_208_0 (by decide) (Nat.le_of_ble_eq_true rfl) (s_mhas _ _ _) ?_
    refine ev_if_eq (p' := 136) (tg := 156) i_198_133 rfl rfl (fun c133 => ?_) (fun c133 => ?_)
    · replace c133 := B0 c133
      refine ev_iconst (p' := 157) (v := 0) i_198_156 rfl (by decide) ?_
      refine ev_ior (p' := 158) i_198_157 rfl ?_
      refine ev_iastN (p' := 159) i_198_158 rfl is_307 len_307 hm (by decide) (gr (by decide)) ?_
      refine ev_iinc (p' := 162) (ls' := [_, _, _, _, _, _]) i_198_159 rfl rfl rfl (by decide) (nI_inc _) rfl ?_
      refine ev_goto (tg := 111) i_198_162 rfl ?_
      exact ih (c + 1) _ (by omega) (hJ.step (by rw [hJ.2, bset_f (p := (fun c => m.testBit c = true ∧ GW G m c)) (fun z => c133 (HS_m.mpr ((HS_tb (by omega) (by omega)).mpr z.1))), Int32.or_zero]))
    · replace c133 := B1 c133
      refine ev_aload_n (p' := 137) i_198_136 rfl rfl ?_
      refine ev_iload (p' := 139) i_198_137 rfl rfl ?_
      refine ev_iload (p' := 141) i_198_139 rfl rfl ?_
      refine ev_iload_n (p' := 142) i_198_141 rfl rfl ?_
      refine ev_v3I (p' := 145) i_198_142 rfl cl_12_287_12 (by decide) is_285 (Nat.le_of_ble_eq_true rfl) (s_gf _ hw hm (show c < 13 by omega) hJ.1.2) ?_
      refine ev_iconst (p' := 146) (v := -1) i_198_145 rfl (by decide) ?_
      refine ev_icmp_eq (p' := 149) (tg := 156) i_198_146 rfl rfl (fun c146 => ?_) (fun c146 => ?_)
      · refine ev_iconst (p' := 157) (v := 0) i_198_156 rfl (by decide) ?_
        refine ev_ior (p' := 158) i_198_157 rfl ?_
        refine ev_iastN (p' := 159) i_198_158 rfl is_307 len_307 hm (by decide) (gr (by decide)) ?_
        refine ev_iinc (p' := 162) (ls' := [_, _, _, _, _, _]) i_198_159 rfl rfl rfl (by decide) (nI_inc _) rfl ?_
        refine ev_goto (tg := 111) i_198_162 rfl ?_
        exact ih (c + 1) _ (by omega) (hJ.step (by rw [hJ.2, bset_f (p := (fun c => m.testBit c = true ∧ GW G m c)) (fun z => (WS_ne hm).mpr z.2 c146), Int32.or_zero]))
      · refine ev_iconst (p' := 150) (v := 1) i_198_149 rfl (by decide) ?_
        refine ev_iload (p' := 152) i_198_150 rfl rfl ?_
        refine ev_ishl (p' := 153) i_198_152 rfl ?_
        refine ev_goto (tg := 157) i_198_153 rfl ?_
        refine ev_ior (p' := 158) i_198_157 rfl ?_
        refine ev_iastN (p' := 159) i_198_158 rfl is_307 len_307 hm (by decide) (gr (by decide)) ?_
        refine ev_iinc (p' := 162) (ls' := [_, _, _, _, _, _]) i_198_159 rfl rfl rfl (by decide) (nI_inc _) rfl ?_
        refine ev_goto (tg := 111) i_198_162 rfl ?_
        exact ih (c + 1) _ (by omega) (hJ.step (by rw [hJ.2, bset_t (p := (fun c => m.testBit c = true ∧ GW G m c)) ⟨(HS_tb (by omega) (by omega)).mp (HS_m.mp c133), (WS_ne hm).mp c146⟩]))
theorem l_wi {L : Nat} {π : Nat → Nat → Nat} {ml : Nat → Nat → Int64} {mr : Nat → Nat → Option Nat} {mi1 : Nat → Nat → Int32} {d : Nat} {E : Option Value → pm_M → Prop} (hw : WR π mr) {G : Int32} {x1 x2 : Option Value} (hE : ∀ mi x5, WI mi1 mi G 0 → Ev gR (pm_ev gR (d + 7)) E q_198 171 [some (.ref 285), x1, x2, some (.int G), some (.int (nI 0)), x5] [] (WW L, mi, ml, mr)) : ∀ m mi x5, m < 8192 → WI mi1 mi G m → Ev gR (pm_ev gR (d + 7)) E q_198 95 [some (.ref 285), x1, x2, some (.int G), some (.int (nI m)), x5] [] (WW L, mi, ml, mr) := by
  intro m
  induction m with
  | zero =>
    intro mi x5 hm hI
    refine ev_iload (p' := 97) i_198_95 rfl rfl ?_
    refine ev_if_le (p' := 100) (tg := 171) i_198_97 rfl rfl (fun c97 => ?_) (fun c97 => absurd (by decide) c97)
    exact hE _ _ hI
  | succ m ih =>
    intro mi x5 hm hI
    refine ev_iload (p' := 97) i_198_95 rfl rfl ?_
    refine ev_if_le (p' := 100) (tg := 171) i_198_97 rfl rfl (fun c97 => absurd c97 (nI_nle (by omega) (by omega))) (fun c97 => ?_)
    refine ev_aload_n (p' := 101) i_198_100 rfl rfl ?_
    refine ev_getr (p' := 104) i_198_101 rfl fl_12_73 rfl is_285 (rf_285_32 hw) ?_
    refine ev_iload (p' := 106) i_198_104 rfl rfl ?_
    refine ev_iconst (p' := 107) (v := 0) i_198_106 rfl (by decide) ?_
    refine ev_iastN (p' := 108) i_198_107 rfl is_307 len_307 hm (by decide) (gr (by decide)) ?_
    refine ev_iconst (p' := 109) (v := nI 0) i_198_108 rfl (by decide) ?_
    refine ev_istore (p' := 111) (ls' := [_, _, _, _, _, _]) i_198_109 rfl rfl (by decide) rfl ?_
    refine l_wj (mi1 := mi1) hw hm (fun mi3 hJ => ?_) 13 0 _ (by decide) ⟨⟨fun a ha => by rw [pm_u_ne ha]; exact hI.1 a ha, fun m2 h1 h2 => by rw [pm_u_oth (by omega)]; exact hI.2 m2 h1 h2⟩, pm_u_self⟩
    refine ev_iinc (p' := 168) (ls' := [_, _, _, _, _, _]) i_198_165 rfl rfl rfl (by decide) (nI_dec _) rfl ?_
    refine ev_goto (tg := 95) i_198_168 rfl ?_
    exact ih _ _ (by omega) hJ.end
theorem l_goal {L : Nat} {π : Nat → Nat → Nat} {mi : Nat → Nat → Int32} {ml : Nat → Nat → Int64} {mr : Nat → Nat → Option Nat} {d : Nat} {E : Option Value → pm_M → Prop} (hw : WR π mr) {A : AV} (hS : ∀ o, o < 13 → mi 304 o = VS A.1.1 (nI o) 0) {i0 : Nat} {x2 : Int32} {x5 : Option Value} (kk : Ev gR (pm_ev gR (d + 7)) E q_198 69 [some (.ref 285), some (.int (nI i0)), some (.int x2), some (.int (bset (SE A.1.1 i0) 13)), some (.int (nI 13)), x5] [] (WW L, mi, ml, mr)) : ∀ k i, i + k = 13 → Ev gR (pm_ev gR (d + 7)) E q_198 31 [some (.ref 285), some (.int (nI i0)), some (.int x2), some (.int (bset (SE A.1.1 i0) i)), some (.int (nI i)), x5] [] (WW L, mi, ml, mr) := by
  intro k
  induction k with
  | zero =>
    intro i hi
    have hi : i = 13 := by omega
    subst hi
    refine ev_iload (p' := 33) i_198_31 rfl rfl ?_
    refine ev_bipush (p' := 35) (v := 12) i_198_33 rfl (by decide) ?_
    refine ev_icmp_gt (p' := 38) (tg := 69) i_198_35 rfl rfl (fun c35 => ?_) (fun c35 => absurd (by decide) c35)
    exact kk
  | succ k ih =>
    intro i hi
    refine ev_iload (p' := 33) i_198_31 rfl rfl ?_
    refine ev_bipush (p' := 35) (v := 12) i_198_33 rfl (by decide) ?_
    refine ev_icmp_gt (p' := 38) (tg := 69) i_198_35 rfl rfl (fun c35 => absurd c35 (Int32.not_lt.mpr (nI_le (b := 12) (by omega) (by decide)))) (fun c35 => ?_)
    refine ev_iload_n (p' := 39) i_198_38 rfl rfl ?_
    refine ev_aload_n (p' := 40) i_198_39 rfl rfl ?_
    refine ev_getr (p' := 43) i_198_40 rfl fl_12_64 rfl is_285 (rf_285_28 hw) ?_
    refine ev_iload (p' := 45) i_198_43 rfl rfl ?_
    refine ev_ialdN (p' := 46) i_198_45 rfl is_304 len_304 (by omega) (by decide) ?_
    rw [hS i (by omega)]
    refine ev_iload_n (p' := 47) i_198_46 rfl rfl ?_
    refine ev_s2I (p' := 50) i_198_47 rfl cl_12_208_0 (by decide) (Nat.le_of_ble_eq_true rfl) (s_mhas _ _ _) ?_
    refine ev_if_eq (p' := 53) (tg := 60) i_198_50 rfl rfl (fun c50 => ?_) (fun c50 => ?_)
    · replace c50 := B0 c50
      refine ev_iconst (p' := 61) (v := 0) i_198_60 rfl (by decide) ?_
      refine ev_ior (p' := 62) i_198_61 rfl ?_
      refine ev_istore_n (p' := 63) (ls' := [_, _, _, _, _, _]) i_198_62 rfl rfl (by decide) rfl ?_
      refine ev_iinc (p' := 66) (ls' := [_, _, _, _, _, _]) i_198_63 rfl rfl rfl (by decide) (nI_inc _) rfl ?_
      refine ev_goto (tg := 31) i_198_66 rfl ?_
      refine ev_cast (by rw [bset_f (p := SE A.1.1 i0) (fun z => c50 (HS_m.mpr z)), Int32.or_zero]) rfl rfl (ih (i + 1) (by omega))
    · replace c50 := B1 c50
      refine ev_iconst (p' := 54) (v := 1) i_198_53 rfl (by decide) ?_
      refine ev_iload (p' := 56) i_198_54 rfl rfl ?_
      refine ev_ishl (p' := 57) i_198_56 rfl ?_
      refine ev_goto (tg := 61) i_198_57 rfl ?_
      refine ev_ior (p' := 62) i_198_61 rfl ?_
      refine ev_istore_n (p' := 63) (ls' := [_, _, _, _, _, _]) i_198_62 rfl rfl (by decide) rfl ?_
      refine ev_iinc (p' := 66) (ls' := [_, _, _, _, _, _]) i_198_63 rfl rfl rfl (by decide) (nI_inc _) rfl ?_
      refine ev_goto (tg := 31) i_198_66 rfl ?_
      refine ev_cast (by rw [bset_t (p := SE A.1.1 i0) (HS_m.mp c50)]) rfl rfl (ih (i + 1) (by omega))
noncomputable def TN (A : AV) (i oo : Nat) (x : Int32) : Int32 := @ite _ (SE A.1.1 i oo) (Classical.propDecidable _) (if x = 0 then 2 else -1) (if x = 1 then WS (bset (SE A.1.1 i) 13) (2 ^ oo) oo else if WS (bset (SE A.1.1 i) 13) (2 ^ oo) oo = -1 then 0 else 1)
theorem TN_t {A : AV} {i oo : Nat} {x : Int32} (h : SE A.1.1 i oo) : TN A i oo x = if x = 0 then 2 else -1 := @if_pos _ (Classical.propDecidable _) h _ _ _
theorem TN_f {A : AV} {i oo : Nat} {x : Int32} (h : ¬ SE A.1.1 i oo) : TN A i oo x = (if x = 1 then WS (bset (SE A.1.1 i) 13) (2 ^ oo) oo else if WS (bset (SE A.1.1 i) 13) (2 ^ oo) oo = -1 then 0 else 1) := @if_neg _ (Classical.propDecidable _) h _ _ _
theorem goal_has {v : PV} {i oo : Nat} (ho : oo < 13) : HS (bset (SE v i) 13) oo ↔ SE v i oo := by
  rw [bset_has ho 13 (by decide)]
  exact ⟨fun h => h.2, fun h => ⟨ho, h⟩⟩
theorem zc_1 : ∀ o, o < 13 → zc (2 ^ o) 13 < 13 ∧ 2 ^ o < 8192 := by decide +kernel
theorem C_turns_bad (L d : Nat) (A : AV) (hA : okA A) (y : Int32) (x : Int32) (hb : ¬ ((0 ≤ y ∧ y ≤ nI A.1.1.1 - 1) ∧ (0 ≤ x ∧ x ≤ 1))) : Cst L (d + 24) 90 [.int y, .int x] A (.int (-2)) (badA A) := by
  refine C_of (q := q_90) rfl (Nat.le_of_ble_eq_true rfl) rfl (fun π mi ml mr hw hc => ?_)
  have hn := hc.hn
  have h7 := hA.n7
  refine ev_aload_n (p' := 1) i_90_0 rfl rfl ?_
  refine ev_iload_n (p' := 2) i_90_1 rfl rfl ?_
  refine ev_v1I (p' := 5) i_90_2 rfl cl_11_158_11 (by decide) is_1 (Nat.le_of_ble_eq_true rfl) (s_noPiece _ hw hn _) ?_
  refine ev_if_ne (p' := 8) (tg := 17) i_90_5 rfl rfl (fun c5 => ?_) (fun c5 => ?_)
  · replace c5 := B1 c5
    refine ev_aload_n (p' := 18) i_90_17 rfl rfl ?_
    refine ev_v0I (p' := 21) i_90_18 rfl cl_11_93_11 (by decide) is_1 (Nat.le_of_ble_eq_true rfl) (s_bad _) ?_
    exact ev_iretI i_90_21 rfl (EC.mk rfl hw (hc.bad hw))
  · replace c5 := B0n c5
    refine ev_iload_n (p' := 9) i_90_8 rfl rfl ?_
    refine ev_iconst (p' := 10) (v := 0) i_90_9 rfl (by decide) ?_
    refine ev_iconst (p' := 11) (v := 1) i_90_10 rfl (by decide) ?_
    refine ev_s3I (p' := 14) i_90_11 rfl cl_11_89_0 (by decide) (Nat.le_of_ble_eq_true rfl) (s_outside _ _ _ _) ?_
    refine ev_if_eq (p' := 17) (tg := 22) i_90_14 rfl rfl (fun c14 => ?_) (fun c14 => ?_)
    · replace c14 := B0 c14
      exact absurd ⟨ni c5, ni c14⟩ hb
    · replace c14 := B1 c14
      refine ev_aload_n (p' := 18) i_90_17 rfl rfl ?_
      refine ev_v0I (p' := 21) i_90_18 rfl cl_11_93_11 (by decide) is_1 (Nat.le_of_ble_eq_true rfl) (s_bad _) ?_
      exact ev_iretI i_90_21 rfl (EC.mk rfl hw (hc.bad hw))
theorem R_turns_bad (L d : Nat) (A : AV) (hA : okA A) (y : Int32) (x : Int32) (hb : ¬ ((0 ≤ y ∧ y ≤ nI A.1.1.1 - 1) ∧ (0 ≤ x ∧ x ≤ 1))) : Rst L (d + 24) 198 [.int y, .int x] A (.int (-2)) (badA A) := by
  refine R_of (q := q_198) rfl (Nat.le_of_ble_eq_true rfl) rfl (fun π mi ml mr hw hc => ?_)
  have hn := hc.hn
  have h7 := hA.n7
  refine ev_aload_n (p' := 1) i_198_0 rfl rfl ?_
  refine ev_iload_n (p' := 2) i_198_1 rfl rfl ?_
  refine ev_v1I (p' := 5) i_198_2 rfl cl_12_240_12 (by decide) is_285 (Nat.le_of_ble_eq_true rfl) (s_isPiece (π := π) _ hn _) ?_
  refine ev_if_eq (p' := 8) (tg := 17) i_198_5 rfl rfl (fun c5 => ?_) (fun c5 => ?_)
  · replace c5 := B0 c5
    refine ev_aload_n (p' := 18) i_198_17 rfl rfl ?_
    refine ev_v0I (p' := 21) i_198_18 rfl cl_12_119_12 (by decide) is_285 (Nat.le_of_ble_eq_true rfl) (s_mbad _ hw) ?_
    exact ev_iretI i_198_21 rfl (ER.mk rfl (hc.bad h7))
  · replace c5 := B1 c5
    refine ev_iload_n (p' := 9) i_198_8 rfl rfl ?_
    refine ev_iconst (p' := 10) (v := 0) i_198_9 rfl (by decide) ?_
    refine ev_iconst (p' := 11) (v := 1) i_198_10 rfl (by decide) ?_
    refine ev_s3I (p' := 14) i_198_11 rfl cl_12_115_0 (by decide) (Nat.le_of_ble_eq_true rfl) (s_in _ _ _ _) ?_
    refine ev_if_ne (p' := 17) (tg := 22) i_198_14 rfl rfl (fun c14 => ?_) (fun c14 => ?_)
    · replace c14 := B1 c14
      exact absurd ⟨c5, c14⟩ hb
    · replace c14 := B0n c14
      refine ev_aload_n (p' := 18) i_198_17 rfl rfl ?_
      refine ev_v0I (p' := 21) i_198_18 rfl cl_12_119_12 (by decide) is_285 (Nat.le_of_ble_eq_true rfl) (s_mbad _ hw) ?_
      exact ev_iretI i_198_21 rfl (ER.mk rfl (hc.bad h7))
theorem C_turns (L d : Nat) (A : AV) (hA : okA A) {i oo : Nat} (hi : i < A.1.1.1) (ho : oo < 13) (eo : A.1.1.2.2.1 = nI oo) (x : Int32) (hx : 0 ≤ x ∧ x ≤ 1) : Cst L (d + 24) 90 [.int (nI i), .int x] A (.int (TN A i oo x)) (A) := by
  refine C_of (q := q_90) rfl (Nat.le_of_ble_eq_true rfl) rfl (fun π mi ml mr hw hc => ?_)
  have hn := hc.hn
  have h7 := hA.n7
  refine ev_aload_n (p' := 1) i_90_0 rfl rfl ?_
  refine ev_iload_n (p' := 2) i_90_1 rfl rfl ?_
  refine ev_v1I (p' := 5) i_90_2 rfl cl_11_158_11 (by decide) is_1 (Nat.le_of_ble_eq_true rfl) (s_noPiece _ hw hn _) ?_
  refine ev_if_ne (p' := 8) (tg := 17) i_90_5 rfl rfl (fun c5 => absurd c5 (fun z => z (B_f (nj (inn hi h7))))) (fun c5 => ?_)
  refine ev_iload_n (p' := 9) i_90_8 rfl rfl ?_
  refine ev_iconst (p' := 10) (v := 0) i_90_9 rfl (by decide) ?_
  refine ev_iconst (p' := 11) (v := 1) i_90_10 rfl (by decide) ?_
  refine ev_s3I (p' := 14) i_90_11 rfl cl_11_89_0 (by decide) (Nat.le_of_ble_eq_true rfl) (s_outside _ _ _ _) ?_
  refine ev_if_eq (p' := 17) (tg := 22) i_90_14 rfl rfl (fun c14 => ?_) (fun c14 => absurd (B_f (nj hx)) c14)
  refine ev_aload_n (p' := 23) i_90_22 rfl rfl ?_
  refine ev_getr (p' := 26) i_90_23 rfl fl_11_78 rfl is_1 (rf_1_0 hw) ?_
  refine ev_getr (p' := 29) i_90_26 rfl fl_11_97 rfl (is_sp sp_17) (hw.page sp_17) ?_
  refine ev_geti (p' := 32) i_90_29 rfl fl_11_142 rfl (is_pg pg_33) ?_
  rw [hc.pg.2.2.2.1, eo]
  refine ev_istore_n (p' := 33) (ls' := [_, _, _, _, _, _]) i_90_32 rfl rfl (by decide) rfl ?_
  refine ev_aload_n (p' := 34) i_90_33 rfl rfl ?_
  refine ev_iload_n (p' := 35) i_90_34 rfl rfl ?_
  obtain ⟨mi1, e1, h1⟩ := s_show (L := L) (d + 16) hw hc hA i
  refine ev_v1I (p' := 38) i_90_35 rfl cl_11_220_11 (by decide) is_1 (Nat.le_of_ble_eq_true rfl) (e1) ?_
  refine ev_istore (p' := 40) (ls' := [_, _, _, _, _, _]) i_90_38 rfl rfl (by decide) rfl ?_
  refine ev_iload (p' := 42) i_90_40 rfl rfl ?_
  refine ev_iload_n (p' := 43) i_90_42 rfl rfl ?_
  refine ev_s2I (p' := 46) i_90_43 rfl cl_11_223_0 (by decide) (Nat.le_of_ble_eq_true rfl) (s_has _ _ _) ?_
  refine ev_if_eq (p' := 49) (tg := 59) i_90_46 rfl rfl (fun c46 => ?_) (fun c46 => ?_)
  · replace c46 := B0 c46
    refine ev_iload_n (p' := 60) i_90_59 rfl rfl ?_
    refine ev_iconst (p' := 61) (v := 1) i_90_60 rfl (by decide) ?_
    refine ev_iload_n (p' := 62) i_90_61 rfl rfl ?_
    refine ev_ishl (p' := 63) i_90_62 rfl ?_
    rw [pw_sh oo ho]
    refine ev_iload (p' := 65) i_90_63 rfl rfl ?_
    refine ev_bipush (p' := 67) (v := nI 13) i_90_65 rfl (by decide) ?_
    refine ev_s4I (p' := 70) i_90_67 rfl cl_11_261_0 (by decide) (Nat.le_of_ble_eq_true rfl) (s_ws (d + 9) 13 (2 ^ oo) oo (zc_1 oo ho).2 ho (zc_1 oo ho).1 (by decide)) ?_
    refine ev_istore (p' := 72) (ls' := [_, _, _, _, _, _]) i_90_70 rfl rfl (by decide) rfl ?_
    refine ev_iload_n (p' := 73) i_90_72 rfl rfl ?_
    refine ev_iconst (p' := 74) (v := 1) i_90_73 rfl (by decide) ?_
    refine ev_icmp_ne (p' := 77) (tg := 80) i_90_74 rfl rfl (fun c74 => ?_) (fun c74 => ?_)
    · refine ev_iload (p' := 82) i_90_80 rfl rfl ?_
      refine ev_iconst (p' := 83) (v := -1) i_90_82 rfl (by decide) ?_
      refine ev_icmp_ne (p' := 86) (tg := 90) i_90_83 rfl rfl (fun c83 => ?_) (fun c83 => ?_)
      · refine ev_iconst (p' := 91) (v := 1) i_90_90 rfl (by decide) ?_
        exact ev_iretI i_90_91 rfl (EC.mk (by rw [TN_f (fun z => c46 ((goal_has ho).mpr z)), if_neg c74, if_neg c83]) hw h1)
      · refine ev_iconst (p' := 87) (v := 0) i_90_86 rfl (by decide) ?_
        refine ev_goto (tg := 91) i_90_87 rfl ?_
        exact ev_iretI i_90_91 rfl (EC.mk (by rw [TN_f (fun z => c46 ((goal_has ho).mpr z)), if_neg c74, if_pos (Classical.not_not.mp c83)]) hw h1)
    · refine ev_iload (p' := 79) i_90_77 rfl rfl ?_
      exact ev_iretI i_90_79 rfl (EC.mk (by rw [TN_f (fun z => c46 ((goal_has ho).mpr z)), if_pos (Classical.not_not.mp c74)]) hw h1)
  · replace c46 := B1 c46
    refine ev_iload_n (p' := 50) i_90_49 rfl rfl ?_
    refine ev_if_ne (p' := 53) (tg := 57) i_90_50 rfl rfl (fun c50 => ?_) (fun c50 => ?_)
    · refine ev_iconst (p' := 58) (v := -1) i_90_57 rfl (by decide) ?_
      exact ev_iretI i_90_58 rfl (EC.mk (by rw [TN_t ((goal_has ho).mp c46), if_neg c50]) hw h1)
    · refine ev_iconst (p' := 54) (v := 2) i_90_53 rfl (by decide) ?_
      refine ev_goto (tg := 58) i_90_54 rfl ?_
      exact ev_iretI i_90_58 rfl (EC.mk (by rw [TN_t ((goal_has ho).mp c46), if_pos (Classical.not_not.mp c50)]) hw h1)
theorem R_turns (L d : Nat) (A : AV) (hA : okA A) {i oo : Nat} (hi : i < A.1.1.1) (ho : oo < 13) (eo : A.1.1.2.2.1 = nI oo) (x : Int32) (hx : 0 ≤ x ∧ x ≤ 1) : Rst L (d + 24) 198 [.int (nI i), .int x] A (.int (TN A i oo x)) (A) := by
  refine R_of (q := q_198) rfl (Nat.le_of_ble_eq_true rfl) rfl (fun π mi ml mr hw hc => ?_)
  have hn := hc.hn
  have h7 := hA.n7
  refine ev_aload_n (p' := 1) i_198_0 rfl rfl ?_
  refine ev_iload_n (p' := 2) i_198_1 rfl rfl ?_
  refine ev_v1I (p' := 5) i_198_2 rfl cl_12_240_12 (by decide) is_285 (Nat.le_of_ble_eq_true rfl) (s_isPiece (π := π) _ hn _) ?_
  refine ev_if_eq (p' := 8) (tg := 17) i_198_5 rfl rfl (fun c5 => absurd c5 (B_tn (inn hi h7))) (fun c5 => ?_)
  refine ev_iload_n (p' := 9) i_198_8 rfl rfl ?_
  refine ev_iconst (p' := 10) (v := 0) i_198_9 rfl (by decide) ?_
  refine ev_iconst (p' := 11) (v := 1) i_198_10 rfl (by decide) ?_
  refine ev_s3I (p' := 14) i_198_11 rfl cl_12_115_0 (by decide) (Nat.le_of_ble_eq_true rfl) (s_in _ _ _ _) ?_
  refine ev_if_ne (p' := 17) (tg := 22) i_198_14 rfl rfl (fun c14 => ?_) (fun c14 => absurd (B_tn hx) c14)
  refine ev_aload_n (p' := 23) i_198_22 rfl rfl ?_
  obtain ⟨mi1, e1, hS⟩ := s_setSeen (L := L) (d + 17) hw hA hc
  refine ev_v0V (p' := 26) i_198_23 rfl cl_12_270_12 (by decide) is_285 (Nat.le_of_ble_eq_true rfl) (e1) ?_
  refine ev_iconst (p' := 27) (v := 0) i_198_26 rfl (by decide) ?_
  refine ev_istore_n (p' := 28) (ls' := [_, _, _, _, _, _]) i_198_27 rfl rfl (by decide) rfl ?_
  refine ev_iconst (p' := 29) (v := nI 0) i_198_28 rfl (by decide) ?_
  refine ev_istore (p' := 31) (ls' := [_, _, _, _, _, _]) i_198_29 rfl rfl (by decide) rfl ?_
  refine l_goal (d := d + 16) hw hS.2 ?_ 13 0 (by decide)
  refine ev_iload_n (p' := 70) i_198_69 rfl rfl ?_
  refine ev_aload_n (p' := 71) i_198_70 rfl rfl ?_
  refine ev_geti (p' := 74) i_198_71 rfl fl_12_100 rfl is_285 ?_
  rw [show mi1 285 2 = nI oo from hS.1.1.1.2.1.trans eo]
  refine ev_s2I (p' := 77) i_198_74 rfl cl_12_208_0 (by decide) (Nat.le_of_ble_eq_true rfl) (s_mhas _ _ _) ?_
  refine ev_if_eq (p' := 80) (tg := 90) i_198_77 rfl rfl (fun c77 => ?_) (fun c77 => ?_)
  · replace c77 := B0 c77
    refine ev_sipush (p' := 93) (v := nI 8191) i_198_90 rfl (by decide) ?_
    refine ev_istore (p' := 95) (ls' := [_, _, _, _, _, _]) i_198_93 rfl rfl (by decide) rfl ?_
    refine l_wi (d := d + 16) hw (mi1 := mi1) (fun mi2 x5 hI => ?_) 8191 mi1 _ (by decide) ⟨fun _ _ => rfl, fun m2 h1 h2 => by omega⟩
    have hRf : RR mi2 ml A := hS.1.scr h7 (k := 307) (by omega) (fun a ha => hI.1 a ha)
    refine ev_aload_n (p' := 172) i_198_171 rfl rfl ?_
    refine ev_iconst (p' := 173) (v := 1) i_198_172 rfl (by decide) ?_
    refine ev_aload_n (p' := 174) i_198_173 rfl rfl ?_
    refine ev_geti (p' := 177) i_198_174 rfl fl_12_100 rfl is_285 ?_
    rw [show mi2 285 2 = nI oo from hRf.1.1.2.1.trans eo]
    refine ev_ishl (p' := 178) i_198_177 rfl ?_
    rw [pw_sh oo ho]
    refine ev_aload_n (p' := 179) i_198_178 rfl rfl ?_
    refine ev_geti (p' := 182) i_198_179 rfl fl_12_100 rfl is_285 ?_
    rw [show mi2 285 2 = nI oo from hRf.1.1.2.1.trans eo]
    refine ev_iload_n (p' := 183) i_198_182 rfl rfl ?_
    refine ev_v3I (p' := 186) i_198_183 rfl cl_12_287_12 (by decide) is_285 (Nat.le_of_ble_eq_true rfl) (s_gf _ hw (zc_1 oo ho).2 ho (fun m2 h1 h2 => hI.2 m2 (by have := Nat.two_pow_pos oo; omega) h2)) ?_
    refine ev_istore (p' := 188) (ls' := [_, _, _, _, _, _]) i_198_186 rfl rfl (by decide) rfl ?_
    refine ev_iload_n (p' := 189) i_198_188 rfl rfl ?_
    refine ev_iconst (p' := 190) (v := 1) i_198_189 rfl (by decide) ?_
    refine ev_icmp_ne (p' := 193) (tg := 198) i_198_190 rfl rfl (fun c190 => ?_) (fun c190 => ?_)
    · refine ev_iload (p' := 200) i_198_198 rfl rfl ?_
      refine ev_iconst (p' := 201) (v := -1) i_198_200 rfl (by decide) ?_
      refine ev_icmp_ne (p' := 204) (tg := 208) i_198_201 rfl rfl (fun c201 => ?_) (fun c201 => ?_)
      · refine ev_iconst (p' := 209) (v := 1) i_198_208 rfl (by decide) ?_
        exact ev_iretI i_198_209 rfl (ER.mk (by rw [TN_f (fun z => c77 (HS_m.mpr ((goal_has ho).mpr z))), if_neg c190, if_neg c201]) hRf)
      · refine ev_iconst (p' := 205) (v := 0) i_198_204 rfl (by decide) ?_
        refine ev_goto (tg := 209) i_198_205 rfl ?_
        exact ev_iretI i_198_209 rfl (ER.mk (by rw [TN_f (fun z => c77 (HS_m.mpr ((goal_has ho).mpr z))), if_neg c190, if_pos (Classical.not_not.mp c201)]) hRf)
    · refine ev_iload (p' := 195) i_198_193 rfl rfl ?_
      refine ev_goto (tg := 209) i_198_195 rfl ?_
      exact ev_iretI i_198_209 rfl (ER.mk (by rw [TN_f (fun z => c77 (HS_m.mpr ((goal_has ho).mpr z))), if_pos (Classical.not_not.mp c190)]) hRf)
  · replace c77 := B1 c77
    refine ev_iload_n (p' := 81) i_198_80 rfl rfl ?_
    refine ev_if_ne (p' := 84) (tg := 88) i_198_81 rfl rfl (fun c81 => ?_) (fun c81 => ?_)
    · refine ev_iconst (p' := 89) (v := -1) i_198_88 rfl (by decide) ?_
      exact ev_iretI i_198_89 rfl (ER.mk (by rw [TN_t ((goal_has ho).mp (HS_m.mp c77)), if_neg c81]) hS.1)
    · refine ev_iconst (p' := 85) (v := 2) i_198_84 rfl (by decide) ?_
      refine ev_goto (tg := 89) i_198_85 rfl ?_
      exact ev_iretI i_198_89 rfl (ER.mk (by rw [TN_t ((goal_has ho).mp (HS_m.mp c77)), if_pos (Classical.not_not.mp c81)]) hS.1)
theorem Q_turns (L : Nat) (A : AV) (hA : okA A) (y x : Int32) : SameI L 90 198 [.int y, .int x] A := by
  by_cases h : (0 ≤ y ∧ y ≤ nI A.1.1.1 - 1) ∧ (0 ≤ x ∧ x ≤ 1)
  · obtain ⟨i, hi, rfl⟩ := ofn hA.n7 h.1
    obtain ⟨oo, ho, eo⟩ := hA.1.1.2.2.1
    exact ⟨_, A, hA, fun d => C_turns L d A hA hi ho eo x h.2, fun d => R_turns L d A hA hi ho eo x h.2⟩
  · exact ⟨_, badA A, hA.bad, fun d => C_turns_bad L d A hA y x h, fun d => R_turns_bad L d A hA y x h⟩
