/-! ===== read: the reference ===== -/
def MT (mi : Nat → Nat → Int32) (T : Nat → Int32) (n : Nat) : Prop := n ≤ 150 ∧ mi 285 17 = nI n ∧ ∀ i, i < n → mi 297 i = T i
theorem MT.fr {mi mi' : Nat → Nat → Int32} {T : Nat → Int32} {n : Nat} (h : MT mi T n) (h1 : mi' 285 17 = mi 285 17) (h2 : mi' 297 = mi 297) : MT mi' T n := ⟨h.1, by rw [h1]; exact h.2.1, fun i hi => by rw [h2]; exact h.2.2 i hi⟩
def RY (mi mi' : Nat → Nat → Int32) : Prop := (∀ a, a ≠ 285 → mi' a = mi a) ∧ ∀ j, j ≠ 18 → mi' 285 j = mi 285 j
def RX (mi mi' : Nat → Nat → Int32) : Prop := (∀ a, a ≠ 285 → mi' a = mi a) ∧ ∀ j, j ≠ 18 → j ≠ 19 → mi' 285 j = mi 285 j
theorem RY.u {mi mi' : Nat → Nat → Int32} {x : Int32} (h : RY mi mi') : RY mi (pm_u mi' 285 18 x) := ⟨fun a ha => by rw [pm_u_ne ha]; exact h.1 a ha, fun j hj => by rw [pm_u_oth hj]; exact h.2 j hj⟩
theorem RY.x {mi mi' : Nat → Nat → Int32} (h : RY mi mi') : RX mi mi' := ⟨h.1, fun j h1 _ => h.2 j h1⟩
theorem RY.m {mi mi' : Nat → Nat → Int32} {T : Nat → Int32} {n : Nat} (h : RY mi mi') (hM : MT mi T n) : MT mi' T n := hM.fr (h.2 17 (by decide)) (h.1 297 (by decide))
theorem RX.m {mi mi' : Nat → Nat → Int32} {T : Nat → Int32} {n : Nat} (h : RX mi mi') (hM : MT mi T n) : MT mi' T n := hM.fr (h.2 17 (by decide) (by decide)) (h.1 297 (by decide))
theorem RX.p {mi mi' : Nat → Nat → Int32} {v : PV} (h : RX mi mi') (hp : RP0 mi v) : RP0 mi' v := hp.cong (h.2 1 (by decide) (by decide)) (h.2 2 (by decide) (by decide)) (h.2 3 (by decide) (by decide)) (fun a h1 h2 => h.1 a (by omega))
theorem RX.trans {a b c : Nat → Nat → Int32} (h1 : RX a b) (h2 : RX b c) : RX a c := ⟨fun x hx => by rw [h2.1 x hx, h1.1 x hx], fun j hj hk => by rw [h2.2 j hj hk, h1.2 j hj hk]⟩
def hrv (T : Nat → Int32) (n i : Nat) : Int32 := if i < n then T i else -1
theorem hrv_t {T : Nat → Int32} {n i : Nat} (h : i < n) : hrv T n i = T i := if_pos h
theorem hrv_f {T : Nat → Int32} {n i : Nat} (h : ¬ i < n) : hrv T n i = -1 := if_neg h
theorem nmS_off {T : Nat → Int32} {n : Nat} {lo hi : Int32} {st : Bool × Nat} (h : ¬ st.1 = true) : nmS T n lo hi st = st := if_neg h
theorem enS_off {T : Nat → Int32} {n : Nat} {st : Bool × Nat} (h : ¬ st.1 = true) : enS T n st = st := if_neg h
def fvr (T : Nat → Int32) (s k : Nat) : Nat := if k = 0 then 0 else if k = 1 then dg (T s) else 10 * dg (T s) + dg (T (s + 1))
theorem fvr_lt {T : Nat → Int32} {s k : Nat} (h : ∀ j, s ≤ j → j < s + k → pFi (T j)) : fvr T s k < 100 := by
  unfold fvr
  split
  · decide
  · have h1 := dg_le (h s (Nat.le_refl _) (by omega))
    split
    · omega
    · have h2 := dg_le (h (s + 1) (by omega) (by omega))
      omega
theorem fvr_fv {T : Nat → Int32} {s m : Nat} (h1 : s + 1 ≤ m) (h2 : m ≤ s + 2) : fvr T s (m - s) = fv T s m := by
  unfold fvr fv
  rw [if_neg (by omega)]
  by_cases h : m = s + 1
  · rw [if_pos h, if_pos (by omega)]
  · rw [if_neg h, if_neg (by omega)]
theorem s_here {L : Nat} {π : Nat → Nat → Nat} {mi : Nat → Nat → Int32} {ml : Nat → Nat → Int64} {mr : Nat → Nat → Option Nat} (d : Nat) (hw : WR π mr) {T : Nat → Int32} {n : Nat} (hM : MT mi T n) {i : Nat} (hi : i ≤ n) (hat : mi 285 18 = nI i) : pm_ev gR (d + 1) 149 [.ref 285] (WW L, mi, ml, mr) (some (.int (hrv T n i))) (WW L, mi, ml, mr) := by
  refine ev_enter (q := q_149) rfl (Nat.le_of_ble_eq_true rfl) rfl ?_
  refine ev_aload_n (p' := 1) i_149_0 rfl rfl ?_
  refine ev_geti (p' := 4) i_149_1 rfl fl_12_133 rfl is_285 ?_
  rw [hat]
  refine ev_aload_n (p' := 5) i_149_4 rfl rfl ?_
  refine ev_geti (p' := 8) i_149_5 rfl fl_12_130 rfl is_285 ?_
  rw [hM.2.1]
  refine ev_icmp_ge (p' := 11) (tg := 23) i_149_8 rfl rfl (fun c8 => ?_) (fun c8 => ?_)
  · have h150 := hM.1
    have hin : ¬ i < n := by have := (nI_leI (a := n) (b := i) (by omega) (by omega)).mp c8; omega
    refine ev_iconst (p' := 24) (v := -1) i_149_23 rfl (by decide) ?_
    exact ev_iretI i_149_24 rfl ⟨by rw [hrv_f hin], rfl⟩
  · have h150 := hM.1
    have hin : i < n := by have := Nat.lt_of_not_le (fun z => c8 (nI_le (a := n) (b := i) z (by omega))); omega
    refine ev_aload_n (p' := 12) i_149_11 rfl rfl ?_
    refine ev_getr (p' := 15) i_149_12 rfl fl_12_43 rfl is_285 (rf_285_16 hw) ?_
    refine ev_aload_n (p' := 16) i_149_15 rfl rfl ?_
    refine ev_geti (p' := 19) i_149_16 rfl fl_12_133 rfl is_285 ?_
    rw [hat]
    refine ev_ialdN (p' := 20) i_149_19 rfl is_297 len_297 (by omega) (by decide) ?_
    rw [hM.2.2 i hin]
    refine ev_goto (tg := 24) i_149_20 rfl ?_
    exact ev_iretI i_149_24 rfl ⟨by rw [hrv_t hin], rfl⟩
theorem l_mskip {L : Nat} {π : Nat → Nat → Nat} {ml : Nat → Nat → Int64} {mr : Nat → Nat → Option Nat} {d : Nat} {E : Option Value → pm_M → Prop} (hw : WR π mr) {mi0 : Nat → Nat → Int32} {T : Nat → Int32} {n : Nat} (hM : MT mi0 T n) : ∀ k i mi, i + k = n → RY mi0 mi → mi 285 18 = nI i → (∀ mi, RY mi0 mi → mi 285 18 = nI (skp T n i) → E none (WW L, mi, ml, mr)) → Ev gR (pm_ev gR (d + 1)) E q_150 0 [some (.ref 285)] [] (WW L, mi, ml, mr) := by
  intro k
  induction k with
  | zero =>
    intro i mi hi hR hat hk
    have hi : i = n := by omega
    subst hi
    refine ev_aload_n (p' := 1) i_150_0 rfl rfl ?_
    refine ev_v0I (p' := 4) i_150_1 rfl cl_12_136_12 (by decide) is_285 (Nat.le_of_ble_eq_true rfl) (s_here _ hw (hR.m hM) (Nat.le_refl _) hat) ?_
    rw [hrv_f (Nat.lt_irrefl i)]
    refine ev_bipush (p' := 6) (v := 32) i_150_4 rfl (by decide) ?_
    refine ev_icmp_ne (p' := 9) (tg := 22) i_150_6 rfl rfl (fun c6 => ?_) (fun c6 => absurd (by decide) c6)
    exact ev_ret i_150_22 rfl (by rw [show skp T i i = i from rE_n (fun z => Nat.lt_irrefl _ z.1)] at hk; exact hk _ hR hat)
  | succ k ih =>
    intro i mi hi hR hat hk
    refine ev_aload_n (p' := 1) i_150_0 rfl rfl ?_
    refine ev_v0I (p' := 4) i_150_1 rfl cl_12_136_12 (by decide) is_285 (Nat.le_of_ble_eq_true rfl) (s_here _ hw (hR.m hM) (by omega) hat) ?_
    rw [hrv_t (show i < n by omega)]
    refine ev_bipush (p' := 6) (v := 32) i_150_4 rfl (by decide) ?_
    refine ev_icmp_ne (p' := 9) (tg := 22) i_150_6 rfl rfl (fun c6 => ?_) (fun c6 => ?_)
    · exact ev_ret i_150_22 rfl (by rw [show skp T n i = i from rE_n (fun z => c6 z.2)] at hk; exact hk _ hR hat)
    · refine ev_aload_n (p' := 10) i_150_9 rfl rfl ?_
      refine ev_dup (p' := 11) i_150_10 rfl rfl ?_
      refine ev_geti (p' := 14) i_150_11 rfl fl_12_133 rfl is_285 ?_
      rw [hat]
      refine ev_iconst (p' := 15) (v := nI 1) i_150_14 rfl (by decide) ?_
      refine ev_iaddN (p' := 16) i_150_15 rfl ?_
      refine ev_puti (p' := 19) i_150_16 rfl fl_12_133 rfl is_285 (gr (by decide)) rfl ?_
      refine ev_goto (tg := 0) i_150_19 rfl ?_
      rw [show skp T n i = skp T n (i + 1) from rE_s (by omega) (Classical.not_not.mp c6)] at hk
      exact ih (i + 1) _ (by omega) hR.u pm_u_self hk
theorem s_skip {L : Nat} {π : Nat → Nat → Nat} {ml : Nat → Nat → Int64} {mr : Nat → Nat → Option Nat} {mi : Nat → Nat → Int32} (d : Nat) (hw : WR π mr) {T : Nat → Int32} {n : Nat} (hM : MT mi T n) {i : Nat} (hi : i ≤ n) (hat : mi 285 18 = nI i) : ∃ mi', pm_ev gR (d + 2) 150 [.ref 285] (WW L, mi, ml, mr) (none) (WW L, mi', ml, mr) ∧ RY mi mi' ∧ mi' 285 18 = nI (skp T n i) := by
  obtain ⟨_x, m', ⟨h1, mi1, h2, h3⟩, h5⟩ := ev_some (E := fun _x m => _x = none ∧ ∃ mi', m = (WW L, mi', ml, mr) ∧ RY mi mi' ∧ mi' 285 18 = nI (skp T n i)) (g := gR) (d := d + 1) (M := 150) (args := [.ref 285]) (mem := (WW L, mi, ml, mr)) (q := q_150) rfl (Nat.le_of_ble_eq_true rfl) rfl (by
    exact l_mskip hw hM (n - i) i mi (by omega) ⟨fun _ _ => rfl, fun _ _ => rfl⟩ hat (fun mi1 h1 h2 => ⟨rfl, mi1, rfl, h1, h2⟩))
  subst h1 h2
  exact ⟨mi1, h5, h3⟩
theorem l_mnum {L : Nat} {π : Nat → Nat → Nat} {mi : Nat → Nat → Int32} {ml : Nat → Nat → Int64} {mr : Nat → Nat → Option Nat} {d : Nat} {E : Option Value → pm_M → Prop} (hw : WR π mr) {T : Nat → Int32} {n : Nat} (hM : MT mi T n) {s : Nat} (hat : mi 285 18 = nI s) {lo hi : Int32} (kk : Ev gR (pm_ev gR (d + 2)) E q_156 77 [some (.ref 285), some (.int lo), some (.int hi), some (.int (nI (fE T n s - s))), some (.int (nI (fvr T s (fE T n s - s))))] [] (WW L, mi, ml, mr)) : ∀ q k, s + k + q = n → (∀ j, s ≤ j → j < s + k → pFi (T j)) → rE pFi T n (s + k) = fE T n s → Ev gR (pm_ev gR (d + 2)) E q_156 9 [some (.ref 285), some (.int lo), some (.int hi), some (.int (nI k)), some (.int (nI (fvr T s k)))] [] (WW L, mi, ml, mr) := by
  have h150 := hM.1
  intro q
  induction q with
  | zero =>
    intro k hq hff hfe
    refine ev_aload_n (p' := 10) i_156_9 rfl rfl ?_
    refine ev_geti (p' := 13) i_156_10 rfl fl_12_133 rfl is_285 ?_
    rw [hat]
    refine ev_iload_n (p' := 14) i_156_13 rfl rfl ?_
    refine ev_iaddN (p' := 15) i_156_14 rfl ?_
    refine ev_aload_n (p' := 16) i_156_15 rfl rfl ?_
    refine ev_geti (p' := 19) i_156_16 rfl fl_12_130 rfl is_285 ?_
    rw [hM.2.1]
    refine ev_icmp_ge (p' := 22) (tg := 77) i_156_19 rfl rfl (fun c19 => ?_) (fun c19 => absurd (nI_le (by omega) (by omega)) c19)
    rw [show fE T n s = s + k from hfe.symm.trans (rE_n (fun z => absurd z.1 (by omega)))] at kk
    rw [Nat.add_sub_cancel_left] at kk
    exact kk
  | succ q ih =>
    intro k hq hff hfe
    have hin : s + k < n := by omega
    have hv := fvr_lt hff
    refine ev_aload_n (p' := 10) i_156_9 rfl rfl ?_
    refine ev_geti (p' := 13) i_156_10 rfl fl_12_133 rfl is_285 ?_
    rw [hat]
    refine ev_iload_n (p' := 14) i_156_13 rfl rfl ?_
    refine ev_iaddN (p' := 15) i_156_14 rfl ?_
    refine ev_aload_n (p' := 16) i_156_15 rfl rfl ?_
    refine ev_geti (p' := 19) i_156_16 rfl fl_12_130 rfl is_285 ?_
    rw [hM.2.1]
    refine ev_icmp_ge (p' := 22) (tg := 77) i_156_19 rfl rfl (fun c19 => absurd c19 (nI_ge (by omega) (by omega))) (fun c19 => ?_)
    refine ev_aload_n (p' := 23) i_156_22 rfl rfl ?_
    refine ev_getr (p' := 26) i_156_23 rfl fl_12_43 rfl is_285 (rf_285_16 hw) ?_
    refine ev_aload_n (p' := 27) i_156_26 rfl rfl ?_
    refine ev_geti (p' := 30) i_156_27 rfl fl_12_133 rfl is_285 ?_
    rw [hat]
    refine ev_iload_n (p' := 31) i_156_30 rfl rfl ?_
    refine ev_iaddN (p' := 32) i_156_31 rfl ?_
    refine ev_ialdN (p' := 33) i_156_32 rfl is_297 len_297 (by omega) (by decide) ?_
    rw [hM.2.2 _ hin]
    refine ev_s1I (p' := 36) i_156_33 rfl cl_12_153_0 (by decide) (Nat.le_of_ble_eq_true rfl) (s_mFigure _ _) ?_
    refine ev_if_eq (p' := 39) (tg := 77) i_156_36 rfl rfl (fun c36 => ?_) (fun c36 => ?_)
    · replace c36 := B0 c36
      rw [show fE T n s = s + k from hfe.symm.trans (rE_n (fun z => c36 z.2))] at kk
      rw [Nat.add_sub_cancel_left] at kk
      exact kk
    · replace c36 := B1 c36
      refine ev_iload_n (p' := 40) i_156_39 rfl rfl ?_
      refine ev_iconst (p' := 41) (v := 2) i_156_40 rfl (by decide) ?_
      refine ev_icmp_ge (p' := 44) (tg := 67) i_156_41 rfl rfl (fun c41 => ?_) (fun c41 => ?_)
      · refine ev_iload (p' := 69) i_156_67 rfl rfl ?_
        refine ev_istore (p' := 71) (ls' := [_, _, _, _, _]) i_156_69 rfl rfl (by decide) rfl ?_
        refine ev_iinc (p' := 74) (ls' := [_, _, _, _, _]) i_156_71 rfl rfl rfl (by decide) (nI_inc _) rfl ?_
        refine ev_goto (tg := 9) i_156_74 rfl ?_
        have hk2 : 2 ≤ k := (nI_leI (a := 2) (by decide) (by omega)).mp c41
        have ev2 : fvr T s (k + 1) = fvr T s k := by unfold fvr; rw [if_neg (by omega), if_neg (by omega), if_neg (by omega), if_neg (by omega)]
        refine ev_cast (by rw [ev2]) rfl rfl (ih (k + 1) (by omega) (fun j h1 h2 => by
          by_cases e : j = s + k
          · subst e; exact c36
          · exact hff j h1 (by omega)) ((rE_s (p := pFi) hin c36).symm.trans hfe))
      · obtain ⟨c, hc1, hc2, hc3, hc4⟩ := dg_fi c36
        refine ev_bipush (p' := 46) (v := nI 10) i_156_44 rfl (by decide) ?_
        refine ev_iload (p' := 48) i_156_46 rfl rfl ?_
        refine ev_imulN (p' := 49) i_156_48 rfl ?_
        refine ev_aload_n (p' := 50) i_156_49 rfl rfl ?_
        refine ev_getr (p' := 53) i_156_50 rfl fl_12_43 rfl is_285 (rf_285_16 hw) ?_
        refine ev_aload_n (p' := 54) i_156_53 rfl rfl ?_
        refine ev_geti (p' := 57) i_156_54 rfl fl_12_133 rfl is_285 ?_
        rw [hat]
        refine ev_iload_n (p' := 58) i_156_57 rfl rfl ?_
        refine ev_iaddN (p' := 59) i_156_58 rfl ?_
        refine ev_ialdN (p' := 60) i_156_59 rfl is_297 len_297 (by omega) (by decide) ?_
        rw [hM.2.2 _ hin, hc3]
        refine ev_iaddN (p' := 61) i_156_60 rfl ?_
        refine ev_bipush (p' := 63) (v := nI 48) i_156_61 rfl (by decide) ?_
        refine ev_isub (p' := 64) i_156_63 rfl ?_
        rw [pk_sub (show 48 ≤ 10 * fvr T s k + c by omega)]
        refine ev_goto (tg := 69) i_156_64 rfl ?_
        refine ev_istore (p' := 71) (ls' := [_, _, _, _, _]) i_156_69 rfl rfl (by decide) rfl ?_
        refine ev_iinc (p' := 74) (ls' := [_, _, _, _, _]) i_156_71 rfl rfl rfl (by decide) (nI_inc _) rfl ?_
        refine ev_goto (tg := 9) i_156_74 rfl ?_
        have hk2 : k < 2 := by have := Nat.lt_of_not_le (fun z => c41 (nI_le (a := 2) (b := k) z (by omega))); omega
        have ev2 : fvr T s (k + 1) = 10 * fvr T s k + c - 48 := by
          have h0 : k = 0 ∨ k = 1 := by omega
          rcases h0 with e | e
          · subst e
            unfold fvr
            rw [if_neg (by omega), if_pos (by omega), if_pos rfl, ← Nat.add_zero s, hc4]
            omega
          · subst e
            unfold fvr
            rw [if_neg (by omega), if_neg (by omega), if_neg (by omega), if_pos rfl, hc4]
            omega
        refine ev_cast (by rw [ev2]) rfl rfl (ih (k + 1) (by omega) (fun j h1 h2 => by
          by_cases e : j = s + k
          · subst e; exact c36
          · exact hff j h1 (by omega)) ((rE_s (p := pFi) hin c36).symm.trans hfe))
theorem num_f {L : Nat} {mi mi1 : Nat → Nat → Int32} {ml : Nat → Nat → Int64} {mr : Nat → Nat → Option Nat} {T : Nat → Int32} {n e s : Nat} {lo hi : Int32} (h1 : RY mi mi1) (hs : skp T n e = s) (hat : mi1 285 18 = nI s) (hno : ¬ nmOK T n lo hi e) : (some (Value.int 0) : Option Value) = some (.int (B ((nmS T n lo hi (true, e)).1 = true))) ∧ ∃ mi', (WW L, mi1, ml, mr) = (WW L, mi', ml, mr) ∧ (RX mi mi' ∧ mi' 285 18 = nI (nmS T n lo hi (true, e)).2 ∧ ((nmS T n lo hi (true, e)).1 = true → mi' 285 19 = nmV T n lo hi (true, e))) := by
  have e1 := nmS_f hno
  rw [e1]
  exact ⟨rfl, mi1, rfl, h1.x, by show mi1 285 18 = nI (skp T n e); rw [hs]; exact hat, fun z => absurd z Bool.false_ne_true⟩
theorem num_t {L : Nat} {mi mi1 : Nat → Nat → Int32} {ml : Nat → Nat → Int64} {mr : Nat → Nat → Option Nat} {T : Nat → Int32} {n e s : Nat} {lo hi : Int32} (h1 : RY mi mi1) (hs : skp T n e = s) (hq : s + 1 ≤ fE T n s ∧ fE T n s ≤ s + 2) (hq3 : s + (fE T n s - s) = fE T n s) (hv : lo ≤ nI (fvr T s (fE T n s - s)) ∧ nI (fvr T s (fE T n s - s)) ≤ hi) : (some (Value.int 1) : Option Value) = some (.int (B ((nmS T n lo hi (true, e)).1 = true))) ∧ ∃ mi', (WW L, pm_u (pm_u mi1 285 19 (nI (fvr T s (fE T n s - s)))) 285 18 (nI (s + (fE T n s - s))), ml, mr) = (WW L, mi', ml, mr) ∧ (RX mi mi' ∧ mi' 285 18 = nI (nmS T n lo hi (true, e)).2 ∧ ((nmS T n lo hi (true, e)).1 = true → mi' 285 19 = nmV T n lo hi (true, e))) := by
  rw [fvr_fv hq.1 hq.2] at *
  have hok : nmOK T n lo hi e := by unfold nmOK; rw [hs]; exact ⟨hq.1, hq.2, hv⟩
  rw [nmS_t hok, nmV_t hok, hs]
  exact ⟨rfl, _, rfl, ⟨fun a ha => by rw [pm_u_ne ha, pm_u_ne ha]; exact h1.1 a ha, fun j hj hk => by rw [pm_u_oth hj, pm_u_oth hk]; exact h1.2 j hj⟩, by rw [pm_u_self, hq3], fun _ => by rw [pm_u_oth (by decide), pm_u_self]⟩
theorem s_mnum1 {L : Nat} {π : Nat → Nat → Nat} {ml : Nat → Nat → Int64} {mr : Nat → Nat → Option Nat} {mi : Nat → Nat → Int32} (d : Nat) (hw : WR π mr) {T : Nat → Int32} {n : Nat} (hM : MT mi T n) {e : Nat} (he : e ≤ n) (hat : mi 285 18 = nI e) (lo hi : Int32) : ∃ mi', pm_ev gR (d + 3) 156 [.ref 285, .int lo, .int hi] (WW L, mi, ml, mr) (some (.int (B ((nmS T n lo hi (true, e)).1 = true)))) (WW L, mi', ml, mr) ∧ (RX mi mi' ∧ mi' 285 18 = nI (nmS T n lo hi (true, e)).2 ∧ ((nmS T n lo hi (true, e)).1 = true → mi' 285 19 = nmV T n lo hi (true, e))) := by
  have h150 := hM.1
  have hsk := skp_le (T := T) he
  obtain ⟨_x, m', ⟨h1, mi1, h2, h3⟩, h5⟩ := ev_some (E := fun _x m => _x = some (.int (B ((nmS T n lo hi (true, e)).1 = true))) ∧ ∃ mi', m = (WW L, mi', ml, mr) ∧ (RX mi mi' ∧ mi' 285 18 = nI (nmS T n lo hi (true, e)).2 ∧ ((nmS T n lo hi (true, e)).1 = true → mi' 285 19 = nmV T n lo hi (true, e)))) (g := gR) (d := d + 2) (M := 156) (args := [.ref 285, .int lo, .int hi]) (mem := (WW L, mi, ml, mr)) (q := q_156) rfl (Nat.le_of_ble_eq_true rfl) rfl (by
    refine ev_aload_n (p' := 1) i_156_0 rfl rfl ?_
    obtain ⟨mi1, e1, hR1, hat1⟩ := s_skip (L := L) (ml := ml) d hw hM he hat
    have hM1 := hR1.m hM
    refine ev_v0V (p' := 4) i_156_1 rfl cl_12_150_12 (by decide) is_285 (Nat.le_of_ble_eq_true rfl) (e1) ?_
    refine ev_iconst (p' := 5) (v := nI 0) i_156_4 rfl (by decide) ?_
    refine ev_istore_n (p' := 6) (ls' := [_, _, _, _, _]) i_156_5 rfl rfl (by decide) rfl ?_
    refine ev_iconst (p' := 7) (v := nI 0) i_156_6 rfl (by decide) ?_
    refine ev_istore (p' := 9) (ls' := [_, _, _, _, _]) i_156_7 rfl rfl (by decide) rfl ?_
    obtain ⟨s, hs⟩ : ∃ s, skp T n e = s := ⟨_, rfl⟩
    rw [hs] at hat1 hsk
    have hle := fE_le (T := T) hsk.2
    refine l_mnum hw hM1 hat1 ?_ (n - s) 0 (by omega) (fun j h1 h2 => by omega) rfl
    refine ev_iload_n (p' := 78) i_156_77 rfl rfl ?_
    refine ev_iconst (p' := 79) (v := 1) i_156_78 rfl (by decide) ?_
    refine ev_iconst (p' := 80) (v := 2) i_156_79 rfl (by decide) ?_
    refine ev_s3I (p' := 83) i_156_80 rfl cl_12_115_0 (by decide) (Nat.le_of_ble_eq_true rfl) (s_in _ _ _ _) ?_
    refine ev_if_eq (p' := 86) (tg := 96) i_156_83 rfl rfl (fun c83 => ?_) (fun c83 => ?_)
    · replace c83 := B0 c83
      refine ev_iconst (p' := 97) (v := 0) i_156_96 rfl (by decide) ?_
      exact ev_iret i_156_97 rfl rfl (num_f hR1 hs hat1 (fun q => c83 (by unfold nmOK at q; rw [hs] at q; have q1 := q.1; have q2 := q.2.1; exact ⟨nI_le (a := 1) (by omega) (by omega), nI_le (b := 2) (by omega) (by decide)⟩)))
    · replace c83 := B1 c83
      have hq : s + 1 ≤ fE T n s ∧ fE T n s ≤ s + 2 := by
        have q1 := (nI_leI (a := 1) (by decide) (by omega)).mp c83.1
        have q2 := (nI_leI (b := 2) (by omega) (by decide)).mp c83.2
        omega
      have hq3 : s + (fE T n s - s) = fE T n s := by omega
      refine ev_iload (p' := 88) i_156_86 rfl rfl ?_
      refine ev_iload_n (p' := 89) i_156_88 rfl rfl ?_
      refine ev_iload_n (p' := 90) i_156_89 rfl rfl ?_
      refine ev_s3I (p' := 93) i_156_90 rfl cl_12_115_0 (by decide) (Nat.le_of_ble_eq_true rfl) (s_in _ _ _ _) ?_
      refine ev_if_ne (p' := 96) (tg := 98) i_156_93 rfl rfl (fun c93 => ?_) (fun c93 => ?_)
      · replace c93 := B1 c93
        refine ev_aload_n (p' := 99) i_156_98 rfl rfl ?_
        refine ev_iload (p' := 101) i_156_99 rfl rfl ?_
        refine ev_puti (p' := 104) i_156_101 rfl fl_12_156 rfl is_285 (gr (by decide)) rfl ?_
        refine ev_aload_n (p' := 105) i_156_104 rfl rfl ?_
        refine ev_dup (p' := 106) i_156_105 rfl rfl ?_
        refine ev_geti (p' := 109) i_156_106 rfl fl_12_133 rfl is_285 ?_
        rw [pm_u_oth (by decide), hat1]
        refine ev_iload_n (p' := 110) i_156_109 rfl rfl ?_
        refine ev_iaddN (p' := 111) i_156_110 rfl ?_
        refine ev_puti (p' := 114) i_156_111 rfl fl_12_133 rfl is_285 (gr (by decide)) rfl ?_
        refine ev_iconst (p' := 115) (v := 1) i_156_114 rfl (by decide) ?_
        exact ev_iret i_156_115 rfl rfl (num_t hR1 hs hq hq3 c93)
      · replace c93 := B0n c93
        refine ev_iconst (p' := 97) (v := 0) i_156_96 rfl (by decide) ?_
        exact ev_iret i_156_97 rfl rfl (num_f hR1 hs hat1 (fun q => c93 (by unfold nmOK at q; rw [hs] at q; rw [fvr_fv q.1 q.2.1]; exact q.2.2))))
  subst h1 h2
  exact ⟨mi1, h5, h3⟩
theorem s_mnum {L : Nat} {π : Nat → Nat → Nat} {ml : Nat → Nat → Int64} {mr : Nat → Nat → Option Nat} {mi : Nat → Nat → Int32} (d : Nat) (hw : WR π mr) {T : Nat → Int32} {n : Nat} (hM : MT mi T n) {st : Bool × Nat} (hst : st.1 = true) (he : st.2 ≤ n) (hat : mi 285 18 = nI st.2) (lo hi : Int32) : ∃ mi', pm_ev gR (d + 3) 156 [.ref 285, .int lo, .int hi] (WW L, mi, ml, mr) (some (.int (B ((nmS T n lo hi st).1 = true)))) (WW L, mi', ml, mr) ∧ RX mi mi' ∧ mi' 285 18 = nI (nmS T n lo hi st).2 ∧ ((nmS T n lo hi st).1 = true → mi' 285 19 = nmV T n lo hi st) := by
  obtain ⟨b, e⟩ := st
  replace hst : b = true := hst
  subst hst
  exact s_mnum1 d hw hM he hat lo hi
theorem hrv_59 {T : Nat → Int32} {n e : Nat} : hrv T n (skp T n e) = 59 ↔ enOK T n e := by
  unfold enOK
  by_cases h : skp T n e < n
  · rw [hrv_t h]; exact ⟨fun z => ⟨h, z⟩, fun z => z.2⟩
  · rw [hrv_f h]; exact ⟨fun z => absurd z (by decide), fun z => absurd z.1 h⟩
theorem s_mend1 {L : Nat} {π : Nat → Nat → Nat} {ml : Nat → Nat → Int64} {mr : Nat → Nat → Option Nat} {mi : Nat → Nat → Int32} (d : Nat) (hw : WR π mr) {T : Nat → Int32} {n : Nat} (hM : MT mi T n) {e : Nat} (he : e ≤ n) (hat : mi 285 18 = nI e) : ∃ mi', pm_ev gR (d + 3) 157 [.ref 285] (WW L, mi, ml, mr) (some (.int (B ((enS T n (true, e)).1 = true)))) (WW L, mi', ml, mr) ∧ (RY mi mi' ∧ mi' 285 18 = nI (enS T n (true, e)).2) := by
  obtain ⟨_x, m', ⟨h1, mi1, h2, h3⟩, h5⟩ := ev_some (E := fun _x m => _x = some (.int (B ((enS T n (true, e)).1 = true))) ∧ ∃ mi', m = (WW L, mi', ml, mr) ∧ (RY mi mi' ∧ mi' 285 18 = nI (enS T n (true, e)).2)) (g := gR) (d := d + 2) (M := 157) (args := [.ref 285]) (mem := (WW L, mi, ml, mr)) (q := q_157) rfl (Nat.le_of_ble_eq_true rfl) rfl (by
    refine ev_aload_n (p' := 1) i_157_0 rfl rfl ?_
    obtain ⟨mi1, e1, hR1, hat1⟩ := s_skip (L := L) (ml := ml) d hw hM he hat
    have hM1 := hR1.m hM
    refine ev_v0V (p' := 4) i_157_1 rfl cl_12_150_12 (by decide) is_285 (Nat.le_of_ble_eq_true rfl) (e1) ?_
    refine ev_aload_n (p' := 5) i_157_4 rfl rfl ?_
    refine ev_v0I (p' := 8) i_157_5 rfl cl_12_136_12 (by decide) is_285 (Nat.le_of_ble_eq_true rfl) (s_here _ hw hM1 (skp_le (T := T) he).2 hat1) ?_
    refine ev_bipush (p' := 10) (v := 59) i_157_8 rfl (by decide) ?_
    refine ev_icmp_eq (p' := 13) (tg := 15) i_157_10 rfl rfl (fun c10 => ?_) (fun c10 => ?_)
    · refine ev_aload_n (p' := 16) i_157_15 rfl rfl ?_
      refine ev_dup (p' := 17) i_157_16 rfl rfl ?_
      refine ev_geti (p' := 20) i_157_17 rfl fl_12_133 rfl is_285 ?_
      rw [hat1]
      refine ev_iconst (p' := 21) (v := nI 1) i_157_20 rfl (by decide) ?_
      refine ev_iaddN (p' := 22) i_157_21 rfl ?_
      refine ev_puti (p' := 25) i_157_22 rfl fl_12_133 rfl is_285 (gr (by decide)) rfl ?_
      refine ev_iconst (p' := 26) (v := 1) i_157_25 rfl (by decide) ?_
      exact ev_iret i_157_26 rfl rfl ⟨by rw [enS_t (hrv_59.mp c10)]; rfl, _, rfl, hR1.u, by rw [enS_t (hrv_59.mp c10)]; exact pm_u_self⟩
    · refine ev_iconst (p' := 14) (v := 0) i_157_13 rfl (by decide) ?_
      exact ev_iret i_157_14 rfl rfl ⟨by rw [enS_f (fun z => c10 (hrv_59.mpr z))]; rfl, mi1, rfl, hR1, by rw [enS_f (fun z => c10 (hrv_59.mpr z))]; exact hat1⟩)
  subst h1 h2
  exact ⟨mi1, h5, h3⟩
theorem s_mend {L : Nat} {π : Nat → Nat → Nat} {ml : Nat → Nat → Int64} {mr : Nat → Nat → Option Nat} {mi : Nat → Nat → Int32} (d : Nat) (hw : WR π mr) {T : Nat → Int32} {n : Nat} (hM : MT mi T n) {st : Bool × Nat} (hst : st.1 = true) (he : st.2 ≤ n) (hat : mi 285 18 = nI st.2) : ∃ mi', pm_ev gR (d + 3) 157 [.ref 285] (WW L, mi, ml, mr) (some (.int (B ((enS T n st).1 = true)))) (WW L, mi', ml, mr) ∧ RY mi mi' ∧ mi' 285 18 = nI (enS T n st).2 := by
  obtain ⟨b, e⟩ := st
  replace hst : b = true := hst
  subst hst
  exact s_mend1 d hw hM he hat
theorem l_msz {L : Nat} {π : Nat → Nat → Nat} {mi : Nat → Nat → Int32} {ml : Nat → Nat → Int64} {mr : Nat → Nat → Option Nat} {d : Nat} {E : Option Value → pm_M → Prop} (hw : WR π mr) {T : Nat → Int32} {n : Nat} (hM : MT mi T n) {s : Nat} (hat : mi 285 18 = nI s) (hE : E (some (.int (nI (lE T n s - s)))) (WW L, mi, ml, mr)) : ∀ q k, s + k + q = n → rE pLe T n (s + k) = lE T n s → Ev gR (pm_ev gR (d + 2)) E q_153 2 [some (.ref 285), some (.int (nI k))] [] (WW L, mi, ml, mr) := by
  have h150 := hM.1
  intro q
  induction q with
  | zero =>
    intro k hq hle
    refine ev_aload_n (p' := 3) i_153_2 rfl rfl ?_
    refine ev_geti (p' := 6) i_153_3 rfl fl_12_133 rfl is_285 ?_
    rw [hat]
    refine ev_iload_n (p' := 7) i_153_6 rfl rfl ?_
    refine ev_iaddN (p' := 8) i_153_7 rfl ?_
    refine ev_aload_n (p' := 9) i_153_8 rfl rfl ?_
    refine ev_geti (p' := 12) i_153_9 rfl fl_12_130 rfl is_285 ?_
    rw [hM.2.1]
    refine ev_icmp_ge (p' := 15) (tg := 38) i_153_12 rfl rfl (fun c12 => ?_) (fun c12 => absurd (nI_le (by omega) (by omega)) c12)
    refine ev_iload_n (p' := 39) i_153_38 rfl rfl ?_
    exact ev_iretI i_153_39 rfl (by rw [show lE T n s = s + k from hle.symm.trans (rE_n (fun z => absurd z.1 (by omega))), Nat.add_sub_cancel_left] at hE; exact hE)
  | succ q ih =>
    intro k hq hle
    have hin : s + k < n := by omega
    refine ev_aload_n (p' := 3) i_153_2 rfl rfl ?_
    refine ev_geti (p' := 6) i_153_3 rfl fl_12_133 rfl is_285 ?_
    rw [hat]
    refine ev_iload_n (p' := 7) i_153_6 rfl rfl ?_
    refine ev_iaddN (p' := 8) i_153_7 rfl ?_
    refine ev_aload_n (p' := 9) i_153_8 rfl rfl ?_
    refine ev_geti (p' := 12) i_153_9 rfl fl_12_130 rfl is_285 ?_
    rw [hM.2.1]
    refine ev_icmp_ge (p' := 15) (tg := 38) i_153_12 rfl rfl (fun c12 => absurd c12 (nI_ge (by omega) (by omega))) (fun c12 => ?_)
    refine ev_aload_n (p' := 16) i_153_15 rfl rfl ?_
    refine ev_getr (p' := 19) i_153_16 rfl fl_12_43 rfl is_285 (rf_285_16 hw) ?_
    refine ev_aload_n (p' := 20) i_153_19 rfl rfl ?_
    refine ev_geti (p' := 23) i_153_20 rfl fl_12_133 rfl is_285 ?_
    rw [hat]
    refine ev_iload_n (p' := 24) i_153_23 rfl rfl ?_
    refine ev_iaddN (p' := 25) i_153_24 rfl ?_
    refine ev_ialdN (p' := 26) i_153_25 rfl is_297 len_297 (by omega) (by decide) ?_
    rw [hM.2.2 _ hin]
    refine ev_s1I (p' := 29) i_153_26 rfl cl_12_139_0 (by decide) (Nat.le_of_ble_eq_true rfl) (s_mLetter _ _) ?_
    refine ev_if_eq (p' := 32) (tg := 38) i_153_29 rfl rfl (fun c29 => ?_) (fun c29 => ?_)
    · replace c29 := B0 c29
      refine ev_iload_n (p' := 39) i_153_38 rfl rfl ?_
      exact ev_iretI i_153_39 rfl (by rw [show lE T n s = s + k from hle.symm.trans (rE_n (fun z => c29 z.2)), Nat.add_sub_cancel_left] at hE; exact hE)
    · replace c29 := B1 c29
      refine ev_iinc (p' := 35) (ls' := [_, _]) i_153_32 rfl rfl rfl (by decide) (nI_inc _) rfl ?_
      refine ev_goto (tg := 2) i_153_35 rfl ?_
      exact ih (k + 1) (by omega) (by rw [← hle]; exact (rE_s hin c29).symm)
theorem s_msz {L : Nat} {π : Nat → Nat → Nat} {mi : Nat → Nat → Int32} {ml : Nat → Nat → Int64} {mr : Nat → Nat → Option Nat} (d : Nat) (hw : WR π mr) {T : Nat → Int32} {n : Nat} (hM : MT mi T n) {s : Nat} (hs : s ≤ n) (hat : mi 285 18 = nI s) : pm_ev gR (d + 3) 153 [.ref 285] (WW L, mi, ml, mr) (some (.int (nI (lE T n s - s)))) (WW L, mi, ml, mr) := by
  refine ev_enter (q := q_153) rfl (Nat.le_of_ble_eq_true rfl) rfl ?_
  refine ev_iconst (p' := 1) (v := nI 0) i_153_0 rfl (by decide) ?_
  refine ev_istore_n (p' := 2) (ls' := [_, _]) i_153_1 rfl rfl (by decide) rfl ?_
  exact l_msz hw hM hat ⟨rfl, rfl⟩ (n - s) 0 (by omega) rfl
theorem s_mlt {L : Nat} {π : Nat → Nat → Nat} {mi : Nat → Nat → Int32} {ml : Nat → Nat → Int64} {mr : Nat → Nat → Option Nat} (d : Nat) (hw : WR π mr) {T : Nat → Int32} {n : Nat} (hM : MT mi T n) {s : Nat} (hs : s ≤ n) (hat : mi 285 18 = nI s) {i : Nat} (hi : s + i < n) : pm_ev gR (d + 1) 154 [.ref 285, .int (nI i)] (WW L, mi, ml, mr) (some (.int (T (s + i)))) (WW L, mi, ml, mr) := by
  refine ev_enter (q := q_154) rfl (Nat.le_of_ble_eq_true rfl) rfl ?_
  have h150 := hM.1
  refine ev_aload_n (p' := 1) i_154_0 rfl rfl ?_
  refine ev_getr (p' := 4) i_154_1 rfl fl_12_43 rfl is_285 (rf_285_16 hw) ?_
  refine ev_aload_n (p' := 5) i_154_4 rfl rfl ?_
  refine ev_geti (p' := 8) i_154_5 rfl fl_12_133 rfl is_285 ?_
  rw [hat]
  refine ev_iload_n (p' := 9) i_154_8 rfl rfl ?_
  refine ev_iaddN (p' := 10) i_154_9 rfl ?_
  refine ev_ialdN (p' := 11) i_154_10 rfl is_297 len_297 (by omega) (by decide) ?_
  rw [hM.2.2 _ hi]
  exact ev_iretI i_154_11 rfl ⟨rfl, rfl⟩
theorem l_wh2 {L : Nat} {π : Nat → Nat → Nat} {mi : Nat → Nat → Int32} {ml : Nat → Nat → Int64} {mr : Nat → Nat → Option Nat} {d : Nat} (hw : WR π mr) {T : Nat → Int32} {n : Nat} (hM : MT mi T n) {s : Nat} (hs : s ≤ n) (hat : mi 285 18 = nI s) (hl : lE T n s = s + 4) (hb : ¬ (T s = 98 ∧ T (s + 1) = 111 ∧ T (s + 2) = 111 ∧ T (s + 3) = 107)) (ho : ¬ (T s = 111 ∧ T (s + 1) = 112 ∧ T (s + 2) = 101 ∧ T (s + 3) = 110)) : Ev gR (pm_ev gR (d + 3)) (fun r1 m1 => r1 = some (.int (wd T n s)) ∧ m1 = (WW L, mi, ml, mr)) q_155 188 [some (.ref 285), some (.int (nI (lE T n s - s)))] [] (WW L, mi, ml, mr) := by
  have hll := (lE_le (T := T) hs).2
  rw [hl] at hll
  refine ev_aload_n (p' := 189) i_155_188 rfl rfl ?_
  refine ev_iconst (p' := 190) (v := nI 0) i_155_189 rfl (by decide) ?_
  refine ev_v1I (p' := 193) i_155_190 rfl cl_12_146_12 (by decide) is_285 (Nat.le_of_ble_eq_true rfl) (s_mlt _ hw hM hs hat (show s + 0 < n by omega)) ?_
  refine ev_bipush (p' := 195) (v := 112) i_155_193 rfl (by decide) ?_
  refine ev_icmp_ne (p' := 198) (tg := 232) i_155_195 rfl rfl (fun c195 => ?_) (fun c195 => ?_)
  · refine ev_iconst (p' := 233) (v := -1) i_155_232 rfl (by decide) ?_
    exact ev_iretI i_155_233 rfl ⟨by unfold wd; rw [if_neg (by omega), if_neg (by omega), if_pos hl, if_neg hb, if_neg ho, if_neg (fun z => c195 z.1)], rfl⟩
  · refine ev_aload_n (p' := 199) i_155_198 rfl rfl ?_
    refine ev_iconst (p' := 200) (v := nI 1) i_155_199 rfl (by decide) ?_
    refine ev_v1I (p' := 203) i_155_200 rfl cl_12_146_12 (by decide) is_285 (Nat.le_of_ble_eq_true rfl) (s_mlt _ hw hM hs hat (show s + 1 < n by omega)) ?_
    refine ev_bipush (p' := 205) (v := 117) i_155_203 rfl (by decide) ?_
    refine ev_icmp_ne (p' := 208) (tg := 232) i_155_205 rfl rfl (fun c205 => ?_) (fun c205 => ?_)
    · refine ev_iconst (p' := 233) (v := -1) i_155_232 rfl (by decide) ?_
      exact ev_iretI i_155_233 rfl ⟨by unfold wd; rw [if_neg (by omega), if_neg (by omega), if_pos hl, if_neg hb, if_neg ho, if_neg (fun z => c205 z.2.1)], rfl⟩
    · refine ev_aload_n (p' := 209) i_155_208 rfl rfl ?_
      refine ev_iconst (p' := 210) (v := nI 2) i_155_209 rfl (by decide) ?_
      refine ev_v1I (p' := 213) i_155_210 rfl cl_12_146_12 (by decide) is_285 (Nat.le_of_ble_eq_true rfl) (s_mlt _ hw hM hs hat (show s + 2 < n by omega)) ?_
      refine ev_bipush (p' := 215) (v := 108) i_155_213 rfl (by decide) ?_
      refine ev_icmp_ne (p' := 218) (tg := 232) i_155_215 rfl rfl (fun c215 => ?_) (fun c215 => ?_)
      · refine ev_iconst (p' := 233) (v := -1) i_155_232 rfl (by decide) ?_
        exact ev_iretI i_155_233 rfl ⟨by unfold wd; rw [if_neg (by omega), if_neg (by omega), if_pos hl, if_neg hb, if_neg ho, if_neg (fun z => c215 z.2.2.1)], rfl⟩
      · refine ev_aload_n (p' := 219) i_155_218 rfl rfl ?_
        refine ev_iconst (p' := 220) (v := nI 3) i_155_219 rfl (by decide) ?_
        refine ev_v1I (p' := 223) i_155_220 rfl cl_12_146_12 (by decide) is_285 (Nat.le_of_ble_eq_true rfl) (s_mlt _ hw hM hs hat (show s + 3 < n by omega)) ?_
        refine ev_bipush (p' := 225) (v := 108) i_155_223 rfl (by decide) ?_
        refine ev_icmp_ne (p' := 228) (tg := 232) i_155_225 rfl rfl (fun c225 => ?_) (fun c225 => ?_)
        · refine ev_iconst (p' := 233) (v := -1) i_155_232 rfl (by decide) ?_
          exact ev_iretI i_155_233 rfl ⟨by unfold wd; rw [if_neg (by omega), if_neg (by omega), if_pos hl, if_neg hb, if_neg ho, if_neg (fun z => c225 z.2.2.2)], rfl⟩
        · refine ev_iconst (p' := 229) (v := 4) i_155_228 rfl (by decide) ?_
          refine ev_goto (tg := 233) i_155_229 rfl ?_
          exact ev_iretI i_155_233 rfl ⟨by unfold wd; rw [if_neg (by omega), if_neg (by omega), if_pos hl, if_neg hb, if_neg ho, if_pos ⟨Classical.not_not.mp c195, Classical.not_not.mp c205, Classical.not_not.mp c215, Classical.not_not.mp c225⟩], rfl⟩
theorem l_wh1 {L : Nat} {π : Nat → Nat → Nat} {mi : Nat → Nat → Int32} {ml : Nat → Nat → Int64} {mr : Nat → Nat → Option Nat} {d : Nat} (hw : WR π mr) {T : Nat → Int32} {n : Nat} (hM : MT mi T n) {s : Nat} (hs : s ≤ n) (hat : mi 285 18 = nI s) (hl : lE T n s = s + 4) (hb : ¬ (T s = 98 ∧ T (s + 1) = 111 ∧ T (s + 2) = 111 ∧ T (s + 3) = 107)) : Ev gR (pm_ev gR (d + 3)) (fun r1 m1 => r1 = some (.int (wd T n s)) ∧ m1 = (WW L, mi, ml, mr)) q_155 146 [some (.ref 285), some (.int (nI (lE T n s - s)))] [] (WW L, mi, ml, mr) := by
  have hll := (lE_le (T := T) hs).2
  rw [hl] at hll
  refine ev_aload_n (p' := 147) i_155_146 rfl rfl ?_
  refine ev_iconst (p' := 148) (v := nI 0) i_155_147 rfl (by decide) ?_
  refine ev_v1I (p' := 151) i_155_148 rfl cl_12_146_12 (by decide) is_285 (Nat.le_of_ble_eq_true rfl) (s_mlt _ hw hM hs hat (show s + 0 < n by omega)) ?_
  refine ev_bipush (p' := 153) (v := 111) i_155_151 rfl (by decide) ?_
  refine ev_icmp_ne (p' := 156) (tg := 188) i_155_153 rfl rfl (fun c153 => ?_) (fun c153 => ?_)
  · exact l_wh2 hw hM hs hat hl hb (fun z => c153 z.1)
  · refine ev_aload_n (p' := 157) i_155_156 rfl rfl ?_
    refine ev_iconst (p' := 158) (v := nI 1) i_155_157 rfl (by decide) ?_
    refine ev_v1I (p' := 161) i_155_158 rfl cl_12_146_12 (by decide) is_285 (Nat.le_of_ble_eq_true rfl) (s_mlt _ hw hM hs hat (show s + 1 < n by omega)) ?_
    refine ev_bipush (p' := 163) (v := 112) i_155_161 rfl (by decide) ?_
    refine ev_icmp_ne (p' := 166) (tg := 188) i_155_163 rfl rfl (fun c163 => ?_) (fun c163 => ?_)
    · exact l_wh2 hw hM hs hat hl hb (fun z => c163 z.2.1)
    · refine ev_aload_n (p' := 167) i_155_166 rfl rfl ?_
      refine ev_iconst (p' := 168) (v := nI 2) i_155_167 rfl (by decide) ?_
      refine ev_v1I (p' := 171) i_155_168 rfl cl_12_146_12 (by decide) is_285 (Nat.le_of_ble_eq_true rfl) (s_mlt _ hw hM hs hat (show s + 2 < n by omega)) ?_
      refine ev_bipush (p' := 173) (v := 101) i_155_171 rfl (by decide) ?_
      refine ev_icmp_ne (p' := 176) (tg := 188) i_155_173 rfl rfl (fun c173 => ?_) (fun c173 => ?_)
      · exact l_wh2 hw hM hs hat hl hb (fun z => c173 z.2.2.1)
      · refine ev_aload_n (p' := 177) i_155_176 rfl rfl ?_
        refine ev_iconst (p' := 178) (v := nI 3) i_155_177 rfl (by decide) ?_
        refine ev_v1I (p' := 181) i_155_178 rfl cl_12_146_12 (by decide) is_285 (Nat.le_of_ble_eq_true rfl) (s_mlt _ hw hM hs hat (show s + 3 < n by omega)) ?_
        refine ev_bipush (p' := 183) (v := 110) i_155_181 rfl (by decide) ?_
        refine ev_icmp_ne (p' := 186) (tg := 188) i_155_183 rfl rfl (fun c183 => ?_) (fun c183 => ?_)
        · exact l_wh2 hw hM hs hat hl hb (fun z => c183 z.2.2.2)
        · refine ev_iconst (p' := 187) (v := 3) i_155_186 rfl (by decide) ?_
          exact ev_iretI i_155_187 rfl ⟨by unfold wd; rw [if_neg (by omega), if_neg (by omega), if_pos hl, if_neg hb, if_pos ⟨Classical.not_not.mp c153, Classical.not_not.mp c163, Classical.not_not.mp c173, Classical.not_not.mp c183⟩], rfl⟩
theorem s_mwh {L : Nat} {π : Nat → Nat → Nat} {mi : Nat → Nat → Int32} {ml : Nat → Nat → Int64} {mr : Nat → Nat → Option Nat} (d : Nat) (hw : WR π mr) {T : Nat → Int32} {n : Nat} (hM : MT mi T n) {s : Nat} (hs : s ≤ n) (hat : mi 285 18 = nI s) : pm_ev gR (d + 4) 155 [.ref 285] (WW L, mi, ml, mr) (some (.int (wd T n s))) (WW L, mi, ml, mr) := by
  refine ev_enter (q := q_155) rfl (Nat.le_of_ble_eq_true rfl) rfl ?_
  refine ev_aload_n (p' := 1) i_155_0 rfl rfl ?_
  have h150 := hM.1
  have hll0 := lE_le (T := T) hs
  refine ev_v0I (p' := 4) i_155_1 rfl cl_12_143_12 (by decide) is_285 (Nat.le_of_ble_eq_true rfl) (s_msz _ hw hM hs hat) ?_
  refine ev_istore_n (p' := 5) (ls' := [_, _]) i_155_4 rfl rfl (by decide) rfl ?_
  refine ev_iload_n (p' := 6) i_155_5 rfl rfl ?_
  refine ev_iconst (p' := 7) (v := 2) i_155_6 rfl (by decide) ?_
  refine ev_icmp_ne (p' := 10) (tg := 36) i_155_7 rfl rfl (fun c7 => ?_) (fun c7 => ?_)
  · refine ev_iload_n (p' := 37) i_155_36 rfl rfl ?_
    refine ev_iconst (p' := 38) (v := 5) i_155_37 rfl (by decide) ?_
    refine ev_icmp_ne (p' := 41) (tg := 97) i_155_38 rfl rfl (fun c38 => ?_) (fun c38 => ?_)
    · refine ev_iload_n (p' := 98) i_155_97 rfl rfl ?_
      refine ev_iconst (p' := 99) (v := 4) i_155_98 rfl (by decide) ?_
      refine ev_icmp_eq (p' := 102) (tg := 104) i_155_99 rfl rfl (fun c99 => ?_) (fun c99 => ?_)
      · have hl : lE T n s = s + 4 := by have := (nI_eq (b := 4) (by omega) (by decide)).mp (c99); omega
        have hll := (lE_le (T := T) hs).2
        rw [hl] at hll
        refine ev_aload_n (p' := 105) i_155_104 rfl rfl ?_
        refine ev_iconst (p' := 106) (v := nI 0) i_155_105 rfl (by decide) ?_
        refine ev_v1I (p' := 109) i_155_106 rfl cl_12_146_12 (by decide) is_285 (Nat.le_of_ble_eq_true rfl) (s_mlt _ hw hM hs hat (show s + 0 < n by omega)) ?_
        refine ev_bipush (p' := 111) (v := 98) i_155_109 rfl (by decide) ?_
        refine ev_icmp_ne (p' := 114) (tg := 146) i_155_111 rfl rfl (fun c111 => ?_) (fun c111 => ?_)
        · exact l_wh1 hw hM hs hat hl (fun z => c111 z.1)
        · refine ev_aload_n (p' := 115) i_155_114 rfl rfl ?_
          refine ev_iconst (p' := 116) (v := nI 1) i_155_115 rfl (by decide) ?_
          refine ev_v1I (p' := 119) i_155_116 rfl cl_12_146_12 (by decide) is_285 (Nat.le_of_ble_eq_true rfl) (s_mlt _ hw hM hs hat (show s + 1 < n by omega)) ?_
          refine ev_bipush (p' := 121) (v := 111) i_155_119 rfl (by decide) ?_
          refine ev_icmp_ne (p' := 124) (tg := 146) i_155_121 rfl rfl (fun c121 => ?_) (fun c121 => ?_)
          · exact l_wh1 hw hM hs hat hl (fun z => c121 z.2.1)
          · refine ev_aload_n (p' := 125) i_155_124 rfl rfl ?_
            refine ev_iconst (p' := 126) (v := nI 2) i_155_125 rfl (by decide) ?_
            refine ev_v1I (p' := 129) i_155_126 rfl cl_12_146_12 (by decide) is_285 (Nat.le_of_ble_eq_true rfl) (s_mlt _ hw hM hs hat (show s + 2 < n by omega)) ?_
            refine ev_bipush (p' := 131) (v := 111) i_155_129 rfl (by decide) ?_
            refine ev_icmp_ne (p' := 134) (tg := 146) i_155_131 rfl rfl (fun c131 => ?_) (fun c131 => ?_)
            · exact l_wh1 hw hM hs hat hl (fun z => c131 z.2.2.1)
            · refine ev_aload_n (p' := 135) i_155_134 rfl rfl ?_
              refine ev_iconst (p' := 136) (v := nI 3) i_155_135 rfl (by decide) ?_
              refine ev_v1I (p' := 139) i_155_136 rfl cl_12_146_12 (by decide) is_285 (Nat.le_of_ble_eq_true rfl) (s_mlt _ hw hM hs hat (show s + 3 < n by omega)) ?_
              refine ev_bipush (p' := 141) (v := 107) i_155_139 rfl (by decide) ?_
              refine ev_icmp_ne (p' := 144) (tg := 146) i_155_141 rfl rfl (fun c141 => ?_) (fun c141 => ?_)
              · exact l_wh1 hw hM hs hat hl (fun z => c141 z.2.2.2)
              · refine ev_iconst (p' := 145) (v := 0) i_155_144 rfl (by decide) ?_
                exact ev_iretI i_155_145 rfl ⟨by unfold wd; rw [if_neg (by omega), if_neg (by omega), if_pos hl, if_pos ⟨Classical.not_not.mp c111, Classical.not_not.mp c121, Classical.not_not.mp c131, Classical.not_not.mp c141⟩], rfl⟩
      · refine ev_iconst (p' := 103) (v := -1) i_155_102 rfl (by decide) ?_
        exact ev_iretI i_155_103 rfl ⟨by unfold wd; rw [if_neg (fun z => c7 (by rw [z, Nat.add_sub_cancel_left]; rfl)), if_neg (fun z => c38 (by rw [z, Nat.add_sub_cancel_left]; rfl)), if_neg (fun z => c99 (by rw [z, Nat.add_sub_cancel_left]; rfl))], rfl⟩
    · have hl : lE T n s = s + 5 := by have := (nI_eq (b := 5) (by omega) (by decide)).mp (Classical.not_not.mp c38); omega
      have hll := (lE_le (T := T) hs).2
      rw [hl] at hll
      refine ev_aload_n (p' := 42) i_155_41 rfl rfl ?_
      refine ev_iconst (p' := 43) (v := nI 0) i_155_42 rfl (by decide) ?_
      refine ev_v1I (p' := 46) i_155_43 rfl cl_12_146_12 (by decide) is_285 (Nat.le_of_ble_eq_true rfl) (s_mlt _ hw hM hs hat (show s + 0 < n by omega)) ?_
      refine ev_bipush (p' := 48) (v := 112) i_155_46 rfl (by decide) ?_
      refine ev_icmp_ne (p' := 51) (tg := 95) i_155_48 rfl rfl (fun c48 => ?_) (fun c48 => ?_)
      · refine ev_iconst (p' := 96) (v := -1) i_155_95 rfl (by decide) ?_
        exact ev_iretI i_155_96 rfl ⟨by unfold wd; rw [if_neg (by omega), if_pos hl, if_neg (fun z => c48 z.1)], rfl⟩
      · refine ev_aload_n (p' := 52) i_155_51 rfl rfl ?_
        refine ev_iconst (p' := 53) (v := nI 1) i_155_52 rfl (by decide) ?_
        refine ev_v1I (p' := 56) i_155_53 rfl cl_12_146_12 (by decide) is_285 (Nat.le_of_ble_eq_true rfl) (s_mlt _ hw hM hs hat (show s + 1 < n by omega)) ?_
        refine ev_bipush (p' := 58) (v := 105) i_155_56 rfl (by decide) ?_
        refine ev_icmp_ne (p' := 61) (tg := 95) i_155_58 rfl rfl (fun c58 => ?_) (fun c58 => ?_)
        · refine ev_iconst (p' := 96) (v := -1) i_155_95 rfl (by decide) ?_
          exact ev_iretI i_155_96 rfl ⟨by unfold wd; rw [if_neg (by omega), if_pos hl, if_neg (fun z => c58 z.2.1)], rfl⟩
        · refine ev_aload_n (p' := 62) i_155_61 rfl rfl ?_
          refine ev_iconst (p' := 63) (v := nI 2) i_155_62 rfl (by decide) ?_
          refine ev_v1I (p' := 66) i_155_63 rfl cl_12_146_12 (by decide) is_285 (Nat.le_of_ble_eq_true rfl) (s_mlt _ hw hM hs hat (show s + 2 < n by omega)) ?_
          refine ev_bipush (p' := 68) (v := 101) i_155_66 rfl (by decide) ?_
          refine ev_icmp_ne (p' := 71) (tg := 95) i_155_68 rfl rfl (fun c68 => ?_) (fun c68 => ?_)
          · refine ev_iconst (p' := 96) (v := -1) i_155_95 rfl (by decide) ?_
            exact ev_iretI i_155_96 rfl ⟨by unfold wd; rw [if_neg (by omega), if_pos hl, if_neg (fun z => c68 z.2.2.1)], rfl⟩
          · refine ev_aload_n (p' := 72) i_155_71 rfl rfl ?_
            refine ev_iconst (p' := 73) (v := nI 3) i_155_72 rfl (by decide) ?_
            refine ev_v1I (p' := 76) i_155_73 rfl cl_12_146_12 (by decide) is_285 (Nat.le_of_ble_eq_true rfl) (s_mlt _ hw hM hs hat (show s + 3 < n by omega)) ?_
            refine ev_bipush (p' := 78) (v := 99) i_155_76 rfl (by decide) ?_
            refine ev_icmp_ne (p' := 81) (tg := 95) i_155_78 rfl rfl (fun c78 => ?_) (fun c78 => ?_)
            · refine ev_iconst (p' := 96) (v := -1) i_155_95 rfl (by decide) ?_
              exact ev_iretI i_155_96 rfl ⟨by unfold wd; rw [if_neg (by omega), if_pos hl, if_neg (fun z => c78 z.2.2.2.1)], rfl⟩
            · refine ev_aload_n (p' := 82) i_155_81 rfl rfl ?_
              refine ev_iconst (p' := 83) (v := nI 4) i_155_82 rfl (by decide) ?_
              refine ev_v1I (p' := 86) i_155_83 rfl cl_12_146_12 (by decide) is_285 (Nat.le_of_ble_eq_true rfl) (s_mlt _ hw hM hs hat (show s + 4 < n by omega)) ?_
              refine ev_bipush (p' := 88) (v := 101) i_155_86 rfl (by decide) ?_
              refine ev_icmp_ne (p' := 91) (tg := 95) i_155_88 rfl rfl (fun c88 => ?_) (fun c88 => ?_)
              · refine ev_iconst (p' := 96) (v := -1) i_155_95 rfl (by decide) ?_
                exact ev_iretI i_155_96 rfl ⟨by unfold wd; rw [if_neg (by omega), if_pos hl, if_neg (fun z => c88 z.2.2.2.2)], rfl⟩
              · refine ev_iconst (p' := 92) (v := 1) i_155_91 rfl (by decide) ?_
                refine ev_goto (tg := 96) i_155_92 rfl ?_
                exact ev_iretI i_155_96 rfl ⟨by unfold wd; rw [if_neg (by omega), if_pos hl, if_pos ⟨Classical.not_not.mp c48, Classical.not_not.mp c58, Classical.not_not.mp c68, Classical.not_not.mp c78, Classical.not_not.mp c88⟩], rfl⟩
  · have hl : lE T n s = s + 2 := by have := (nI_eq (b := 2) (by omega) (by decide)).mp (Classical.not_not.mp c7); omega
    have hll := (lE_le (T := T) hs).2
    rw [hl] at hll
    refine ev_aload_n (p' := 11) i_155_10 rfl rfl ?_
    refine ev_iconst (p' := 12) (v := nI 0) i_155_11 rfl (by decide) ?_
    refine ev_v1I (p' := 15) i_155_12 rfl cl_12_146_12 (by decide) is_285 (Nat.le_of_ble_eq_true rfl) (s_mlt _ hw hM hs hat (show s + 0 < n by omega)) ?_
    refine ev_bipush (p' := 17) (v := 111) i_155_15 rfl (by decide) ?_
    refine ev_icmp_ne (p' := 20) (tg := 34) i_155_17 rfl rfl (fun c17 => ?_) (fun c17 => ?_)
    · refine ev_iconst (p' := 35) (v := -1) i_155_34 rfl (by decide) ?_
      exact ev_iretI i_155_35 rfl ⟨by unfold wd; rw [if_pos hl, if_neg (fun z => c17 z.1)], rfl⟩
    · refine ev_aload_n (p' := 21) i_155_20 rfl rfl ?_
      refine ev_iconst (p' := 22) (v := nI 1) i_155_21 rfl (by decide) ?_
      refine ev_v1I (p' := 25) i_155_22 rfl cl_12_146_12 (by decide) is_285 (Nat.le_of_ble_eq_true rfl) (s_mlt _ hw hM hs hat (show s + 1 < n by omega)) ?_
      refine ev_bipush (p' := 27) (v := 110) i_155_25 rfl (by decide) ?_
      refine ev_icmp_ne (p' := 30) (tg := 34) i_155_27 rfl rfl (fun c27 => ?_) (fun c27 => ?_)
      · refine ev_iconst (p' := 35) (v := -1) i_155_34 rfl (by decide) ?_
        exact ev_iretI i_155_35 rfl ⟨by unfold wd; rw [if_pos hl, if_neg (fun z => c27 z.2)], rfl⟩
      · refine ev_iconst (p' := 31) (v := 2) i_155_30 rfl (by decide) ?_
        refine ev_goto (tg := 35) i_155_31 rfl ?_
        exact ev_iretI i_155_35 rfl ⟨by unfold wd; rw [if_pos hl, if_pos ⟨Classical.not_not.mp c17, Classical.not_not.mp c27⟩], rfl⟩
