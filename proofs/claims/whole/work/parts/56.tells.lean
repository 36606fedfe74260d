/-! ===== read: the class ===== -/
def TD (T : Nat → Int32) (n s : Nat) (so en va : Int32) : Prop := (s = n ∧ so = 0) ∨ (s < n ∧ pLe (T s) ∧ so = 1 ∧ en = nI (lE T n s)) ∨ (s < n ∧ ¬ pLe (T s) ∧ pFi (T s) ∧ en = nI (fE T n s) ∧ (fE T n s ≤ s + 2 → so = 2 ∧ va = nI (fv T s (fE T n s))) ∧ (s + 2 < fE T n s → so = 4)) ∨ (s < n ∧ ¬ pLe (T s) ∧ ¬ pFi (T s) ∧ en = nI (s + 1) ∧ so = (if T s = 59 then 3 else 4))
theorem TFd.tk {mi mi' : Nat → Nat → Int32} {T : Nat → Int32} {n e s : Nat} {so en va : Int32} (hF : TFd mi mi' so (nI s) en va) (hs : skp T n e = s) (h : TD T n s so en va) : (∀ a, a ≠ 4 → mi' a = mi a) ∧ mi' 4 1 = mi 4 1 ∧ mi' 4 6 = mi 4 6 ∧ TKN mi' T n e := by
  obtain ⟨a1, a2, a3, a4, a5, a6, a7⟩ := hF
  refine ⟨a1, a2, a3, ?_⟩
  unfold TKN
  rw [hs, a4, a5, a6, a7]
  exact ⟨rfl, h⟩
theorem l_blk {L : Nat} {π : Nat → Nat → Nat} {ml : Nat → Nat → Int64} {mr : Nat → Nat → Option Nat} {d : Nat} {E : Option Value → pm_M → Prop} (hw : WR π mr) {mi0 : Nat → Nat → Int32} {T : Nat → Int32} {n : Nat} (hB : TB mi0 T n) {so en va : Int32} : ∀ k i mi, i + k = n → TFd mi0 mi so (nI i) en va → (∀ mi, TFd mi0 mi so (nI (skp T n i)) en va → Ev gC (pm_ev gC (d + 2)) E q_54 46 [some (.ref 4)] [] (WW L, mi, ml, mr)) → Ev gC (pm_ev gC (d + 2)) E q_54 8 [some (.ref 4)] [] (WW L, mi, ml, mr) := by
  have h150 := hB.1
  intro k
  induction k with
  | zero =>
    intro i mi hi hF hk
    have hi : i = n := by omega
    subst hi
    refine ev_aload_n (p' := 9) i_54_8 rfl rfl ?_
    refine ev_geti (p' := 12) i_54_9 rfl fl_7_22 rfl is_4 ?_
    rw [hF.2.2.2.2.1]
    refine ev_aload_n (p' := 13) i_54_12 rfl rfl ?_
    refine ev_geti (p' := 16) i_54_13 rfl fl_7_15 rfl is_4 ?_
    rw [hF.len hB]
    refine ev_icmp_ge (p' := 19) (tg := 46) i_54_16 rfl rfl (fun c16 => ?_) (fun c16 => absurd (nI_le (Nat.le_refl _) (by omega)) c16)
    rw [show skp T i i = i from rE_n (fun z => Nat.lt_irrefl _ z.1)] at hk
    exact hk _ hF
  | succ k ih =>
    intro i mi hi hF hk
    have hin : i < n := by omega
    refine ev_aload_n (p' := 9) i_54_8 rfl rfl ?_
    refine ev_geti (p' := 12) i_54_9 rfl fl_7_22 rfl is_4 ?_
    rw [hF.2.2.2.2.1]
    refine ev_aload_n (p' := 13) i_54_12 rfl rfl ?_
    refine ev_geti (p' := 16) i_54_13 rfl fl_7_15 rfl is_4 ?_
    rw [hF.len hB]
    refine ev_icmp_ge (p' := 19) (tg := 46) i_54_16 rfl rfl (fun c16 => absurd c16 (nI_ge (by omega) (by omega))) (fun c16 => ?_)
    refine ev_aload_n (p' := 20) i_54_19 rfl rfl ?_
    refine ev_getr (p' := 23) i_54_20 rfl fl_7_9 rfl is_4 (rf_4_0 hw) ?_
    refine ev_aload_n (p' := 24) i_54_23 rfl rfl ?_
    refine ev_geti (p' := 27) i_54_24 rfl fl_7_22 rfl is_4 ?_
    rw [hF.2.2.2.2.1]
    refine ev_baldN (p' := 28) i_54_27 rfl is_5 len_5 (by omega) (by decide) ?_
    rw [hF.by hB hin]
    refine ev_bipush (p' := 30) (v := 32) i_54_28 rfl (by decide) ?_
    refine ev_icmp_ne (p' := 33) (tg := 46) i_54_30 rfl rfl (fun c30 => ?_) (fun c30 => ?_)
    · rw [show skp T n i = i from rE_n (fun z => c30 z.2)] at hk
      exact hk _ hF
    · refine ev_aload_n (p' := 34) i_54_33 rfl rfl ?_
      refine ev_dup (p' := 35) i_54_34 rfl rfl ?_
      refine ev_geti (p' := 38) i_54_35 rfl fl_7_22 rfl is_4 ?_
      rw [hF.2.2.2.2.1]
      refine ev_iconst (p' := 39) (v := nI 1) i_54_38 rfl (by decide) ?_
      refine ev_iaddN (p' := 40) i_54_39 rfl ?_
      refine ev_puti (p' := 43) i_54_40 rfl fl_7_22 rfl is_4 (gc (by decide)) rfl ?_
      refine ev_goto (tg := 8) i_54_43 rfl ?_
      rw [show skp T n i = skp T n (i + 1) from rE_s hin (Classical.not_not.mp c30)] at hk
      exact ih (i + 1) _ (by omega) (hF.u3 _) hk
theorem l_let {L : Nat} {π : Nat → Nat → Nat} {ml : Nat → Nat → Int64} {mr : Nat → Nat → Option Nat} {d : Nat} {E : Option Value → pm_M → Prop} (hw : WR π mr) {mi0 : Nat → Nat → Int32} {T : Nat → Int32} {n : Nat} (hB : TB mi0 T n) {s : Nat} {va : Int32} : ∀ k i mi, i + k = n → TFd mi0 mi 1 (nI s) (nI i) va → (∀ mi, TFd mi0 mi 1 (nI s) (nI (lE T n i)) va → Ev gC (pm_ev gC (d + 2)) E q_54 175 [some (.ref 4)] [] (WW L, mi, ml, mr)) → Ev gC (pm_ev gC (d + 2)) E q_54 89 [some (.ref 4)] [] (WW L, mi, ml, mr) := by
  have h150 := hB.1
  intro k
  induction k with
  | zero =>
    intro i mi hi hF hk
    have hi : i = n := by omega
    subst hi
    refine ev_aload_n (p' := 90) i_54_89 rfl rfl ?_
    refine ev_geti (p' := 93) i_54_90 rfl fl_7_25 rfl is_4 ?_
    rw [hF.2.2.2.2.2.1]
    refine ev_aload_n (p' := 94) i_54_93 rfl rfl ?_
    refine ev_geti (p' := 97) i_54_94 rfl fl_7_15 rfl is_4 ?_
    rw [hF.len hB]
    refine ev_icmp_ge (p' := 100) (tg := 175) i_54_97 rfl rfl (fun c97 => ?_) (fun c97 => absurd (nI_le (Nat.le_refl _) (by omega)) c97)
    rw [show lE T i i = i from rE_n (fun z => Nat.lt_irrefl _ z.1)] at hk
    exact hk _ hF
  | succ k ih =>
    intro i mi hi hF hk
    have hin : i < n := by omega
    refine ev_aload_n (p' := 90) i_54_89 rfl rfl ?_
    refine ev_geti (p' := 93) i_54_90 rfl fl_7_25 rfl is_4 ?_
    rw [hF.2.2.2.2.2.1]
    refine ev_aload_n (p' := 94) i_54_93 rfl rfl ?_
    refine ev_geti (p' := 97) i_54_94 rfl fl_7_15 rfl is_4 ?_
    rw [hF.len hB]
    refine ev_icmp_ge (p' := 100) (tg := 175) i_54_97 rfl rfl (fun c97 => absurd c97 (nI_ge (by omega) (by omega))) (fun c97 => ?_)
    refine ev_aload_n (p' := 101) i_54_100 rfl rfl ?_
    refine ev_aload_n (p' := 102) i_54_101 rfl rfl ?_
    refine ev_geti (p' := 105) i_54_102 rfl fl_7_25 rfl is_4 ?_
    rw [hF.2.2.2.2.2.1]
    refine ev_v1I (p' := 108) i_54_105 rfl cl_7_110_7 (by decide) is_4 (Nat.le_of_ble_eq_true rfl) (s_tLe _ hw (show i < 150 by omega) (hF.by hB hin)) ?_
    refine ev_if_eq (p' := 111) (tg := 175) i_54_108 rfl rfl (fun c108 => ?_) (fun c108 => ?_)
    · replace c108 := B0 c108
      rw [show lE T n i = i from rE_n (fun z => c108 z.2)] at hk
      exact hk _ hF
    · replace c108 := B1 c108
      refine ev_aload_n (p' := 112) i_54_111 rfl rfl ?_
      refine ev_dup (p' := 113) i_54_112 rfl rfl ?_
      refine ev_geti (p' := 116) i_54_113 rfl fl_7_25 rfl is_4 ?_
      rw [hF.2.2.2.2.2.1]
      refine ev_iconst (p' := 117) (v := nI 1) i_54_116 rfl (by decide) ?_
      refine ev_iaddN (p' := 118) i_54_117 rfl ?_
      refine ev_puti (p' := 121) i_54_118 rfl fl_7_25 rfl is_4 (gc (by decide)) rfl ?_
      refine ev_goto (tg := 89) i_54_121 rfl ?_
      rw [show lE T n i = lE T n (i + 1) from rE_s hin c108] at hk
      exact ih (i + 1) _ (by omega) (hF.u4 _) hk
theorem s_step {L : Nat} {π : Nat → Nat → Nat} {ml : Nat → Nat → Int64} {mr : Nat → Nat → Option Nat} {mi : Nat → Nat → Int32} (d : Nat) (hw : WR π mr) {T : Nat → Int32} {n : Nat} (hB : TB mi T n) {e : Nat} (he : e ≤ n) (hen : mi 4 4 = nI e) : ∃ mi', pm_ev gC (d + 3) 54 [.ref 4] (WW L, mi, ml, mr) (none) (WW L, mi', ml, mr) ∧ (∀ a, a ≠ 4 → mi' a = mi a) ∧ mi' 4 1 = mi 4 1 ∧ mi' 4 6 = mi 4 6 ∧ TKN mi' T n e := by
  have h150 := hB.1
  have hsk := skp_le (T := T) he
  obtain ⟨_x, m', ⟨h1, mi1, h2, h3⟩, h5⟩ := ev_some (E := fun _x m => _x = none ∧ ∃ mi', m = (WW L, mi', ml, mr) ∧ (∀ a, a ≠ 4 → mi' a = mi a) ∧ mi' 4 1 = mi 4 1 ∧ mi' 4 6 = mi 4 6 ∧ TKN mi' T n e) (g := gC) (d := d + 2) (M := 54) (args := [.ref 4]) (mem := (WW L, mi, ml, mr)) (q := q_54) rfl (Nat.le_of_ble_eq_true rfl) rfl (by
    refine ev_aload_n (p' := 1) i_54_0 rfl rfl ?_
    refine ev_aload_n (p' := 2) i_54_1 rfl rfl ?_
    refine ev_geti (p' := 5) i_54_2 rfl fl_7_25 rfl is_4 ?_
    rw [hen]
    refine ev_puti (p' := 8) i_54_5 rfl fl_7_22 rfl is_4 (gc (by decide)) rfl ?_
    refine l_blk hw hB (n - e) e _ (by omega) (TFd.u3 (mi0 := mi) (mi := mi) ⟨fun _ _ => rfl, rfl, rfl, rfl, rfl, rfl, rfl⟩ (nI e)) (fun mi1 hF1 => ?_)
    obtain ⟨s, hs⟩ : ∃ s, skp T n e = s := ⟨_, rfl⟩
    rw [hs] at hF1 hsk
    refine ev_aload_n (p' := 47) i_54_46 rfl rfl ?_
    refine ev_aload_n (p' := 48) i_54_47 rfl rfl ?_
    refine ev_geti (p' := 51) i_54_48 rfl fl_7_22 rfl is_4 ?_
    rw [hF1.2.2.2.2.1]
    refine ev_puti (p' := 54) i_54_51 rfl fl_7_25 rfl is_4 (gc (by decide)) rfl ?_
    have hF2 := hF1.u4 (nI s)
    refine ev_aload_n (p' := 55) i_54_54 rfl rfl ?_
    refine ev_geti (p' := 58) i_54_55 rfl fl_7_22 rfl is_4 ?_
    rw [hF2.2.2.2.2.1]
    refine ev_aload_n (p' := 59) i_54_58 rfl rfl ?_
    refine ev_geti (p' := 62) i_54_59 rfl fl_7_15 rfl is_4 ?_
    rw [hF2.len hB]
    refine ev_icmp_lt (p' := 65) (tg := 73) i_54_62 rfl rfl (fun c62 => ?_) (fun c62 => ?_)
    · have hsn : s < n := (nI_ltI (by omega) (by omega)).mp c62
      refine ev_aload_n (p' := 74) i_54_73 rfl rfl ?_
      refine ev_aload_n (p' := 75) i_54_74 rfl rfl ?_
      refine ev_geti (p' := 78) i_54_75 rfl fl_7_22 rfl is_4 ?_
      rw [hF2.2.2.2.2.1]
      refine ev_v1I (p' := 81) i_54_78 rfl cl_7_110_7 (by decide) is_4 (Nat.le_of_ble_eq_true rfl) (s_tLe _ hw (show s < 150 by omega) (hF2.by hB hsn)) ?_
      refine ev_if_eq (p' := 84) (tg := 124) i_54_81 rfl rfl (fun c81 => ?_) (fun c81 => ?_)
      · replace c81 := B0 c81
        refine ev_aload_n (p' := 125) i_54_124 rfl rfl ?_
        refine ev_aload_n (p' := 126) i_54_125 rfl rfl ?_
        refine ev_geti (p' := 129) i_54_126 rfl fl_7_22 rfl is_4 ?_
        rw [hF2.2.2.2.2.1]
        refine ev_v1I (p' := 132) i_54_129 rfl cl_7_114_7 (by decide) is_4 (Nat.le_of_ble_eq_true rfl) (s_tFi _ hw (show s < 150 by omega) (hF2.by hB hsn)) ?_
        refine ev_if_eq (p' := 135) (tg := 142) i_54_132 rfl rfl (fun c132 => ?_) (fun c132 => ?_)
        · replace c132 := B0 c132
          refine ev_aload_n (p' := 143) i_54_142 rfl rfl ?_
          refine ev_aload_n (p' := 144) i_54_143 rfl rfl ?_
          refine ev_getr (p' := 147) i_54_144 rfl fl_7_9 rfl is_4 (rf_4_0 hw) ?_
          refine ev_aload_n (p' := 148) i_54_147 rfl rfl ?_
          refine ev_geti (p' := 151) i_54_148 rfl fl_7_22 rfl is_4 ?_
          rw [hF2.2.2.2.2.1]
          refine ev_baldN (p' := 152) i_54_151 rfl is_5 len_5 (by omega) (by decide) ?_
          rw [hF2.by hB hsn]
          refine ev_bipush (p' := 154) (v := 59) i_54_152 rfl (by decide) ?_
          refine ev_icmp_ne (p' := 157) (tg := 161) i_54_154 rfl rfl (fun c154 => ?_) (fun c154 => ?_)
          · refine ev_iconst (p' := 162) (v := 4) i_54_161 rfl (by decide) ?_
            refine ev_puti (p' := 165) i_54_162 rfl fl_7_19 rfl is_4 (gc (by decide)) rfl ?_
            have hF3 := hF2.u2 4
            refine ev_aload_n (p' := 166) i_54_165 rfl rfl ?_
            refine ev_dup (p' := 167) i_54_166 rfl rfl ?_
            refine ev_geti (p' := 170) i_54_167 rfl fl_7_25 rfl is_4 ?_
            rw [hF3.2.2.2.2.2.1]
            refine ev_iconst (p' := 171) (v := nI 1) i_54_170 rfl (by decide) ?_
            refine ev_iaddN (p' := 172) i_54_171 rfl ?_
            refine ev_puti (p' := 175) i_54_172 rfl fl_7_25 rfl is_4 (gc (by decide)) rfl ?_
            exact ev_ret i_54_175 rfl ⟨rfl, _, rfl, (hF3.u4 _).tk hs (Or.inr (Or.inr (Or.inr ⟨hsn, c81, c132, rfl, by rw [if_neg c154]⟩)))⟩
          · refine ev_iconst (p' := 158) (v := 3) i_54_157 rfl (by decide) ?_
            refine ev_goto (tg := 162) i_54_158 rfl ?_
            refine ev_puti (p' := 165) i_54_162 rfl fl_7_19 rfl is_4 (gc (by decide)) rfl ?_
            have hF3 := hF2.u2 3
            refine ev_aload_n (p' := 166) i_54_165 rfl rfl ?_
            refine ev_dup (p' := 167) i_54_166 rfl rfl ?_
            refine ev_geti (p' := 170) i_54_167 rfl fl_7_25 rfl is_4 ?_
            rw [hF3.2.2.2.2.2.1]
            refine ev_iconst (p' := 171) (v := nI 1) i_54_170 rfl (by decide) ?_
            refine ev_iaddN (p' := 172) i_54_171 rfl ?_
            refine ev_puti (p' := 175) i_54_172 rfl fl_7_25 rfl is_4 (gc (by decide)) rfl ?_
            exact ev_ret i_54_175 rfl ⟨rfl, _, rfl, (hF3.u4 _).tk hs (Or.inr (Or.inr (Or.inr ⟨hsn, c81, c132, rfl, by rw [if_pos (Classical.not_not.mp c154)]⟩)))⟩
        · replace c132 := B1 c132
          refine ev_aload_n (p' := 136) i_54_135 rfl rfl ?_
          obtain ⟨mi3, e3, so3, hF3, q1, q2⟩ := s_figs (L := L) (ml := ml) d hw hB (by omega) hF2
          refine ev_v0V (p' := 139) i_54_136 rfl cl_7_117_7 (by decide) is_4 (Nat.le_of_ble_eq_true rfl) (e3) ?_
          refine ev_goto (tg := 175) i_54_139 rfl ?_
          exact ev_ret i_54_175 rfl ⟨rfl, _, rfl, hF3.tk hs (Or.inr (Or.inr (Or.inl ⟨hsn, c81, c132, rfl, fun z => ⟨q1 z, by rw [fvn_fv (fE_up hsn c132) z (fun j h1 h2 => fE_in hsk.2 h1 h2)]⟩, q2⟩)))⟩
      · replace c81 := B1 c81
        refine ev_aload_n (p' := 85) i_54_84 rfl rfl ?_
        refine ev_iconst (p' := 86) (v := 1) i_54_85 rfl (by decide) ?_
        refine ev_puti (p' := 89) i_54_86 rfl fl_7_19 rfl is_4 (gc (by decide)) rfl ?_
        refine l_let hw hB (n - s) s _ (by omega) (hF2.u2 1) (fun mi4 hF4 => ?_)
        exact ev_ret i_54_175 rfl ⟨rfl, _, rfl, hF4.tk hs (Or.inr (Or.inl ⟨hsn, c81, rfl, rfl⟩))⟩
    · refine ev_aload_n (p' := 66) i_54_65 rfl rfl ?_
      refine ev_iconst (p' := 67) (v := 0) i_54_66 rfl (by decide) ?_
      refine ev_puti (p' := 70) i_54_67 rfl fl_7_19 rfl is_4 (gc (by decide)) rfl ?_
      refine ev_goto (tg := 175) i_54_70 rfl ?_
      exact ev_ret i_54_175 rfl ⟨rfl, _, rfl, (hF2.u2 0).tk hs (Or.inl ⟨by have := Nat.le_of_not_lt (fun z => c62 (nI_lt (a := s) (b := n) z (by omega))); omega, rfl⟩)⟩)
  subst h1 h2
  exact ⟨mi1, h5, h3⟩
theorem CS.tt {mi : Nat → Nat → Int32} {T : Nat → Int32} {n : Nat} {st : Bool × Nat} (h : CS mi T n st) (hn : n ≤ 150) (h6 : mi 4 6 = -1) : st.1 = true := by
  cases hb : st.1 with
  | true => rfl
  | false => exact absurd ((h.2.2 hb).symm.trans h6) (ne_m1 (by have := h.1; omega))
theorem CS.ff {mi : Nat → Nat → Int32} {T : Nat → Int32} {n : Nat} {st : Bool × Nat} (h : CS mi T n st) (h6 : ¬ mi 4 6 = -1) : st.1 = false := by
  cases hb : st.1 with
  | false => rfl
  | true => exact absurd (h.2.1 hb).1 h6
theorem CS.on {mi : Nat → Nat → Int32} {T : Nat → Int32} {n e : Nat} (he : e ≤ n) (h6 : mi 4 6 = -1) (hk : TKN mi T n e) : CS mi T n (true, e) := ⟨he, fun _ => ⟨h6, hk⟩, fun z => absurd z.symm Bool.false_ne_true⟩
theorem CS.off {mi : Nat → Nat → Int32} {T : Nat → Int32} {n e : Nat} (he : e ≤ n) (h6 : mi 4 6 = nI e) : CS mi T n (false, e) := ⟨he, fun z => absurd z Bool.false_ne_true, fun _ => h6⟩
theorem TKN.fr {mi mi' : Nat → Nat → Int32} {T : Nat → Int32} {n e : Nat} (h : TKN mi T n e) (he : mi' 4 = mi 4) : TKN mi' T n e := by
  unfold TKN at *
  rw [he]
  exact h
theorem CS.fr {mi mi' : Nat → Nat → Int32} {T : Nat → Int32} {n : Nat} {st : Bool × Nat} (h : CS mi T n st) (he : mi' 4 = mi 4) : CS mi' T n st := ⟨h.1, fun z => ⟨by rw [he]; exact (h.2.1 z).1, (h.2.1 z).2.fr he⟩, fun z => by rw [he]; exact h.2.2 z⟩
theorem s_num_n {L : Nat} {π : Nat → Nat → Nat} {mi : Nat → Nat → Int32} {ml : Nat → Nat → Int64} {mr : Nat → Nat → Option Nat} (d : Nat) (hw : WR π mr) {p : Nat} (hp : p ≤ 150) (h6 : mi 4 6 = nI p) (lo hi : Int32) : pm_ev gC (d + 1) 51 [.ref 4, .int lo, .int hi] (WW L, mi, ml, mr) (some (.int lo)) (WW L, mi, ml, mr) := by
  refine ev_enter (q := q_51) rfl (Nat.le_of_ble_eq_true rfl) rfl ?_
  refine ev_aload_n (p' := 1) i_51_0 rfl rfl ?_
  refine ev_geti (p' := 4) i_51_1 rfl fl_7_31 rfl is_4 ?_
  rw [h6]
  refine ev_iconst (p' := 5) (v := -1) i_51_4 rfl (by decide) ?_
  refine ev_icmp_eq (p' := 8) (tg := 10) i_51_5 rfl rfl (fun c5 => absurd c5 (ne_m1 (by omega))) (fun c5 => ?_)
  refine ev_iload_n (p' := 9) i_51_8 rfl rfl ?_
  exact ev_iretI i_51_9 rfl ⟨rfl, rfl⟩
theorem s_num_t {L : Nat} {π : Nat → Nat → Nat} {ml : Nat → Nat → Int64} {mr : Nat → Nat → Option Nat} {mi : Nat → Nat → Int32} (d : Nat) (hw : WR π mr) {T : Nat → Int32} {n : Nat} (hB : TB mi T n) {e : Nat} (he : e ≤ n) (h6 : mi 4 6 = -1) (hK : TKN mi T n e) {lo hi : Int32} (hok : nmOK T n lo hi e) : ∃ mi', pm_ev gC (d + 4) 51 [.ref 4, .int lo, .int hi] (WW L, mi, ml, mr) (some (.int (nI (fv T (skp T n e) (fE T n (skp T n e)))))) (WW L, mi', ml, mr) ∧ (∀ a, a ≠ 4 → mi' a = mi a) ∧ mi' 4 1 = mi 4 1 ∧ mi' 4 6 = -1 ∧ TKN mi' T n (fE T n (skp T n e)) := by
  have h2 := hK.isn he hok.1 hok.2.1
  obtain ⟨q1, q2, q3, q4⟩ := hK.num h2
  obtain ⟨_x, m', ⟨h1, mi1, h2, h3⟩, h5⟩ := ev_some (E := fun _x m => _x = some (.int (nI (fv T (skp T n e) (fE T n (skp T n e))))) ∧ ∃ mi', m = (WW L, mi', ml, mr) ∧ (∀ a, a ≠ 4 → mi' a = mi a) ∧ mi' 4 1 = mi 4 1 ∧ mi' 4 6 = -1 ∧ TKN mi' T n (fE T n (skp T n e))) (g := gC) (d := d + 3) (M := 51) (args := [.ref 4, .int lo, .int hi]) (mem := (WW L, mi, ml, mr)) (q := q_51) rfl (Nat.le_of_ble_eq_true rfl) rfl (by
    refine ev_aload_n (p' := 1) i_51_0 rfl rfl ?_
    refine ev_geti (p' := 4) i_51_1 rfl fl_7_31 rfl is_4 ?_
    rw [h6]
    refine ev_iconst (p' := 5) (v := -1) i_51_4 rfl (by decide) ?_
    refine ev_icmp_eq (p' := 8) (tg := 10) i_51_5 rfl rfl (fun c5 => ?_) (fun c5 => absurd (rfl) c5)
    refine ev_aload_n (p' := 11) i_51_10 rfl rfl ?_
    refine ev_geti (p' := 14) i_51_11 rfl fl_7_19 rfl is_4 ?_
    rw [h2]
    refine ev_iconst (p' := 15) (v := 2) i_51_14 rfl (by decide) ?_
    refine ev_icmp_ne (p' := 18) (tg := 34) i_51_15 rfl rfl (fun c15 => absurd c15 (fun z => z rfl)) (fun c15 => ?_)
    refine ev_aload_n (p' := 19) i_51_18 rfl rfl ?_
    refine ev_geti (p' := 22) i_51_19 rfl fl_7_28 rfl is_4 ?_
    rw [q3]
    refine ev_iload_n (p' := 23) i_51_22 rfl rfl ?_
    refine ev_icmp_lt (p' := 26) (tg := 34) i_51_23 rfl rfl (fun c23 => absurd c23 (Int32.not_lt.mpr hok.2.2.1)) (fun c23 => ?_)
    refine ev_aload_n (p' := 27) i_51_26 rfl rfl ?_
    refine ev_geti (p' := 30) i_51_27 rfl fl_7_28 rfl is_4 ?_
    rw [q3]
    refine ev_iload_n (p' := 31) i_51_30 rfl rfl ?_
    refine ev_icmp_le (p' := 34) (tg := 44) i_51_31 rfl rfl (fun c31 => ?_) (fun c31 => absurd (hok.2.2.2) c31)
    refine ev_aload_n (p' := 45) i_51_44 rfl rfl ?_
    refine ev_geti (p' := 48) i_51_45 rfl fl_7_28 rfl is_4 ?_
    rw [q3]
    refine ev_istore_n (p' := 49) (ls' := [_, _, _, _]) i_51_48 rfl rfl (by decide) rfl ?_
    refine ev_aload_n (p' := 50) i_51_49 rfl rfl ?_
    obtain ⟨mi1, e1, f1, f2, f3, k1⟩ := s_step (L := L) (ml := ml) d hw hB (fE_le (T := T) (skp_le (T := T) he).2).2 q4
    refine ev_v0V (p' := 53) i_51_50 rfl cl_7_34_7 (by decide) is_4 (Nat.le_of_ble_eq_true rfl) (e1) ?_
    refine ev_iload_n (p' := 54) i_51_53 rfl rfl ?_
    exact ev_iretI i_51_54 rfl ⟨rfl, mi1, rfl, f1, f2, by rw [f3]; exact h6, k1⟩)
  subst h1 h2
  exact ⟨mi1, h5, h3⟩
theorem s_num_f {L : Nat} {π : Nat → Nat → Nat} {ml : Nat → Nat → Int64} {mr : Nat → Nat → Option Nat} {mi : Nat → Nat → Int32} (d : Nat) (hw : WR π mr) {T : Nat → Int32} {n : Nat} (hB : TB mi T n) {e : Nat} (he : e ≤ n) (h6 : mi 4 6 = -1) (hK : TKN mi T n e) {lo hi : Int32} (hno : ¬ nmOK T n lo hi e) : ∃ mi', pm_ev gC (d + 4) 51 [.ref 4, .int lo, .int hi] (WW L, mi, ml, mr) (some (.int lo)) (WW L, mi', ml, mr) ∧ (∀ a, a ≠ 4 → mi' a = mi a) ∧ mi' 4 1 = mi 4 1 ∧ mi' 4 6 = nI (skp T n e) := by
  obtain ⟨_x, m', ⟨h1, mi1, h2, h3⟩, h5⟩ := ev_some (E := fun _x m => _x = some (.int lo) ∧ ∃ mi', m = (WW L, mi', ml, mr) ∧ (∀ a, a ≠ 4 → mi' a = mi a) ∧ mi' 4 1 = mi 4 1 ∧ mi' 4 6 = nI (skp T n e)) (g := gC) (d := d + 3) (M := 51) (args := [.ref 4, .int lo, .int hi]) (mem := (WW L, mi, ml, mr)) (q := q_51) rfl (Nat.le_of_ble_eq_true rfl) rfl (by
    refine ev_aload_n (p' := 1) i_51_0 rfl rfl ?_
    refine ev_geti (p' := 4) i_51_1 rfl fl_7_31 rfl is_4 ?_
    rw [h6]
    refine ev_iconst (p' := 5) (v := -1) i_51_4 rfl (by decide) ?_
    refine ev_icmp_eq (p' := 8) (tg := 10) i_51_5 rfl rfl (fun c5 => ?_) (fun c5 => absurd (rfl) c5)
    refine ev_aload_n (p' := 11) i_51_10 rfl rfl ?_
    refine ev_geti (p' := 14) i_51_11 rfl fl_7_19 rfl is_4 ?_
    refine ev_iconst (p' := 15) (v := 2) i_51_14 rfl (by decide) ?_
    refine ev_icmp_ne (p' := 18) (tg := 34) i_51_15 rfl rfl (fun c15 => ?_) (fun c15 => ?_)
    · refine ev_aload_n (p' := 35) i_51_34 rfl rfl ?_
      refine ev_aload_n (p' := 36) i_51_35 rfl rfl ?_
      refine ev_geti (p' := 39) i_51_36 rfl fl_7_22 rfl is_4 ?_
      rw [hK.1]
      refine ev_puti (p' := 42) i_51_39 rfl fl_7_31 rfl is_4 (gc (by decide)) rfl ?_
      refine ev_iload_n (p' := 43) i_51_42 rfl rfl ?_
      exact ev_iretI i_51_43 rfl ⟨rfl, _, rfl, fun a ha => pm_u_ne ha, pm_u_oth (by decide), pm_u_self⟩
    · refine ev_aload_n (p' := 19) i_51_18 rfl rfl ?_
      refine ev_geti (p' := 22) i_51_19 rfl fl_7_28 rfl is_4 ?_
      refine ev_iload_n (p' := 23) i_51_22 rfl rfl ?_
      refine ev_icmp_lt (p' := 26) (tg := 34) i_51_23 rfl rfl (fun c23 => ?_) (fun c23 => ?_)
      · refine ev_aload_n (p' := 35) i_51_34 rfl rfl ?_
        refine ev_aload_n (p' := 36) i_51_35 rfl rfl ?_
        refine ev_geti (p' := 39) i_51_36 rfl fl_7_22 rfl is_4 ?_
        rw [hK.1]
        refine ev_puti (p' := 42) i_51_39 rfl fl_7_31 rfl is_4 (gc (by decide)) rfl ?_
        refine ev_iload_n (p' := 43) i_51_42 rfl rfl ?_
        exact ev_iretI i_51_43 rfl ⟨rfl, _, rfl, fun a ha => pm_u_ne ha, pm_u_oth (by decide), pm_u_self⟩
      · refine ev_aload_n (p' := 27) i_51_26 rfl rfl ?_
        refine ev_geti (p' := 30) i_51_27 rfl fl_7_28 rfl is_4 ?_
        refine ev_iload_n (p' := 31) i_51_30 rfl rfl ?_
        refine ev_icmp_le (p' := 34) (tg := 44) i_51_31 rfl rfl (fun c31 => ?_) (fun c31 => ?_)
        · have q := hK.num (Classical.not_not.mp c15)
          exact absurd ⟨q.1, q.2.1, by rw [← q.2.2.1]; exact Int32.not_lt.mp c23, by rw [← q.2.2.1]; exact c31⟩ hno
        · refine ev_aload_n (p' := 35) i_51_34 rfl rfl ?_
          refine ev_aload_n (p' := 36) i_51_35 rfl rfl ?_
          refine ev_geti (p' := 39) i_51_36 rfl fl_7_22 rfl is_4 ?_
          rw [hK.1]
          refine ev_puti (p' := 42) i_51_39 rfl fl_7_31 rfl is_4 (gc (by decide)) rfl ?_
          refine ev_iload_n (p' := 43) i_51_42 rfl rfl ?_
          exact ev_iretI i_51_43 rfl ⟨rfl, _, rfl, fun a ha => pm_u_ne ha, pm_u_oth (by decide), pm_u_self⟩)
  subst h1 h2
  exact ⟨mi1, h5, h3⟩
theorem s_num {L : Nat} {π : Nat → Nat → Nat} {ml : Nat → Nat → Int64} {mr : Nat → Nat → Option Nat} {mi : Nat → Nat → Int32} (d : Nat) (hw : WR π mr) {T : Nat → Int32} {n : Nat} (hB : TB mi T n) {st : Bool × Nat} (hS : CS mi T n st) (lo hi : Int32) : ∃ mi', pm_ev gC (d + 4) 51 [.ref 4, .int lo, .int hi] (WW L, mi, ml, mr) (some (.int (nmV T n lo hi st))) (WW L, mi', ml, mr) ∧ (∀ a, a ≠ 4 → mi' a = mi a) ∧ TB mi' T n ∧ CS mi' T n (nmS T n lo hi st) := by
  have h150 := hB.1
  obtain ⟨b, e⟩ := st
  have he : e ≤ n := hS.1
  cases b with
  | false =>
    refine ⟨mi, ?_, fun _ _ => rfl, hB, hS⟩
    rw [nmV_n]
    exact s_num_n (d + 3) hw (by omega) (hS.2.2 rfl) lo hi
  | true =>
    obtain ⟨h6, hK⟩ := hS.2.1 rfl
    have hl := fE_le (T := T) (skp_le (T := T) he).2
    by_cases hok : nmOK T n lo hi e
    · obtain ⟨mi1, e1, f1, f2, f3, k1⟩ := s_num_t (L := L) (ml := ml) d hw hB he h6 hK hok
      exact ⟨mi1, by rw [nmV_t hok]; exact e1, f1, hB.fr f2 (f1 5 (by decide)), by rw [nmS_t hok]; exact CS.on hl.2 f3 k1⟩
    · obtain ⟨mi1, e1, f1, f2, f3⟩ := s_num_f (L := L) (ml := ml) d hw hB he h6 hK hok
      exact ⟨mi1, by rw [nmV_f hok]; exact e1, f1, hB.fr f2 (f1 5 (by decide)), by rw [nmS_f hok]; exact CS.off (skp_le (T := T) he).2 f3⟩
theorem s_end_n {L : Nat} {π : Nat → Nat → Nat} {mi : Nat → Nat → Int32} {ml : Nat → Nat → Int64} {mr : Nat → Nat → Option Nat} (d : Nat) (hw : WR π mr) {p : Nat} (hp : p ≤ 150) (h6 : mi 4 6 = nI p) : pm_ev gC (d + 1) 52 [.ref 4] (WW L, mi, ml, mr) none (WW L, mi, ml, mr) := by
  refine ev_enter (q := q_52) rfl (Nat.le_of_ble_eq_true rfl) rfl ?_
  refine ev_aload_n (p' := 1) i_52_0 rfl rfl ?_
  refine ev_geti (p' := 4) i_52_1 rfl fl_7_31 rfl is_4 ?_
  rw [h6]
  refine ev_iconst (p' := 5) (v := -1) i_52_4 rfl (by decide) ?_
  refine ev_icmp_eq (p' := 8) (tg := 9) i_52_5 rfl rfl (fun c5 => absurd c5 (ne_m1 (by omega))) (fun c5 => ?_)
  exact ev_ret i_52_8 rfl ⟨rfl, rfl⟩
theorem s_end_t {L : Nat} {π : Nat → Nat → Nat} {ml : Nat → Nat → Int64} {mr : Nat → Nat → Option Nat} {mi : Nat → Nat → Int32} (d : Nat) (hw : WR π mr) {T : Nat → Int32} {n : Nat} (hB : TB mi T n) {e : Nat} (he : e ≤ n) (h6 : mi 4 6 = -1) (hK : TKN mi T n e) (hok : enOK T n e) : ∃ mi', pm_ev gC (d + 4) 52 [.ref 4] (WW L, mi, ml, mr) (none) (WW L, mi', ml, mr) ∧ (∀ a, a ≠ 4 → mi' a = mi a) ∧ mi' 4 1 = mi 4 1 ∧ mi' 4 6 = -1 ∧ TKN mi' T n (skp T n e + 1) := by
  obtain ⟨_x, m', ⟨h1, mi1, h2, h3⟩, h5⟩ := ev_some (E := fun _x m => _x = none ∧ ∃ mi', m = (WW L, mi', ml, mr) ∧ (∀ a, a ≠ 4 → mi' a = mi a) ∧ mi' 4 1 = mi 4 1 ∧ mi' 4 6 = -1 ∧ TKN mi' T n (skp T n e + 1)) (g := gC) (d := d + 3) (M := 52) (args := [.ref 4]) (mem := (WW L, mi, ml, mr)) (q := q_52) rfl (Nat.le_of_ble_eq_true rfl) rfl (by
    refine ev_aload_n (p' := 1) i_52_0 rfl rfl ?_
    refine ev_geti (p' := 4) i_52_1 rfl fl_7_31 rfl is_4 ?_
    rw [h6]
    refine ev_iconst (p' := 5) (v := -1) i_52_4 rfl (by decide) ?_
    refine ev_icmp_eq (p' := 8) (tg := 9) i_52_5 rfl rfl (fun c5 => ?_) (fun c5 => absurd (rfl) c5)
    refine ev_aload_n (p' := 10) i_52_9 rfl rfl ?_
    refine ev_geti (p' := 13) i_52_10 rfl fl_7_19 rfl is_4 ?_
    rw [hK.iss hok]
    refine ev_iconst (p' := 14) (v := 3) i_52_13 rfl (by decide) ?_
    refine ev_icmp_ne (p' := 17) (tg := 24) i_52_14 rfl rfl (fun c14 => absurd c14 (fun z => z rfl)) (fun c14 => ?_)
    refine ev_aload_n (p' := 18) i_52_17 rfl rfl ?_
    obtain ⟨mi1, e1, f1, f2, f3, k1⟩ := s_step (L := L) (ml := ml) d hw hB hok.1 (hK.semi (hK.iss hok)).2
    refine ev_v0V (p' := 21) i_52_18 rfl cl_7_34_7 (by decide) is_4 (Nat.le_of_ble_eq_true rfl) (e1) ?_
    refine ev_goto (tg := 32) i_52_21 rfl ?_
    exact ev_ret i_52_32 rfl ⟨rfl, mi1, rfl, f1, f2, by rw [f3]; exact h6, k1⟩)
  subst h1 h2
  exact ⟨mi1, h5, h3⟩
theorem s_end_f {L : Nat} {π : Nat → Nat → Nat} {ml : Nat → Nat → Int64} {mr : Nat → Nat → Option Nat} {mi : Nat → Nat → Int32} (d : Nat) (hw : WR π mr) {T : Nat → Int32} {n : Nat} (hB : TB mi T n) {e : Nat} (he : e ≤ n) (h6 : mi 4 6 = -1) (hK : TKN mi T n e) (hno : ¬ enOK T n e) : ∃ mi', pm_ev gC (d + 4) 52 [.ref 4] (WW L, mi, ml, mr) (none) (WW L, mi', ml, mr) ∧ (∀ a, a ≠ 4 → mi' a = mi a) ∧ mi' 4 1 = mi 4 1 ∧ mi' 4 6 = nI (skp T n e) := by
  obtain ⟨_x, m', ⟨h1, mi1, h2, h3⟩, h5⟩ := ev_some (E := fun _x m => _x = none ∧ ∃ mi', m = (WW L, mi', ml, mr) ∧ (∀ a, a ≠ 4 → mi' a = mi a) ∧ mi' 4 1 = mi 4 1 ∧ mi' 4 6 = nI (skp T n e)) (g := gC) (d := d + 3) (M := 52) (args := [.ref 4]) (mem := (WW L, mi, ml, mr)) (q := q_52) rfl (Nat.le_of_ble_eq_true rfl) rfl (by
    refine ev_aload_n (p' := 1) i_52_0 rfl rfl ?_
    refine ev_geti (p' := 4) i_52_1 rfl fl_7_31 rfl is_4 ?_
    rw [h6]
    refine ev_iconst (p' := 5) (v := -1) i_52_4 rfl (by decide) ?_
    refine ev_icmp_eq (p' := 8) (tg := 9) i_52_5 rfl rfl (fun c5 => ?_) (fun c5 => absurd (rfl) c5)
    refine ev_aload_n (p' := 10) i_52_9 rfl rfl ?_
    refine ev_geti (p' := 13) i_52_10 rfl fl_7_19 rfl is_4 ?_
    refine ev_iconst (p' := 14) (v := 3) i_52_13 rfl (by decide) ?_
    refine ev_icmp_ne (p' := 17) (tg := 24) i_52_14 rfl rfl (fun c14 => ?_) (fun c14 => absurd (fun z => hno (hK.semi z).1) c14)
    refine ev_aload_n (p' := 25) i_52_24 rfl rfl ?_
    refine ev_aload_n (p' := 26) i_52_25 rfl rfl ?_
    refine ev_geti (p' := 29) i_52_26 rfl fl_7_22 rfl is_4 ?_
    rw [hK.1]
    refine ev_puti (p' := 32) i_52_29 rfl fl_7_31 rfl is_4 (gc (by decide)) rfl ?_
    exact ev_ret i_52_32 rfl ⟨rfl, _, rfl, fun a ha => pm_u_ne ha, pm_u_oth (by decide), pm_u_self⟩)
  subst h1 h2
  exact ⟨mi1, h5, h3⟩
theorem s_end {L : Nat} {π : Nat → Nat → Nat} {ml : Nat → Nat → Int64} {mr : Nat → Nat → Option Nat} {mi : Nat → Nat → Int32} (d : Nat) (hw : WR π mr) {T : Nat → Int32} {n : Nat} (hB : TB mi T n) {st : Bool × Nat} (hS : CS mi T n st) : ∃ mi', pm_ev gC (d + 4) 52 [.ref 4] (WW L, mi, ml, mr) none (WW L, mi', ml, mr) ∧ (∀ a, a ≠ 4 → mi' a = mi a) ∧ TB mi' T n ∧ CS mi' T n (enS T n st) := by
  have h150 := hB.1
  obtain ⟨b, e⟩ := st
  have he : e ≤ n := hS.1
  cases b with
  | false => exact ⟨mi, s_end_n (d + 3) hw (show e ≤ 150 by omega) (hS.2.2 rfl), fun _ _ => rfl, hB, hS⟩
  | true =>
    obtain ⟨h6, hK⟩ := hS.2.1 rfl
    by_cases hok : enOK T n e
    · obtain ⟨mi1, e1, f1, f2, f3, k1⟩ := s_end_t (L := L) (ml := ml) d hw hB he h6 hK hok
      exact ⟨mi1, e1, f1, hB.fr f2 (f1 5 (by decide)), by rw [enS_t hok]; exact CS.on hok.1 f3 k1⟩
    · obtain ⟨mi1, e1, f1, f2, f3⟩ := s_end_f (L := L) (ml := ml) d hw hB he h6 hK hok
      exact ⟨mi1, e1, f1, hB.fr f2 (f1 5 (by decide)), by rw [enS_f hok]; exact CS.off (skp_le (T := T) he).2 f3⟩
theorem s_stp {L : Nat} {π : Nat → Nat → Nat} {ml : Nat → Nat → Int64} {mr : Nat → Nat → Option Nat} {mi : Nat → Nat → Int32} (d : Nat) (hw : WR π mr) {T : Nat → Int32} {n e : Nat} (hB : TB mi T n) (he : e ≤ n) (hen : mi 4 4 = nI e) (h6 : mi 4 6 = -1) : ∃ mi', pm_ev gC (d + 3) 54 [.ref 4] (WW L, mi, ml, mr) none (WW L, mi', ml, mr) ∧ (∀ a, a ≠ 4 → mi' a = mi a) ∧ TB mi' T n ∧ CS mi' T n (true, e) := by
  obtain ⟨mi1, e1, f1, f2, f3, k1⟩ := s_step (L := L) (ml := ml) d hw hB he hen
  exact ⟨mi1, e1, f1, hB.fr f2 (f1 5 (by decide)), CS.on he (f3.trans h6) k1⟩
theorem CPg.f4 {mi mi' : Nat → Nat → Int32} {v : PV} (h : CPg mi 275 v) (he : ∀ a, a ≠ 4 → mi' a = mi a) : CPg mi' 275 v := h.fr (he _ (by decide)) (fun i _ => he _ (by omega))
theorem wm_out {mi : Nat → Nat → Int32} {P n a : Nat} {y : Int32} (h : a < P + 3 ∨ P + 3 + n ≤ a) : wm mi P y n a = mi a := by
  funext j
  exact if_neg (by omega)
/-- what an item leaves -/
def AF (mi mi' : Nat → Nat → Int32) : Prop := ∀ a, a ≠ 4 → a < 275 ∨ 284 < a → mi' a = mi a
theorem s_tOpen {L : Nat} {π : Nat → Nat → Nat} {ml : Nat → Nat → Int64} {mr : Nat → Nat → Option Nat} {mi : Nat → Nat → Int32} (d : Nat) (hw : WR π mr) {T : Nat → Int32} {n : Nat} (hB : TB mi T n) {e : Nat} (he : e ≤ n) (hen : mi 4 4 = nI e) (h6 : mi 4 6 = -1) {v : PV} (hp : CPg mi 275 v) : ∃ mi', pm_ev gC (d + 5) 49 [.ref 4, .ref 275] (WW L, mi, ml, mr) (none) (WW L, mi', ml, mr) ∧ AF mi mi' ∧ TB mi' T n ∧ CS mi' T n (enS T n (nmS T n 0 12 (true, e))) ∧ ((enS T n (nmS T n 0 12 (true, e))).1 = true → CPg mi' 275 (opV v (nmV T n 0 12 (true, e)))) := by
  obtain ⟨_x, m', ⟨h1, mi1, h2, h3⟩, h5⟩ := ev_some (E := fun _x m => _x = none ∧ ∃ mi', m = (WW L, mi', ml, mr) ∧ AF mi mi' ∧ TB mi' T n ∧ CS mi' T n (enS T n (nmS T n 0 12 (true, e))) ∧ ((enS T n (nmS T n 0 12 (true, e))).1 = true → CPg mi' 275 (opV v (nmV T n 0 12 (true, e))))) (g := gC) (d := d + 4) (M := 49) (args := [.ref 4, .ref 275]) (mem := (WW L, mi, ml, mr)) (q := q_49) rfl (Nat.le_of_ble_eq_true rfl) rfl (by
    refine ev_aload_n (p' := 1) i_49_0 rfl rfl ?_
    obtain ⟨mi1, e1, f1, hB1, hS1⟩ := s_stp (L := L) (ml := ml) (d + 1) hw hB he hen h6
    have hp1 := hp.f4 f1
    refine ev_v0V (p' := 4) i_49_1 rfl cl_7_34_7 (by decide) is_4 (Nat.le_of_ble_eq_true rfl) (e1) ?_
    refine ev_aload_n (p' := 5) i_49_4 rfl rfl ?_
    refine ev_iconst (p' := 6) (v := 0) i_49_5 rfl (by decide) ?_
    refine ev_bipush (p' := 8) (v := 12) i_49_6 rfl (by decide) ?_
    obtain ⟨mi2, e2, f2, hB2, hS2⟩ := s_num (L := L) (ml := ml) d hw hB1 hS1 (0) (12)
    have hp2 := hp1.f4 f2
    refine ev_v2I (p' := 11) i_49_8 rfl cl_7_71_7 (by decide) is_4 (Nat.le_of_ble_eq_true rfl) (e2) ?_
    refine ev_istore_n (p' := 12) (ls' := [_, _, _]) i_49_11 rfl rfl (by decide) rfl ?_
    refine ev_aload_n (p' := 13) i_49_12 rfl rfl ?_
    obtain ⟨mi3, e3, f3, hB3, hS3⟩ := s_end (L := L) (ml := ml) d hw hB2 hS2
    have hp3 := hp2.f4 f3
    refine ev_v0V (p' := 16) i_49_13 rfl cl_7_75_7 (by decide) is_4 (Nat.le_of_ble_eq_true rfl) (e3) ?_
    refine ev_aload_n (p' := 17) i_49_16 rfl rfl ?_
    refine ev_geti (p' := 20) i_49_17 rfl fl_7_31 rfl is_4 ?_
    refine ev_iconst (p' := 21) (v := -1) i_49_20 rfl (by decide) ?_
    refine ev_icmp_ne (p' := 24) (tg := 29) i_49_21 rfl rfl (fun c21 => ?_) (fun c21 => ?_)
    · exact ev_ret i_49_29 rfl ⟨rfl, mi3, rfl, fun a z1 z2 => by rw [f3 a z1, f2 a z1, f1 a z1], hB3, hS3, fun z => absurd (z.symm.trans (hS3.ff c21)) (by decide)⟩
    · refine ev_aload_n (p' := 25) i_49_24 rfl rfl ?_
      refine ev_iload_n (p' := 26) i_49_25 rfl rfl ?_
      refine ev_v1V (p' := 29) i_49_26 rfl cl_7_89_2 (by decide) (is_pg pg_275) (Nat.le_of_ble_eq_true rfl) (s_open _ hw pg_275 hp3.1 hp3.2.1 _) ?_
      exact ev_ret i_49_29 rfl ⟨rfl, _, rfl, fun a z1 z2 => by rw [pm_u_ne (by omega), wm_out (by have := hp3.1; omega), f3 a z1, f2 a z1, f1 a z1], hB3.fr (by rw [pm_u_ne (by decide), wm_out (by omega)]) (by rw [pm_u_ne (by decide), wm_out (by omega)]), hS3.fr (by rw [pm_u_ne (by decide), wm_out (by omega)]), fun _ => hp3.op⟩)
  subst h1 h2
  exact ⟨mi1, h5, h3⟩
theorem nm_pc {T : Nat → Int32} {n m : Nat} {st : Bool × Nat} (hle : st.2 ≤ n) (hm : m ≤ 7) (h : (nmS T n 0 (nI m - 1) st).1 = true) : ∃ k, k < m ∧ nmV T n 0 (nI m - 1) st = nI k := by
  match m, hm with
  | 0, _ =>
    obtain ⟨-, -, -, h4, h5⟩ := nmS_ok h
    exact absurd (Int32.le_trans h4 h5) (by decide)
  | m + 1, hm =>
    rw [nI_pred] at *
    obtain ⟨k, h1, h2, h3⟩ := nmV_le (a := 0) (b := m) hle h rfl rfl (by decide) (by omega)
    exact ⟨k, by omega, h3⟩
theorem s_tPull {L : Nat} {π : Nat → Nat → Nat} {ml : Nat → Nat → Int64} {mr : Nat → Nat → Option Nat} {mi : Nat → Nat → Int32} (d : Nat) (hw : WR π mr) {T : Nat → Int32} {n : Nat} (hB : TB mi T n) {e : Nat} (he : e ≤ n) (hen : mi 4 4 = nI e) (h6 : mi 4 6 = -1) {v : PV} (hp : CPg mi 275 v) : ∃ mi', pm_ev gC (d + 5) 50 [.ref 4, .ref 275] (WW L, mi, ml, mr) (none) (WW L, mi', ml, mr) ∧ AF mi mi' ∧ TB mi' T n ∧ CS mi' T n (enS T n (nmS T n 0 3 (nmS T n 0 (nI v.1 - 1) (true, e)))) ∧ ((enS T n (nmS T n 0 3 (nmS T n 0 (nI v.1 - 1) (true, e)))).1 = true → CPg mi' 275 (setV v 5 (nmV T n 0 (nI v.1 - 1) (true, e)).toNatClampNeg (nmV T n 0 3 (nmS T n 0 (nI v.1 - 1) (true, e))))) := by
  have h150 := hB.1
  obtain ⟨_x, m', ⟨h1, mi1, h2, h3⟩, h5⟩ := ev_some (E := fun _x m => _x = none ∧ ∃ mi', m = (WW L, mi', ml, mr) ∧ AF mi mi' ∧ TB mi' T n ∧ CS mi' T n (enS T n (nmS T n 0 3 (nmS T n 0 (nI v.1 - 1) (true, e)))) ∧ ((enS T n (nmS T n 0 3 (nmS T n 0 (nI v.1 - 1) (true, e)))).1 = true → CPg mi' 275 (setV v 5 (nmV T n 0 (nI v.1 - 1) (true, e)).toNatClampNeg (nmV T n 0 3 (nmS T n 0 (nI v.1 - 1) (true, e)))))) (g := gC) (d := d + 4) (M := 50) (args := [.ref 4, .ref 275]) (mem := (WW L, mi, ml, mr)) (q := q_50) rfl (Nat.le_of_ble_eq_true rfl) rfl (by
    refine ev_aload_n (p' := 1) i_50_0 rfl rfl ?_
    obtain ⟨mi1, e1, f1, hB1, hS1⟩ := s_stp (L := L) (ml := ml) (d + 1) hw hB he hen h6
    have hp1 := hp.f4 f1
    refine ev_v0V (p' := 4) i_50_1 rfl cl_7_34_7 (by decide) is_4 (Nat.le_of_ble_eq_true rfl) (e1) ?_
    refine ev_aload_n (p' := 5) i_50_4 rfl rfl ?_
    refine ev_iconst (p' := 6) (v := 0) i_50_5 rfl (by decide) ?_
    refine ev_aload_n (p' := 7) i_50_6 rfl rfl ?_
    refine ev_geti (p' := 10) i_50_7 rfl fl_7_82 rfl (is_pg pg_275) ?_
    rw [hp1.2.1]
    refine ev_iconst (p' := 11) (v := 1) i_50_10 rfl (by decide) ?_
    refine ev_isub (p' := 12) i_50_11 rfl ?_
    obtain ⟨mi2, e2, f2, hB2, hS2⟩ := s_num (L := L) (ml := ml) d hw hB1 hS1 (0) (nI v.1 - 1)
    have hp2 := hp1.f4 f2
    refine ev_v2I (p' := 15) i_50_12 rfl cl_7_71_7 (by decide) is_4 (Nat.le_of_ble_eq_true rfl) (e2) ?_
    refine ev_istore_n (p' := 16) (ls' := [_, _, _, _]) i_50_15 rfl rfl (by decide) rfl ?_
    refine ev_aload_n (p' := 17) i_50_16 rfl rfl ?_
    refine ev_iconst (p' := 18) (v := 0) i_50_17 rfl (by decide) ?_
    refine ev_iconst (p' := 19) (v := 3) i_50_18 rfl (by decide) ?_
    obtain ⟨mi3, e3, f3, hB3, hS3⟩ := s_num (L := L) (ml := ml) d hw hB2 hS2 (0) (3)
    have hp3 := hp2.f4 f3
    refine ev_v2I (p' := 22) i_50_19 rfl cl_7_71_7 (by decide) is_4 (Nat.le_of_ble_eq_true rfl) (e3) ?_
    refine ev_istore_n (p' := 23) (ls' := [_, _, _, _]) i_50_22 rfl rfl (by decide) rfl ?_
    refine ev_aload_n (p' := 24) i_50_23 rfl rfl ?_
    obtain ⟨mi4, e4, f4, hB4, hS4⟩ := s_end (L := L) (ml := ml) d hw hB3 hS3
    have hp4 := hp3.f4 f4
    refine ev_v0V (p' := 27) i_50_24 rfl cl_7_75_7 (by decide) is_4 (Nat.le_of_ble_eq_true rfl) (e4) ?_
    refine ev_aload_n (p' := 28) i_50_27 rfl rfl ?_
    refine ev_geti (p' := 31) i_50_28 rfl fl_7_31 rfl is_4 ?_
    refine ev_iconst (p' := 32) (v := -1) i_50_31 rfl (by decide) ?_
    refine ev_icmp_ne (p' := 35) (tg := 53) i_50_32 rfl rfl (fun c32 => ?_) (fun c32 => ?_)
    · exact ev_ret i_50_53 rfl ⟨rfl, mi4, rfl, fun a z1 z2 => by rw [f4 a z1, f3 a z1, f2 a z1, f1 a z1], hB4, hS4, fun z => absurd (z.symm.trans (hS4.ff c32)) (by decide)⟩
    · have z0 := hS4.tt h150 (Classical.not_not.mp c32)
      have z1 := (nmS_ok (enS_ok z0).1).1
      obtain ⟨k, hk, ek⟩ := nm_pc (T := T) (n := n) (st := (true, e)) he hp.1 z1
      have h7 := hp.1
      rw [ek]
      refine ev_iload_n (p' := 36) i_50_35 rfl rfl ?_
      refine ev_aload_n (p' := 37) i_50_36 rfl rfl ?_
      refine ev_geti (p' := 40) i_50_37 rfl fl_7_82 rfl (is_pg pg_275) ?_
      rw [hp4.2.1]
      refine ev_icmp_ge (p' := 43) (tg := 53) i_50_40 rfl rfl (fun c40 => absurd c40 (nI_ge hk (by omega))) (fun c40 => ?_)
      refine ev_aload_n (p' := 44) i_50_43 rfl rfl ?_
      refine ev_getr (p' := 47) i_50_44 rfl fl_7_92 rfl (is_pg pg_275) (hw.pieces pg_275) ?_
      refine ev_iload_n (p' := 48) i_50_47 rfl rfl ?_
      refine ev_aaldN (p' := 49) 25 i_50_48 rfl (is_pgp pg_275) (by decide) (len_pgp pg_275) (show k < 7 by omega) (by decide) (hw.piece pg_275 (show k < 7 by omega)) ?_
      refine ev_iload_n (p' := 50) i_50_49 rfl rfl ?_
      refine ev_puti (p' := 53) i_50_50 rfl fl_7_96 rfl (is_pc pg_275 (show k < 7 by omega)) (gc_pc pg_275 (show k < 7 by omega)) rfl ?_
      exact ev_ret i_50_53 rfl ⟨rfl, _, rfl, fun a z1 z2 => by rw [pm_u_ne (by omega), f4 a z1, f3 a z1, f2 a z1, f1 a z1], hB4.fr (by rw [pm_u_ne (by omega)]) (by rw [pm_u_ne (by omega)]), hS4.fr (by rw [pm_u_ne (by omega)]), fun _ => by rw [nI_clamp (by omega)]; exact hp4.set (by decide) (by decide)⟩)
  subst h1 h2
  exact ⟨mi1, h5, h3⟩
theorem s_tPiece0 {L : Nat} {π : Nat → Nat → Nat} {ml : Nat → Nat → Int64} {mr : Nat → Nat → Option Nat} {mi : Nat → Nat → Int32} (d : Nat) (hw : WR π mr) {T : Nat → Int32} {n : Nat} (hB : TB mi T n) {e : Nat} (he : e ≤ n) (hen : mi 4 4 = nI e) (h6 : mi 4 6 = -1) {v : PV} (hp : CPg mi 275 v) (h6p : v.1 < 7) : ∃ mi', pm_ev gC (d + 5) 48 [.ref 4, .ref 275, .int 0] (WW L, mi, ml, mr) (none) (WW L, mi', ml, mr) ∧ AF mi mi' ∧ TB mi' T n ∧ CS mi' T n (enS T n (nmS T n 0 9 (nmS T n 1 9 (nmS T n 1 9 (nmS T n 0 5 ((true, e))))))) ∧ ((enS T n (nmS T n 0 9 (nmS T n 1 9 (nmS T n 1 9 (nmS T n 0 5 ((true, e))))))).1 = true → CPg mi' 275 (glueV v (nmV T n 0 5 ((true, e))) (nmV T n 1 9 (nmS T n 0 5 ((true, e)))) (nmV T n 1 9 (nmS T n 1 9 (nmS T n 0 5 ((true, e))))) (nmV T n 0 9 (nmS T n 1 9 (nmS T n 1 9 (nmS T n 0 5 ((true, e)))))) (-1))) := by
  have h150 := hB.1
  obtain ⟨_x, m', ⟨h1, mi1, h2, h3⟩, h5⟩ := ev_some (E := fun _x m => _x = none ∧ ∃ mi', m = (WW L, mi', ml, mr) ∧ AF mi mi' ∧ TB mi' T n ∧ CS mi' T n (enS T n (nmS T n 0 9 (nmS T n 1 9 (nmS T n 1 9 (nmS T n 0 5 ((true, e))))))) ∧ ((enS T n (nmS T n 0 9 (nmS T n 1 9 (nmS T n 1 9 (nmS T n 0 5 ((true, e))))))).1 = true → CPg mi' 275 (glueV v (nmV T n 0 5 ((true, e))) (nmV T n 1 9 (nmS T n 0 5 ((true, e)))) (nmV T n 1 9 (nmS T n 1 9 (nmS T n 0 5 ((true, e))))) (nmV T n 0 9 (nmS T n 1 9 (nmS T n 1 9 (nmS T n 0 5 ((true, e)))))) (-1)))) (g := gC) (d := d + 4) (M := 48) (args := [.ref 4, .ref 275, .int 0]) (mem := (WW L, mi, ml, mr)) (q := q_48) rfl (Nat.le_of_ble_eq_true rfl) rfl (by
    refine ev_aload_n (p' := 1) i_48_0 rfl rfl ?_
    obtain ⟨mi1, e1, f1, hB1, hS1⟩ := s_stp (L := L) (ml := ml) (d + 1) hw hB he hen h6
    have hp1 := hp.f4 f1
    refine ev_v0V (p' := 4) i_48_1 rfl cl_7_34_7 (by decide) is_4 (Nat.le_of_ble_eq_true rfl) (e1) ?_
    refine ev_aload_n (p' := 5) i_48_4 rfl rfl ?_
    refine ev_iconst (p' := 6) (v := 0) i_48_5 rfl (by decide) ?_
    refine ev_iconst (p' := 7) (v := 5) i_48_6 rfl (by decide) ?_
    obtain ⟨mi2, e2, f2, hB2, hS2⟩ := s_num (L := L) (ml := ml) d hw hB1 hS1 (0) (5)
    have hp2 := hp1.f4 f2
    refine ev_v2I (p' := 10) i_48_7 rfl cl_7_71_7 (by decide) is_4 (Nat.le_of_ble_eq_true rfl) (e2) ?_
    refine ev_istore_n (p' := 11) (ls' := [_, _, _, _, _, _, _, _]) i_48_10 rfl rfl (by decide) rfl ?_
    refine ev_aload_n (p' := 12) i_48_11 rfl rfl ?_
    refine ev_iconst (p' := 13) (v := 1) i_48_12 rfl (by decide) ?_
    refine ev_bipush (p' := 15) (v := 9) i_48_13 rfl (by decide) ?_
    obtain ⟨mi3, e3, f3, hB3, hS3⟩ := s_num (L := L) (ml := ml) d hw hB2 hS2 (1) (9)
    have hp3 := hp2.f4 f3
    refine ev_v2I (p' := 18) i_48_15 rfl cl_7_71_7 (by decide) is_4 (Nat.le_of_ble_eq_true rfl) (e3) ?_
    refine ev_istore (p' := 20) (ls' := [_, _, _, _, _, _, _, _]) i_48_18 rfl rfl (by decide) rfl ?_
    refine ev_aload_n (p' := 21) i_48_20 rfl rfl ?_
    refine ev_iconst (p' := 22) (v := 1) i_48_21 rfl (by decide) ?_
    refine ev_bipush (p' := 24) (v := 9) i_48_22 rfl (by decide) ?_
    obtain ⟨mi4, e4, f4, hB4, hS4⟩ := s_num (L := L) (ml := ml) d hw hB3 hS3 (1) (9)
    have hp4 := hp3.f4 f4
    refine ev_v2I (p' := 27) i_48_24 rfl cl_7_71_7 (by decide) is_4 (Nat.le_of_ble_eq_true rfl) (e4) ?_
    refine ev_istore (p' := 29) (ls' := [_, _, _, _, _, _, _, _]) i_48_27 rfl rfl (by decide) rfl ?_
    refine ev_aload_n (p' := 30) i_48_29 rfl rfl ?_
    refine ev_iconst (p' := 31) (v := 0) i_48_30 rfl (by decide) ?_
    refine ev_bipush (p' := 33) (v := 9) i_48_31 rfl (by decide) ?_
    obtain ⟨mi5, e5, f5, hB5, hS5⟩ := s_num (L := L) (ml := ml) d hw hB4 hS4 (0) (9)
    have hp5 := hp4.f4 f5
    refine ev_v2I (p' := 36) i_48_33 rfl cl_7_71_7 (by decide) is_4 (Nat.le_of_ble_eq_true rfl) (e5) ?_
    refine ev_istore (p' := 38) (ls' := [_, _, _, _, _, _, _, _]) i_48_36 rfl rfl (by decide) rfl ?_
    refine ev_iload_n (p' := 39) i_48_38 rfl rfl ?_
    refine ev_if_eq (p' := 42) (tg := 56) i_48_39 rfl rfl (fun c39 => ?_) (fun c39 => absurd (rfl) c39)
    refine ev_iconst (p' := 57) (v := -1) i_48_56 rfl (by decide) ?_
    refine ev_istore (p' := 59) (ls' := [_, _, _, _, _, _, _, _]) i_48_57 rfl rfl (by decide) rfl ?_
    refine ev_aload_n (p' := 60) i_48_59 rfl rfl ?_
    obtain ⟨mi6, e6, f6, hB6, hS6⟩ := s_end (L := L) (ml := ml) d hw hB5 hS5
    have hp6 := hp5.f4 f6
    refine ev_v0V (p' := 63) i_48_60 rfl cl_7_75_7 (by decide) is_4 (Nat.le_of_ble_eq_true rfl) (e6) ?_
    refine ev_aload_n (p' := 64) i_48_63 rfl rfl ?_
    refine ev_geti (p' := 67) i_48_64 rfl fl_7_31 rfl is_4 ?_
    refine ev_iconst (p' := 68) (v := -1) i_48_67 rfl (by decide) ?_
    refine ev_icmp_ne (p' := 71) (tg := 85) i_48_68 rfl rfl (fun c68 => ?_) (fun c68 => ?_)
    · exact ev_ret i_48_85 rfl ⟨rfl, mi6, rfl, fun a z1 z2 => by rw [f6 a z1, f5 a z1, f4 a z1, f3 a z1, f2 a z1, f1 a z1], hB6, hS6, fun z => absurd (z.symm.trans (hS6.ff c68)) (by decide)⟩
    · have z0 := (nmS_ok (nmS_ok (nmS_ok (enS_ok (hS6.tt h150 (Classical.not_not.mp c68))).1).1).1).1
      obtain ⟨k, -, hk, ek⟩ := nmV_le (a := 0) (b := 5) (T := T) (n := n) (lo := 0) (hi := 5) (st := (true, e)) he z0 rfl rfl (by decide) (by decide)
      rw [ek]
      refine ev_aload_n (p' := 72) i_48_71 rfl rfl ?_
      refine ev_iload_n (p' := 73) i_48_72 rfl rfl ?_
      refine ev_iload (p' := 75) i_48_73 rfl rfl ?_
      refine ev_iload (p' := 77) i_48_75 rfl rfl ?_
      refine ev_iload (p' := 79) i_48_77 rfl rfl ?_
      refine ev_iload (p' := 81) i_48_79 rfl rfl ?_
      refine ev_v5I (p' := 84) i_48_81 rfl cl_7_85_2 (by decide) (is_pg pg_275) (Nat.le_of_ble_eq_true rfl) (s_glue _ hw pg_275 hp6.1 hp6.2.1 (k := k) (by omega) h6p _ _ _ _) ?_
      refine ev_pop (p' := 85) i_48_84 rfl rfl ?_
      exact ev_ret i_48_85 rfl ⟨rfl, _, rfl, fun a z1 z2 => by rw [glm_ne (by omega) (by omega), f6 a z1, f5 a z1, f4 a z1, f3 a z1, f2 a z1, f1 a z1], hB6.fr (by rw [glm_ne (by omega) (by omega)]) (by rw [glm_ne (by omega) (by omega)]), hS6.fr (by rw [glm_ne (by omega) (by omega)]), fun _ => hp6.glue h6p (by omega)⟩)
  subst h1 h2
  exact ⟨mi1, h5, h3⟩
theorem s_tPiece1 {L : Nat} {π : Nat → Nat → Nat} {ml : Nat → Nat → Int64} {mr : Nat → Nat → Option Nat} {mi : Nat → Nat → Int32} (d : Nat) (hw : WR π mr) {T : Nat → Int32} {n : Nat} (hB : TB mi T n) {e : Nat} (he : e ≤ n) (hen : mi 4 4 = nI e) (h6 : mi 4 6 = -1) {v : PV} (hp : CPg mi 275 v) (h6p : v.1 < 7) : ∃ mi', pm_ev gC (d + 5) 48 [.ref 4, .ref 275, .int 1] (WW L, mi, ml, mr) (none) (WW L, mi', ml, mr) ∧ AF mi mi' ∧ TB mi' T n ∧ CS mi' T n (enS T n (nmS T n (0) (nI v.1 - 1) (nmS T n 0 9 (nmS T n 1 9 (nmS T n 1 9 (nmS T n 0 5 ((true, e)))))))) ∧ ((enS T n (nmS T n (0) (nI v.1 - 1) (nmS T n 0 9 (nmS T n 1 9 (nmS T n 1 9 (nmS T n 0 5 ((true, e)))))))).1 = true → CPg mi' 275 (glueV v (nmV T n 0 5 ((true, e))) (nmV T n 1 9 (nmS T n 0 5 ((true, e)))) (nmV T n 1 9 (nmS T n 1 9 (nmS T n 0 5 ((true, e))))) (nmV T n 0 9 (nmS T n 1 9 (nmS T n 1 9 (nmS T n 0 5 ((true, e)))))) (nmV T n (0) (nI v.1 - 1) (nmS T n 0 9 (nmS T n 1 9 (nmS T n 1 9 (nmS T n 0 5 ((true, e))))))))) := by
  have h150 := hB.1
  obtain ⟨_x, m', ⟨h1, mi1, h2, h3⟩, h5⟩ := ev_some (E := fun _x m => _x = none ∧ ∃ mi', m = (WW L, mi', ml, mr) ∧ AF mi mi' ∧ TB mi' T n ∧ CS mi' T n (enS T n (nmS T n (0) (nI v.1 - 1) (nmS T n 0 9 (nmS T n 1 9 (nmS T n 1 9 (nmS T n 0 5 ((true, e)))))))) ∧ ((enS T n (nmS T n (0) (nI v.1 - 1) (nmS T n 0 9 (nmS T n 1 9 (nmS T n 1 9 (nmS T n 0 5 ((true, e)))))))).1 = true → CPg mi' 275 (glueV v (nmV T n 0 5 ((true, e))) (nmV T n 1 9 (nmS T n 0 5 ((true, e)))) (nmV T n 1 9 (nmS T n 1 9 (nmS T n 0 5 ((true, e))))) (nmV T n 0 9 (nmS T n 1 9 (nmS T n 1 9 (nmS T n 0 5 ((true, e)))))) (nmV T n (0) (nI v.1 - 1) (nmS T n 0 9 (nmS T n 1 9 (nmS T n 1 9 (nmS T n 0 5 ((true, e)))))))))) (g := gC) (d := d + 4) (M := 48) (args := [.ref 4, .ref 275, .int 1]) (mem := (WW L, mi, ml, mr)) (q := q_48) rfl (Nat.le_of_ble_eq_true rfl) rfl (by
    refine ev_aload_n (p' := 1) i_48_0 rfl rfl ?_
    obtain ⟨mi1, e1, f1, hB1, hS1⟩ := s_stp (L := L) (ml := ml) (d + 1) hw hB he hen h6
    have hp1 := hp.f4 f1
    refine ev_v0V (p' := 4) i_48_1 rfl cl_7_34_7 (by decide) is_4 (Nat.le_of_ble_eq_true rfl) (e1) ?_
    refine ev_aload_n (p' := 5) i_48_4 rfl rfl ?_
    refine ev_iconst (p' := 6) (v := 0) i_48_5 rfl (by decide) ?_
    refine ev_iconst (p' := 7) (v := 5) i_48_6 rfl (by decide) ?_
    obtain ⟨mi2, e2, f2, hB2, hS2⟩ := s_num (L := L) (ml := ml) d hw hB1 hS1 (0) (5)
    have hp2 := hp1.f4 f2
    refine ev_v2I (p' := 10) i_48_7 rfl cl_7_71_7 (by decide) is_4 (Nat.le_of_ble_eq_true rfl) (e2) ?_
    refine ev_istore_n (p' := 11) (ls' := [_, _, _, _, _, _, _, _]) i_48_10 rfl rfl (by decide) rfl ?_
    refine ev_aload_n (p' := 12) i_48_11 rfl rfl ?_
    refine ev_iconst (p' := 13) (v := 1) i_48_12 rfl (by decide) ?_
    refine ev_bipush (p' := 15) (v := 9) i_48_13 rfl (by decide) ?_
    obtain ⟨mi3, e3, f3, hB3, hS3⟩ := s_num (L := L) (ml := ml) d hw hB2 hS2 (1) (9)
    have hp3 := hp2.f4 f3
    refine ev_v2I (p' := 18) i_48_15 rfl cl_7_71_7 (by decide) is_4 (Nat.le_of_ble_eq_true rfl) (e3) ?_
    refine ev_istore (p' := 20) (ls' := [_, _, _, _, _, _, _, _]) i_48_18 rfl rfl (by decide) rfl ?_
    refine ev_aload_n (p' := 21) i_48_20 rfl rfl ?_
    refine ev_iconst (p' := 22) (v := 1) i_48_21 rfl (by decide) ?_
    refine ev_bipush (p' := 24) (v := 9) i_48_22 rfl (by decide) ?_
    obtain ⟨mi4, e4, f4, hB4, hS4⟩ := s_num (L := L) (ml := ml) d hw hB3 hS3 (1) (9)
    have hp4 := hp3.f4 f4
    refine ev_v2I (p' := 27) i_48_24 rfl cl_7_71_7 (by decide) is_4 (Nat.le_of_ble_eq_true rfl) (e4) ?_
    refine ev_istore (p' := 29) (ls' := [_, _, _, _, _, _, _, _]) i_48_27 rfl rfl (by decide) rfl ?_
    refine ev_aload_n (p' := 30) i_48_29 rfl rfl ?_
    refine ev_iconst (p' := 31) (v := 0) i_48_30 rfl (by decide) ?_
    refine ev_bipush (p' := 33) (v := 9) i_48_31 rfl (by decide) ?_
    obtain ⟨mi5, e5, f5, hB5, hS5⟩ := s_num (L := L) (ml := ml) d hw hB4 hS4 (0) (9)
    have hp5 := hp4.f4 f5
    refine ev_v2I (p' := 36) i_48_33 rfl cl_7_71_7 (by decide) is_4 (Nat.le_of_ble_eq_true rfl) (e5) ?_
    refine ev_istore (p' := 38) (ls' := [_, _, _, _, _, _, _, _]) i_48_36 rfl rfl (by decide) rfl ?_
    refine ev_iload_n (p' := 39) i_48_38 rfl rfl ?_
    refine ev_if_eq (p' := 42) (tg := 56) i_48_39 rfl rfl (fun c39 => absurd c39 (by decide)) (fun c39 => ?_)
    refine ev_aload_n (p' := 43) i_48_42 rfl rfl ?_
    refine ev_iconst (p' := 44) (v := 0) i_48_43 rfl (by decide) ?_
    refine ev_aload_n (p' := 45) i_48_44 rfl rfl ?_
    refine ev_geti (p' := 48) i_48_45 rfl fl_7_82 rfl (is_pg pg_275) ?_
    rw [hp5.2.1]
    refine ev_iconst (p' := 49) (v := 1) i_48_48 rfl (by decide) ?_
    refine ev_isub (p' := 50) i_48_49 rfl ?_
    obtain ⟨mi6, e6, f6, hB6, hS6⟩ := s_num (L := L) (ml := ml) d hw hB5 hS5 (0) (nI v.1 - 1)
    have hp6 := hp5.f4 f6
    refine ev_v2I (p' := 53) i_48_50 rfl cl_7_71_7 (by decide) is_4 (Nat.le_of_ble_eq_true rfl) (e6) ?_
    refine ev_goto (tg := 57) i_48_53 rfl ?_
    refine ev_istore (p' := 59) (ls' := [_, _, _, _, _, _, _, _]) i_48_57 rfl rfl (by decide) rfl ?_
    refine ev_aload_n (p' := 60) i_48_59 rfl rfl ?_
    obtain ⟨mi7, e7, f7, hB7, hS7⟩ := s_end (L := L) (ml := ml) d hw hB6 hS6
    have hp7 := hp6.f4 f7
    refine ev_v0V (p' := 63) i_48_60 rfl cl_7_75_7 (by decide) is_4 (Nat.le_of_ble_eq_true rfl) (e7) ?_
    refine ev_aload_n (p' := 64) i_48_63 rfl rfl ?_
    refine ev_geti (p' := 67) i_48_64 rfl fl_7_31 rfl is_4 ?_
    refine ev_iconst (p' := 68) (v := -1) i_48_67 rfl (by decide) ?_
    refine ev_icmp_ne (p' := 71) (tg := 85) i_48_68 rfl rfl (fun c68 => ?_) (fun c68 => ?_)
    · exact ev_ret i_48_85 rfl ⟨rfl, mi7, rfl, fun a z1 z2 => by rw [f7 a z1, f6 a z1, f5 a z1, f4 a z1, f3 a z1, f2 a z1, f1 a z1], hB7, hS7, fun z => absurd (z.symm.trans (hS7.ff c68)) (by decide)⟩
    · have z0 := (nmS_ok (nmS_ok (nmS_ok (nmS_ok (enS_ok (hS7.tt h150 (Classical.not_not.mp c68))).1).1).1).1).1
      obtain ⟨k, -, hk, ek⟩ := nmV_le (a := 0) (b := 5) (T := T) (n := n) (lo := 0) (hi := 5) (st := (true, e)) he z0 rfl rfl (by decide) (by decide)
      rw [ek]
      refine ev_aload_n (p' := 72) i_48_71 rfl rfl ?_
      refine ev_iload_n (p' := 73) i_48_72 rfl rfl ?_
      refine ev_iload (p' := 75) i_48_73 rfl rfl ?_
      refine ev_iload (p' := 77) i_48_75 rfl rfl ?_
      refine ev_iload (p' := 79) i_48_77 rfl rfl ?_
      refine ev_iload (p' := 81) i_48_79 rfl rfl ?_
      refine ev_v5I (p' := 84) i_48_81 rfl cl_7_85_2 (by decide) (is_pg pg_275) (Nat.le_of_ble_eq_true rfl) (s_glue _ hw pg_275 hp7.1 hp7.2.1 (k := k) (by omega) h6p _ _ _ _) ?_
      refine ev_pop (p' := 85) i_48_84 rfl rfl ?_
      exact ev_ret i_48_85 rfl ⟨rfl, _, rfl, fun a z1 z2 => by rw [glm_ne (by omega) (by omega), f7 a z1, f6 a z1, f5 a z1, f4 a z1, f3 a z1, f2 a z1, f1 a z1], hB7.fr (by rw [glm_ne (by omega) (by omega)]) (by rw [glm_ne (by omega) (by omega)]), hS7.fr (by rw [glm_ne (by omega) (by omega)]), fun _ => hp7.glue h6p (by omega)⟩)
  subst h1 h2
  exact ⟨mi1, h5, h3⟩
