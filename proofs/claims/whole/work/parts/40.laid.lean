/-! ===== pages laid into rows and taken out of them ===== -/
def c7 (mi : Nat → Nat → Int32) (R : Nat) (k : Nat → Nat) (x : Nat → Int32) : Nat → Nat → Int32 := pm_u (pm_u (pm_u (pm_u (pm_u (pm_u (pm_u mi R (k 0) (x 0)) R (k 1) (x 1)) R (k 2) (x 2)) R (k 3) (x 3)) R (k 4) (x 4)) R (k 5) (x 5)) R (k 6) (x 6)
theorem c7_ne {mi : Nat → Nat → Int32} {R a : Nat} {k : Nat → Nat} {x : Nat → Int32} (h : a ≠ R) : c7 mi R k x a = mi a := by
  unfold c7
  rw [pm_u_ne h, pm_u_ne h, pm_u_ne h, pm_u_ne h, pm_u_ne h, pm_u_ne h, pm_u_ne h]
theorem c7_out {mi : Nat → Nat → Int32} {R j : Nat} {k : Nat → Nat} {x : Nat → Int32} (h : ∀ f, f < 7 → j ≠ k f) : c7 mi R k x R j = mi R j := by
  unfold c7
  rw [pm_u_oth (h 6 (by decide)), pm_u_oth (h 5 (by decide)), pm_u_oth (h 4 (by decide)), pm_u_oth (h 3 (by decide)), pm_u_oth (h 2 (by decide)), pm_u_oth (h 1 (by decide)), pm_u_oth (h 0 (by decide))]
theorem c7_in {mi : Nat → Nat → Int32} {R : Nat} {k : Nat → Nat} {x : Nat → Int32} (h : ∀ f g, f < g → g < 7 → k f ≠ k g) : ∀ f, f < 7 → c7 mi R k x R (k f) = x f := by
  intro f hf
  unfold c7
  match f, hf with
  | 0, _ => rw [pm_u_oth (h 0 6 (by decide) (by decide)), pm_u_oth (h 0 5 (by decide) (by decide)), pm_u_oth (h 0 4 (by decide) (by decide)), pm_u_oth (h 0 3 (by decide) (by decide)), pm_u_oth (h 0 2 (by decide) (by decide)), pm_u_oth (h 0 1 (by decide) (by decide)), pm_u_self]
  | 1, _ => rw [pm_u_oth (h 1 6 (by decide) (by decide)), pm_u_oth (h 1 5 (by decide) (by decide)), pm_u_oth (h 1 4 (by decide) (by decide)), pm_u_oth (h 1 3 (by decide) (by decide)), pm_u_oth (h 1 2 (by decide) (by decide)), pm_u_self]
  | 2, _ => rw [pm_u_oth (h 2 6 (by decide) (by decide)), pm_u_oth (h 2 5 (by decide) (by decide)), pm_u_oth (h 2 4 (by decide) (by decide)), pm_u_oth (h 2 3 (by decide) (by decide)), pm_u_self]
  | 3, _ => rw [pm_u_oth (h 3 6 (by decide) (by decide)), pm_u_oth (h 3 5 (by decide) (by decide)), pm_u_oth (h 3 4 (by decide) (by decide)), pm_u_self]
  | 4, _ => rw [pm_u_oth (h 4 6 (by decide) (by decide)), pm_u_oth (h 4 5 (by decide) (by decide)), pm_u_self]
  | 5, _ => rw [pm_u_oth (h 5 6 (by decide) (by decide)), pm_u_self]
  | 6, _ => rw [pm_u_self]
  | f + 7, h => omega
def d7 (mi : Nat → Nat → Int32) (i : Nat) (x : Nat → Int32) : Nat → Nat → Int32 := pm_u (pm_u (pm_u (pm_u (pm_u (pm_u (pm_u mi (287 + 0) i (x 0)) (287 + 1) i (x 1)) (287 + 2) i (x 2)) (287 + 3) i (x 3)) (287 + 4) i (x 4)) (287 + 5) i (x 5)) (287 + 6) i (x 6)
theorem d7_ne {mi : Nat → Nat → Int32} {a i : Nat} {x : Nat → Int32} (h : ¬ (287 ≤ a ∧ a ≤ 293)) : d7 mi i x a = mi a := by
  unfold d7
  rw [pm_u_ne (by omega), pm_u_ne (by omega), pm_u_ne (by omega), pm_u_ne (by omega), pm_u_ne (by omega), pm_u_ne (by omega), pm_u_ne (by omega)]
theorem d7_out {mi : Nat → Nat → Int32} {a i j : Nat} {x : Nat → Int32} (h : j ≠ i) : d7 mi i x a j = mi a j := by
  unfold d7
  rw [u_ne (fun z => h z.2), u_ne (fun z => h z.2), u_ne (fun z => h z.2), u_ne (fun z => h z.2), u_ne (fun z => h z.2), u_ne (fun z => h z.2), u_ne (fun z => h z.2)]
theorem d7_in {mi : Nat → Nat → Int32} {i : Nat} {x : Nat → Int32} : ∀ f, f < 7 → d7 mi i x (287 + f) i = x f := by
  intro f hf
  match f, hf with
  | 0, _ => simp [d7, pm_u]
  | 1, _ => simp [d7, pm_u]
  | 2, _ => simp [d7, pm_u]
  | 3, _ => simp [d7, pm_u]
  | 4, _ => simp [d7, pm_u]
  | 5, _ => simp [d7, pm_u]
  | 6, _ => simp [d7, pm_u]
  | f + 7, h => omega
def LY (mi0 mi : Nat → Nat → Int32) (R b i : Nat) : Prop := (∀ a, a ≠ R → mi a = mi0 a) ∧ (∀ j, j < b ∨ b + 52 ≤ j → mi R j = mi0 R j) ∧ (mi R b = mi0 285 1 ∧ mi R (b + 1) = mi0 285 2 ∧ mi R (b + 2) = mi0 285 3) ∧ ∀ i', i' < i → ∀ f, f < 7 → mi R (b + (3 + 7 * f) + i') = mi0 (287 + f) i'
theorem LY.step {mi0 mi : Nat → Nat → Int32} {R b i : Nat} (h : LY mi0 mi R b i) (hi : i < 7) (hR : 297 < R) : LY mi0 (c7 mi R (fun f => b + (3 + 7 * f) + i) (fun f => mi (287 + f) i)) R b (i + 1) := by
  obtain ⟨h1, h2, ⟨h3, h4, h5⟩, h6⟩ := h
  refine ⟨fun a ha => by rw [c7_ne ha, h1 a ha], fun j hj => ?_, ⟨?_, ?_, ?_⟩, fun i' hi' f hf => ?_⟩
  · rw [c7_out (fun f hf => by omega)]; exact h2 j hj
  · rw [c7_out (fun f hf => by omega)]; exact h3
  · rw [c7_out (fun f hf => by omega)]; exact h4
  · rw [c7_out (fun f hf => by omega)]; exact h5
  · by_cases hh : i' = i
    · subst hh
      have := c7_in (mi := mi) (R := R) (k := fun f => b + (3 + 7 * f) + i') (x := fun f => mi (287 + f) i') (fun f g hfg hg => by omega) f hf
      rw [this]
      show mi (287 + f) i' = mi0 (287 + f) i'
      rw [h1 _ (by omega)]
    · rw [c7_out (fun g hg => by omega)]
      exact h6 i' (by omega) f hf
theorem LY.end {mi0 mi : Nat → Nat → Int32} {R b : Nat} {v : PV} (h : LY mi0 mi R b 7) (hp : RP0 mi0 v) (h7 : v.1 ≤ 7) : RPg mi R b v := by
  obtain ⟨h1, h2, ⟨h3, h4, h5⟩, h6⟩ := h
  refine ⟨h3.trans hp.1, h4.trans hp.2.1, h5.trans hp.2.2.1, fun i hi j hj => ?_⟩
  rw [Nat.add_assoc b 3 (7 * j), h6 i (by omega) j hj]
  exact hp.2.2.2 i hi j hj
theorem l_lays {L : Nat} {π : Nat → Nat → Nat} {ml : Nat → Nat → Int64} {mr : Nat → Nat → Option Nat} {mi0 : Nat → Nat → Int32} {C : Nat → List Value → pm_M → Option Value → pm_M → Prop} {E : Option Value → pm_M → Prop} (hw : WR π mr) {R b m : Nat} (hR : 297 < R) (hgR : gR R) (hiR : ∀ mi, pm_is (WW L, mi, ml, mr) R 20) (hlR : (SH L R).2 = m) (hm31 : m < 2 ^ 31) (hbm : b + 52 ≤ m) (hE : ∀ mi, LY mi0 mi R b 7 → E none (WW L, mi, ml, mr)) : ∀ k i mi, i + k = 7 → LY mi0 mi R b i → Ev gR C E q_172 27 [some (.ref 285), some (.ref R), some (.int (nI b)), some (.int (nI i))] [] (WW L, mi, ml, mr) := by
  intro k
  induction k with
  | zero =>
    intro i mi hi hL
    have hi : i = 7 := by omega
    subst hi
    refine ev_iload_n (p' := 28) i_172_27 rfl rfl ?_
    refine ev_bipush (p' := 30) (v := 7) i_172_28 rfl (by decide) ?_
    refine ev_icmp_ge (p' := 33) (tg := 136) i_172_30 rfl rfl (fun c30 => ?_) (fun c30 => absurd (by decide) c30)
    exact ev_ret i_172_136 rfl (hE _ hL)
  | succ k ih =>
    intro i mi hi hL
    refine ev_iload_n (p' := 28) i_172_27 rfl rfl ?_
    refine ev_bipush (p' := 30) (v := 7) i_172_28 rfl (by decide) ?_
    refine ev_icmp_ge (p' := 33) (tg := 136) i_172_30 rfl rfl (fun c30 => absurd c30 (nI_ge (b := 7) (by omega) (by decide))) (fun c30 => ?_)
    refine ev_aload_n (p' := 34) i_172_33 rfl rfl ?_
    refine ev_iload_n (p' := 35) i_172_34 rfl rfl ?_
    refine ev_iconst (p' := 36) (v := nI 3) i_172_35 rfl (by decide) ?_
    refine ev_iaddN (p' := 37) i_172_36 rfl ?_
    refine ev_iload_n (p' := 38) i_172_37 rfl rfl ?_
    refine ev_iaddN (p' := 39) i_172_38 rfl ?_
    refine ev_aload_n (p' := 40) i_172_39 rfl rfl ?_
    refine ev_getr (p' := 43) i_172_40 rfl fl_12_13 rfl is_285 (rf_285_6 hw) ?_
    refine ev_iload_n (p' := 44) i_172_43 rfl rfl ?_
    refine ev_ialdN (p' := 45) i_172_44 rfl is_287 len_287 (by omega) (by decide) ?_
    refine ev_iastN (p' := 46) i_172_45 rfl (hiR _) hlR (by omega) hm31 hgR ?_
    refine ev_aload_n (p' := 47) i_172_46 rfl rfl ?_
    refine ev_iload_n (p' := 48) i_172_47 rfl rfl ?_
    refine ev_bipush (p' := 50) (v := nI 10) i_172_48 rfl (by decide) ?_
    refine ev_iaddN (p' := 51) i_172_50 rfl ?_
    refine ev_iload_n (p' := 52) i_172_51 rfl rfl ?_
    refine ev_iaddN (p' := 53) i_172_52 rfl ?_
    refine ev_aload_n (p' := 54) i_172_53 rfl rfl ?_
    refine ev_getr (p' := 57) i_172_54 rfl fl_12_16 rfl is_285 (rf_285_7 hw) ?_
    refine ev_iload_n (p' := 58) i_172_57 rfl rfl ?_
    refine ev_ialdN (p' := 59) i_172_58 rfl is_288 len_288 (by omega) (by decide) ?_
    rw [pm_u_ne (a := 288) (k := R) (by omega)]
    refine ev_iastN (p' := 60) i_172_59 rfl (hiR _) hlR (by omega) hm31 hgR ?_
    refine ev_aload_n (p' := 61) i_172_60 rfl rfl ?_
    refine ev_iload_n (p' := 62) i_172_61 rfl rfl ?_
    refine ev_bipush (p' := 64) (v := nI 17) i_172_62 rfl (by decide) ?_
    refine ev_iaddN (p' := 65) i_172_64 rfl ?_
    refine ev_iload_n (p' := 66) i_172_65 rfl rfl ?_
    refine ev_iaddN (p' := 67) i_172_66 rfl ?_
    refine ev_aload_n (p' := 68) i_172_67 rfl rfl ?_
    refine ev_getr (p' := 71) i_172_68 rfl fl_12_19 rfl is_285 (rf_285_8 hw) ?_
    refine ev_iload_n (p' := 72) i_172_71 rfl rfl ?_
    refine ev_ialdN (p' := 73) i_172_72 rfl is_289 len_289 (by omega) (by decide) ?_
    rw [pm_u_ne (a := 289) (k := R) (by omega), pm_u_ne (a := 289) (k := R) (by omega)]
    refine ev_iastN (p' := 74) i_172_73 rfl (hiR _) hlR (by omega) hm31 hgR ?_
    refine ev_aload_n (p' := 75) i_172_74 rfl rfl ?_
    refine ev_iload_n (p' := 76) i_172_75 rfl rfl ?_
    refine ev_bipush (p' := 78) (v := nI 24) i_172_76 rfl (by decide) ?_
    refine ev_iaddN (p' := 79) i_172_78 rfl ?_
    refine ev_iload_n (p' := 80) i_172_79 rfl rfl ?_
    refine ev_iaddN (p' := 81) i_172_80 rfl ?_
    refine ev_aload_n (p' := 82) i_172_81 rfl rfl ?_
    refine ev_getr (p' := 85) i_172_82 rfl fl_12_22 rfl is_285 (rf_285_9 hw) ?_
    refine ev_iload_n (p' := 86) i_172_85 rfl rfl ?_
    refine ev_ialdN (p' := 87) i_172_86 rfl is_290 len_290 (by omega) (by decide) ?_
    rw [pm_u_ne (a := 290) (k := R) (by omega), pm_u_ne (a := 290) (k := R) (by omega), pm_u_ne (a := 290) (k := R) (by omega)]
    refine ev_iastN (p' := 88) i_172_87 rfl (hiR _) hlR (by omega) hm31 hgR ?_
    refine ev_aload_n (p' := 89) i_172_88 rfl rfl ?_
    refine ev_iload_n (p' := 90) i_172_89 rfl rfl ?_
    refine ev_bipush (p' := 92) (v := nI 31) i_172_90 rfl (by decide) ?_
    refine ev_iaddN (p' := 93) i_172_92 rfl ?_
    refine ev_iload_n (p' := 94) i_172_93 rfl rfl ?_
    refine ev_iaddN (p' := 95) i_172_94 rfl ?_
    refine ev_aload_n (p' := 96) i_172_95 rfl rfl ?_
    refine ev_getr (p' := 99) i_172_96 rfl fl_12_25 rfl is_285 (rf_285_10 hw) ?_
    refine ev_iload_n (p' := 100) i_172_99 rfl rfl ?_
    refine ev_ialdN (p' := 101) i_172_100 rfl is_291 len_291 (by omega) (by decide) ?_
    rw [pm_u_ne (a := 291) (k := R) (by omega), pm_u_ne (a := 291) (k := R) (by omega), pm_u_ne (a := 291) (k := R) (by omega), pm_u_ne (a := 291) (k := R) (by omega)]
    refine ev_iastN (p' := 102) i_172_101 rfl (hiR _) hlR (by omega) hm31 hgR ?_
    refine ev_aload_n (p' := 103) i_172_102 rfl rfl ?_
    refine ev_iload_n (p' := 104) i_172_103 rfl rfl ?_
    refine ev_bipush (p' := 106) (v := nI 38) i_172_104 rfl (by decide) ?_
    refine ev_iaddN (p' := 107) i_172_106 rfl ?_
    refine ev_iload_n (p' := 108) i_172_107 rfl rfl ?_
    refine ev_iaddN (p' := 109) i_172_108 rfl ?_
    refine ev_aload_n (p' := 110) i_172_109 rfl rfl ?_
    refine ev_getr (p' := 113) i_172_110 rfl fl_12_28 rfl is_285 (rf_285_11 hw) ?_
    refine ev_iload_n (p' := 114) i_172_113 rfl rfl ?_
    refine ev_ialdN (p' := 115) i_172_114 rfl is_292 len_292 (by omega) (by decide) ?_
    rw [pm_u_ne (a := 292) (k := R) (by omega), pm_u_ne (a := 292) (k := R) (by omega), pm_u_ne (a := 292) (k := R) (by omega), pm_u_ne (a := 292) (k := R) (by omega), pm_u_ne (a := 292) (k := R) (by omega)]
    refine ev_iastN (p' := 116) i_172_115 rfl (hiR _) hlR (by omega) hm31 hgR ?_
    refine ev_aload_n (p' := 117) i_172_116 rfl rfl ?_
    refine ev_iload_n (p' := 118) i_172_117 rfl rfl ?_
    refine ev_bipush (p' := 120) (v := nI 45) i_172_118 rfl (by decide) ?_
    refine ev_iaddN (p' := 121) i_172_120 rfl ?_
    refine ev_iload_n (p' := 122) i_172_121 rfl rfl ?_
    refine ev_iaddN (p' := 123) i_172_122 rfl ?_
    refine ev_aload_n (p' := 124) i_172_123 rfl rfl ?_
    refine ev_getr (p' := 127) i_172_124 rfl fl_12_31 rfl is_285 (rf_285_12 hw) ?_
    refine ev_iload_n (p' := 128) i_172_127 rfl rfl ?_
    refine ev_ialdN (p' := 129) i_172_128 rfl is_293 len_293 (by omega) (by decide) ?_
    rw [pm_u_ne (a := 293) (k := R) (by omega), pm_u_ne (a := 293) (k := R) (by omega), pm_u_ne (a := 293) (k := R) (by omega), pm_u_ne (a := 293) (k := R) (by omega), pm_u_ne (a := 293) (k := R) (by omega), pm_u_ne (a := 293) (k := R) (by omega)]
    refine ev_iastN (p' := 130) i_172_129 rfl (hiR _) hlR (by omega) hm31 hgR ?_
    refine ev_iinc (p' := 133) (ls' := [_, _, _, _]) i_172_130 rfl rfl rfl (by decide) (nI_inc _) rfl ?_
    refine ev_goto (tg := 27) i_172_133 rfl ?_
    exact ih (i + 1) _ (by omega) (hL.step (by omega) hR)
theorem s_lays {L : Nat} {π : Nat → Nat → Nat} {ml : Nat → Nat → Int64} {mr : Nat → Nat → Option Nat} {mi : Nat → Nat → Int32} (d : Nat) (hw : WR π mr) {R b m : Nat} (hR : 297 < R) (hgR : gR R) (hiR : ∀ mi, pm_is (WW L, mi, ml, mr) R 20) (hlR : (SH L R).2 = m) (hm31 : m < 2 ^ 31) (hbm : b + 52 ≤ m) : ∃ mi', pm_ev gR (d + 1) 172 [.ref 285, .ref R, .int (nI b)] (WW L, mi, ml, mr) none (WW L, mi', ml, mr) ∧ LY mi mi' R b 7 := by
  obtain ⟨x, m', ⟨h1, mi1, h2, h3⟩, h5⟩ := ev_some (E := fun x m => x = none ∧ ∃ mi1, m = (WW L, mi1, ml, mr) ∧ LY mi mi1 R b 7) (g := gR) (d := d) (M := 172) (args := [.ref 285, .ref R, .int (nI b)]) (mem := (WW L, mi, ml, mr)) (q := q_172) rfl (Nat.le_of_ble_eq_true rfl) rfl (by
    refine ev_aload_n (p' := 1) i_172_0 rfl rfl ?_
    refine ev_iload_n (p' := 2) i_172_1 rfl rfl ?_
    refine ev_aload_n (p' := 3) i_172_2 rfl rfl ?_
    refine ev_geti (p' := 6) i_172_3 rfl fl_12_96 rfl is_285 ?_
    refine ev_iastN (p' := 7) i_172_6 rfl (hiR _) hlR (by omega) hm31 hgR ?_
    refine ev_aload_n (p' := 8) i_172_7 rfl rfl ?_
    refine ev_iload_n (p' := 9) i_172_8 rfl rfl ?_
    refine ev_iconst (p' := 10) (v := nI 1) i_172_9 rfl (by decide) ?_
    refine ev_iaddN (p' := 11) i_172_10 rfl ?_
    refine ev_aload_n (p' := 12) i_172_11 rfl rfl ?_
    refine ev_geti (p' := 15) i_172_12 rfl fl_12_100 rfl is_285 ?_
    rw [pm_u_ne (by omega)]
    refine ev_iastN (p' := 16) i_172_15 rfl (hiR _) hlR (by omega) hm31 hgR ?_
    refine ev_aload_n (p' := 17) i_172_16 rfl rfl ?_
    refine ev_iload_n (p' := 18) i_172_17 rfl rfl ?_
    refine ev_iconst (p' := 19) (v := nI 2) i_172_18 rfl (by decide) ?_
    refine ev_iaddN (p' := 20) i_172_19 rfl ?_
    refine ev_aload_n (p' := 21) i_172_20 rfl rfl ?_
    refine ev_geti (p' := 24) i_172_21 rfl fl_12_103 rfl is_285 ?_
    rw [pm_u_ne (by omega), pm_u_ne (by omega)]
    refine ev_iastN (p' := 25) i_172_24 rfl (hiR _) hlR (by omega) hm31 hgR ?_
    refine ev_iconst (p' := 26) (v := nI 0) i_172_25 rfl (by decide) ?_
    refine ev_istore_n (p' := 27) (ls' := [_, _, _, _]) i_172_26 rfl rfl (by decide) rfl ?_
    refine l_lays hw hR hgR hiR hlR hm31 hbm (mi0 := mi) (fun mi1 hL => ⟨rfl, mi1, rfl, hL⟩) 7 0 _ (by omega) ⟨fun a ha => by rw [pm_u_ne ha, pm_u_ne ha, pm_u_ne ha], fun j hj => by rw [pm_u_oth (by omega), pm_u_oth (by omega), pm_u_oth (by omega)], ⟨by rw [pm_u_oth (by omega), pm_u_oth (by omega), pm_u_self], by rw [pm_u_oth (by omega), pm_u_self], pm_u_self⟩, fun i hi => absurd hi (Nat.not_lt_zero i)⟩)
  subst h1 h2
  exact ⟨mi1, h5, h3⟩
def TK (mi0 mi : Nat → Nat → Int32) (R b i : Nat) : Prop := (∀ a, ¬ (287 ≤ a ∧ a ≤ 293) → mi a = mi0 a) ∧ ∀ i', i' < i → ∀ f, f < 7 → mi (287 + f) i' = mi0 R (b + (3 + 7 * f) + i')
theorem TK.step {mi0 mi : Nat → Nat → Int32} {R b i : Nat} (h : TK mi0 mi R b i) (hR : 297 < R) : TK mi0 (d7 mi i (fun f => mi R (b + (3 + 7 * f) + i))) R b (i + 1) := by
  obtain ⟨h1, h2⟩ := h
  refine ⟨fun a ha => by rw [d7_ne ha, h1 a ha], fun i' hi' f hf => ?_⟩
  by_cases hh : i' = i
  · subst hh
    rw [d7_in f hf]
    show mi R _ = _
    rw [h1 R (by omega)]
  · rw [d7_out hh]
    exact h2 i' (by omega) f hf
theorem l_takes {L : Nat} {π : Nat → Nat → Nat} {ml : Nat → Nat → Int64} {mr : Nat → Nat → Option Nat} {mi0 : Nat → Nat → Int32} {C : Nat → List Value → pm_M → Option Value → pm_M → Prop} {E : Option Value → pm_M → Prop} (hw : WR π mr) {R b m : Nat} (hR : 297 < R) (hgR : gR R) (hiR : ∀ mi, pm_is (WW L, mi, ml, mr) R 20) (hlR : (SH L R).2 = m) (hm31 : m < 2 ^ 31) (hbm : b + 52 ≤ m) (hE : ∀ mi, TK mi0 mi R b 7 → E none (WW L, mi, ml, mr)) : ∀ k i mi, i + k = 7 → TK mi0 mi R b i → Ev gR C E q_173 27 [some (.ref 285), some (.ref R), some (.int (nI b)), some (.int (nI i))] [] (WW L, mi, ml, mr) := by
  intro k
  induction k with
  | zero =>
    intro i mi hi hL
    have hi : i = 7 := by omega
    subst hi
    refine ev_iload_n (p' := 28) i_173_27 rfl rfl ?_
    refine ev_bipush (p' := 30) (v := 7) i_173_28 rfl (by decide) ?_
    refine ev_icmp_ge (p' := 33) (tg := 136) i_173_30 rfl rfl (fun c30 => ?_) (fun c30 => absurd (by decide) c30)
    exact ev_ret i_173_136 rfl (hE _ hL)
  | succ k ih =>
    intro i mi hi hL
    refine ev_iload_n (p' := 28) i_173_27 rfl rfl ?_
    refine ev_bipush (p' := 30) (v := 7) i_173_28 rfl (by decide) ?_
    refine ev_icmp_ge (p' := 33) (tg := 136) i_173_30 rfl rfl (fun c30 => absurd c30 (nI_ge (b := 7) (by omega) (by decide))) (fun c30 => ?_)
    refine ev_aload_n (p' := 34) i_173_33 rfl rfl ?_
    refine ev_getr (p' := 37) i_173_34 rfl fl_12_13 rfl is_285 (rf_285_6 hw) ?_
    refine ev_iload_n (p' := 38) i_173_37 rfl rfl ?_
    refine ev_aload_n (p' := 39) i_173_38 rfl rfl ?_
    refine ev_iload_n (p' := 40) i_173_39 rfl rfl ?_
    refine ev_iconst (p' := 41) (v := nI 3) i_173_40 rfl (by decide) ?_
    refine ev_iaddN (p' := 42) i_173_41 rfl ?_
    refine ev_iload_n (p' := 43) i_173_42 rfl rfl ?_
    refine ev_iaddN (p' := 44) i_173_43 rfl ?_
    refine ev_ialdN (p' := 45) i_173_44 rfl (hiR _) hlR (by omega) hm31 ?_
    refine ev_iastN (p' := 46) i_173_45 rfl is_287 len_287 (by omega) (by decide) (gr (by decide)) ?_
    refine ev_aload_n (p' := 47) i_173_46 rfl rfl ?_
    refine ev_getr (p' := 50) i_173_47 rfl fl_12_16 rfl is_285 (rf_285_7 hw) ?_
    refine ev_iload_n (p' := 51) i_173_50 rfl rfl ?_
    refine ev_aload_n (p' := 52) i_173_51 rfl rfl ?_
    refine ev_iload_n (p' := 53) i_173_52 rfl rfl ?_
    refine ev_bipush (p' := 55) (v := nI 10) i_173_53 rfl (by decide) ?_
    refine ev_iaddN (p' := 56) i_173_55 rfl ?_
    refine ev_iload_n (p' := 57) i_173_56 rfl rfl ?_
    refine ev_iaddN (p' := 58) i_173_57 rfl ?_
    refine ev_ialdN (p' := 59) i_173_58 rfl (hiR _) hlR (by omega) hm31 ?_
    rw [pm_u_ne (a := R) (k := 287) (by omega)]
    refine ev_iastN (p' := 60) i_173_59 rfl is_288 len_288 (by omega) (by decide) (gr (by decide)) ?_
    refine ev_aload_n (p' := 61) i_173_60 rfl rfl ?_
    refine ev_getr (p' := 64) i_173_61 rfl fl_12_19 rfl is_285 (rf_285_8 hw) ?_
    refine ev_iload_n (p' := 65) i_173_64 rfl rfl ?_
    refine ev_aload_n (p' := 66) i_173_65 rfl rfl ?_
    refine ev_iload_n (p' := 67) i_173_66 rfl rfl ?_
    refine ev_bipush (p' := 69) (v := nI 17) i_173_67 rfl (by decide) ?_
    refine ev_iaddN (p' := 70) i_173_69 rfl ?_
    refine ev_iload_n (p' := 71) i_173_70 rfl rfl ?_
    refine ev_iaddN (p' := 72) i_173_71 rfl ?_
    refine ev_ialdN (p' := 73) i_173_72 rfl (hiR _) hlR (by omega) hm31 ?_
    rw [pm_u_ne (a := R) (k := 288) (by omega), pm_u_ne (a := R) (k := 287) (by omega)]
    refine ev_iastN (p' := 74) i_173_73 rfl is_289 len_289 (by omega) (by decide) (gr (by decide)) ?_
    refine ev_aload_n (p' := 75) i_173_74 rfl rfl ?_
    refine ev_getr (p' := 78) i_173_75 rfl fl_12_22 rfl is_285 (rf_285_9 hw) ?_
    refine ev_iload_n (p' := 79) i_173_78 rfl rfl ?_
    refine ev_aload_n (p' := 80) i_173_79 rfl rfl ?_
    refine ev_iload_n (p' := 81) i_173_80 rfl rfl ?_
    refine ev_bipush (p' := 83) (v := nI 24) i_173_81 rfl (by decide) ?_
    refine ev_iaddN (p' := 84) i_173_83 rfl ?_
    refine ev_iload_n (p' := 85) i_173_84 rfl rfl ?_
    refine ev_iaddN (p' := 86) i_173_85 rfl ?_
    refine ev_ialdN (p' := 87) i_173_86 rfl (hiR _) hlR (by omega) hm31 ?_
    rw [pm_u_ne (a := R) (k := 289) (by omega), pm_u_ne (a := R) (k := 288) (by omega), pm_u_ne (a := R) (k := 287) (by omega)]
    refine ev_iastN (p' := 88) i_173_87 rfl is_290 len_290 (by omega) (by decide) (gr (by decide)) ?_
    refine ev_aload_n (p' := 89) i_173_88 rfl rfl ?_
    refine ev_getr (p' := 92) i_173_89 rfl fl_12_25 rfl is_285 (rf_285_10 hw) ?_
    refine ev_iload_n (p' := 93) i_173_92 rfl rfl ?_
    refine ev_aload_n (p' := 94) i_173_93 rfl rfl ?_
    refine ev_iload_n (p' := 95) i_173_94 rfl rfl ?_
    refine ev_bipush (p' := 97) (v := nI 31) i_173_95 rfl (by decide) ?_
    refine ev_iaddN (p' := 98) i_173_97 rfl ?_
    refine ev_iload_n (p' := 99) i_173_98 rfl rfl ?_
    refine ev_iaddN (p' := 100) i_173_99 rfl ?_
    refine ev_ialdN (p' := 101) i_173_100 rfl (hiR _) hlR (by omega) hm31 ?_
    rw [pm_u_ne (a := R) (k := 290) (by omega), pm_u_ne (a := R) (k := 289) (by omega), pm_u_ne (a := R) (k := 288) (by omega), pm_u_ne (a := R) (k := 287) (by omega)]
    refine ev_iastN (p' := 102) i_173_101 rfl is_291 len_291 (by omega) (by decide) (gr (by decide)) ?_
    refine ev_aload_n (p' := 103) i_173_102 rfl rfl ?_
    refine ev_getr (p' := 106) i_173_103 rfl fl_12_28 rfl is_285 (rf_285_11 hw) ?_
    refine ev_iload_n (p' := 107) i_173_106 rfl rfl ?_
    refine ev_aload_n (p' := 108) i_173_107 rfl rfl ?_
    refine ev_iload_n (p' := 109) i_173_108 rfl rfl ?_
    refine ev_bipush (p' := 111) (v := nI 38) i_173_109 rfl (by decide) ?_
    refine ev_iaddN (p' := 112) i_173_111 rfl ?_
    refine ev_iload_n (p' := 113) i_173_112 rfl rfl ?_
    refine ev_iaddN (p' := 114) i_173_113 rfl ?_
    refine ev_ialdN (p' := 115) i_173_114 rfl (hiR _) hlR (by omega) hm31 ?_
    rw [pm_u_ne (a := R) (k := 291) (by omega), pm_u_ne (a := R) (k := 290) (by omega), pm_u_ne (a := R) (k := 289) (by omega), pm_u_ne (a := R) (k := 288) (by omega), pm_u_ne (a := R) (k := 287) (by omega)]
    refine ev_iastN (p' := 116) i_173_115 rfl is_292 len_292 (by omega) (by decide) (gr (by decide)) ?_
    refine ev_aload_n (p' := 117) i_173_116 rfl rfl ?_
    refine ev_getr (p' := 120) i_173_117 rfl fl_12_31 rfl is_285 (rf_285_12 hw) ?_
    refine ev_iload_n (p' := 121) i_173_120 rfl rfl ?_
    refine ev_aload_n (p' := 122) i_173_121 rfl rfl ?_
    refine ev_iload_n (p' := 123) i_173_122 rfl rfl ?_
    refine ev_bipush (p' := 125) (v := nI 45) i_173_123 rfl (by decide) ?_
    refine ev_iaddN (p' := 126) i_173_125 rfl ?_
    refine ev_iload_n (p' := 127) i_173_126 rfl rfl ?_
    refine ev_iaddN (p' := 128) i_173_127 rfl ?_
    refine ev_ialdN (p' := 129) i_173_128 rfl (hiR _) hlR (by omega) hm31 ?_
    rw [pm_u_ne (a := R) (k := 292) (by omega), pm_u_ne (a := R) (k := 291) (by omega), pm_u_ne (a := R) (k := 290) (by omega), pm_u_ne (a := R) (k := 289) (by omega), pm_u_ne (a := R) (k := 288) (by omega), pm_u_ne (a := R) (k := 287) (by omega)]
    refine ev_iastN (p' := 130) i_173_129 rfl is_293 len_293 (by omega) (by decide) (gr (by decide)) ?_
    refine ev_iinc (p' := 133) (ls' := [_, _, _, _]) i_173_130 rfl rfl rfl (by decide) (nI_inc _) rfl ?_
    refine ev_goto (tg := 27) i_173_133 rfl ?_
    exact ih (i + 1) _ (by omega) (hL.step hR)
theorem s_takes0 {L : Nat} {π : Nat → Nat → Nat} {ml : Nat → Nat → Int64} {mr : Nat → Nat → Option Nat} {mi : Nat → Nat → Int32} (d : Nat) (hw : WR π mr) {R b m : Nat} (hR : 297 < R) (hgR : gR R) (hiR : ∀ mi, pm_is (WW L, mi, ml, mr) R 20) (hlR : (SH L R).2 = m) (hm31 : m < 2 ^ 31) (hbm : b + 52 ≤ m) : ∃ mi', pm_ev gR (d + 1) 173 [.ref 285, .ref R, .int (nI b)] (WW L, mi, ml, mr) none (WW L, mi', ml, mr) ∧ TK (pm_u (pm_u (pm_u mi 285 1 (mi R b)) 285 2 (mi R (b + 1))) 285 3 (mi R (b + 2))) mi' R b 7 := by
  obtain ⟨x, m', ⟨h1, mi1, h2, h3⟩, h5⟩ := ev_some (E := fun x m => x = none ∧ ∃ mi1, m = (WW L, mi1, ml, mr) ∧ TK (pm_u (pm_u (pm_u mi 285 1 (mi R b)) 285 2 (mi R (b + 1))) 285 3 (mi R (b + 2))) mi1 R b 7) (g := gR) (d := d) (M := 173) (args := [.ref 285, .ref R, .int (nI b)]) (mem := (WW L, mi, ml, mr)) (q := q_173) rfl (Nat.le_of_ble_eq_true rfl) rfl (by
    refine ev_aload_n (p' := 1) i_173_0 rfl rfl ?_
    refine ev_aload_n (p' := 2) i_173_1 rfl rfl ?_
    refine ev_iload_n (p' := 3) i_173_2 rfl rfl ?_
    refine ev_ialdN (p' := 4) i_173_3 rfl (hiR _) hlR (by omega) hm31 ?_
    refine ev_puti (p' := 7) i_173_4 rfl fl_12_96 rfl is_285 (gr (by decide)) rfl ?_
    refine ev_aload_n (p' := 8) i_173_7 rfl rfl ?_
    refine ev_aload_n (p' := 9) i_173_8 rfl rfl ?_
    refine ev_iload_n (p' := 10) i_173_9 rfl rfl ?_
    refine ev_iconst (p' := 11) (v := nI 1) i_173_10 rfl (by decide) ?_
    refine ev_iaddN (p' := 12) i_173_11 rfl ?_
    refine ev_ialdN (p' := 13) i_173_12 rfl (hiR _) hlR (by omega) hm31 ?_
    rw [pm_u_ne (by omega)]
    refine ev_puti (p' := 16) i_173_13 rfl fl_12_100 rfl is_285 (gr (by decide)) rfl ?_
    refine ev_aload_n (p' := 17) i_173_16 rfl rfl ?_
    refine ev_aload_n (p' := 18) i_173_17 rfl rfl ?_
    refine ev_iload_n (p' := 19) i_173_18 rfl rfl ?_
    refine ev_iconst (p' := 20) (v := nI 2) i_173_19 rfl (by decide) ?_
    refine ev_iaddN (p' := 21) i_173_20 rfl ?_
    refine ev_ialdN (p' := 22) i_173_21 rfl (hiR _) hlR (by omega) hm31 ?_
    rw [pm_u_ne (by omega), pm_u_ne (by omega)]
    refine ev_puti (p' := 25) i_173_22 rfl fl_12_103 rfl is_285 (gr (by decide)) rfl ?_
    refine ev_iconst (p' := 26) (v := nI 0) i_173_25 rfl (by decide) ?_
    refine ev_istore_n (p' := 27) (ls' := [_, _, _, _]) i_173_26 rfl rfl (by decide) rfl ?_
    refine l_takes hw hR hgR hiR hlR hm31 hbm (mi0 := pm_u (pm_u (pm_u mi 285 1 (mi R b)) 285 2 (mi R (b + 1))) 285 3 (mi R (b + 2))) (fun mi1 hL => ⟨rfl, mi1, rfl, hL⟩) 7 0 _ (by omega) ⟨fun a _ => rfl, fun i hi => absurd hi (Nat.not_lt_zero i)⟩)
  subst h1 h2
  exact ⟨mi1, h5, h3⟩
theorem s_takes {L : Nat} {π : Nat → Nat → Nat} {ml : Nat → Nat → Int64} {mr : Nat → Nat → Option Nat} {mi : Nat → Nat → Int32} (d : Nat) (hw : WR π mr) {R b m : Nat} (hR : 297 < R) (hgR : gR R) (hiR : ∀ mi, pm_is (WW L, mi, ml, mr) R 20) (hlR : (SH L R).2 = m) (hm31 : m < 2 ^ 31) (hbm : b + 52 ≤ m) {v : PV} (hv : RPg mi R b v) (h7 : v.1 ≤ 7) : ∃ mi', pm_ev gR (d + 1) 173 [.ref 285, .ref R, .int (nI b)] (WW L, mi, ml, mr) none (WW L, mi', ml, mr) ∧ RP0 mi' v ∧ (∀ a, a ≠ 285 → ¬ (287 ≤ a ∧ a ≤ 293) → mi' a = mi a) ∧ ∀ j, j ≠ 1 → j ≠ 2 → j ≠ 3 → mi' 285 j = mi 285 j := by
  obtain ⟨mi1, h1, h2, h3⟩ := s_takes0 (π := π) (mi := mi) d hw hR hgR hiR hlR hm31 hbm
  refine ⟨mi1, h1, ⟨?_, ?_, ?_, fun i hi j hj => ?_⟩, fun a h4 h5 => ?_, fun j h4 h5 h6 => ?_⟩
  · rw [h2 285 (by omega), pm_u_oth (by decide), pm_u_oth (by decide), pm_u_self]; exact hv.1
  · rw [h2 285 (by omega), pm_u_oth (by decide), pm_u_self]; exact hv.2.1
  · rw [h2 285 (by omega), pm_u_self]; exact hv.2.2.1
  · rw [h3 i (by omega) j hj, pm_u_ne (by omega), pm_u_ne (by omega), pm_u_ne (by omega), ← Nat.add_assoc b 3 (7 * j)]
    exact hv.2.2.2 i hi j hj
  · rw [h2 a h5, pm_u_ne h4, pm_u_ne h4, pm_u_ne h4]
  · rw [h2 285 (by omega), pm_u_oth h6, pm_u_oth h5, pm_u_oth h4]
