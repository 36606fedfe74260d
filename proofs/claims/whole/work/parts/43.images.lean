/-! ===== images ===== -/
def CPA (mi0 mi : Nat → Nat → Int32) (R off S n : Nat) : Prop := (∀ a, a ≠ R → mi a = mi0 a) ∧ (∀ j, j < off ∨ off + n ≤ j → mi R j = mi0 R j) ∧ ∀ j, j < n → mi R (off + j) = mi0 S j
theorem CPA.step {mi0 mi : Nat → Nat → Int32} {R off S i : Nat} (h : CPA mi0 mi R off S i) (hS : S ≠ R) : CPA mi0 (pm_u mi R (off + i) (mi S i)) R off S (i + 1) := by
  obtain ⟨h1, h2, h3⟩ := h
  refine ⟨fun a ha => by rw [pm_u_ne ha, h1 a ha], fun j hj => by rw [pm_u_oth (by omega), h2 j (by omega)], fun j hj => ?_⟩
  by_cases hh : j = i
  · rw [hh, pm_u_self, h1 S hS]
  · rw [pm_u_oth (by omega), h3 j (by omega)]
def CPB (mi0 mi : Nat → Nat → Int32) (R S off n : Nat) : Prop := (∀ a, a ≠ R → mi a = mi0 a) ∧ ∀ j, j < n → mi R j = mi0 S (off + j)
theorem CPB.step {mi0 mi : Nat → Nat → Int32} {R off S i : Nat} (h : CPB mi0 mi R S off i) (hS : S ≠ R) : CPB mi0 (pm_u mi R i (mi S (off + i))) R S off (i + 1) := by
  obtain ⟨h1, h3⟩ := h
  refine ⟨fun a ha => by rw [pm_u_ne ha, h1 a ha], fun j hj => ?_⟩
  by_cases hh : j = i
  · rw [hh, pm_u_self, h1 S hS]
  · rw [pm_u_oth (by omega), h3 j (by omega)]
def CP2 (mi0 mi : Nat → Nat → Int32) (R b n : Nat) : Prop := (∀ a, a ≠ R → mi a = mi0 a) ∧ (∀ j, j < b + 85 ∨ b + 97 ≤ j → mi R j = mi0 R j) ∧ ∀ j, j < n → mi R (b + 85 + j) = mi0 295 j ∧ mi R (b + 91 + j) = mi0 296 j
theorem CP2.step {mi0 mi : Nat → Nat → Int32} {R b i : Nat} (h : CP2 mi0 mi R b i) (hR : 297 < R) (hi : i < 6) : CP2 mi0 (pm_u (pm_u mi R (b + 85 + i) (mi 295 i)) R (b + 91 + i) (mi 296 i)) R b (i + 1) := by
  obtain ⟨h1, h2, h3⟩ := h
  refine ⟨fun a ha => by rw [pm_u_ne ha, pm_u_ne ha, h1 a ha], fun j hj => by rw [pm_u_oth (by omega), pm_u_oth (by omega), h2 j (by omega)], fun j hj => ?_⟩
  by_cases hh : j = i
  · subst hh
    rw [pm_u_self, pm_u_oth (by omega), pm_u_self, h1 295 (by omega), h1 296 (by omega)]
    exact ⟨rfl, rfl⟩
  · rw [pm_u_oth (by omega), pm_u_oth (by omega), pm_u_oth (by omega), pm_u_oth (by omega)]
    exact h3 j (by omega)
def CP3 (mi0 mi : Nat → Nat → Int32) (R b n : Nat) : Prop := (∀ a, a ≠ 295 → a ≠ 296 → mi a = mi0 a) ∧ ∀ j, j < n → mi 295 j = mi0 R (b + 85 + j) ∧ mi 296 j = mi0 R (b + 91 + j)
theorem CP3.step {mi0 mi : Nat → Nat → Int32} {R b i : Nat} (h : CP3 mi0 mi R b i) (hR : 297 < R) : CP3 mi0 (pm_u (pm_u mi 295 i (mi R (b + 85 + i))) 296 i (mi R (b + 91 + i))) R b (i + 1) := by
  obtain ⟨h1, h3⟩ := h
  refine ⟨fun a h4 h5 => by rw [pm_u_ne h5, pm_u_ne h4, h1 a h4 h5], fun j hj => ?_⟩
  rw [pm_u_ne (by decide)]
  by_cases hh : j = i
  · subst hh
    rw [pm_u_self, pm_u_self, h1 R (by omega) (by omega)]
    exact ⟨rfl, rfl⟩
  · rw [pm_u_oth hh, pm_u_oth hh, pm_u_ne (by decide)]
    exact h3 j (by omega)
theorem l_la1 {L : Nat} {π : Nat → Nat → Nat} {ml : Nat → Nat → Int64} {mr : Nat → Nat → Option Nat} {mi0 : Nat → Nat → Int32} {C : Nat → List Value → pm_M → Option Value → pm_M → Prop} {E : Option Value → pm_M → Prop} (hw : WR π mr) {R b m : Nat} (hR : 297 < R) (hR2 : R ≠ 301) (hgR : gR R) (hiR : ∀ mi, pm_is (WW L, mi, ml, mr) R 20) (hlR : (SH L R).2 = m) (hm31 : m < 2 ^ 31) (hbm : b + 409 ≤ m) (hE : ∀ mi, CPA mi0 mi R (b + 55) 294 30 → Ev gR C E q_216 64 [some (.ref 285), some (.ref R), some (.int (nI b)), some (.int (nI 30))] [] (WW L, mi, ml, mr)) : ∀ k i mi, i + k = 30 → CPA mi0 mi R (b + 55) 294 i → Ev gR C E q_216 38 [some (.ref 285), some (.ref R), some (.int (nI b)), some (.int (nI i))] [] (WW L, mi, ml, mr) := by
  intro k
  induction k with
  | zero =>
    intro i mi hi hL
    have hi : i = 30 := by omega
    subst hi
    refine ev_iload_n (p' := 39) i_216_38 rfl rfl ?_
    refine ev_bipush (p' := 41) (v := 30) i_216_39 rfl (by decide) ?_
    refine ev_icmp_ge (p' := 44) (tg := 64) i_216_41 rfl rfl (fun c41 => ?_) (fun c41 => absurd (by decide) c41)
    exact hE _ hL
  | succ k ih =>
    intro i mi hi hL
    refine ev_iload_n (p' := 39) i_216_38 rfl rfl ?_
    refine ev_bipush (p' := 41) (v := 30) i_216_39 rfl (by decide) ?_
    refine ev_icmp_ge (p' := 44) (tg := 64) i_216_41 rfl rfl (fun c41 => absurd c41 (nI_ge (b := 30) (by omega) (by decide))) (fun c41 => ?_)
    refine ev_aload_n (p' := 45) i_216_44 rfl rfl ?_
    refine ev_iload_n (p' := 46) i_216_45 rfl rfl ?_
    refine ev_bipush (p' := 48) (v := nI 55) i_216_46 rfl (by decide) ?_
    refine ev_iaddN (p' := 49) i_216_48 rfl ?_
    refine ev_iload_n (p' := 50) i_216_49 rfl rfl ?_
    refine ev_iaddN (p' := 51) i_216_50 rfl ?_
    refine ev_aload_n (p' := 52) i_216_51 rfl rfl ?_
    refine ev_getr (p' := 55) i_216_52 rfl fl_12_34 rfl is_285 (rf_285_13 hw) ?_
    refine ev_iload_n (p' := 56) i_216_55 rfl rfl ?_
    refine ev_ialdN (p' := 57) i_216_56 rfl is_294 len_294 (by omega) (by decide) ?_
    refine ev_iastN (p' := 58) i_216_57 rfl (hiR _) hlR (by omega) hm31 hgR ?_
    refine ev_iinc (p' := 61) (ls' := [_, _, _, _]) i_216_58 rfl rfl rfl (by decide) (nI_inc _) rfl ?_
    refine ev_goto (tg := 38) i_216_61 rfl ?_
    exact ih (i + 1) _ (by omega) (hL.step (by omega))
theorem l_la2 {L : Nat} {π : Nat → Nat → Nat} {ml : Nat → Nat → Int64} {mr : Nat → Nat → Option Nat} {mi0 : Nat → Nat → Int32} {C : Nat → List Value → pm_M → Option Value → pm_M → Prop} {E : Option Value → pm_M → Prop} (hw : WR π mr) {R b m : Nat} (hR : 297 < R) (hR2 : R ≠ 301) (hgR : gR R) (hiR : ∀ mi, pm_is (WW L, mi, ml, mr) R 20) (hlR : (SH L R).2 = m) (hm31 : m < 2 ^ 31) (hbm : b + 409 ≤ m) (hE : ∀ mi, CP2 mi0 mi R b 6 → Ev gR C E q_216 106 [some (.ref 285), some (.ref R), some (.int (nI b)), some (.int (nI 6))] [] (WW L, mi, ml, mr)) : ∀ k i mi, i + k = 6 → CP2 mi0 mi R b i → Ev gR C E q_216 66 [some (.ref 285), some (.ref R), some (.int (nI b)), some (.int (nI i))] [] (WW L, mi, ml, mr) := by
  intro k
  induction k with
  | zero =>
    intro i mi hi hL
    have hi : i = 6 := by omega
    subst hi
    refine ev_iload_n (p' := 67) i_216_66 rfl rfl ?_
    refine ev_bipush (p' := 69) (v := 6) i_216_67 rfl (by decide) ?_
    refine ev_icmp_ge (p' := 72) (tg := 106) i_216_69 rfl rfl (fun c69 => ?_) (fun c69 => absurd (by decide) c69)
    exact hE _ hL
  | succ k ih =>
    intro i mi hi hL
    refine ev_iload_n (p' := 67) i_216_66 rfl rfl ?_
    refine ev_bipush (p' := 69) (v := 6) i_216_67 rfl (by decide) ?_
    refine ev_icmp_ge (p' := 72) (tg := 106) i_216_69 rfl rfl (fun c69 => absurd c69 (nI_ge (b := 6) (by omega) (by decide))) (fun c69 => ?_)
    refine ev_aload_n (p' := 73) i_216_72 rfl rfl ?_
    refine ev_iload_n (p' := 74) i_216_73 rfl rfl ?_
    refine ev_bipush (p' := 76) (v := nI 85) i_216_74 rfl (by decide) ?_
    refine ev_iaddN (p' := 77) i_216_76 rfl ?_
    refine ev_iload_n (p' := 78) i_216_77 rfl rfl ?_
    refine ev_iaddN (p' := 79) i_216_78 rfl ?_
    refine ev_aload_n (p' := 80) i_216_79 rfl rfl ?_
    refine ev_getr (p' := 83) i_216_80 rfl fl_12_37 rfl is_285 (rf_285_14 hw) ?_
    refine ev_iload_n (p' := 84) i_216_83 rfl rfl ?_
    refine ev_ialdN (p' := 85) i_216_84 rfl is_295 len_295 (by omega) (by decide) ?_
    refine ev_iastN (p' := 86) i_216_85 rfl (hiR _) hlR (by omega) hm31 hgR ?_
    refine ev_aload_n (p' := 87) i_216_86 rfl rfl ?_
    refine ev_iload_n (p' := 88) i_216_87 rfl rfl ?_
    refine ev_bipush (p' := 90) (v := nI 91) i_216_88 rfl (by decide) ?_
    refine ev_iaddN (p' := 91) i_216_90 rfl ?_
    refine ev_iload_n (p' := 92) i_216_91 rfl rfl ?_
    refine ev_iaddN (p' := 93) i_216_92 rfl ?_
    refine ev_aload_n (p' := 94) i_216_93 rfl rfl ?_
    refine ev_getr (p' := 97) i_216_94 rfl fl_12_40 rfl is_285 (rf_285_15 hw) ?_
    refine ev_iload_n (p' := 98) i_216_97 rfl rfl ?_
    refine ev_ialdN (p' := 99) i_216_98 rfl is_296 len_296 (by omega) (by decide) ?_
    rw [pm_u_ne (a := 296) (k := R) (by omega)]
    refine ev_iastN (p' := 100) i_216_99 rfl (hiR _) hlR (by omega) hm31 hgR ?_
    refine ev_iinc (p' := 103) (ls' := [_, _, _, _]) i_216_100 rfl rfl rfl (by decide) (nI_inc _) rfl ?_
    refine ev_goto (tg := 66) i_216_103 rfl ?_
    exact ih (i + 1) _ (by omega) (hL.step hR (by omega))
theorem l_la3 {L : Nat} {π : Nat → Nat → Nat} {ml : Nat → Nat → Int64} {mr : Nat → Nat → Option Nat} {mi0 : Nat → Nat → Int32} {C : Nat → List Value → pm_M → Option Value → pm_M → Prop} {E : Option Value → pm_M → Prop} (hw : WR π mr) {R b m : Nat} (hR : 297 < R) (hR2 : R ≠ 301) (hgR : gR R) (hiR : ∀ mi, pm_is (WW L, mi, ml, mr) R 20) (hlR : (SH L R).2 = m) (hm31 : m < 2 ^ 31) (hbm : b + 409 ≤ m) (hE : ∀ mi, CPA mi0 mi R (b + 97) 301 312 → Ev gR C E q_216 135 [some (.ref 285), some (.ref R), some (.int (nI b)), some (.int (nI 312))] [] (WW L, mi, ml, mr)) : ∀ k i mi, i + k = 312 → CPA mi0 mi R (b + 97) 301 i → Ev gR C E q_216 108 [some (.ref 285), some (.ref R), some (.int (nI b)), some (.int (nI i))] [] (WW L, mi, ml, mr) := by
  intro k
  induction k with
  | zero =>
    intro i mi hi hL
    have hi : i = 312 := by omega
    subst hi
    refine ev_iload_n (p' := 109) i_216_108 rfl rfl ?_
    refine ev_sipush (p' := 112) (v := 312) i_216_109 rfl (by decide) ?_
    refine ev_icmp_ge (p' := 115) (tg := 135) i_216_112 rfl rfl (fun c112 => ?_) (fun c112 => absurd (by decide) c112)
    exact hE _ hL
  | succ k ih =>
    intro i mi hi hL
    refine ev_iload_n (p' := 109) i_216_108 rfl rfl ?_
    refine ev_sipush (p' := 112) (v := 312) i_216_109 rfl (by decide) ?_
    refine ev_icmp_ge (p' := 115) (tg := 135) i_216_112 rfl rfl (fun c112 => absurd c112 (nI_ge (b := 312) (by omega) (by decide))) (fun c112 => ?_)
    refine ev_aload_n (p' := 116) i_216_115 rfl rfl ?_
    refine ev_iload_n (p' := 117) i_216_116 rfl rfl ?_
    refine ev_bipush (p' := 119) (v := nI 97) i_216_117 rfl (by decide) ?_
    refine ev_iaddN (p' := 120) i_216_119 rfl ?_
    refine ev_iload_n (p' := 121) i_216_120 rfl rfl ?_
    refine ev_iaddN (p' := 122) i_216_121 rfl ?_
    refine ev_aload_n (p' := 123) i_216_122 rfl rfl ?_
    refine ev_getr (p' := 126) i_216_123 rfl fl_12_55 rfl is_285 (rf_285_24 hw) ?_
    refine ev_iload_n (p' := 127) i_216_126 rfl rfl ?_
    refine ev_ialdN (p' := 128) i_216_127 rfl is_301 len_301 (by omega) (by decide) ?_
    refine ev_iastN (p' := 129) i_216_128 rfl (hiR _) hlR (by omega) hm31 hgR ?_
    refine ev_iinc (p' := 132) (ls' := [_, _, _, _]) i_216_129 rfl rfl rfl (by decide) (nI_inc _) rfl ?_
    refine ev_goto (tg := 108) i_216_132 rfl ?_
    exact ih (i + 1) _ (by omega) (hL.step (by omega))
theorem l_ta1 {L : Nat} {π : Nat → Nat → Nat} {ml : Nat → Nat → Int64} {mr : Nat → Nat → Option Nat} {mi0 : Nat → Nat → Int32} {C : Nat → List Value → pm_M → Option Value → pm_M → Prop} {E : Option Value → pm_M → Prop} (hw : WR π mr) {R b m : Nat} (hR : 297 < R) (hR2 : R ≠ 301) (hgR : gR R) (hiR : ∀ mi, pm_is (WW L, mi, ml, mr) R 20) (hlR : (SH L R).2 = m) (hm31 : m < 2 ^ 31) (hbm : b + 409 ≤ m) (hE : ∀ mi, CPB mi0 mi 294 R (b + 55) 30 → Ev gR C E q_217 64 [some (.ref 285), some (.ref R), some (.int (nI b)), some (.int (nI 30))] [] (WW L, mi, ml, mr)) : ∀ k i mi, i + k = 30 → CPB mi0 mi 294 R (b + 55) i → Ev gR C E q_217 38 [some (.ref 285), some (.ref R), some (.int (nI b)), some (.int (nI i))] [] (WW L, mi, ml, mr) := by
  intro k
  induction k with
  | zero =>
    intro i mi hi hL
    have hi : i = 30 := by omega
    subst hi
    refine ev_iload_n (p' := 39) i_217_38 rfl rfl ?_
    refine ev_bipush (p' := 41) (v := 30) i_217_39 rfl (by decide) ?_
    refine ev_icmp_ge (p' := 44) (tg := 64) i_217_41 rfl rfl (fun c41 => ?_) (fun c41 => absurd (by decide) c41)
    exact hE _ hL
  | succ k ih =>
    intro i mi hi hL
    refine ev_iload_n (p' := 39) i_217_38 rfl rfl ?_
    refine ev_bipush (p' := 41) (v := 30) i_217_39 rfl (by decide) ?_
    refine ev_icmp_ge (p' := 44) (tg := 64) i_217_41 rfl rfl (fun c41 => absurd c41 (nI_ge (b := 30) (by omega) (by decide))) (fun c41 => ?_)
    refine ev_aload_n (p' := 45) i_217_44 rfl rfl ?_
    refine ev_getr (p' := 48) i_217_45 rfl fl_12_34 rfl is_285 (rf_285_13 hw) ?_
    refine ev_iload_n (p' := 49) i_217_48 rfl rfl ?_
    refine ev_aload_n (p' := 50) i_217_49 rfl rfl ?_
    refine ev_iload_n (p' := 51) i_217_50 rfl rfl ?_
    refine ev_bipush (p' := 53) (v := nI 55) i_217_51 rfl (by decide) ?_
    refine ev_iaddN (p' := 54) i_217_53 rfl ?_
    refine ev_iload_n (p' := 55) i_217_54 rfl rfl ?_
    refine ev_iaddN (p' := 56) i_217_55 rfl ?_
    refine ev_ialdN (p' := 57) i_217_56 rfl (hiR _) hlR (by omega) hm31 ?_
    refine ev_iastN (p' := 58) i_217_57 rfl is_294 len_294 (by omega) (by decide) (gr (by decide)) ?_
    refine ev_iinc (p' := 61) (ls' := [_, _, _, _]) i_217_58 rfl rfl rfl (by decide) (nI_inc _) rfl ?_
    refine ev_goto (tg := 38) i_217_61 rfl ?_
    exact ih (i + 1) _ (by omega) (hL.step (by omega))
theorem l_ta2 {L : Nat} {π : Nat → Nat → Nat} {ml : Nat → Nat → Int64} {mr : Nat → Nat → Option Nat} {mi0 : Nat → Nat → Int32} {C : Nat → List Value → pm_M → Option Value → pm_M → Prop} {E : Option Value → pm_M → Prop} (hw : WR π mr) {R b m : Nat} (hR : 297 < R) (hR2 : R ≠ 301) (hgR : gR R) (hiR : ∀ mi, pm_is (WW L, mi, ml, mr) R 20) (hlR : (SH L R).2 = m) (hm31 : m < 2 ^ 31) (hbm : b + 409 ≤ m) (hE : ∀ mi, CP3 mi0 mi R b 6 → Ev gR C E q_217 106 [some (.ref 285), some (.ref R), some (.int (nI b)), some (.int (nI 6))] [] (WW L, mi, ml, mr)) : ∀ k i mi, i + k = 6 → CP3 mi0 mi R b i → Ev gR C E q_217 66 [some (.ref 285), some (.ref R), some (.int (nI b)), some (.int (nI i))] [] (WW L, mi, ml, mr) := by
  intro k
  induction k with
  | zero =>
    intro i mi hi hL
    have hi : i = 6 := by omega
    subst hi
    refine ev_iload_n (p' := 67) i_217_66 rfl rfl ?_
    refine ev_bipush (p' := 69) (v := 6) i_217_67 rfl (by decide) ?_
    refine ev_icmp_ge (p' := 72) (tg := 106) i_217_69 rfl rfl (fun c69 => ?_) (fun c69 => absurd (by decide) c69)
    exact hE _ hL
  | succ k ih =>
    intro i mi hi hL
    refine ev_iload_n (p' := 67) i_217_66 rfl rfl ?_
    refine ev_bipush (p' := 69) (v := 6) i_217_67 rfl (by decide) ?_
    refine ev_icmp_ge (p' := 72) (tg := 106) i_217_69 rfl rfl (fun c69 => absurd c69 (nI_ge (b := 6) (by omega) (by decide))) (fun c69 => ?_)
    refine ev_aload_n (p' := 73) i_217_72 rfl rfl ?_
    refine ev_getr (p' := 76) i_217_73 rfl fl_12_37 rfl is_285 (rf_285_14 hw) ?_
    refine ev_iload_n (p' := 77) i_217_76 rfl rfl ?_
    refine ev_aload_n (p' := 78) i_217_77 rfl rfl ?_
    refine ev_iload_n (p' := 79) i_217_78 rfl rfl ?_
    refine ev_bipush (p' := 81) (v := nI 85) i_217_79 rfl (by decide) ?_
    refine ev_iaddN (p' := 82) i_217_81 rfl ?_
    refine ev_iload_n (p' := 83) i_217_82 rfl rfl ?_
    refine ev_iaddN (p' := 84) i_217_83 rfl ?_
    refine ev_ialdN (p' := 85) i_217_84 rfl (hiR _) hlR (by omega) hm31 ?_
    refine ev_iastN (p' := 86) i_217_85 rfl is_295 len_295 (by omega) (by decide) (gr (by decide)) ?_
    refine ev_aload_n (p' := 87) i_217_86 rfl rfl ?_
    refine ev_getr (p' := 90) i_217_87 rfl fl_12_40 rfl is_285 (rf_285_15 hw) ?_
    refine ev_iload_n (p' := 91) i_217_90 rfl rfl ?_
    refine ev_aload_n (p' := 92) i_217_91 rfl rfl ?_
    refine ev_iload_n (p' := 93) i_217_92 rfl rfl ?_
    refine ev_bipush (p' := 95) (v := nI 91) i_217_93 rfl (by decide) ?_
    refine ev_iaddN (p' := 96) i_217_95 rfl ?_
    refine ev_iload_n (p' := 97) i_217_96 rfl rfl ?_
    refine ev_iaddN (p' := 98) i_217_97 rfl ?_
    refine ev_ialdN (p' := 99) i_217_98 rfl (hiR _) hlR (by omega) hm31 ?_
    rw [pm_u_ne (a := R) (k := 295) (by omega)]
    refine ev_iastN (p' := 100) i_217_99 rfl is_296 len_296 (by omega) (by decide) (gr (by decide)) ?_
    refine ev_iinc (p' := 103) (ls' := [_, _, _, _]) i_217_100 rfl rfl rfl (by decide) (nI_inc _) rfl ?_
    refine ev_goto (tg := 66) i_217_103 rfl ?_
    exact ih (i + 1) _ (by omega) (hL.step hR)
theorem l_ta3 {L : Nat} {π : Nat → Nat → Nat} {ml : Nat → Nat → Int64} {mr : Nat → Nat → Option Nat} {mi0 : Nat → Nat → Int32} {C : Nat → List Value → pm_M → Option Value → pm_M → Prop} {E : Option Value → pm_M → Prop} (hw : WR π mr) {R b m : Nat} (hR : 297 < R) (hR2 : R ≠ 301) (hgR : gR R) (hiR : ∀ mi, pm_is (WW L, mi, ml, mr) R 20) (hlR : (SH L R).2 = m) (hm31 : m < 2 ^ 31) (hbm : b + 409 ≤ m) (hE : ∀ mi, CPB mi0 mi 301 R (b + 97) 312 → Ev gR C E q_217 135 [some (.ref 285), some (.ref R), some (.int (nI b)), some (.int (nI 312))] [] (WW L, mi, ml, mr)) : ∀ k i mi, i + k = 312 → CPB mi0 mi 301 R (b + 97) i → Ev gR C E q_217 108 [some (.ref 285), some (.ref R), some (.int (nI b)), some (.int (nI i))] [] (WW L, mi, ml, mr) := by
  intro k
  induction k with
  | zero =>
    intro i mi hi hL
    have hi : i = 312 := by omega
    subst hi
    refine ev_iload_n (p' := 109) i_217_108 rfl rfl ?_
    refine ev_sipush (p' := 112) (v := 312) i_217_109 rfl (by decide) ?_
    refine ev_icmp_ge (p' := 115) (tg := 135) i_217_112 rfl rfl (fun c112 => ?_) (fun c112 => absurd (by decide) c112)
    exact hE _ hL
  | succ k ih =>
    intro i mi hi hL
    refine ev_iload_n (p' := 109) i_217_108 rfl rfl ?_
    refine ev_sipush (p' := 112) (v := 312) i_217_109 rfl (by decide) ?_
    refine ev_icmp_ge (p' := 115) (tg := 135) i_217_112 rfl rfl (fun c112 => absurd c112 (nI_ge (b := 312) (by omega) (by decide))) (fun c112 => ?_)
    refine ev_aload_n (p' := 116) i_217_115 rfl rfl ?_
    refine ev_getr (p' := 119) i_217_116 rfl fl_12_55 rfl is_285 (rf_285_24 hw) ?_
    refine ev_iload_n (p' := 120) i_217_119 rfl rfl ?_
    refine ev_aload_n (p' := 121) i_217_120 rfl rfl ?_
    refine ev_iload_n (p' := 122) i_217_121 rfl rfl ?_
    refine ev_bipush (p' := 124) (v := nI 97) i_217_122 rfl (by decide) ?_
    refine ev_iaddN (p' := 125) i_217_124 rfl ?_
    refine ev_iload_n (p' := 126) i_217_125 rfl rfl ?_
    refine ev_iaddN (p' := 127) i_217_126 rfl ?_
    refine ev_ialdN (p' := 128) i_217_127 rfl (hiR _) hlR (by omega) hm31 ?_
    refine ev_iastN (p' := 129) i_217_128 rfl is_301 len_301 (by omega) (by decide) (gr (by decide)) ?_
    refine ev_iinc (p' := 132) (ls' := [_, _, _, _]) i_217_129 rfl rfl rfl (by decide) (nI_inc _) rfl ?_
    refine ev_goto (tg := 108) i_217_132 rfl ?_
    exact ih (i + 1) _ (by omega) (hL.step (by omega))
theorem LAll_mk {mi mi1 mi3 mi4 mi5 : Nat → Nat → Int32} {R b : Nat} {v : SV} (hs : RS0 mi v) (hv : okSV v) (hR : 297 < R) (hR2 : R ≠ 301) (hL : LY mi mi1 R b 7) (h1 : CPA (pm_u (pm_u (pm_u mi1 R (b + 52) (mi 285 4)) R (b + 53) (mi 285 5)) R (b + 54) (mi 285 25)) mi3 R (b + 55) 294 30) (h2 : CP2 mi3 mi4 R b 6) (h3 : CPA mi4 mi5 R (b + 97) 301 312) : (∀ a, a ≠ R → mi5 a = mi a) ∧ (∀ j, j < b ∨ b + 409 ≤ j → mi5 R j = mi R j) ∧ RSp mi5 R b v := by
  have g1 : ∀ a, a ≠ R → mi3 a = mi a := fun a ha => by rw [h1.1 a ha, pm_u_ne ha, pm_u_ne ha, pm_u_ne ha, hL.1 a ha]
  have g2 : ∀ a, a ≠ R → mi4 a = mi a := fun a ha => by rw [h2.1 a ha, g1 a ha]
  refine ⟨fun a ha => by rw [h3.1 a ha, g2 a ha], fun j hj => ?_, ?_, ?_, ?_, ?_, fun i hi j hj => ?_, fun i hi => ?_, fun k hk => ?_⟩
  · rw [h3.2.1 j (by omega), h2.2.1 j (by omega), h1.2.1 j (by omega), pm_u_oth (by omega), pm_u_oth (by omega), pm_u_oth (by omega), hL.2.1 j (by omega)]
  · refine (hL.end hs.1 hv.1.1).cong2 hv.1.1 (fun j hj => ?_)
    rw [h3.2.1 _ (by omega), h2.2.1 _ (by omega), h1.2.1 _ (by omega), pm_u_oth (by omega), pm_u_oth (by omega), pm_u_oth (by omega)]
  · rw [h3.2.1 _ (by omega), h2.2.1 _ (by omega), h1.2.1 _ (by omega), pm_u_oth (by omega), pm_u_oth (by omega), pm_u_self]; exact hs.2.2.1.1
  · rw [h3.2.1 _ (by omega), h2.2.1 _ (by omega), h1.2.1 _ (by omega), pm_u_oth (by omega), pm_u_self]; exact hs.2.2.2.1
  · rw [h3.2.1 _ (by omega), h2.2.1 _ (by omega), h1.2.1 _ (by omega), pm_u_self]; exact hs.2.1.1
  · have hn := hv.2.2.1.1
    rw [h3.2.1 _ (by omega), h2.2.1 _ (by omega), Nat.add_assoc (b + 55), h1.2.2 _ (by omega), pm_u_ne (by omega), pm_u_ne (by omega), pm_u_ne (by omega), hL.1 294 (by omega)]
    exact hs.2.2.1.2 i hi j hj
  · have hn := hv.2.2.2.1
    rw [h3.2.1 _ (by omega), h3.2.1 _ (by omega), (h2.2.2 i (by omega)).1, (h2.2.2 i (by omega)).2, g1 295 (by omega), g1 296 (by omega)]
    exact hs.2.2.2.2 i hi
  · have hu := hv.2.1.1
    refine (hs.2.1.2 k hk).cong2 (hv.2.1.2 k hk).1 (fun j hj => ?_)
    rw [Nat.add_assoc (b + 97), h3.2.2 _ (by omega), g2 301 (by omega)]
theorem s_layAll {L : Nat} {π : Nat → Nat → Nat} {ml : Nat → Nat → Int64} {mr : Nat → Nat → Option Nat} {mi : Nat → Nat → Int32} (d : Nat) (hw : WR π mr) {R b m : Nat} (hR : 297 < R) (hR2 : R ≠ 301) (hgR : gR R) (hiR : ∀ mi, pm_is (WW L, mi, ml, mr) R 20) (hlR : (SH L R).2 = m) (hm31 : m < 2 ^ 31) (hbm : b + 409 ≤ m) {v : SV} (hs : RS0 mi v) (hv : okSV v) : ∃ mi', pm_ev gR (d + 2) 216 [.ref 285, .ref R, .int (nI b)] (WW L, mi, ml, mr) none (WW L, mi', ml, mr) ∧ (∀ a, a ≠ R → mi' a = mi a) ∧ (∀ j, j < b ∨ b + 409 ≤ j → mi' R j = mi R j) ∧ RSp mi' R b v := by
  obtain ⟨x, m', ⟨h1, mi1, h2, h3⟩, h5⟩ := ev_some (E := fun x m => x = none ∧ ∃ mi', m = (WW L, mi', ml, mr) ∧ (∀ a, a ≠ R → mi' a = mi a) ∧ (∀ j, j < b ∨ b + 409 ≤ j → mi' R j = mi R j) ∧ RSp mi' R b v) (g := gR) (d := d + 1) (M := 216) (args := [.ref 285, .ref R, .int (nI b)]) (mem := (WW L, mi, ml, mr)) (q := q_216) rfl (Nat.le_of_ble_eq_true rfl) rfl (by
    refine ev_aload_n (p' := 1) i_216_0 rfl rfl ?_
    refine ev_aload_n (p' := 2) i_216_1 rfl rfl ?_
    refine ev_iload_n (p' := 3) i_216_2 rfl rfl ?_
    obtain ⟨mi1, e1, hL⟩ := s_lays (L := L) (mi := mi) (ml := ml) d hw hR hgR hiR hlR hm31 (b := b) (by omega)
    refine ev_v2V (p' := 6) i_216_3 rfl cl_12_222_12 (by decide) is_285 (Nat.le_of_ble_eq_true rfl) (e1) ?_
    refine ev_aload_n (p' := 7) i_216_6 rfl rfl ?_
    refine ev_iload_n (p' := 8) i_216_7 rfl rfl ?_
    refine ev_bipush (p' := 10) (v := nI 52) i_216_8 rfl (by decide) ?_
    refine ev_iaddN (p' := 11) i_216_10 rfl ?_
    refine ev_aload_n (p' := 12) i_216_11 rfl rfl ?_
    refine ev_geti (p' := 15) i_216_12 rfl fl_12_106 rfl is_285 ?_
    rw [hL.1 285 (by omega)]
    refine ev_iastN (p' := 16) i_216_15 rfl (hiR _) hlR (by omega) hm31 hgR ?_
    refine ev_aload_n (p' := 17) i_216_16 rfl rfl ?_
    refine ev_iload_n (p' := 18) i_216_17 rfl rfl ?_
    refine ev_bipush (p' := 20) (v := nI 53) i_216_18 rfl (by decide) ?_
    refine ev_iaddN (p' := 21) i_216_20 rfl ?_
    refine ev_aload_n (p' := 22) i_216_21 rfl rfl ?_
    refine ev_geti (p' := 25) i_216_22 rfl fl_12_109 rfl is_285 ?_
    rw [pm_u_ne (by omega), hL.1 285 (by omega)]
    refine ev_iastN (p' := 26) i_216_25 rfl (hiR _) hlR (by omega) hm31 hgR ?_
    refine ev_aload_n (p' := 27) i_216_26 rfl rfl ?_
    refine ev_iload_n (p' := 28) i_216_27 rfl rfl ?_
    refine ev_bipush (p' := 30) (v := nI 54) i_216_28 rfl (by decide) ?_
    refine ev_iaddN (p' := 31) i_216_30 rfl ?_
    refine ev_aload_n (p' := 32) i_216_31 rfl rfl ?_
    refine ev_geti (p' := 35) i_216_32 rfl fl_12_112 rfl is_285 ?_
    rw [pm_u_ne (by omega), pm_u_ne (by omega), hL.1 285 (by omega)]
    refine ev_iastN (p' := 36) i_216_35 rfl (hiR _) hlR (by omega) hm31 hgR ?_
    refine ev_iconst (p' := 37) (v := nI 0) i_216_36 rfl (by decide) ?_
    refine ev_istore_n (p' := 38) (ls' := [_, _, _, _]) i_216_37 rfl rfl (by decide) rfl ?_
    refine l_la1 hw hR hR2 hgR hiR hlR hm31 hbm (mi0 := _) (fun mi3 h1 => ?_) 30 0 _ (by decide) ⟨fun _ _ => rfl, fun _ _ => rfl, fun j hj => absurd hj (Nat.not_lt_zero j)⟩
    refine ev_iconst (p' := 65) (v := nI 0) i_216_64 rfl (by decide) ?_
    refine ev_istore_n (p' := 66) (ls' := [_, _, _, _]) i_216_65 rfl rfl (by decide) rfl ?_
    refine l_la2 hw hR hR2 hgR hiR hlR hm31 hbm (mi0 := mi3) (fun mi4 h2 => ?_) 6 0 mi3 (by decide) ⟨fun _ _ => rfl, fun _ _ => rfl, fun j hj => absurd hj (Nat.not_lt_zero j)⟩
    refine ev_iconst (p' := 107) (v := nI 0) i_216_106 rfl (by decide) ?_
    refine ev_istore_n (p' := 108) (ls' := [_, _, _, _]) i_216_107 rfl rfl (by decide) rfl ?_
    refine l_la3 hw hR hR2 hgR hiR hlR hm31 hbm (mi0 := mi4) (fun mi5 h3 => ?_) 312 0 mi4 (by decide) ⟨fun _ _ => rfl, fun _ _ => rfl, fun j hj => absurd hj (Nat.not_lt_zero j)⟩
    exact ev_ret i_216_135 rfl ⟨rfl, mi5, rfl, LAll_mk hs hv hR hR2 hL h1 h2 h3⟩)
  subst h1 h2
  exact ⟨mi1, h5, h3⟩
theorem TAll_mk {mi mi1 mi3 mi4 mi5 : Nat → Nat → Int32} {R b : Nat} {v : SV} (hs : RSp mi R b v) (hv : okSV v) (hR : 297 < R) (hR2 : R ≠ 301) (hP : RP0 mi1 v.1) (he : ∀ a, a ≠ 285 → ¬ (287 ≤ a ∧ a ≤ 293) → mi1 a = mi a) (hj : ∀ j, j ≠ 1 → j ≠ 2 → j ≠ 3 → mi1 285 j = mi 285 j) (h1 : CPB (pm_u (pm_u (pm_u mi1 285 4 (mi R (b + 52))) 285 5 (mi R (b + 53))) 285 25 (mi R (b + 54))) mi3 294 R (b + 55) 30) (h2 : CP3 mi3 mi4 R b 6) (h3 : CPB mi4 mi5 301 R (b + 97) 312) : RS0 mi5 v ∧ (∀ a, a ≠ 285 → ¬ (287 ≤ a ∧ a ≤ 296) → a ≠ 301 → mi5 a = mi a) ∧ ∀ j, j ≠ 1 → j ≠ 2 → j ≠ 3 → j ≠ 4 → j ≠ 5 → j ≠ 25 → mi5 285 j = mi 285 j := by
  have g1 : ∀ a, a ≠ 285 → ¬ (287 ≤ a ∧ a ≤ 294) → mi3 a = mi a := fun a ha hb => by rw [h1.1 a (by omega), pm_u_ne ha, pm_u_ne ha, pm_u_ne ha, he a ha (by omega)]
  have g2 : ∀ a, a ≠ 285 → ¬ (287 ≤ a ∧ a ≤ 296) → mi4 a = mi a := fun a ha hb => by rw [h2.1 a (by omega) (by omega), g1 a ha (by omega)]
  have g5 : mi5 285 = pm_u (pm_u (pm_u mi1 285 4 (mi R (b + 52))) 285 5 (mi R (b + 53))) 285 25 (mi R (b + 54)) 285 := by rw [h3.1 285 (by decide), h2.1 285 (by decide) (by decide), h1.1 285 (by decide)]
  refine ⟨⟨hP.cong ?_ ?_ ?_ (fun a h4 h5 => ?_), ⟨?_, fun k hk => ?_⟩, ⟨?_, fun i hi j hj => ?_⟩, ?_, fun i hi => ?_⟩, fun a h4 h5 h6 => ?_, fun j h4 h5 h6 h7 h8 h9 => ?_⟩
  · rw [g5, pm_u_oth (by decide), pm_u_oth (by decide), pm_u_oth (by decide)]
  · rw [g5, pm_u_oth (by decide), pm_u_oth (by decide), pm_u_oth (by decide)]
  · rw [g5, pm_u_oth (by decide), pm_u_oth (by decide), pm_u_oth (by decide)]
  · rw [h3.1 a (by omega), h2.1 a (by omega) (by omega), h1.1 a (by omega), pm_u_ne (by omega), pm_u_ne (by omega), pm_u_ne (by omega)]
  · rw [g5, pm_u_self]; exact hs.2.2.2.1
  · have hu := hv.2.1.1
    refine (hs.2.2.2.2.2.2 k hk).cong2 (hv.2.1.2 k hk).1 (fun j hj => ?_)
    rw [h3.2 _ (by omega), g2 R (by omega) (by omega), Nat.add_assoc (b + 97)]
  · rw [g5, pm_u_oth (by decide), pm_u_oth (by decide), pm_u_self]; exact hs.2.1
  · have hn := hv.2.2.1.1
    rw [h3.1 294 (by decide), h2.1 294 (by decide) (by decide), h1.2 _ (by omega), pm_u_ne (by omega), pm_u_ne (by omega), pm_u_ne (by omega), he R (by omega) (by omega), ← Nat.add_assoc (b + 55)]
    exact hs.2.2.2.2.1 i hi j hj
  · rw [g5, pm_u_oth (by decide), pm_u_self]; exact hs.2.2.1
  · have hn := hv.2.2.2.1
    rw [h3.1 295 (by decide), h3.1 296 (by decide), (h2.2 i (by omega)).1, (h2.2 i (by omega)).2, g1 R (by omega) (by omega)]
    exact hs.2.2.2.2.2.1 i hi
  · rw [h3.1 a h6, g2 a h4 h5]
  · rw [g5, pm_u_oth h9, pm_u_oth h8, pm_u_oth h7, hj j h4 h5 h6]
theorem s_takeAll {L : Nat} {π : Nat → Nat → Nat} {ml : Nat → Nat → Int64} {mr : Nat → Nat → Option Nat} {mi : Nat → Nat → Int32} (d : Nat) (hw : WR π mr) {R b m : Nat} (hR : 297 < R) (hR2 : R ≠ 301) (hgR : gR R) (hiR : ∀ mi, pm_is (WW L, mi, ml, mr) R 20) (hlR : (SH L R).2 = m) (hm31 : m < 2 ^ 31) (hbm : b + 409 ≤ m) {v : SV} (hs : RSp mi R b v) (hv : okSV v) : ∃ mi', pm_ev gR (d + 2) 217 [.ref 285, .ref R, .int (nI b)] (WW L, mi, ml, mr) none (WW L, mi', ml, mr) ∧ RS0 mi' v ∧ (∀ a, a ≠ 285 → ¬ (287 ≤ a ∧ a ≤ 296) → a ≠ 301 → mi' a = mi a) ∧ ∀ j, j ≠ 1 → j ≠ 2 → j ≠ 3 → j ≠ 4 → j ≠ 5 → j ≠ 25 → mi' 285 j = mi 285 j := by
  obtain ⟨x, m', ⟨h1, mi1, h2, h3⟩, h5⟩ := ev_some (E := fun x m => x = none ∧ ∃ mi', m = (WW L, mi', ml, mr) ∧ RS0 mi' v ∧ (∀ a, a ≠ 285 → ¬ (287 ≤ a ∧ a ≤ 296) → a ≠ 301 → mi' a = mi a) ∧ ∀ j, j ≠ 1 → j ≠ 2 → j ≠ 3 → j ≠ 4 → j ≠ 5 → j ≠ 25 → mi' 285 j = mi 285 j) (g := gR) (d := d + 1) (M := 217) (args := [.ref 285, .ref R, .int (nI b)]) (mem := (WW L, mi, ml, mr)) (q := q_217) rfl (Nat.le_of_ble_eq_true rfl) rfl (by
    refine ev_aload_n (p' := 1) i_217_0 rfl rfl ?_
    refine ev_aload_n (p' := 2) i_217_1 rfl rfl ?_
    refine ev_iload_n (p' := 3) i_217_2 rfl rfl ?_
    obtain ⟨mi1, e1, hP, he, hj⟩ := s_takes (L := L) (mi := mi) (ml := ml) d hw hR hgR hiR hlR hm31 (b := b) (by omega) hs.1 hv.1.1
    refine ev_v2V (p' := 6) i_217_3 rfl cl_12_243_12 (by decide) is_285 (Nat.le_of_ble_eq_true rfl) (e1) ?_
    refine ev_aload_n (p' := 7) i_217_6 rfl rfl ?_
    refine ev_aload_n (p' := 8) i_217_7 rfl rfl ?_
    refine ev_iload_n (p' := 9) i_217_8 rfl rfl ?_
    refine ev_bipush (p' := 11) (v := nI 52) i_217_9 rfl (by decide) ?_
    refine ev_iaddN (p' := 12) i_217_11 rfl ?_
    refine ev_ialdN (p' := 13) i_217_12 rfl (hiR _) hlR (by omega) hm31 ?_
    rw [he R (by omega) (by omega)]
    refine ev_puti (p' := 16) i_217_13 rfl fl_12_106 rfl is_285 (gr (by decide)) rfl ?_
    refine ev_aload_n (p' := 17) i_217_16 rfl rfl ?_
    refine ev_aload_n (p' := 18) i_217_17 rfl rfl ?_
    refine ev_iload_n (p' := 19) i_217_18 rfl rfl ?_
    refine ev_bipush (p' := 21) (v := nI 53) i_217_19 rfl (by decide) ?_
    refine ev_iaddN (p' := 22) i_217_21 rfl ?_
    refine ev_ialdN (p' := 23) i_217_22 rfl (hiR _) hlR (by omega) hm31 ?_
    rw [pm_u_ne (by omega), he R (by omega) (by omega)]
    refine ev_puti (p' := 26) i_217_23 rfl fl_12_109 rfl is_285 (gr (by decide)) rfl ?_
    refine ev_aload_n (p' := 27) i_217_26 rfl rfl ?_
    refine ev_aload_n (p' := 28) i_217_27 rfl rfl ?_
    refine ev_iload_n (p' := 29) i_217_28 rfl rfl ?_
    refine ev_bipush (p' := 31) (v := nI 54) i_217_29 rfl (by decide) ?_
    refine ev_iaddN (p' := 32) i_217_31 rfl ?_
    refine ev_ialdN (p' := 33) i_217_32 rfl (hiR _) hlR (by omega) hm31 ?_
    rw [pm_u_ne (by omega), pm_u_ne (by omega), he R (by omega) (by omega)]
    refine ev_puti (p' := 36) i_217_33 rfl fl_12_112 rfl is_285 (gr (by decide)) rfl ?_
    refine ev_iconst (p' := 37) (v := nI 0) i_217_36 rfl (by decide) ?_
    refine ev_istore_n (p' := 38) (ls' := [_, _, _, _]) i_217_37 rfl rfl (by decide) rfl ?_
    refine l_ta1 hw hR hR2 hgR hiR hlR hm31 hbm (mi0 := _) (fun mi3 h1 => ?_) 30 0 _ (by decide) ⟨fun _ _ => rfl, fun j hj => absurd hj (Nat.not_lt_zero j)⟩
    refine ev_iconst (p' := 65) (v := nI 0) i_217_64 rfl (by decide) ?_
    refine ev_istore_n (p' := 66) (ls' := [_, _, _, _]) i_217_65 rfl rfl (by decide) rfl ?_
    refine l_ta2 hw hR hR2 hgR hiR hlR hm31 hbm (mi0 := mi3) (fun mi4 h2 => ?_) 6 0 mi3 (by decide) ⟨fun _ _ _ => rfl, fun j hj => absurd hj (Nat.not_lt_zero j)⟩
    refine ev_iconst (p' := 107) (v := nI 0) i_217_106 rfl (by decide) ?_
    refine ev_istore_n (p' := 108) (ls' := [_, _, _, _]) i_217_107 rfl rfl (by decide) rfl ?_
    refine l_ta3 hw hR hR2 hgR hiR hlR hm31 hbm (mi0 := mi4) (fun mi5 h3 => ?_) 312 0 mi4 (by decide) ⟨fun _ _ => rfl, fun j hj => absurd hj (Nat.not_lt_zero j)⟩
    exact ev_ret i_217_135 rfl ⟨rfl, mi5, rfl, TAll_mk hs hv hR hR2 hP he hj h1 h2 h3⟩)
  subst h1 h2
  exact ⟨mi1, h5, h3⟩
theorem C_image_bad (L d : Nat) (A : AV) (hA : okA A) (x : Int32) (hb : ¬ (0 ≤ x ∧ x ≤ 1)) : Cst L (d + 24) 101 [.int x] A (.int (-2)) (badA A) := by
  refine C_of (q := q_101) rfl (Nat.le_of_ble_eq_true rfl) rfl (fun π mi ml mr hw hc => ?_)
  have hn := hc.hn
  have h7 := hA.n7
  refine ev_iload_n (p' := 1) i_101_0 rfl rfl ?_
  refine ev_iconst (p' := 2) (v := 0) i_101_1 rfl (by decide) ?_
  refine ev_iconst (p' := 3) (v := 1) i_101_2 rfl (by decide) ?_
  refine ev_s3I (p' := 6) i_101_3 rfl cl_11_89_0 (by decide) (Nat.le_of_ble_eq_true rfl) (s_outside _ _ _ _) ?_
  refine ev_if_eq (p' := 9) (tg := 14) i_101_6 rfl rfl (fun c6 => ?_) (fun c6 => ?_)
  · replace c6 := B0 c6
    exact absurd (ni c6) hb
  · replace c6 := B1 c6
    refine ev_aload_n (p' := 10) i_101_9 rfl rfl ?_
    refine ev_v0I (p' := 13) i_101_10 rfl cl_11_93_11 (by decide) is_1 (Nat.le_of_ble_eq_true rfl) (s_bad _) ?_
    exact ev_iretI i_101_13 rfl (EC.mk rfl hw (hc.bad hw))
theorem R_image_bad (L d : Nat) (A : AV) (hA : okA A) (x : Int32) (hb : ¬ (0 ≤ x ∧ x ≤ 1)) : Rst L (d + 24) 218 [.int x] A (.int (-2)) (badA A) := by
  refine R_of (q := q_218) rfl (Nat.le_of_ble_eq_true rfl) rfl (fun π mi ml mr hw hc => ?_)
  have hn := hc.hn
  have h7 := hA.n7
  refine ev_iload_n (p' := 1) i_218_0 rfl rfl ?_
  refine ev_iconst (p' := 2) (v := 0) i_218_1 rfl (by decide) ?_
  refine ev_iconst (p' := 3) (v := 1) i_218_2 rfl (by decide) ?_
  refine ev_s3I (p' := 6) i_218_3 rfl cl_12_115_0 (by decide) (Nat.le_of_ble_eq_true rfl) (s_in _ _ _ _) ?_
  refine ev_if_ne (p' := 9) (tg := 14) i_218_6 rfl rfl (fun c6 => ?_) (fun c6 => ?_)
  · replace c6 := B1 c6
    exact absurd (c6) hb
  · replace c6 := B0n c6
    refine ev_aload_n (p' := 10) i_218_9 rfl rfl ?_
    refine ev_v0I (p' := 13) i_218_10 rfl cl_12_119_12 (by decide) is_285 (Nat.le_of_ble_eq_true rfl) (s_mbad _ hw) ?_
    exact ev_iretI i_218_13 rfl (ER.mk rfl (hc.bad h7))
theorem C_from_bad (L d : Nat) (A : AV) (hA : okA A) (x : Int32) (hb : ¬ (0 ≤ x ∧ x ≤ 1)) : Cst L (d + 24) 102 [.int x] A (.int (-2)) (badA A) := by
  refine C_of (q := q_102) rfl (Nat.le_of_ble_eq_true rfl) rfl (fun π mi ml mr hw hc => ?_)
  have hn := hc.hn
  have h7 := hA.n7
  refine ev_iload_n (p' := 1) i_102_0 rfl rfl ?_
  refine ev_iconst (p' := 2) (v := 0) i_102_1 rfl (by decide) ?_
  refine ev_iconst (p' := 3) (v := 1) i_102_2 rfl (by decide) ?_
  refine ev_s3I (p' := 6) i_102_3 rfl cl_11_89_0 (by decide) (Nat.le_of_ble_eq_true rfl) (s_outside _ _ _ _) ?_
  refine ev_if_eq (p' := 9) (tg := 14) i_102_6 rfl rfl (fun c6 => ?_) (fun c6 => ?_)
  · replace c6 := B0 c6
    exact absurd (ni c6) hb
  · replace c6 := B1 c6
    refine ev_aload_n (p' := 10) i_102_9 rfl rfl ?_
    refine ev_v0I (p' := 13) i_102_10 rfl cl_11_93_11 (by decide) is_1 (Nat.le_of_ble_eq_true rfl) (s_bad _) ?_
    exact ev_iretI i_102_13 rfl (EC.mk rfl hw (hc.bad hw))
theorem R_from_bad (L d : Nat) (A : AV) (hA : okA A) (x : Int32) (hb : ¬ (0 ≤ x ∧ x ≤ 1)) : Rst L (d + 24) 219 [.int x] A (.int (-2)) (badA A) := by
  refine R_of (q := q_219) rfl (Nat.le_of_ble_eq_true rfl) rfl (fun π mi ml mr hw hc => ?_)
  have hn := hc.hn
  have h7 := hA.n7
  refine ev_iload_n (p' := 1) i_219_0 rfl rfl ?_
  refine ev_iconst (p' := 2) (v := 0) i_219_1 rfl (by decide) ?_
  refine ev_iconst (p' := 3) (v := 1) i_219_2 rfl (by decide) ?_
  refine ev_s3I (p' := 6) i_219_3 rfl cl_12_115_0 (by decide) (Nat.le_of_ble_eq_true rfl) (s_in _ _ _ _) ?_
  refine ev_if_ne (p' := 9) (tg := 14) i_219_6 rfl rfl (fun c6 => ?_) (fun c6 => ?_)
  · replace c6 := B1 c6
    exact absurd (c6) hb
  · replace c6 := B0n c6
    refine ev_aload_n (p' := 10) i_219_9 rfl rfl ?_
    refine ev_v0I (p' := 13) i_219_10 rfl cl_12_119_12 (by decide) is_285 (Nat.le_of_ble_eq_true rfl) (s_mbad _ hw) ?_
    exact ev_iretI i_219_13 rfl (ER.mk rfl (hc.bad h7))
def imgA (A : AV) (k : Nat) : AV := (A.1, ((fun j => if j = k then true else A.2.1.1 j), (fun j => if j = k then A.1 else A.2.1.2 j)), A.2.2)
theorem okA.img {A : AV} {k : Nat} (h : okA A) : okA (imgA A k) := by
  refine ⟨h.1, fun i hi hk => ?_, h.2.2⟩
  show okSV (if i = k then A.1 else A.2.1.2 i)
  by_cases hh : i = k
  · rw [if_pos hh]; exact h.1
  · rw [if_neg hh]; exact h.2.1 i hi (by have : (if i = k then true else A.2.1.1 i) = true := hk; rwa [if_neg hh] at this)
theorem CR.img {π : Nat → Nat → Nat} {mi mi' : Nat → Nat → Int32} {ml : Nat → Nat → Int64} {mr : Nat → Nat → Option Nat} {A : AV} {k : Nat} (hw : WR π mr) (h : CR π mi ml A) (hk : k < 2) (h3 : mi' 3 k = 1) (h3' : ∀ j, j ≠ k → mi' 3 j = mi 3 j) (hS : CSp π mi' (103 + 86 * k) A.1) (he : ∀ a, a ≠ 3 → (a < 103 + 86 * k ∨ 103 + 86 * k + 86 ≤ a) → mi' a = mi a) : CR π mi' ml (imgA A k) := by
  obtain ⟨a1, a2, a3, a4, a5⟩ := h
  refine ⟨a1.out hw sp_17 (fun a h1 h2 => he a (by omega) (by omega)), fun i hi => ?_, ⟨a3.1, by rw [he 4 (by decide) (by omega)]; exact a3.2.1, fun i hi => by rw [he 5 (by decide) (by omega)]; exact a3.2.2 i hi⟩, a4, by rw [he 1 (by decide) (by omega)]; exact a5⟩
  show mi' 3 i = (if (if i = k then true else A.2.1.1 i) = true then 1 else 0) ∧ ((if i = k then true else A.2.1.1 i) = true → CSp π mi' (103 + 86 * i) (if i = k then A.1 else A.2.1.2 i))
  by_cases hh : i = k
  · subst hh
    simp only [if_true]
    exact ⟨h3, fun _ => hS⟩
  · simp only [if_neg hh]
    rw [h3' i hh]
    exact ⟨(a2 i hi).1, fun hk' => ((a2 i hi).2 hk').out hw (sp_img hi) (fun a h1 h2 => he a (by omega) (by omega))⟩
theorem RSp.cong2 {mi mi' : Nat → Nat → Int32} {r off : Nat} {v : SV} (h : RSp mi r off v) (hv : okSV v) (he : ∀ j, j < 409 → mi' r (off + j) = mi r (off + j)) : RSp mi' r off v := by
  obtain ⟨a1, a2, a3, a4, a5, a6, a7⟩ := h
  have h1 := hv.2.1.1
  have h2 := hv.2.2.1.1
  have h3 := hv.2.2.2.1
  refine ⟨a1.cong2 hv.1.1 (fun j hj => he j (by omega)), (he 52 (by decide)).trans a2, (he 53 (by decide)).trans a3, (he 54 (by decide)).trans a4, fun i hi j hj => ?_, fun i hi => ?_, fun k hk => (a7 k hk).cong2 (hv.2.1.2 k hk).1 (fun j hj => ?_)⟩
  · rw [show off + 55 + 5 * i + j = off + (55 + 5 * i + j) by omega, he _ (by omega), show off + (55 + 5 * i + j) = off + 55 + 5 * i + j by omega]; exact a5 i hi j hj
  · rw [show off + 85 + i = off + (85 + i) by omega, he _ (by omega), show off + 91 + i = off + (91 + i) by omega, he _ (by omega), show off + (85 + i) = off + 85 + i by omega, show off + (91 + i) = off + 91 + i by omega]; exact a6 i hi
  · rw [show off + 97 + 52 * k + j = off + (97 + 52 * k + j) by omega, he _ (by omega)]
theorem RR.img {mi mi' : Nat → Nat → Int32} {ml : Nat → Nat → Int64} {A : AV} {k : Nat} (h : RR mi ml A) (hA : okA A) (hk : k < 2) (h3 : mi' 311 k = 1) (h3' : ∀ j, j ≠ k → mi' 311 j = mi 311 j) (hS : RSp mi' 310 (420 * k) A.1) (he : ∀ a, a ≠ 310 → a ≠ 311 → mi' a = mi a) (hj : ∀ j, j < 420 * k ∨ 420 * k + 409 ≤ j → mi' 310 j = mi 310 j) : RR mi' ml (imgA A k) := by
  obtain ⟨a1, a2, a3, a4, a5, a6⟩ := h
  refine ⟨a1.cong2 (fun a ha => he a (by omega) (by omega)) hA.n7, fun i hi => ?_, ⟨by rw [he 285 (by decide) (by decide)]; exact a3.1, fun i hi => by rw [he 297 (by decide) (by decide)]; exact a3.2 i hi⟩, a4, by rw [he 286 (by decide) (by decide)]; exact a5, by rw [he 285 (by decide) (by decide)]; exact a6⟩
  show mi' 311 i = (if (if i = k then true else A.2.1.1 i) = true then 1 else 0) ∧ ((if i = k then true else A.2.1.1 i) = true → RSp mi' 310 (420 * i) (if i = k then A.1 else A.2.1.2 i))
  by_cases hh : i = k
  · subst hh
    simp only [if_true]
    exact ⟨h3, fun _ => hS⟩
  · simp only [if_neg hh]
    rw [h3' i hh]
    exact ⟨(a2 i hi).1, fun hk' => ((a2 i hi).2 hk').cong2 (hA.2.1 i hi hk') (fun j hj' => hj _ (by omega))⟩
theorem C_image0 (L d : Nat) (A : AV) (hA : okA A)  : Cst L (d + 24) 101 [.int (nI 0)] A (.int 1) (imgA A 0) := by
  refine C_of (q := q_101) rfl (Nat.le_of_ble_eq_true rfl) rfl (fun π mi ml mr hw hc => ?_)
  have hn := hc.hn
  have h7 := hA.n7
  refine ev_iload_n (p' := 1) i_101_0 rfl rfl ?_
  refine ev_iconst (p' := 2) (v := 0) i_101_1 rfl (by decide) ?_
  refine ev_iconst (p' := 3) (v := 1) i_101_2 rfl (by decide) ?_
  refine ev_s3I (p' := 6) i_101_3 rfl cl_11_89_0 (by decide) (Nat.le_of_ble_eq_true rfl) (s_outside _ _ _ _) ?_
  refine ev_if_eq (p' := 9) (tg := 14) i_101_6 rfl rfl (fun c6 => ?_) (fun c6 => absurd (B_f (nj (by decide))) c6)
  refine ev_aload_n (p' := 15) i_101_14 rfl rfl ?_
  refine ev_getr (p' := 18) i_101_15 rfl fl_11_11 rfl is_1 (rf_1_1 hw) ?_
  refine ev_iload_n (p' := 19) i_101_18 rfl rfl ?_
  refine ev_aaldN (p' := 20) 23 i_101_19 rfl is_2 (by decide) len_2 (by decide) (by decide) (rf_2_0 hw) ?_
  refine ev_aload_n (p' := 21) i_101_20 rfl rfl ?_
  refine ev_getr (p' := 24) i_101_21 rfl fl_11_78 rfl is_1 (rf_1_0 hw) ?_
  obtain ⟨mi1, e1, hS, hT, he⟩ := s_spcopy (L := L) (ml := ml) (d + 20) hw sp_103 sp_17 (by decide) hc.1
  refine ev_v1V (p' := 27) i_101_24 rfl cl_11_314_4 (by decide) (is_sp sp_103) (Nat.le_of_ble_eq_true rfl) (e1) ?_
  refine ev_aload_n (p' := 28) i_101_27 rfl rfl ?_
  refine ev_getr (p' := 31) i_101_28 rfl fl_11_15 rfl is_1 (rf_1_2 hw) ?_
  refine ev_iload_n (p' := 32) i_101_31 rfl rfl ?_
  refine ev_iconst (p' := 33) (v := 1) i_101_32 rfl (by decide) ?_
  have hin : vp_in (nI 0) (SH L 3).2 := by rw [len_3]; exact nI_in (by decide) (by decide)
  refine ev_zast (p' := 34) i_101_33 rfl hin is_3 (gc (by decide)) ?_
  rw [show vp_nar .boolean 1 = 1 from rfl, nI_clamp (by decide)]
  refine ev_iconst (p' := 35) (v := 1) i_101_34 rfl (by decide) ?_
  exact ev_iretI i_101_35 rfl (EC.mk rfl hw (hc.img hw (k := 0) (by decide) pm_u_self (fun j hj => by rw [pm_u_oth hj, he 3 (by omega)]) (hS.out hw sp_103 (fun a h1 h2 => pm_u_ne (by omega))) (fun a h1 h2 => by rw [pm_u_ne h1]; exact he a h2)))
theorem R_image0 (L d : Nat) (A : AV) (hA : okA A)  : Rst L (d + 24) 218 [.int (nI 0)] A (.int 1) (imgA A 0) := by
  refine R_of (q := q_218) rfl (Nat.le_of_ble_eq_true rfl) rfl (fun π mi ml mr hw hc => ?_)
  have hn := hc.hn
  have h7 := hA.n7
  refine ev_iload_n (p' := 1) i_218_0 rfl rfl ?_
  refine ev_iconst (p' := 2) (v := 0) i_218_1 rfl (by decide) ?_
  refine ev_iconst (p' := 3) (v := 1) i_218_2 rfl (by decide) ?_
  refine ev_s3I (p' := 6) i_218_3 rfl cl_12_115_0 (by decide) (Nat.le_of_ble_eq_true rfl) (s_in _ _ _ _) ?_
  refine ev_if_ne (p' := 9) (tg := 14) i_218_6 rfl rfl (fun c6 => ?_) (fun c6 => absurd (B_tn (by decide)) c6)
  refine ev_aload_n (p' := 15) i_218_14 rfl rfl ?_
  refine ev_getr (p' := 18) i_218_15 rfl fl_12_89 rfl is_285 (rf_285_38 hw) ?_
  refine ev_iload_n (p' := 19) i_218_18 rfl rfl ?_
  refine ev_iconst (p' := 20) (v := 1) i_218_19 rfl (by decide) ?_
  refine ev_iastN (p' := 21) i_218_20 rfl is_311 len_311 (by decide) (by decide) (gr (by decide)) ?_
  refine ev_aload_n (p' := 22) i_218_21 rfl rfl ?_
  refine ev_aload_n (p' := 23) i_218_22 rfl rfl ?_
  refine ev_getr (p' := 26) i_218_23 rfl fl_12_86 rfl is_285 (rf_285_37 hw) ?_
  refine ev_sipush (p' := 29) (v := nI 420) i_218_26 rfl (by decide) ?_
  refine ev_iload_n (p' := 30) i_218_29 rfl rfl ?_
  refine ev_imulN (p' := 31) i_218_30 rfl ?_
  obtain ⟨mi1, e1, h1, h2, h3⟩ := s_layAll (L := L) (mi := pm_u mi 311 0 1) (ml := ml) (d + 21) hw (R := 310) (b := 420 * 0) (by decide) (by decide) (gr (by decide)) (fun _ => is_310) len_310 (by decide) (by decide) (v := A.1) (hc.1.cong2 (fun a ha => pm_u_ne (by omega)) h7) hA.1
  refine ev_v2V (p' := 34) i_218_31 rfl cl_12_189_12 (by decide) is_285 (Nat.le_of_ble_eq_true rfl) (e1) ?_
  refine ev_iconst (p' := 35) (v := 1) i_218_34 rfl (by decide) ?_
  exact ev_iretI i_218_35 rfl (ER.mk rfl (hc.img hA (k := 0) (by decide) (by rw [h1 311 (by decide)]; exact pm_u_self) (fun j hj => by rw [h1 311 (by decide), pm_u_oth hj]) h3 (fun a h4 h5 => by rw [h1 a h4, pm_u_ne h5]) (fun j hj => by rw [h2 j hj, pm_u_ne (by decide)])))
theorem C_from0_no (L d : Nat) (A : AV) (hA : okA A) (hk : ¬ A.2.1.1 0 = true) : Cst L (d + 24) 102 [.int (nI 0)] A (.int (-3)) (noA A) := by
  refine C_of (q := q_102) rfl (Nat.le_of_ble_eq_true rfl) rfl (fun π mi ml mr hw hc => ?_)
  have hn := hc.hn
  have h7 := hA.n7
  have hk3 : mi 3 0 = (if A.2.1.1 0 = true then 1 else 0) := (hc.2.1 0 (by decide)).1
  refine ev_iload_n (p' := 1) i_102_0 rfl rfl ?_
  refine ev_iconst (p' := 2) (v := 0) i_102_1 rfl (by decide) ?_
  refine ev_iconst (p' := 3) (v := 1) i_102_2 rfl (by decide) ?_
  refine ev_s3I (p' := 6) i_102_3 rfl cl_11_89_0 (by decide) (Nat.le_of_ble_eq_true rfl) (s_outside _ _ _ _) ?_
  refine ev_if_eq (p' := 9) (tg := 14) i_102_6 rfl rfl (fun c6 => ?_) (fun c6 => absurd (B_f (nj (by decide))) c6)
  refine ev_aload_n (p' := 15) i_102_14 rfl rfl ?_
  refine ev_getr (p' := 18) i_102_15 rfl fl_11_15 rfl is_1 (rf_1_2 hw) ?_
  refine ev_iload_n (p' := 19) i_102_18 rfl rfl ?_
  refine ev_zaldN (p' := 20) i_102_19 rfl is_3 len_3 (by decide) (by decide) ?_
  refine ev_if_ne (p' := 23) (tg := 28) i_102_20 rfl rfl (fun c20 => absurd c20 (by rw [hk3, if_neg hk]; decide)) (fun c20 => ?_)
  refine ev_aload_n (p' := 24) i_102_23 rfl rfl ?_
  refine ev_v0I (p' := 27) i_102_24 rfl cl_11_145_11 (by decide) is_1 (Nat.le_of_ble_eq_true rfl) (s_no _) ?_
  exact ev_iretI i_102_27 rfl (EC.mk rfl hw (hc.no hw))
theorem R_from0_no (L d : Nat) (A : AV) (hA : okA A) (hk : ¬ A.2.1.1 0 = true) : Rst L (d + 24) 219 [.int (nI 0)] A (.int (-3)) (noA A) := by
  refine R_of (q := q_219) rfl (Nat.le_of_ble_eq_true rfl) rfl (fun π mi ml mr hw hc => ?_)
  have hn := hc.hn
  have h7 := hA.n7
  have hk3 : mi 311 0 = (if A.2.1.1 0 = true then 1 else 0) := (hc.2.1 0 (by decide)).1
  refine ev_iload_n (p' := 1) i_219_0 rfl rfl ?_
  refine ev_iconst (p' := 2) (v := 0) i_219_1 rfl (by decide) ?_
  refine ev_iconst (p' := 3) (v := 1) i_219_2 rfl (by decide) ?_
  refine ev_s3I (p' := 6) i_219_3 rfl cl_12_115_0 (by decide) (Nat.le_of_ble_eq_true rfl) (s_in _ _ _ _) ?_
  refine ev_if_ne (p' := 9) (tg := 14) i_219_6 rfl rfl (fun c6 => ?_) (fun c6 => absurd (B_tn (by decide)) c6)
  refine ev_aload_n (p' := 15) i_219_14 rfl rfl ?_
  refine ev_getr (p' := 18) i_219_15 rfl fl_12_89 rfl is_285 (rf_285_38 hw) ?_
  refine ev_iload_n (p' := 19) i_219_18 rfl rfl ?_
  refine ev_ialdN (p' := 20) i_219_19 rfl is_311 len_311 (by decide) (by decide) ?_
  refine ev_if_ne (p' := 23) (tg := 28) i_219_20 rfl rfl (fun c20 => absurd c20 (by rw [hk3, if_neg hk]; decide)) (fun c20 => ?_)
  refine ev_aload_n (p' := 24) i_219_23 rfl rfl ?_
  refine ev_v0I (p' := 27) i_219_24 rfl cl_12_231_12 (by decide) is_285 (Nat.le_of_ble_eq_true rfl) (s_mno _ hw) ?_
  exact ev_iretI i_219_27 rfl (ER.mk rfl (hc.no h7))
theorem C_from0 (L d : Nat) (A : AV) (hA : okA A) (hk : A.2.1.1 0 = true) : Cst L (d + 24) 102 [.int (nI 0)] A (.int 1) ((A.2.1.2 0, A.2)) := by
  refine C_of (q := q_102) rfl (Nat.le_of_ble_eq_true rfl) rfl (fun π mi ml mr hw hc => ?_)
  have hn := hc.hn
  have h7 := hA.n7
  have hk3 : mi 3 0 = (if A.2.1.1 0 = true then 1 else 0) := (hc.2.1 0 (by decide)).1
  refine ev_iload_n (p' := 1) i_102_0 rfl rfl ?_
  refine ev_iconst (p' := 2) (v := 0) i_102_1 rfl (by decide) ?_
  refine ev_iconst (p' := 3) (v := 1) i_102_2 rfl (by decide) ?_
  refine ev_s3I (p' := 6) i_102_3 rfl cl_11_89_0 (by decide) (Nat.le_of_ble_eq_true rfl) (s_outside _ _ _ _) ?_
  refine ev_if_eq (p' := 9) (tg := 14) i_102_6 rfl rfl (fun c6 => ?_) (fun c6 => absurd (B_f (nj (by decide))) c6)
  refine ev_aload_n (p' := 15) i_102_14 rfl rfl ?_
  refine ev_getr (p' := 18) i_102_15 rfl fl_11_15 rfl is_1 (rf_1_2 hw) ?_
  refine ev_iload_n (p' := 19) i_102_18 rfl rfl ?_
  refine ev_zaldN (p' := 20) i_102_19 rfl is_3 len_3 (by decide) (by decide) ?_
  refine ev_if_ne (p' := 23) (tg := 28) i_102_20 rfl rfl (fun c20 => ?_) (fun c20 => absurd (by rw [hk3, if_pos hk]; decide) c20)
  refine ev_aload_n (p' := 29) i_102_28 rfl rfl ?_
  refine ev_getr (p' := 32) i_102_29 rfl fl_11_78 rfl is_1 (rf_1_0 hw) ?_
  refine ev_aload_n (p' := 33) i_102_32 rfl rfl ?_
  refine ev_getr (p' := 36) i_102_33 rfl fl_11_11 rfl is_1 (rf_1_1 hw) ?_
  refine ev_iload_n (p' := 37) i_102_36 rfl rfl ?_
  refine ev_aaldN (p' := 38) 23 i_102_37 rfl is_2 (by decide) len_2 (by decide) (by decide) (rf_2_0 hw) ?_
  obtain ⟨mi1, e1, hS, hT, he⟩ := s_spcopy (L := L) (ml := ml) (d + 20) hw sp_17 sp_103 (by decide) ((hc.2.1 0 (by decide)).2 hk)
  refine ev_v1V (p' := 41) i_102_38 rfl cl_11_314_4 (by decide) (is_sp sp_17) (Nat.le_of_ble_eq_true rfl) (e1) ?_
  refine ev_iconst (p' := 42) (v := 1) i_102_41 rfl (by decide) ?_
  exact ev_iretI i_102_42 rfl (EC.mk rfl hw (hc.up hw hS (fun _ _ => rfl) (fun a ha => he a (by omega))))
theorem R_from0 (L d : Nat) (A : AV) (hA : okA A) (hk : A.2.1.1 0 = true) : Rst L (d + 24) 219 [.int (nI 0)] A (.int 1) ((A.2.1.2 0, A.2)) := by
  refine R_of (q := q_219) rfl (Nat.le_of_ble_eq_true rfl) rfl (fun π mi ml mr hw hc => ?_)
  have hn := hc.hn
  have h7 := hA.n7
  have hk3 : mi 311 0 = (if A.2.1.1 0 = true then 1 else 0) := (hc.2.1 0 (by decide)).1
  refine ev_iload_n (p' := 1) i_219_0 rfl rfl ?_
  refine ev_iconst (p' := 2) (v := 0) i_219_1 rfl (by decide) ?_
  refine ev_iconst (p' := 3) (v := 1) i_219_2 rfl (by decide) ?_
  refine ev_s3I (p' := 6) i_219_3 rfl cl_12_115_0 (by decide) (Nat.le_of_ble_eq_true rfl) (s_in _ _ _ _) ?_
  refine ev_if_ne (p' := 9) (tg := 14) i_219_6 rfl rfl (fun c6 => ?_) (fun c6 => absurd (B_tn (by decide)) c6)
  refine ev_aload_n (p' := 15) i_219_14 rfl rfl ?_
  refine ev_getr (p' := 18) i_219_15 rfl fl_12_89 rfl is_285 (rf_285_38 hw) ?_
  refine ev_iload_n (p' := 19) i_219_18 rfl rfl ?_
  refine ev_ialdN (p' := 20) i_219_19 rfl is_311 len_311 (by decide) (by decide) ?_
  refine ev_if_ne (p' := 23) (tg := 28) i_219_20 rfl rfl (fun c20 => ?_) (fun c20 => absurd (by rw [hk3, if_pos hk]; decide) c20)
  refine ev_aload_n (p' := 29) i_219_28 rfl rfl ?_
  refine ev_aload_n (p' := 30) i_219_29 rfl rfl ?_
  refine ev_getr (p' := 33) i_219_30 rfl fl_12_86 rfl is_285 (rf_285_37 hw) ?_
  refine ev_sipush (p' := 36) (v := nI 420) i_219_33 rfl (by decide) ?_
  refine ev_iload_n (p' := 37) i_219_36 rfl rfl ?_
  refine ev_imulN (p' := 38) i_219_37 rfl ?_
  obtain ⟨mi1, e1, h1, h2, h3⟩ := s_takeAll (L := L) (mi := mi) (ml := ml) (d + 21) hw (R := 310) (b := 420 * 0) (by decide) (by decide) (gr (by decide)) (fun _ => is_310) len_310 (by decide) (by decide) ((hc.2.1 0 (by decide)).2 hk) (hA.2.1 0 (by decide) hk)
  refine ev_v2V (p' := 41) i_219_38 rfl cl_12_196_12 (by decide) is_285 (Nat.le_of_ble_eq_true rfl) (e1) ?_
  refine ev_iconst (p' := 42) (v := 1) i_219_41 rfl (by decide) ?_
  exact ev_iretI i_219_42 rfl (ER.mk rfl (hc.up h1 (fun a ha => h2 a (by omega) (by omega) (by omega)) (h3 17 (by decide) (by decide) (by decide) (by decide) (by decide) (by decide)) (h3 22 (by decide) (by decide) (by decide) (by decide) (by decide) (by decide))))
theorem C_image1 (L d : Nat) (A : AV) (hA : okA A)  : Cst L (d + 24) 101 [.int (nI 1)] A (.int 1) (imgA A 1) := by
  refine C_of (q := q_101) rfl (Nat.le_of_ble_eq_true rfl) rfl (fun π mi ml mr hw hc => ?_)
  have hn := hc.hn
  have h7 := hA.n7
  refine ev_iload_n (p' := 1) i_101_0 rfl rfl ?_
  refine ev_iconst (p' := 2) (v := 0) i_101_1 rfl (by decide) ?_
  refine ev_iconst (p' := 3) (v := 1) i_101_2 rfl (by decide) ?_
  refine ev_s3I (p' := 6) i_101_3 rfl cl_11_89_0 (by decide) (Nat.le_of_ble_eq_true rfl) (s_outside _ _ _ _) ?_
  refine ev_if_eq (p' := 9) (tg := 14) i_101_6 rfl rfl (fun c6 => ?_) (fun c6 => absurd (B_f (nj (by decide))) c6)
  refine ev_aload_n (p' := 15) i_101_14 rfl rfl ?_
  refine ev_getr (p' := 18) i_101_15 rfl fl_11_11 rfl is_1 (rf_1_1 hw) ?_
  refine ev_iload_n (p' := 19) i_101_18 rfl rfl ?_
  refine ev_aaldN (p' := 20) 23 i_101_19 rfl is_2 (by decide) len_2 (by decide) (by decide) (rf_2_1 hw) ?_
  refine ev_aload_n (p' := 21) i_101_20 rfl rfl ?_
  refine ev_getr (p' := 24) i_101_21 rfl fl_11_78 rfl is_1 (rf_1_0 hw) ?_
  obtain ⟨mi1, e1, hS, hT, he⟩ := s_spcopy (L := L) (ml := ml) (d + 20) hw sp_189 sp_17 (by decide) hc.1
  refine ev_v1V (p' := 27) i_101_24 rfl cl_11_314_4 (by decide) (is_sp sp_189) (Nat.le_of_ble_eq_true rfl) (e1) ?_
  refine ev_aload_n (p' := 28) i_101_27 rfl rfl ?_
  refine ev_getr (p' := 31) i_101_28 rfl fl_11_15 rfl is_1 (rf_1_2 hw) ?_
  refine ev_iload_n (p' := 32) i_101_31 rfl rfl ?_
  refine ev_iconst (p' := 33) (v := 1) i_101_32 rfl (by decide) ?_
  have hin : vp_in (nI 1) (SH L 3).2 := by rw [len_3]; exact nI_in (by decide) (by decide)
  refine ev_zast (p' := 34) i_101_33 rfl hin is_3 (gc (by decide)) ?_
  rw [show vp_nar .boolean 1 = 1 from rfl, nI_clamp (by decide)]
  refine ev_iconst (p' := 35) (v := 1) i_101_34 rfl (by decide) ?_
  exact ev_iretI i_101_35 rfl (EC.mk rfl hw (hc.img hw (k := 1) (by decide) pm_u_self (fun j hj => by rw [pm_u_oth hj, he 3 (by omega)]) (hS.out hw sp_189 (fun a h1 h2 => pm_u_ne (by omega))) (fun a h1 h2 => by rw [pm_u_ne h1]; exact he a h2)))
theorem R_image1 (L d : Nat) (A : AV) (hA : okA A)  : Rst L (d + 24) 218 [.int (nI 1)] A (.int 1) (imgA A 1) := by
  refine R_of (q := q_218) rfl (Nat.le_of_ble_eq_true rfl) rfl (fun π mi ml mr hw hc => ?_)
  have hn := hc.hn
  have h7 := hA.n7
  refine ev_iload_n (p' := 1) i_218_0 rfl rfl ?_
  refine ev_iconst (p' := 2) (v := 0) i_218_1 rfl (by decide) ?_
  refine ev_iconst (p' := 3) (v := 1) i_218_2 rfl (by decide) ?_
  refine ev_s3I (p' := 6) i_218_3 rfl cl_12_115_0 (by decide) (Nat.le_of_ble_eq_true rfl) (s_in _ _ _ _) ?_
  refine ev_if_ne (p' := 9) (tg := 14) i_218_6 rfl rfl (fun c6 => ?_) (fun c6 => absurd (B_tn (by decide)) c6)
  refine ev_aload_n (p' := 15) i_218_14 rfl rfl ?_
  refine ev_getr (p' := 18) i_218_15 rfl fl_12_89 rfl is_285 (rf_285_38 hw) ?_
  refine ev_iload_n (p' := 19) i_218_18 rfl rfl ?_
  refine ev_iconst (p' := 20) (v := 1) i_218_19 rfl (by decide) ?_
  refine ev_iastN (p' := 21) i_218_20 rfl is_311 len_311 (by decide) (by decide) (gr (by decide)) ?_
  refine ev_aload_n (p' := 22) i_218_21 rfl rfl ?_
  refine ev_aload_n (p' := 23) i_218_22 rfl rfl ?_
  refine ev_getr (p' := 26) i_218_23 rfl fl_12_86 rfl is_285 (rf_285_37 hw) ?_
  refine ev_sipush (p' := 29) (v := nI 420) i_218_26 rfl (by decide) ?_
  refine ev_iload_n (p' := 30) i_218_29 rfl rfl ?_
  refine ev_imulN (p' := 31) i_218_30 rfl ?_
  obtain ⟨mi1, e1, h1, h2, h3⟩ := s_layAll (L := L) (mi := pm_u mi 311 1 1) (ml := ml) (d + 21) hw (R := 310) (b := 420 * 1) (by decide) (by decide) (gr (by decide)) (fun _ => is_310) len_310 (by decide) (by decide) (v := A.1) (hc.1.cong2 (fun a ha => pm_u_ne (by omega)) h7) hA.1
  refine ev_v2V (p' := 34) i_218_31 rfl cl_12_189_12 (by decide) is_285 (Nat.le_of_ble_eq_true rfl) (e1) ?_
  refine ev_iconst (p' := 35) (v := 1) i_218_34 rfl (by decide) ?_
  exact ev_iretI i_218_35 rfl (ER.mk rfl (hc.img hA (k := 1) (by decide) (by rw [h1 311 (by decide)]; exact pm_u_self) (fun j hj => by rw [h1 311 (by decide), pm_u_oth hj]) h3 (fun a h4 h5 => by rw [h1 a h4, pm_u_ne h5]) (fun j hj => by rw [h2 j hj, pm_u_ne (by decide)])))
theorem C_from1_no (L d : Nat) (A : AV) (hA : okA A) (hk : ¬ A.2.1.1 1 = true) : Cst L (d + 24) 102 [.int (nI 1)] A (.int (-3)) (noA A) := by
  refine C_of (q := q_102) rfl (Nat.le_of_ble_eq_true rfl) rfl (fun π mi ml mr hw hc => ?_)
  have hn := hc.hn
  have h7 := hA.n7
  have hk3 : mi 3 1 = (if A.2.1.1 1 = true then 1 else 0) := (hc.2.1 1 (by decide)).1
  refine ev_iload_n (p' := 1) i_102_0 rfl rfl ?_
  refine ev_iconst (p' := 2) (v := 0) i_102_1 rfl (by decide) ?_
  refine ev_iconst (p' := 3) (v := 1) i_102_2 rfl (by decide) ?_
  refine ev_s3I (p' := 6) i_102_3 rfl cl_11_89_0 (by decide) (Nat.le_of_ble_eq_true rfl) (s_outside _ _ _ _) ?_
  refine ev_if_eq (p' := 9) (tg := 14) i_102_6 rfl rfl (fun c6 => ?_) (fun c6 => absurd (B_f (nj (by decide))) c6)
  refine ev_aload_n (p' := 15) i_102_14 rfl rfl ?_
  refine ev_getr (p' := 18) i_102_15 rfl fl_11_15 rfl is_1 (rf_1_2 hw) ?_
  refine ev_iload_n (p' := 19) i_102_18 rfl rfl ?_
  refine ev_zaldN (p' := 20) i_102_19 rfl is_3 len_3 (by decide) (by decide) ?_
  refine ev_if_ne (p' := 23) (tg := 28) i_102_20 rfl rfl (fun c20 => absurd c20 (by rw [hk3, if_neg hk]; decide)) (fun c20 => ?_)
  refine ev_aload_n (p' := 24) i_102_23 rfl rfl ?_
  refine ev_v0I (p' := 27) i_102_24 rfl cl_11_145_11 (by decide) is_1 (Nat.le_of_ble_eq_true rfl) (s_no _) ?_
  exact ev_iretI i_102_27 rfl (EC.mk rfl hw (hc.no hw))
theorem R_from1_no (L d : Nat) (A : AV) (hA : okA A) (hk : ¬ A.2.1.1 1 = true) : Rst L (d + 24) 219 [.int (nI 1)] A (.int (-3)) (noA A) := by
  refine R_of (q := q_219) rfl (Nat.le_of_ble_eq_true rfl) rfl (fun π mi ml mr hw hc => ?_)
  have hn := hc.hn
  have h7 := hA.n7
  have hk3 : mi 311 1 = (if A.2.1.1 1 = true then 1 else 0) := (hc.2.1 1 (by decide)).1
  refine ev_iload_n (p' := 1) i_219_0 rfl rfl ?_
  refine ev_iconst (p' := 2) (v := 0) i_219_1 rfl (by decide) ?_
  refine ev_iconst (p' := 3) (v := 1) i_219_2 rfl (by decide) ?_
  refine ev_s3I (p' := 6) i_219_3 rfl cl_12_115_0 (by decide) (Nat.le_of_ble_eq_true rfl) (s_in _ _ _ _) ?_
  refine ev_if_ne (p' := 9) (tg := 14) i_219_6 rfl rfl (fun c6 => ?_) (fun c6 => absurd (B_tn (by decide)) c6)
  refine ev_aload_n (p' := 15) i_219_14 rfl rfl ?_
  refine ev_getr (p' := 18) i_219_15 rfl fl_12_89 rfl is_285 (rf_285_38 hw) ?_
  refine ev_iload_n (p' := 19) i_219_18 rfl rfl ?_
  refine ev_ialdN (p' := 20) i_219_19 rfl is_311 len_311 (by decide) (by decide) ?_
  refine ev_if_ne (p' := 23) (tg := 28) i_219_20 rfl rfl (fun c20 => absurd c20 (by rw [hk3, if_neg hk]; decide)) (fun c20 => ?_)
  refine ev_aload_n (p' := 24) i_219_23 rfl rfl ?_
  refine ev_v0I (p' := 27) i_219_24 rfl cl_12_231_12 (by decide) is_285 (Nat.le_of_ble_eq_true rfl) (s_mno _ hw) ?_
  exact ev_iretI i_219_27 rfl (ER.mk rfl (hc.no h7))
theorem C_from1 (L d : Nat) (A : AV) (hA : okA A) (hk : A.2.1.1 1 = true) : Cst L (d + 24) 102 [.int (nI 1)] A (.int 1) ((A.2.1.2 1, A.2)) := by
  refine C_of (q := q_102) rfl (Nat.le_of_ble_eq_true rfl) rfl (fun π mi ml mr hw hc => ?_)
  have hn := hc.hn
  have h7 := hA.n7
  have hk3 : mi 3 1 = (if A.2.1.1 1 = true then 1 else 0) := (hc.2.1 1 (by decide)).1
  refine ev_iload_n (p' := 1) i_102_0 rfl rfl ?_
  refine ev_iconst (p' := 2) (v := 0) i_102_1 rfl (by decide) ?_
  refine ev_iconst (p' := 3) (v := 1) i_102_2 rfl (by decide) ?_
  refine ev_s3I (p' := 6) i_102_3 rfl cl_11_89_0 (by decide) (Nat.le_of_ble_eq_true rfl) (s_outside _ _ _ _) ?_
  refine ev_if_eq (p' := 9) (tg := 14) i_102_6 rfl rfl (fun c6 => ?_) (fun c6 => absurd (B_f (nj (by decide))) c6)
  refine ev_aload_n (p' := 15) i_102_14 rfl rfl ?_
  refine ev_getr (p' := 18) i_102_15 rfl fl_11_15 rfl is_1 (rf_1_2 hw) ?_
  refine ev_iload_n (p' := 19) i_102_18 rfl rfl ?_
  refine ev_zaldN (p' := 20) i_102_19 rfl is_3 len_3 (by decide) (by decide) ?_
  refine ev_if_ne (p' := 23) (tg := 28) i_102_20 rfl rfl (fun c20 => ?_) (fun c20 => absurd (by rw [hk3, if_pos hk]; decide) c20)
  refine ev_aload_n (p' := 29) i_102_28 rfl rfl ?_
  refine ev_getr (p' := 32) i_102_29 rfl fl_11_78 rfl is_1 (rf_1_0 hw) ?_
  refine ev_aload_n (p' := 33) i_102_32 rfl rfl ?_
  refine ev_getr (p' := 36) i_102_33 rfl fl_11_11 rfl is_1 (rf_1_1 hw) ?_
  refine ev_iload_n (p' := 37) i_102_36 rfl rfl ?_
  refine ev_aaldN (p' := 38) 23 i_102_37 rfl is_2 (by decide) len_2 (by decide) (by decide) (rf_2_1 hw) ?_
  obtain ⟨mi1, e1, hS, hT, he⟩ := s_spcopy (L := L) (ml := ml) (d + 20) hw sp_17 sp_189 (by decide) ((hc.2.1 1 (by decide)).2 hk)
  refine ev_v1V (p' := 41) i_102_38 rfl cl_11_314_4 (by decide) (is_sp sp_17) (Nat.le_of_ble_eq_true rfl) (e1) ?_
  refine ev_iconst (p' := 42) (v := 1) i_102_41 rfl (by decide) ?_
  exact ev_iretI i_102_42 rfl (EC.mk rfl hw (hc.up hw hS (fun _ _ => rfl) (fun a ha => he a (by omega))))
theorem R_from1 (L d : Nat) (A : AV) (hA : okA A) (hk : A.2.1.1 1 = true) : Rst L (d + 24) 219 [.int (nI 1)] A (.int 1) ((A.2.1.2 1, A.2)) := by
  refine R_of (q := q_219) rfl (Nat.le_of_ble_eq_true rfl) rfl (fun π mi ml mr hw hc => ?_)
  have hn := hc.hn
  have h7 := hA.n7
  have hk3 : mi 311 1 = (if A.2.1.1 1 = true then 1 else 0) := (hc.2.1 1 (by decide)).1
  refine ev_iload_n (p' := 1) i_219_0 rfl rfl ?_
  refine ev_iconst (p' := 2) (v := 0) i_219_1 rfl (by decide) ?_
  refine ev_iconst (p' := 3) (v := 1) i_219_2 rfl (by decide) ?_
  refine ev_s3I (p' := 6) i_219_3 rfl cl_12_115_0 (by decide) (Nat.le_of_ble_eq_true rfl) (s_in _ _ _ _) ?_
  refine ev_if_ne (p' := 9) (tg := 14) i_219_6 rfl rfl (fun c6 => ?_) (fun c6 => absurd (B_tn (by decide)) c6)
  refine ev_aload_n (p' := 15) i_219_14 rfl rfl ?_
  refine ev_getr (p' := 18) i_219_15 rfl fl_12_89 rfl is_285 (rf_285_38 hw) ?_
  refine ev_iload_n (p' := 19) i_219_18 rfl rfl ?_
  refine ev_ialdN (p' := 20) i_219_19 rfl is_311 len_311 (by decide) (by decide) ?_
  refine ev_if_ne (p' := 23) (tg := 28) i_219_20 rfl rfl (fun c20 => ?_) (fun c20 => absurd (by rw [hk3, if_pos hk]; decide) c20)
  refine ev_aload_n (p' := 29) i_219_28 rfl rfl ?_
  refine ev_aload_n (p' := 30) i_219_29 rfl rfl ?_
  refine ev_getr (p' := 33) i_219_30 rfl fl_12_86 rfl is_285 (rf_285_37 hw) ?_
  refine ev_sipush (p' := 36) (v := nI 420) i_219_33 rfl (by decide) ?_
  refine ev_iload_n (p' := 37) i_219_36 rfl rfl ?_
  refine ev_imulN (p' := 38) i_219_37 rfl ?_
  obtain ⟨mi1, e1, h1, h2, h3⟩ := s_takeAll (L := L) (mi := mi) (ml := ml) (d + 21) hw (R := 310) (b := 420 * 1) (by decide) (by decide) (gr (by decide)) (fun _ => is_310) len_310 (by decide) (by decide) ((hc.2.1 1 (by decide)).2 hk) (hA.2.1 1 (by decide) hk)
  refine ev_v2V (p' := 41) i_219_38 rfl cl_12_196_12 (by decide) is_285 (Nat.le_of_ble_eq_true rfl) (e1) ?_
  refine ev_iconst (p' := 42) (v := 1) i_219_41 rfl (by decide) ?_
  exact ev_iretI i_219_42 rfl (ER.mk rfl (hc.up h1 (fun a ha => h2 a (by omega) (by omega) (by omega)) (h3 17 (by decide) (by decide) (by decide) (by decide) (by decide) (by decide)) (h3 22 (by decide) (by decide) (by decide) (by decide) (by decide) (by decide))))
theorem Q_image (L : Nat) (A : AV) (hA : okA A) (x : Int32) : SameI L 101 218 [.int x] A := by
  by_cases h : 0 ≤ x ∧ x ≤ 1
  · rcases in01 h with rfl | rfl
    · exact ⟨_, imgA A 0, hA.img, fun d => C_image0 L d A hA, fun d => R_image0 L d A hA⟩
    · exact ⟨_, imgA A 1, hA.img, fun d => C_image1 L d A hA, fun d => R_image1 L d A hA⟩
  · exact ⟨_, badA A, hA.bad, fun d => C_image_bad L d A hA x h, fun d => R_image_bad L d A hA x h⟩
theorem Q_from (L : Nat) (A : AV) (hA : okA A) (x : Int32) : SameI L 102 219 [.int x] A := by
  by_cases h : 0 ≤ x ∧ x ≤ 1
  · rcases in01 h with rfl | rfl
    · by_cases hk : A.2.1.1 0 = true
      · exact ⟨_, (A.2.1.2 0, A.2), ⟨hA.2.1 0 (by decide) hk, hA.2⟩, fun d => C_from0 L d A hA hk, fun d => R_from0 L d A hA hk⟩
      · exact ⟨_, noA A, hA.no, fun d => C_from0_no L d A hA hk, fun d => R_from0_no L d A hA hk⟩
    · by_cases hk : A.2.1.1 1 = true
      · exact ⟨_, (A.2.1.2 1, A.2), ⟨hA.2.1 1 (by decide) hk, hA.2⟩, fun d => C_from1 L d A hA hk, fun d => R_from1 L d A hA hk⟩
      · exact ⟨_, noA A, hA.no, fun d => C_from1_no L d A hA hk, fun d => R_from1_no L d A hA hk⟩
  · exact ⟨_, badA A, hA.bad, fun d => C_from_bad L d A hA x h, fun d => R_from_bad L d A hA x h⟩
