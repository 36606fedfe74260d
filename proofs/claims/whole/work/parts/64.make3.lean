/-- the cells ahead of the spreads -/
def KF (mi : Nat → Nat → Int32) (ml : Nat → Nat → Int64) (mr : Nat → Nat → Option Nat) : Prop := (mr 1 1 = some 2 ∧ mr 1 2 = some 3 ∧ mr 1 3 = some 4 ∧ mr 1 5 = some 6 ∧ mr 1 6 = some 8 ∧ mr 1 7 = some 9 ∧ mr 4 0 = some 5 ∧ mr 6 0 = some 7 ∧ mr 10 0 = some 11 ∧ mr 10 1 = some 12 ∧ mr 10 2 = some 13 ∧ mr 10 3 = some 14 ∧ mr 10 4 = some 15 ∧ mr 10 5 = some 16) ∧ (mi 1 10 = 0 ∧ mi 1 11 = 0 ∧ mi 1 12 = 0 ∧ mi 4 1 = 0 ∧ ∀ j, mi 3 j = 0) ∧ ml 1 8 = 0 ∧ ml 1 9 = 1
theorem KF.fr {mi mi' : Nat → Nat → Int32} {ml ml' : Nat → Nat → Int64} {mr mr' : Nat → Nat → Option Nat} (h : KF mi ml mr) (hm : ∀ a, a ≤ 16 → mi' a = mi a ∧ ml' a = ml a) (hr : ∀ a, a ≤ 16 → a ≠ 1 → a ≠ 2 → mr' a = mr a) (h1 : ∀ j, j ≠ 0 → j ≠ 4 → mr' 1 j = mr 1 j) : KF mi' ml' mr' := by
  unfold KF at *
  rw [(hm 1 (by decide)).1, (hm 1 (by decide)).2, (hm 3 (by decide)).1, (hm 4 (by decide)).1, hr 4 (by decide) (by decide) (by decide), hr 6 (by decide) (by decide) (by decide), hr 10 (by decide) (by decide) (by decide), h1 1 (by decide) (by decide), h1 2 (by decide) (by decide), h1 3 (by decide) (by decide), h1 5 (by decide) (by decide), h1 6 (by decide) (by decide), h1 7 (by decide) (by decide)]
  exact h
theorem SPF.fr {p K : Nat} {mi mi' : Nat → Nat → Int32} {mr mr' : Nat → Nat → Option Nat} (h : SPF p K mi mr 6) (he : ∀ a, p + 1 ≤ a → a ≤ p + 86 → mi' a = mi a ∧ mr' a = mr a) : SPF p K mi' mr' 6 := by
  obtain ⟨a1, a2, a3, a4, a5, a6, a7⟩ := h
  exact ⟨by rw [(he (p + 1) (by omega) (by omega)).2]; exact a1, fun j hj => by rw [(he (p + 3) (by omega) (by omega)).2]; exact a2 j hj, fun j hj => by rw [(he (p + 10) (by omega) (by omega)).2]; exact a3 j hj, fun j hj => by rw [(he (p + 2) (by omega) (by omega)).2]; exact a4 j hj, by rw [(he (p + 1) (by omega) (by omega)).1]; exact a5, a6.fr (he _ (by omega) (by omega)).1 (he _ (by omega) (by omega)).2 (he _ (by omega) (by omega)).2, fun j hj => (a7 j hj).fr (he _ (by omega) (by omega)).1 (he _ (by omega) (by omega)).2 (he _ (by omega) (by omega)).2⟩
def bkS : List (Nat × Nat) := k_sh.tail.take 284
/-- the cells of the class -/
def BKF (mi : Nat → Nat → Int32) (ml : Nat → Nat → Int64) (mr : Nat → Nat → Option Nat) : Prop := KF mi ml mr ∧ (mr 1 0 = some 17 ∧ mr 1 4 = some 275 ∧ mr 2 0 = some 103 ∧ mr 2 1 = some 189) ∧ SPF 16 10 mi mr 6 ∧ SPF 102 10 mi mr 6 ∧ SPF 188 10 mi mr 6 ∧ PGF 274 10 mi mr 7
set_option maxHeartbeats 4000000 in
theorem l_bookA {L d : Nat} {E : Option Value → pm_M → Prop} {mi0 : Nat → Nat → Int32} {ml0 : Nat → Nat → Int64} {mr0 : Nat → Nat → Option Nat} {x1 x2 : Option Value} (kk : ∀ mi ml mr, KF mi ml mr → UP 0 mi0 mi ml0 ml mr0 mr → Ev gT (pm_ev gT (d + 3)) E q_70 148 [some (.ref 1), some (.ref 10), x2] [] (W0 L (k_sh.tail.take 16), mi, ml, mr)) : Ev gT (pm_ev gT (d + 3)) E q_70 0 [some (.ref 1), x1, x2] [] (W0 L [(11, 13)], mi0, ml0, mr0) := by
  refine ev_aload_n (p' := 1) i_70_0 rfl rfl ?_
  refine ev_objInit (p' := 4) i_70_1 rfl cl_11_1_0 (Nat.le_of_ble_eq_true rfl) ?_
  refine ev_aload_n (p' := 5) i_70_4 rfl rfl ?_
  refine ev_iconst (p' := 6) (v := nI 2) i_70_5 rfl (by decide) ?_
  refine ev_anewaW (p' := 9) 23 2 (k := 2) i_70_6 rfl (by decide +kernel) (by decide) (by decide) rfl rfl (by decide) ?_
  refine ev_putr (p' := 12) i_70_9 rfl fl_11_11 rfl (isW (i := 0) rfl (isA (show ([(11, 13)] : List (Nat × Nat))[0]? = some (11, 13) from rfl))) trivial rfl rfl ?_
  refine ev_aload_n (p' := 13) i_70_12 rfl rfl ?_
  refine ev_iconst (p' := 14) (v := nI 2) i_70_13 rfl (by decide) ?_
  refine ev_newaW (p' := 16) 22 2 (k := 3) i_70_14 rfl rfl (by decide) rfl rfl (by decide) ?_
  refine ev_putr (p' := 19) i_70_16 rfl fl_11_15 rfl (isW (i := 0) rfl (isA (isA (show ([(11, 13)] : List (Nat × Nat))[0]? = some (11, 13) from rfl)))) trivial rfl rfl ?_
  refine ev_aload_n (p' := 20) i_70_19 rfl rfl ?_
  refine ev_newW (p' := 23) 7 7 (k := 4) i_70_20 rfl (by decide +kernel) (by decide) rfl rfl rfl (by decide) ?_
  refine ev_dup (p' := 24) i_70_23 rfl rfl ?_
  refine ev_mk0 (p' := 27) i_70_24 rfl cl_11_21_7 (by decide) (isW (i := 3) rfl (isN rfl)) (Nat.le_of_ble_eq_true rfl) (s_iText (p := 3) rfl (isN rfl) (by decide) _) (fun mi1 ml1 mr1 z1 => ?_)
  refine ev_putr (p' := 30) i_70_27 rfl fl_11_22 rfl (isW (i := 0) rfl (isA (isA (isA (isA (show ([(11, 13)] : List (Nat × Nat))[0]? = some (11, 13) from rfl)))))) trivial rfl rfl ?_
  refine ev_aload_n (p' := 31) i_70_30 rfl rfl ?_
  refine ev_newW (p' := 34) 9 2 (k := 6) i_70_31 rfl (by decide +kernel) (by decide) rfl rfl rfl (by decide) ?_
  refine ev_dup (p' := 35) i_70_34 rfl rfl ?_
  refine ev_mk0 (p' := 38) i_70_35 rfl cl_11_28_9 (by decide) (isW (i := 5) rfl (isN rfl)) (Nat.le_of_ble_eq_true rfl) (s_iWalk (p := 5) rfl (isN rfl) (by decide) _) (fun mi2 ml2 mr2 z2 => ?_)
  refine ev_putr (p' := 41) i_70_38 rfl fl_11_29 rfl (isW (i := 0) rfl (isA (isA (isA (isA (isA (isA (show ([(11, 13)] : List (Nat × Nat))[0]? = some (11, 13) from rfl)))))))) trivial rfl rfl ?_
  refine ev_aload_n (p' := 42) i_70_41 rfl rfl ?_
  refine ev_bipush (p' := 44) (v := nI 13) i_70_42 rfl (by decide) ?_
  refine ev_newaW (p' := 46) 20 13 (k := 8) i_70_44 rfl rfl (by decide) rfl rfl (by decide) ?_
  refine ev_putr (p' := 49) i_70_46 rfl fl_11_33 rfl (isW (i := 0) rfl (isA (isA (isA (isA (isA (isA (isA (show ([(11, 13)] : List (Nat × Nat))[0]? = some (11, 13) from rfl))))))))) trivial rfl rfl ?_
  refine ev_aload_n (p' := 50) i_70_49 rfl rfl ?_
  refine ev_bipush (p' := 52) (v := nI 13) i_70_50 rfl (by decide) ?_
  refine ev_newaW (p' := 54) 20 13 (k := 9) i_70_52 rfl rfl (by decide) rfl rfl (by decide) ?_
  refine ev_putr (p' := 57) i_70_54 rfl fl_11_37 rfl (isW (i := 0) rfl (isA (isA (isA (isA (isA (isA (isA (isA (show ([(11, 13)] : List (Nat × Nat))[0]? = some (11, 13) from rfl)))))))))) trivial rfl rfl ?_
  refine ev_aload_n (p' := 58) i_70_57 rfl rfl ?_
  refine ev_lconst (p' := 59) (v := 0) i_70_58 rfl (by decide) ?_
  refine ev_putl (p' := 62) i_70_59 rfl fl_11_40 rfl (isW (i := 0) rfl (isA (isA (isA (isA (isA (isA (isA (isA (show ([(11, 13)] : List (Nat × Nat))[0]? = some (11, 13) from rfl)))))))))) trivial rfl ?_
  refine ev_aload_n (p' := 63) i_70_62 rfl rfl ?_
  refine ev_lconst (p' := 64) (v := 1) i_70_63 rfl (by decide) ?_
  refine ev_putl (p' := 67) i_70_64 rfl fl_11_44 rfl (isW (i := 0) rfl (isA (isA (isA (isA (isA (isA (isA (isA (show ([(11, 13)] : List (Nat × Nat))[0]? = some (11, 13) from rfl)))))))))) trivial rfl ?_
  refine ev_aload_n (p' := 68) i_70_67 rfl rfl ?_
  refine ev_iconst (p' := 69) (v := 0) i_70_68 rfl (by decide) ?_
  refine ev_puti (p' := 72) i_70_69 rfl fl_11_47 rfl (isW (i := 0) rfl (isA (isA (isA (isA (isA (isA (isA (isA (show ([(11, 13)] : List (Nat × Nat))[0]? = some (11, 13) from rfl)))))))))) trivial rfl ?_
  refine ev_aload_n (p' := 73) i_70_72 rfl rfl ?_
  refine ev_iconst (p' := 74) (v := 0) i_70_73 rfl (by decide) ?_
  refine ev_puti (p' := 77) i_70_74 rfl fl_11_51 rfl (isW (i := 0) rfl (isA (isA (isA (isA (isA (isA (isA (isA (show ([(11, 13)] : List (Nat × Nat))[0]? = some (11, 13) from rfl)))))))))) trivial rfl ?_
  refine ev_aload_n (p' := 78) i_70_77 rfl rfl ?_
  refine ev_iconst (p' := 79) (v := 0) i_70_78 rfl (by decide) ?_
  refine ev_puti (p' := 82) i_70_79 rfl fl_11_54 rfl (isW (i := 0) rfl (isA (isA (isA (isA (isA (isA (isA (isA (show ([(11, 13)] : List (Nat × Nat))[0]? = some (11, 13) from rfl)))))))))) trivial rfl ?_
  refine ev_bipush (p' := 84) (v := nI 6) i_70_82 rfl (by decide) ?_
  refine ev_anewaW (p' := 87) 26 6 (k := 10) i_70_84 rfl (by decide +kernel) (by decide) (by decide) rfl rfl (by decide) ?_
  refine ev_dup (p' := 88) i_70_87 rfl rfl ?_
  refine ev_iconst (p' := 89) (v := nI 0) i_70_88 rfl (by decide) ?_
  refine ev_newW (p' := 92) 8 0 (k := 11) i_70_89 rfl (by decide +kernel) (by decide) rfl rfl rfl (by decide) ?_
  refine ev_dup (p' := 93) i_70_92 rfl rfl ?_
  refine ev_p0V (p' := 96) i_70_93 rfl cl_11_59_8 (by decide) (isW (i := 10) rfl (isN rfl)) (Nat.le_of_ble_eq_true rfl) (s_iVee _) ?_
  refine ev_aastN (p' := 97) 26 8 i_70_96 rfl (isW (i := 9) rfl (isA (isN rfl))) (lnW (i := 9) rfl (isA (isN rfl))) (by omega) (by decide) (isW (i := 10) rfl (isN rfl)) (by decide) trivial ?_
  refine ev_dup (p' := 98) i_70_97 rfl rfl ?_
  refine ev_iconst (p' := 99) (v := nI 1) i_70_98 rfl (by decide) ?_
  refine ev_newW (p' := 102) 6 0 (k := 12) i_70_99 rfl (by decide +kernel) (by decide) rfl rfl rfl (by decide) ?_
  refine ev_dup (p' := 103) i_70_102 rfl rfl ?_
  refine ev_p0V (p' := 106) i_70_103 rfl cl_11_62_6 (by decide) (isW (i := 11) rfl (isN rfl)) (Nat.le_of_ble_eq_true rfl) (s_iTent _ (isW (i := 11) rfl (isN rfl))) ?_
  refine ev_aastN (p' := 107) 26 6 i_70_106 rfl (isW (i := 9) rfl (isA (isA (isN rfl)))) (lnW (i := 9) rfl (isA (isA (isN rfl)))) (by omega) (by decide) (isW (i := 11) rfl (isN rfl)) (by decide) trivial ?_
  refine ev_dup (p' := 108) i_70_107 rfl rfl ?_
  refine ev_iconst (p' := 109) (v := nI 2) i_70_108 rfl (by decide) ?_
  refine ev_newW (p' := 112) 0 0 (k := 13) i_70_109 rfl (by decide +kernel) (by decide) rfl rfl rfl (by decide) ?_
  refine ev_dup (p' := 113) i_70_112 rfl rfl ?_
  refine ev_p0V (p' := 116) i_70_113 rfl cl_11_65_0 (by decide) (isW (i := 12) rfl (isN rfl)) (Nat.le_of_ble_eq_true rfl) (s_iBox0 _ (isW (i := 12) rfl (isN rfl))) ?_
  refine ev_aastN (p' := 117) 26 0 i_70_116 rfl (isW (i := 9) rfl (isA (isA (isA (isN rfl))))) (lnW (i := 9) rfl (isA (isA (isA (isN rfl))))) (by omega) (by decide) (isW (i := 12) rfl (isN rfl)) (by decide) trivial ?_
  refine ev_dup (p' := 118) i_70_117 rfl rfl ?_
  refine ev_iconst (p' := 119) (v := nI 3) i_70_118 rfl (by decide) ?_
  refine ev_newW (p' := 122) 1 0 (k := 14) i_70_119 rfl (by decide +kernel) (by decide) rfl rfl rfl (by decide) ?_
  refine ev_dup (p' := 123) i_70_122 rfl rfl ?_
  refine ev_p0V (p' := 126) i_70_123 rfl cl_11_68_1 (by decide) (isW (i := 13) rfl (isN rfl)) (Nat.le_of_ble_eq_true rfl) (s_iFlap1 _ (isW (i := 13) rfl (isN rfl))) ?_
  refine ev_aastN (p' := 127) 26 1 i_70_126 rfl (isW (i := 9) rfl (isA (isA (isA (isA (isN rfl)))))) (lnW (i := 9) rfl (isA (isA (isA (isA (isN rfl)))))) (by omega) (by decide) (isW (i := 13) rfl (isN rfl)) (by decide) trivial ?_
  refine ev_dup (p' := 128) i_70_127 rfl rfl ?_
  refine ev_iconst (p' := 129) (v := nI 4) i_70_128 rfl (by decide) ?_
  refine ev_newW (p' := 132) 5 0 (k := 15) i_70_129 rfl (by decide +kernel) (by decide) rfl rfl rfl (by decide) ?_
  refine ev_dup (p' := 133) i_70_132 rfl rfl ?_
  refine ev_p0V (p' := 136) i_70_133 rfl cl_11_71_5 (by decide) (isW (i := 14) rfl (isN rfl)) (Nat.le_of_ble_eq_true rfl) (s_iStage _ (isW (i := 14) rfl (isN rfl))) ?_
  refine ev_aastN (p' := 137) 26 5 i_70_136 rfl (isW (i := 9) rfl (isA (isA (isA (isA (isA (isN rfl))))))) (lnW (i := 9) rfl (isA (isA (isA (isA (isA (isN rfl))))))) (by omega) (by decide) (isW (i := 14) rfl (isN rfl)) (by decide) trivial ?_
  refine ev_dup (p' := 138) i_70_137 rfl rfl ?_
  refine ev_iconst (p' := 139) (v := nI 5) i_70_138 rfl (by decide) ?_
  refine ev_newW (p' := 142) 10 0 (k := 16) i_70_139 rfl (by decide +kernel) (by decide) rfl rfl rfl (by decide) ?_
  refine ev_dup (p' := 143) i_70_142 rfl rfl ?_
  refine ev_p0V (p' := 146) i_70_143 rfl cl_11_74_10 (by decide) (isW (i := 15) rfl (isN rfl)) (Nat.le_of_ble_eq_true rfl) (s_iWheel _ (isW (i := 15) rfl (isN rfl))) ?_
  refine ev_aastN (p' := 147) 26 10 i_70_146 rfl (isW (i := 9) rfl (isA (isA (isA (isA (isA (isA (isN rfl)))))))) (lnW (i := 9) rfl (isA (isA (isA (isA (isA (isA (isN rfl)))))))) (by omega) (by decide) (isW (i := 15) rfl (isN rfl)) (by decide) trivial ?_
  refine ev_astore_n (p' := 148) (ls' := [_, _, _]) i_70_147 rfl rfl (by decide) rfl ?_
  refine kk _ _ _ ?_ ?_
  · exact ⟨⟨by simp [pm_u, pm_z, (z2.1 1 (by decide)).2.2, (z1.1 1 (by decide)).2.2], by simp [pm_u, pm_z, (z2.1 1 (by decide)).2.2, (z1.1 1 (by decide)).2.2], by simp [pm_u, pm_z, (z2.1 1 (by decide)).2.2, (z1.1 1 (by decide)).2.2], by simp [pm_u, pm_z, (z2.1 1 (by decide)).2.2, (z1.1 1 (by decide)).2.2], by simp [pm_u, pm_z, (z2.1 1 (by decide)).2.2, (z1.1 1 (by decide)).2.2], by simp [pm_u, pm_z, (z2.1 1 (by decide)).2.2, (z1.1 1 (by decide)).2.2], by simp [pm_u, pm_z, (z2.1 4 (by decide)).2.2]; exact z1.2.1, by simp [pm_u, pm_z]; exact z2.2, by simp [pm_u, pm_z], by simp [pm_u, pm_z], by simp [pm_u, pm_z], by simp [pm_u, pm_z], by simp [pm_u, pm_z], by simp [pm_u, pm_z]⟩, ⟨by simp [pm_u, pm_z], by simp [pm_u, pm_z], by simp [pm_u, pm_z], by simp [pm_u, pm_z, (z2.1 4 (by decide)).1]; exact z1.2.2, fun j => by simp [pm_u, pm_z, (z2.1 3 (by decide)).1, (z1.1 3 (by decide)).1]⟩, by simp [pm_u, pm_z], by simp [pm_u, pm_z]⟩
  · intro a ha
    have e : a = 0 := by omega
    subst e
    refine ⟨?_, ?_, ?_⟩
    · funext x; simp [pm_u, pm_z, (z2.1 0 (by decide)).1, (z1.1 0 (by decide)).1]
    · funext x; simp [pm_u, pm_z, (z2.1 0 (by decide)).2.1, (z1.1 0 (by decide)).2.1]
    · funext x; simp [pm_u, pm_z, (z2.1 0 (by decide)).2.2, (z1.1 0 (by decide)).2.2]
set_option maxRecDepth 100000 in
set_option maxHeartbeats 4000000 in
theorem l_bookB {L d : Nat} {E : Option Value → pm_M → Prop} {mi : Nat → Nat → Int32} {ml : Nat → Nat → Int64} {mr : Nat → Nat → Option Nat} {x2 : Option Value} (hK : KF mi ml mr) (hE : ∀ mi' ml' mr', BKF mi' ml' mr' → UP 0 mi mi' ml ml' mr mr' → E none (W0 L bkS, mi', ml', mr')) : Ev gT (pm_ev gT (d + 3)) E q_70 148 [some (.ref 1), some (.ref 10), x2] [] (W0 L (k_sh.tail.take 16), mi, ml, mr) := by
  refine ev_aload_n (p' := 149) i_70_148 rfl rfl ?_
  refine ev_newW (p' := 152) 4 7 (k := 17) i_70_149 rfl (by decide +kernel) (by decide) rfl rfl rfl (by decide) ?_
  refine ev_dup (p' := 153) i_70_152 rfl rfl ?_
  refine ev_aload_n (p' := 154) i_70_153 rfl rfl ?_
  refine ev_mk1 (p' := 157) i_70_154 rfl cl_11_75_4 (by decide) (isW (i := 16) rfl (isN rfl)) (Nat.le_of_ble_eq_true rfl) (s_iSpread (p := 16) rfl (isN rfl) (by decide) _) (fun mi1 ml1 mr1 z1 => ?_)
  refine ev_putr (p' := 160) i_70_157 rfl fl_11_78 rfl (isW (i := 0) rfl (isA (isA (show (k_sh.tail.take 16)[0]? = some (11, 13) from rfl)))) trivial rfl rfl ?_
  have n1 : mr1 1 1 = some 2 := by rw [(z1.1 1 (by decide)).2.2, pm_z_lo (by decide)]; exact hK.1.1
  refine ev_iconst (p' := 161) (v := nI 0) i_70_160 rfl (by decide) ?_
  refine ev_istore_n (p' := 162) (ls' := [_, _, _]) i_70_161 rfl rfl (by decide) rfl ?_
  refine ev_iload_n (p' := 163) i_70_162 rfl rfl ?_
  refine ev_iconst (p' := 164) (v := 2) i_70_163 rfl (by decide) ?_
  refine ev_icmp_ge (p' := 167) (tg := 187) i_70_164 rfl rfl (fun c164 => absurd c164 (by decide)) (fun c164 => ?_)
  refine ev_aload_n (p' := 168) i_70_167 rfl rfl ?_
  refine ev_getr (p' := 171) i_70_168 rfl fl_11_11 rfl (isW (i := 0) rfl (isA (isA (show (k_sh.tail.take 16)[0]? = some (11, 13) from rfl)))) (by rw [pm_u_oth (by decide)]; exact n1) ?_
  refine ev_iload_n (p' := 172) i_70_171 rfl rfl ?_
  refine ev_newW (p' := 175) 4 7 (k := 103) i_70_172 rfl (by decide +kernel) (by decide) rfl rfl rfl (by decide) ?_
  refine ev_dup (p' := 176) i_70_175 rfl rfl ?_
  refine ev_aload_n (p' := 177) i_70_176 rfl rfl ?_
  refine ev_mk1 (p' := 180) i_70_177 rfl cl_11_75_4 (by decide) (isW (i := 102) rfl (isN rfl)) (Nat.le_of_ble_eq_true rfl) (s_iSpread (p := 102) rfl (isN rfl) (by decide) _) (fun mi2 ml2 mr2 z2 => ?_)
  refine ev_aastN (p' := 181) 23 4 i_70_180 rfl (isW (i := 1) rfl (isA (isA (isA (isA (show (k_sh.tail.take 16)[1]? = some (23, 2) from rfl)))))) (lnW (i := 1) rfl (isA (isA (isA (isA (show (k_sh.tail.take 16)[1]? = some (23, 2) from rfl)))))) (by decide) (by decide) (isW (i := 102) rfl (isA (isN rfl))) (by decide) trivial ?_
  refine ev_iinc (p' := 184) (ls' := [_, _, _]) i_70_181 rfl rfl rfl (by decide) (nI_inc _) rfl ?_
  refine ev_goto (tg := 162) i_70_184 rfl ?_
  refine ev_iload_n (p' := 163) i_70_162 rfl rfl ?_
  refine ev_iconst (p' := 164) (v := 2) i_70_163 rfl (by decide) ?_
  refine ev_icmp_ge (p' := 167) (tg := 187) i_70_164 rfl rfl (fun c164 => absurd c164 (by decide)) (fun c164 => ?_)
  refine ev_aload_n (p' := 168) i_70_167 rfl rfl ?_
  refine ev_getr (p' := 171) i_70_168 rfl fl_11_11 rfl (isW (i := 0) rfl (isA (isA (isA (isA (show (k_sh.tail.take 16)[0]? = some (11, 13) from rfl)))))) (by rw [pm_u_ne (by decide), (z2.1 1 (by decide)).2.2, pm_z_lo (by decide), pm_u_oth (by decide)]; exact n1) ?_
  refine ev_iload_n (p' := 172) i_70_171 rfl rfl ?_
  refine ev_newW (p' := 175) 4 7 (k := 189) i_70_172 rfl (by decide +kernel) (by decide) rfl rfl rfl (by decide) ?_
  refine ev_dup (p' := 176) i_70_175 rfl rfl ?_
  refine ev_aload_n (p' := 177) i_70_176 rfl rfl ?_
  refine ev_mk1 (p' := 180) i_70_177 rfl cl_11_75_4 (by decide) (isW (i := 188) rfl (isN rfl)) (Nat.le_of_ble_eq_true rfl) (s_iSpread (p := 188) rfl (isN rfl) (by decide) _) (fun mi3 ml3 mr3 z3 => ?_)
  refine ev_aastN (p' := 181) 23 4 i_70_180 rfl (isW (i := 1) rfl (isA (isA (isA (isA (isA (isA (show (k_sh.tail.take 16)[1]? = some (23, 2) from rfl)))))))) (lnW (i := 1) rfl (isA (isA (isA (isA (isA (isA (show (k_sh.tail.take 16)[1]? = some (23, 2) from rfl)))))))) (by decide) (by decide) (isW (i := 188) rfl (isA (isN rfl))) (by decide) trivial ?_
  refine ev_iinc (p' := 184) (ls' := [_, _, _]) i_70_181 rfl rfl rfl (by decide) (nI_inc _) rfl ?_
  refine ev_goto (tg := 162) i_70_184 rfl ?_
  refine ev_iload_n (p' := 163) i_70_162 rfl rfl ?_
  refine ev_iconst (p' := 164) (v := 2) i_70_163 rfl (by decide) ?_
  refine ev_icmp_ge (p' := 167) (tg := 187) i_70_164 rfl rfl (fun c164 => ?_) (fun c164 => absurd (by decide) c164)
  refine ev_aload_n (p' := 188) i_70_187 rfl rfl ?_
  refine ev_newW (p' := 191) 2 6 (k := 275) i_70_188 rfl (by decide +kernel) (by decide) rfl rfl rfl (by decide) ?_
  refine ev_dup (p' := 192) i_70_191 rfl rfl ?_
  refine ev_aload_n (p' := 193) i_70_192 rfl rfl ?_
  refine ev_mk1 (p' := 196) i_70_193 rfl cl_11_84_2 (by decide) (isW (i := 274) rfl (isN rfl)) (Nat.le_of_ble_eq_true rfl) (s_iPage (p := 274) rfl (isN rfl) (by decide) _) (fun mi4 ml4 mr4 z4 => ?_)
  have eS : ∀ a, 17 ≤ a → a ≤ 102 → mi4 a = mi1 a ∧ mr4 a = mr1 a := fun a h1 h2 => ⟨by rw [(z4.1 a (by omega)).1, pm_z_lo (by omega), (z3.1 a (by omega)).1, pm_z_lo (by omega), (z2.1 a (by omega)).1, pm_z_lo (by omega)], by rw [(z4.1 a (by omega)).2.2, pm_z_lo (by omega), pm_u_ne (by omega), (z3.1 a (by omega)).2.2, pm_z_lo (by omega), pm_u_ne (by omega), (z2.1 a (by omega)).2.2, pm_z_lo (by omega), pm_u_ne (by omega)]⟩
  have eS2 : ∀ a, 103 ≤ a → a ≤ 188 → mi4 a = mi2 a ∧ mr4 a = mr2 a := fun a h1 h2 => ⟨by rw [(z4.1 a (by omega)).1, pm_z_lo (by omega), (z3.1 a (by omega)).1, pm_z_lo (by omega)], by rw [(z4.1 a (by omega)).2.2, pm_z_lo (by omega), pm_u_ne (by omega), (z3.1 a (by omega)).2.2, pm_z_lo (by omega), pm_u_ne (by omega)]⟩
  have eS3 : ∀ a, 189 ≤ a → a ≤ 274 → mi4 a = mi3 a ∧ mr4 a = mr3 a := fun a h1 h2 => ⟨by rw [(z4.1 a (by omega)).1, pm_z_lo (by omega)], by rw [(z4.1 a (by omega)).2.2, pm_z_lo (by omega), pm_u_ne (by omega)]⟩
  have eL : ∀ a, a ≤ 16 → mi4 a = mi a ∧ ml4 a = ml a := fun a h => ⟨by rw [(z4.1 a (by omega)).1, pm_z_lo (by omega), (z3.1 a (by omega)).1, pm_z_lo (by omega), (z2.1 a (by omega)).1, pm_z_lo (by omega), (z1.1 a (by omega)).1, pm_z_lo (by omega)], by rw [(z4.1 a (by omega)).2.1, pm_z_lo (by omega), (z3.1 a (by omega)).2.1, pm_z_lo (by omega), (z2.1 a (by omega)).2.1, pm_z_lo (by omega), (z1.1 a (by omega)).2.1, pm_z_lo (by omega)]⟩
  have eR : ∀ a, a ≤ 16 → a ≠ 1 → a ≠ 2 → mr4 a = mr a := fun a h h1 h2 => by rw [(z4.1 a (by omega)).2.2, pm_z_lo (by omega), pm_u_ne h2, (z3.1 a (by omega)).2.2, pm_z_lo (by omega), pm_u_ne h2, (z2.1 a (by omega)).2.2, pm_z_lo (by omega), pm_u_ne h1, (z1.1 a (by omega)).2.2, pm_z_lo (by omega)]
  have e1 : ∀ j, mr4 1 j = pm_u mr1 1 0 (some (16 + 1)) 1 j := fun j => by rw [(z4.1 1 (by omega)).2.2, pm_z_lo (by omega), pm_u_ne (by omega), (z3.1 1 (by omega)).2.2, pm_z_lo (by omega), pm_u_ne (by omega), (z2.1 1 (by omega)).2.2, pm_z_lo (by omega)]
  have e11 : ∀ j, j ≠ 0 → mr4 1 j = mr 1 j := fun j hj => by rw [e1, pm_u_oth hj, (z1.1 1 (by omega)).2.2, pm_z_lo (by omega)]
  refine ev_putr (p' := 199) i_70_196 rfl fl_11_85 rfl (isW (i := 0) rfl (isA (isA (isA (isA (isA (isA (isA (isA (show (k_sh.tail.take 16)[0]? = some (11, 13) from rfl)))))))))) trivial rfl rfl ?_
  exact ev_ret i_70_199 rfl (hE _ _ _ ⟨hK.fr eL (fun a h h1 h2 => by rw [pm_u_ne h1]; exact eR a h h1 h2) (fun j h1 h2 => by rw [pm_u_oth h2]; exact e11 j h1), ⟨by rw [pm_u_oth (by decide), e1]; exact pm_u_self, pm_u_self, by rw [pm_u_ne (by decide), (z4.1 2 (by omega)).2.2, pm_z_lo (by omega), pm_u_oth (by decide), (z3.1 2 (by omega)).2.2, pm_z_lo (by omega)]; exact pm_u_self, by rw [pm_u_ne (by decide), (z4.1 2 (by omega)).2.2, pm_z_lo (by omega)]; exact pm_u_self⟩, z1.2.fr (fun a h1 h2 => ⟨(eS a (by omega) (by omega)).1, by rw [pm_u_ne (by omega)]; exact (eS a (by omega) (by omega)).2⟩), z2.2.fr (fun a h1 h2 => ⟨(eS2 a (by omega) (by omega)).1, by rw [pm_u_ne (by omega)]; exact (eS2 a (by omega) (by omega)).2⟩), z3.2.fr (fun a h1 h2 => ⟨(eS3 a (by omega) (by omega)).1, by rw [pm_u_ne (by omega)]; exact (eS3 a (by omega) (by omega)).2⟩), z4.2.fr rfl (pm_u_ne (by decide)) (pm_u_ne (by decide))⟩ (fun a ha => ⟨(eL a (by omega)).1, (eL a (by omega)).2, by rw [pm_u_ne (by omega)]; exact eR a (by omega) (by omega) (by omega)⟩))
theorem s_iBook {L : Nat} {mi : Nat → Nat → Int32} {ml : Nat → Nat → Int64} {mr : Nat → Nat → Option Nat} (d : Nat) : ∃ mi' ml' mr', pm_ev gT (d + 4) 70 [.ref 1] (W0 L [(11, 13)], mi, ml, mr) none (W0 L bkS, mi', ml', mr') ∧ (BKF mi' ml' mr' ∧ UP 0 mi mi' ml ml' mr mr') := by
  obtain ⟨_x, m', ⟨h1, mi1, ml1, mr1, h2, h3⟩, h5⟩ := ev_some (E := fun _x m => _x = none ∧ ∃ mi' ml' mr', m = (W0 L bkS, mi', ml', mr') ∧ (BKF mi' ml' mr' ∧ UP 0 mi mi' ml ml' mr mr')) (g := gT) (d := d + 3) (M := 70) (args := [.ref 1]) (mem := (W0 L [(11, 13)], mi, ml, mr)) (q := q_70) rfl (Nat.le_of_ble_eq_true rfl) rfl (by
    exact l_bookA (fun mi1 ml1 mr1 hK hU => l_bookB hK (fun mi2 ml2 mr2 hB hU2 => ⟨rfl, mi2, ml2, mr2, rfl, hB, hU.trans hU2 (Nat.le_refl _)⟩)))
  subst h1 h2
  exact ⟨mi1, ml1, mr1, h5, h3⟩
