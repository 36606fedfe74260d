theorem s_begT {n z : Nat} {sh : Nat → Nat × Nat} {mi : Nat → Nat → Int32} {ml : Nat → Nat → Int64} {mr : Nat → Nat → Option Nat} (d : Nat) (w : Int32) (hi : pm_is ((n, z, sh), mi, ml, mr) 285 12) : pm_ev gT (d + 1) 140 [.ref 285, .int w] ((n, z, sh), mi, ml, mr) none ((n, z, sh), rn6 mi w, ml, mr) := by
  refine ev_enter (q := q_140) rfl (Nat.le_of_ble_eq_true rfl) rfl ?_
  refine ev_aload_n (p' := 1) i_140_0 rfl rfl ?_
  refine ev_iconst (p' := 2) (v := 0) i_140_1 rfl (by decide) ?_
  refine ev_puti (p' := 5) i_140_2 rfl fl_12_96 rfl hi trivial rfl ?_
  refine ev_aload_n (p' := 6) i_140_5 rfl rfl ?_
  refine ev_iconst (p' := 7) (v := 0) i_140_6 rfl (by decide) ?_
  refine ev_puti (p' := 10) i_140_7 rfl fl_12_100 rfl hi trivial rfl ?_
  refine ev_aload_n (p' := 11) i_140_10 rfl rfl ?_
  refine ev_iload_n (p' := 12) i_140_11 rfl rfl ?_
  refine ev_puti (p' := 15) i_140_12 rfl fl_12_103 rfl hi trivial rfl ?_
  refine ev_aload_n (p' := 16) i_140_15 rfl rfl ?_
  refine ev_iconst (p' := 17) (v := 0) i_140_16 rfl (by decide) ?_
  refine ev_puti (p' := 20) i_140_17 rfl fl_12_106 rfl hi trivial rfl ?_
  refine ev_aload_n (p' := 21) i_140_20 rfl rfl ?_
  refine ev_iconst (p' := 22) (v := 0) i_140_21 rfl (by decide) ?_
  refine ev_puti (p' := 25) i_140_22 rfl fl_12_109 rfl hi trivial rfl ?_
  refine ev_aload_n (p' := 26) i_140_25 rfl rfl ?_
  refine ev_iconst (p' := 27) (v := 0) i_140_26 rfl (by decide) ?_
  refine ev_puti (p' := 30) i_140_27 rfl fl_12_112 rfl hi trivial rfl ?_
  exact ev_ret i_140_30 rfl ⟨rfl, rfl⟩
/-- the cells of the reference -/
def MDF (mi : Nat → Nat → Int32) (ml : Nat → Nat → Int64) (mr : Nat → Nat → Option Nat) : Prop := (mr 285 0 = some 286 ∧ mr 285 6 = some 287 ∧ mr 285 7 = some 288 ∧ mr 285 8 = some 289 ∧ mr 285 9 = some 290 ∧ mr 285 10 = some 291 ∧ mr 285 11 = some 292 ∧ mr 285 12 = some 293 ∧ mr 285 13 = some 294 ∧ mr 285 14 = some 295 ∧ mr 285 15 = some 296 ∧ mr 285 16 = some 297 ∧ mr 285 20 = some 298 ∧ mr 285 21 = some 299 ∧ mr 285 23 = some 300 ∧ mr 285 24 = some 301 ∧ mr 285 26 = some 302 ∧ mr 285 27 = some 303 ∧ mr 285 28 = some 304 ∧ mr 285 29 = some 305 ∧ mr 285 30 = some 306 ∧ mr 285 32 = some 307 ∧ mr 285 33 = some 308 ∧ mr 285 34 = some 309 ∧ mr 285 37 = some 310 ∧ mr 285 38 = some 311) ∧ (mi 285 1 = 0 ∧ mi 285 2 = 0 ∧ mi 285 3 = 20 ∧ mi 285 4 = 0 ∧ mi 285 5 = 0 ∧ mi 285 25 = 0 ∧ mi 285 17 = 0 ∧ mi 285 22 = 0) ∧ (∀ j, mi 311 j = 0 ∧ mi 286 j = 0) ∧ ml 285 35 = 0 ∧ ml 285 36 = 1
def mdS : List (Nat × Nat) := k_sh.tail.drop 285
set_option maxRecDepth 100000 in
set_option maxHeartbeats 8000000 in
theorem s_iModel {L : Nat} {shl : List (Nat × Nat)} {mi : Nat → Nat → Int32} {ml : Nat → Nat → Int64} {mr : Nat → Nat → Option Nat} (d : Nat) (hl : shl.length = 285) (hP : shl[284]? = some (12, 40)) (h17 : mi 285 17 = 0) (h22 : mi 285 22 = 0) (h35 : ml 285 35 = 0) : ∃ mi' ml' mr', pm_ev gT (d + 2) 139 [.ref 285] (W0 L shl, mi, ml, mr) none (W0 L (shl ++ mdS), mi', ml', mr') ∧ (MDF mi' ml' mr' ∧ UP 284 mi mi' ml ml' mr mr') := by
  have hchain : shl ++ [(20, 3)] ++ [(20, 7)] ++ [(20, 7)] ++ [(20, 7)] ++ [(20, 7)] ++ [(20, 7)] ++ [(20, 7)] ++ [(20, 7)] ++ [(20, 30)] ++ [(20, 6)] ++ [(20, 6)] ++ [(20, 150)] ++ [(20, 5)] ++ [(20, 420)] ++ [(20, 7)] ++ [(20, 312)] ++ [(20, 52)] ++ [(20, 7)] ++ [(20, 13)] ++ [(20, 40)] ++ [(20, 40)] ++ [(20, 8192)] ++ [(20, 13)] ++ [(20, 13)] ++ [(20, 840)] ++ [(20, 2)] = shl ++ mdS := by
    simp only [List.append_assoc]
    rfl
  obtain ⟨_x, m', ⟨h1, mi1, ml1, mr1, h2, h3⟩, h5⟩ := ev_some (E := fun _x m => _x = none ∧ ∃ mi' ml' mr', m = (W0 L (shl ++ mdS), mi', ml', mr') ∧ (MDF mi' ml' mr' ∧ UP 284 mi mi' ml ml' mr mr')) (g := gT) (d := d + 1) (M := 139) (args := [.ref 285]) (mem := (W0 L shl, mi, ml, mr)) (q := q_139) rfl (Nat.le_of_ble_eq_true rfl) rfl (by
    refine ev_aload_n (p' := 1) i_139_0 rfl rfl ?_
    refine ev_objInit (p' := 4) i_139_1 rfl cl_12_7_0 (Nat.le_of_ble_eq_true rfl) ?_
    refine ev_aload_n (p' := 5) i_139_4 rfl rfl ?_
    refine ev_iconst (p' := 6) (v := nI 3) i_139_5 rfl (by decide) ?_
    refine ev_newaW (p' := 8) 20 3 (k := 286) i_139_6 rfl rfl (by decide) (by (try simp only [List.length_append, List.length_cons, List.length_nil]); omega) rfl (by decide) ?_
    refine ev_putr (p' := 11) i_139_8 rfl fl_12_1 rfl (isW (i := 284) rfl (isA hP)) trivial rfl rfl ?_
    refine ev_aload_n (p' := 12) i_139_11 rfl rfl ?_
    refine ev_bipush (p' := 14) (v := nI 7) i_139_12 rfl (by decide) ?_
    refine ev_newaW (p' := 16) 20 7 (k := 287) i_139_14 rfl rfl (by decide) (by (try simp only [List.length_append, List.length_cons, List.length_nil]); omega) rfl (by decide) ?_
    refine ev_putr (p' := 19) i_139_16 rfl fl_12_13 rfl (isW (i := 284) rfl (isA (isA hP))) trivial rfl rfl ?_
    refine ev_aload_n (p' := 20) i_139_19 rfl rfl ?_
    refine ev_bipush (p' := 22) (v := nI 7) i_139_20 rfl (by decide) ?_
    refine ev_newaW (p' := 24) 20 7 (k := 288) i_139_22 rfl rfl (by decide) (by (try simp only [List.length_append, List.length_cons, List.length_nil]); omega) rfl (by decide) ?_
    refine ev_putr (p' := 27) i_139_24 rfl fl_12_16 rfl (isW (i := 284) rfl (isA (isA (isA hP)))) trivial rfl rfl ?_
    refine ev_aload_n (p' := 28) i_139_27 rfl rfl ?_
    refine ev_bipush (p' := 30) (v := nI 7) i_139_28 rfl (by decide) ?_
    refine ev_newaW (p' := 32) 20 7 (k := 289) i_139_30 rfl rfl (by decide) (by (try simp only [List.length_append, List.length_cons, List.length_nil]); omega) rfl (by decide) ?_
    refine ev_putr (p' := 35) i_139_32 rfl fl_12_19 rfl (isW (i := 284) rfl (isA (isA (isA (isA hP))))) trivial rfl rfl ?_
    refine ev_aload_n (p' := 36) i_139_35 rfl rfl ?_
    refine ev_bipush (p' := 38) (v := nI 7) i_139_36 rfl (by decide) ?_
    refine ev_newaW (p' := 40) 20 7 (k := 290) i_139_38 rfl rfl (by decide) (by (try simp only [List.length_append, List.length_cons, List.length_nil]); omega) rfl (by decide) ?_
    refine ev_putr (p' := 43) i_139_40 rfl fl_12_22 rfl (isW (i := 284) rfl (isA (isA (isA (isA (isA hP)))))) trivial rfl rfl ?_
    refine ev_aload_n (p' := 44) i_139_43 rfl rfl ?_
    refine ev_bipush (p' := 46) (v := nI 7) i_139_44 rfl (by decide) ?_
    refine ev_newaW (p' := 48) 20 7 (k := 291) i_139_46 rfl rfl (by decide) (by (try simp only [List.length_append, List.length_cons, List.length_nil]); omega) rfl (by decide) ?_
    refine ev_putr (p' := 51) i_139_48 rfl fl_12_25 rfl (isW (i := 284) rfl (isA (isA (isA (isA (isA (isA hP))))))) trivial rfl rfl ?_
    refine ev_aload_n (p' := 52) i_139_51 rfl rfl ?_
    refine ev_bipush (p' := 54) (v := nI 7) i_139_52 rfl (by decide) ?_
    refine ev_newaW (p' := 56) 20 7 (k := 292) i_139_54 rfl rfl (by decide) (by (try simp only [List.length_append, List.length_cons, List.length_nil]); omega) rfl (by decide) ?_
    refine ev_putr (p' := 59) i_139_56 rfl fl_12_28 rfl (isW (i := 284) rfl (isA (isA (isA (isA (isA (isA (isA hP)))))))) trivial rfl rfl ?_
    refine ev_aload_n (p' := 60) i_139_59 rfl rfl ?_
    refine ev_bipush (p' := 62) (v := nI 7) i_139_60 rfl (by decide) ?_
    refine ev_newaW (p' := 64) 20 7 (k := 293) i_139_62 rfl rfl (by decide) (by (try simp only [List.length_append, List.length_cons, List.length_nil]); omega) rfl (by decide) ?_
    refine ev_putr (p' := 67) i_139_64 rfl fl_12_31 rfl (isW (i := 284) rfl (isA (isA (isA (isA (isA (isA (isA (isA hP))))))))) trivial rfl rfl ?_
    refine ev_aload_n (p' := 68) i_139_67 rfl rfl ?_
    refine ev_bipush (p' := 70) (v := nI 30) i_139_68 rfl (by decide) ?_
    refine ev_newaW (p' := 72) 20 30 (k := 294) i_139_70 rfl rfl (by decide) (by (try simp only [List.length_append, List.length_cons, List.length_nil]); omega) rfl (by decide) ?_
    refine ev_putr (p' := 75) i_139_72 rfl fl_12_34 rfl (isW (i := 284) rfl (isA (isA (isA (isA (isA (isA (isA (isA (isA hP)))))))))) trivial rfl rfl ?_
    refine ev_aload_n (p' := 76) i_139_75 rfl rfl ?_
    refine ev_bipush (p' := 78) (v := nI 6) i_139_76 rfl (by decide) ?_
    refine ev_newaW (p' := 80) 20 6 (k := 295) i_139_78 rfl rfl (by decide) (by (try simp only [List.length_append, List.length_cons, List.length_nil]); omega) rfl (by decide) ?_
    refine ev_putr (p' := 83) i_139_80 rfl fl_12_37 rfl (isW (i := 284) rfl (isA (isA (isA (isA (isA (isA (isA (isA (isA (isA hP))))))))))) trivial rfl rfl ?_
    refine ev_aload_n (p' := 84) i_139_83 rfl rfl ?_
    refine ev_bipush (p' := 86) (v := nI 6) i_139_84 rfl (by decide) ?_
    refine ev_newaW (p' := 88) 20 6 (k := 296) i_139_86 rfl rfl (by decide) (by (try simp only [List.length_append, List.length_cons, List.length_nil]); omega) rfl (by decide) ?_
    refine ev_putr (p' := 91) i_139_88 rfl fl_12_40 rfl (isW (i := 284) rfl (isA (isA (isA (isA (isA (isA (isA (isA (isA (isA (isA hP)))))))))))) trivial rfl rfl ?_
    refine ev_aload_n (p' := 92) i_139_91 rfl rfl ?_
    refine ev_sipush (p' := 95) (v := nI 150) i_139_92 rfl (by decide) ?_
    refine ev_newaW (p' := 97) 20 150 (k := 297) i_139_95 rfl rfl (by decide) (by (try simp only [List.length_append, List.length_cons, List.length_nil]); omega) rfl (by decide) ?_
    refine ev_putr (p' := 100) i_139_97 rfl fl_12_43 rfl (isW (i := 284) rfl (isA (isA (isA (isA (isA (isA (isA (isA (isA (isA (isA (isA hP))))))))))))) trivial rfl rfl ?_
    refine ev_aload_n (p' := 101) i_139_100 rfl rfl ?_
    refine ev_iconst (p' := 102) (v := nI 5) i_139_101 rfl (by decide) ?_
    refine ev_newaW (p' := 104) 20 5 (k := 298) i_139_102 rfl rfl (by decide) (by (try simp only [List.length_append, List.length_cons, List.length_nil]); omega) rfl (by decide) ?_
    refine ev_putr (p' := 107) i_139_104 rfl fl_12_46 rfl (isW (i := 284) rfl (isA (isA (isA (isA (isA (isA (isA (isA (isA (isA (isA (isA (isA hP)))))))))))))) trivial rfl rfl ?_
    refine ev_aload_n (p' := 108) i_139_107 rfl rfl ?_
    refine ev_sipush (p' := 111) (v := nI 420) i_139_108 rfl (by decide) ?_
    refine ev_newaW (p' := 113) 20 420 (k := 299) i_139_111 rfl rfl (by decide) (by (try simp only [List.length_append, List.length_cons, List.length_nil]); omega) rfl (by decide) ?_
    refine ev_putr (p' := 116) i_139_113 rfl fl_12_49 rfl (isW (i := 284) rfl (isA (isA (isA (isA (isA (isA (isA (isA (isA (isA (isA (isA (isA (isA hP))))))))))))))) trivial rfl rfl ?_
    refine ev_aload_n (p' := 117) i_139_116 rfl rfl ?_
    refine ev_bipush (p' := 119) (v := nI 7) i_139_117 rfl (by decide) ?_
    refine ev_newaW (p' := 121) 20 7 (k := 300) i_139_119 rfl rfl (by decide) (by (try simp only [List.length_append, List.length_cons, List.length_nil]); omega) rfl (by decide) ?_
    refine ev_putr (p' := 124) i_139_121 rfl fl_12_52 rfl (isW (i := 284) rfl (isA (isA (isA (isA (isA (isA (isA (isA (isA (isA (isA (isA (isA (isA (isA hP)))))))))))))))) trivial rfl rfl ?_
    refine ev_aload_n (p' := 125) i_139_124 rfl rfl ?_
    refine ev_sipush (p' := 128) (v := nI 312) i_139_125 rfl (by decide) ?_
    refine ev_newaW (p' := 130) 20 312 (k := 301) i_139_128 rfl rfl (by decide) (by (try simp only [List.length_append, List.length_cons, List.length_nil]); omega) rfl (by decide) ?_
    refine ev_putr (p' := 133) i_139_130 rfl fl_12_55 rfl (isW (i := 284) rfl (isA (isA (isA (isA (isA (isA (isA (isA (isA (isA (isA (isA (isA (isA (isA (isA hP))))))))))))))))) trivial rfl rfl ?_
    refine ev_aload_n (p' := 134) i_139_133 rfl rfl ?_
    refine ev_bipush (p' := 136) (v := nI 52) i_139_134 rfl (by decide) ?_
    refine ev_newaW (p' := 138) 20 52 (k := 302) i_139_136 rfl rfl (by decide) (by (try simp only [List.length_append, List.length_cons, List.length_nil]); omega) rfl (by decide) ?_
    refine ev_putr (p' := 141) i_139_138 rfl fl_12_58 rfl (isW (i := 284) rfl (isA (isA (isA (isA (isA (isA (isA (isA (isA (isA (isA (isA (isA (isA (isA (isA (isA hP)))))))))))))))))) trivial rfl rfl ?_
    refine ev_aload_n (p' := 142) i_139_141 rfl rfl ?_
    refine ev_bipush (p' := 144) (v := nI 7) i_139_142 rfl (by decide) ?_
    refine ev_newaW (p' := 146) 20 7 (k := 303) i_139_144 rfl rfl (by decide) (by (try simp only [List.length_append, List.length_cons, List.length_nil]); omega) rfl (by decide) ?_
    refine ev_putr (p' := 149) i_139_146 rfl fl_12_61 rfl (isW (i := 284) rfl (isA (isA (isA (isA (isA (isA (isA (isA (isA (isA (isA (isA (isA (isA (isA (isA (isA (isA hP))))))))))))))))))) trivial rfl rfl ?_
    refine ev_aload_n (p' := 150) i_139_149 rfl rfl ?_
    refine ev_bipush (p' := 152) (v := nI 13) i_139_150 rfl (by decide) ?_
    refine ev_newaW (p' := 154) 20 13 (k := 304) i_139_152 rfl rfl (by decide) (by (try simp only [List.length_append, List.length_cons, List.length_nil]); omega) rfl (by decide) ?_
    refine ev_putr (p' := 157) i_139_154 rfl fl_12_64 rfl (isW (i := 284) rfl (isA (isA (isA (isA (isA (isA (isA (isA (isA (isA (isA (isA (isA (isA (isA (isA (isA (isA (isA hP)))))))))))))))))))) trivial rfl rfl ?_
    refine ev_aload_n (p' := 158) i_139_157 rfl rfl ?_
    refine ev_bipush (p' := 160) (v := nI 40) i_139_158 rfl (by decide) ?_
    refine ev_newaW (p' := 162) 20 40 (k := 305) i_139_160 rfl rfl (by decide) (by (try simp only [List.length_append, List.length_cons, List.length_nil]); omega) rfl (by decide) ?_
    refine ev_putr (p' := 165) i_139_162 rfl fl_12_67 rfl (isW (i := 284) rfl (isA (isA (isA (isA (isA (isA (isA (isA (isA (isA (isA (isA (isA (isA (isA (isA (isA (isA (isA (isA hP))))))))))))))))))))) trivial rfl rfl ?_
    refine ev_aload_n (p' := 166) i_139_165 rfl rfl ?_
    refine ev_bipush (p' := 168) (v := nI 40) i_139_166 rfl (by decide) ?_
    refine ev_newaW (p' := 170) 20 40 (k := 306) i_139_168 rfl rfl (by decide) (by (try simp only [List.length_append, List.length_cons, List.length_nil]); omega) rfl (by decide) ?_
    refine ev_putr (p' := 173) i_139_170 rfl fl_12_70 rfl (isW (i := 284) rfl (isA (isA (isA (isA (isA (isA (isA (isA (isA (isA (isA (isA (isA (isA (isA (isA (isA (isA (isA (isA (isA hP)))))))))))))))))))))) trivial rfl rfl ?_
    refine ev_aload_n (p' := 174) i_139_173 rfl rfl ?_
    refine ev_sipush (p' := 177) (v := nI 8192) i_139_174 rfl (by decide) ?_
    refine ev_newaW (p' := 179) 20 8192 (k := 307) i_139_177 rfl rfl (by decide) (by (try simp only [List.length_append, List.length_cons, List.length_nil]); omega) rfl (by decide) ?_
    refine ev_putr (p' := 182) i_139_179 rfl fl_12_73 rfl (isW (i := 284) rfl (isA (isA (isA (isA (isA (isA (isA (isA (isA (isA (isA (isA (isA (isA (isA (isA (isA (isA (isA (isA (isA (isA hP))))))))))))))))))))))) trivial rfl rfl ?_
    refine ev_aload_n (p' := 183) i_139_182 rfl rfl ?_
    refine ev_bipush (p' := 185) (v := nI 13) i_139_183 rfl (by decide) ?_
    refine ev_newaW (p' := 187) 20 13 (k := 308) i_139_185 rfl rfl (by decide) (by (try simp only [List.length_append, List.length_cons, List.length_nil]); omega) rfl (by decide) ?_
    refine ev_putr (p' := 190) i_139_187 rfl fl_12_76 rfl (isW (i := 284) rfl (isA (isA (isA (isA (isA (isA (isA (isA (isA (isA (isA (isA (isA (isA (isA (isA (isA (isA (isA (isA (isA (isA (isA hP)))))))))))))))))))))))) trivial rfl rfl ?_
    refine ev_aload_n (p' := 191) i_139_190 rfl rfl ?_
    refine ev_bipush (p' := 193) (v := nI 13) i_139_191 rfl (by decide) ?_
    refine ev_newaW (p' := 195) 20 13 (k := 309) i_139_193 rfl rfl (by decide) (by (try simp only [List.length_append, List.length_cons, List.length_nil]); omega) rfl (by decide) ?_
    refine ev_putr (p' := 198) i_139_195 rfl fl_12_79 rfl (isW (i := 284) rfl (isA (isA (isA (isA (isA (isA (isA (isA (isA (isA (isA (isA (isA (isA (isA (isA (isA (isA (isA (isA (isA (isA (isA (isA hP))))))))))))))))))))))))) trivial rfl rfl ?_
    refine ev_aload_n (p' := 199) i_139_198 rfl rfl ?_
    refine ev_lconst (p' := 200) (v := 1) i_139_199 rfl (by decide) ?_
    refine ev_putl (p' := 203) i_139_200 rfl fl_12_82 rfl (isW (i := 284) rfl (isA (isA (isA (isA (isA (isA (isA (isA (isA (isA (isA (isA (isA (isA (isA (isA (isA (isA (isA (isA (isA (isA (isA (isA hP))))))))))))))))))))))))) trivial rfl ?_
    refine ev_aload_n (p' := 204) i_139_203 rfl rfl ?_
    refine ev_sipush (p' := 207) (v := nI 840) i_139_204 rfl (by decide) ?_
    refine ev_newaW (p' := 209) 20 840 (k := 310) i_139_207 rfl rfl (by decide) (by (try simp only [List.length_append, List.length_cons, List.length_nil]); omega) rfl (by decide) ?_
    refine ev_putr (p' := 212) i_139_209 rfl fl_12_86 rfl (isW (i := 284) rfl (isA (isA (isA (isA (isA (isA (isA (isA (isA (isA (isA (isA (isA (isA (isA (isA (isA (isA (isA (isA (isA (isA (isA (isA (isA hP)))))))))))))))))))))))))) trivial rfl rfl ?_
    refine ev_aload_n (p' := 213) i_139_212 rfl rfl ?_
    refine ev_iconst (p' := 214) (v := nI 2) i_139_213 rfl (by decide) ?_
    refine ev_newaW (p' := 216) 20 2 (k := 311) i_139_214 rfl rfl (by decide) (by (try simp only [List.length_append, List.length_cons, List.length_nil]); omega) rfl (by decide) ?_
    refine ev_putr (p' := 219) i_139_216 rfl fl_12_89 rfl (isW (i := 284) rfl (isA (isA (isA (isA (isA (isA (isA (isA (isA (isA (isA (isA (isA (isA (isA (isA (isA (isA (isA (isA (isA (isA (isA (isA (isA (isA hP))))))))))))))))))))))))))) trivial rfl rfl ?_
    refine ev_aload_n (p' := 220) i_139_219 rfl rfl ?_
    refine ev_bipush (p' := 222) (v := 20) i_139_220 rfl (by decide) ?_
    refine ev_v1V (p' := 225) i_139_222 rfl cl_12_92_12 (by decide) (isW (i := 284) rfl (isA (isA (isA (isA (isA (isA (isA (isA (isA (isA (isA (isA (isA (isA (isA (isA (isA (isA (isA (isA (isA (isA (isA (isA (isA (isA hP))))))))))))))))))))))))))) (Nat.le_of_ble_eq_true rfl) (s_begT _ _ (isW (i := 284) rfl (isA (isA (isA (isA (isA (isA (isA (isA (isA (isA (isA (isA (isA (isA (isA (isA (isA (isA (isA (isA (isA (isA (isA (isA (isA (isA hP)))))))))))))))))))))))))))) ?_
    exact ev_ret i_139_225 rfl (by
      refine ⟨rfl, _, _, _, by rw [hchain], ?_, ?_⟩
      · exact ⟨⟨by simp [pm_u, pm_z], by simp [pm_u, pm_z], by simp [pm_u, pm_z], by simp [pm_u, pm_z], by simp [pm_u, pm_z], by simp [pm_u, pm_z], by simp [pm_u, pm_z], by simp [pm_u, pm_z], by simp [pm_u, pm_z], by simp [pm_u, pm_z], by simp [pm_u, pm_z], by simp [pm_u, pm_z], by simp [pm_u, pm_z], by simp [pm_u, pm_z], by simp [pm_u, pm_z], by simp [pm_u, pm_z], by simp [pm_u, pm_z], by simp [pm_u, pm_z], by simp [pm_u, pm_z], by simp [pm_u, pm_z], by simp [pm_u, pm_z], by simp [pm_u, pm_z], by simp [pm_u, pm_z], by simp [pm_u, pm_z], by simp [pm_u, pm_z], by simp [pm_u, pm_z]⟩, ⟨by simp [rn6, pm_u], by simp [rn6, pm_u], by simp [rn6, pm_u], by simp [rn6, pm_u], by simp [rn6, pm_u], by simp [rn6, pm_u], (by simp [rn6, pm_u, pm_z]; exact h17), (by simp [rn6, pm_u, pm_z]; exact h22)⟩, fun j => ⟨by simp [rn6, pm_u, pm_z], by simp [rn6, pm_u, pm_z]⟩, (by simp [pm_u, pm_z]; exact h35), by simp [pm_u, pm_z]⟩
      · intro a ha
        refine ⟨?_, ?_, ?_⟩
        · unfold rn6
          simp only [pm_u_ne (show a ≠ 285 by omega)]
          repeat rw [pm_z_lo (by omega)]
        · repeat (first | rw [pm_u_ne (by omega)] | rw [pm_z_lo (by omega)])
        · repeat (first | rw [pm_u_ne (by omega)] | rw [pm_z_lo (by omega)])))
  subst h1 h2
  exact ⟨mi1, ml1, mr1, h5, h3⟩
