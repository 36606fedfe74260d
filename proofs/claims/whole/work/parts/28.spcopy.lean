/-! ===== a spread as another; a piece glued ===== -/
theorem pm_cpy_ne {f : Nat → Nat → Int32} {a sp b dp n k : Nat} (h : k ≠ b) : pm_cpy f a sp b dp n k = f k := by
  funext i
  unfold pm_cpy
  rw [if_neg (fun z => h z.1)]
theorem pm_cpy_in {f : Nat → Nat → Int32} {a b n i : Nat} (h : i < n) : pm_cpy f a 0 b 0 n b i = f a i := by
  unfold pm_cpy
  rw [if_pos (by omega)]
  congr 1
  omega
/-- in copyFrom: what holds when the pages up to i, of notes i1, of stood ones i2 are there -/
def SI (π : Nat → Nat → Nat) (mi0 mi : Nat → Nat → Int32) (S T : Nat) (v : SV) (i i1 i2 : Nat) : Prop := CSp π mi T v ∧ CPg mi (S + 16) v.1 ∧ (∀ j, j < i → CPg mi (S + 26 + 10 * π S j) (v.2.1.2 j)) ∧ (∀ k, k < i1 → ∀ j, j < 5 → mi (S + 3 + k) j = v.2.2.1.2 k j) ∧ (∀ k, k < i2 → ∀ j, j < 2 → mi (S + 10 + k) j = v.2.2.2.2 k j) ∧ ∀ a, (a < S ∨ S + 86 ≤ a) → mi a = mi0 a
theorem SI.mono {π : Nat → Nat → Nat} {mi0 mi mi' : Nat → Nat → Int32} {S T i i1 i2 : Nat} {v : SV} (hS : S ∈ k_sp) (hT : T ∈ k_sp) (hST : S ≠ T) {mr : Nat → Nat → Option Nat} (hw : WR π mr) (h : SI π mi0 mi S T v i i1 i2) (hi : i ≤ 6) (x : Int32) (j : Nat) (he : mi' = pm_u mi S j x) : SI π mi0 mi' S T v i i1 i2 := by
  subst he
  have hf := sp_far S hS T hT hST
  obtain ⟨⟨h1, ⟨h2, h3, h4⟩, ⟨h5, h6, h7⟩, ⟨h8, h9, h10⟩⟩, g1, g2, g3, g4, g5⟩ := h
  refine ⟨⟨h1.uo (by omega), ⟨h2, ?_, fun k hk => (h4 k hk).uo (by have := hw.pi hT (show k < 6 by omega); omega)⟩, ⟨h5, ?_, fun k hk l hl => ?_⟩, ⟨h8, ?_, fun k hk l hl => ?_⟩⟩, g1.uo (by omega), fun k hk => (g2 k hk).uo (by omega), fun k hk l hl => ?_, fun k hk l hl => ?_, fun a ha => ?_⟩
  · rw [pm_u_ne (by omega)]; exact h3
  · rw [pm_u_ne (by omega)]; exact h6
  · rw [pm_u_ne (by omega)]; exact h7 k hk l hl
  · rw [pm_u_ne (by omega)]; exact h9
  · rw [pm_u_ne (by omega)]; exact h10 k hk l hl
  · rw [pm_u_ne (by omega)]; exact g3 k hk l hl
  · rw [pm_u_ne (by omega)]; exact g4 k hk l hl
  · rw [pm_u_ne (by omega)]; exact g5 a ha
theorem CSp.out {π : Nat → Nat → Nat} {mi mi' : Nat → Nat → Int32} {T : Nat} {v : SV} {mr : Nat → Nat → Option Nat} (hw : WR π mr) (hT : T ∈ k_sp) (h : CSp π mi T v) (he : ∀ a, T ≤ a → a < T + 86 → mi' a = mi a) : CSp π mi' T v := by
  obtain ⟨h1, ⟨h2, h3, h4⟩, ⟨h5, h6, h7⟩, ⟨h8, h9, h10⟩⟩ := h
  refine ⟨h1.fr (he _ (by omega) (by omega)) (fun i hi => he _ (by omega) (by omega)), ⟨h2, by rw [he _ (by omega) (by omega)]; exact h3, fun k hk => ?_⟩, ⟨h5, by rw [he _ (by omega) (by omega)]; exact h6, fun k hk l hl => by rw [he _ (by omega) (by omega)]; exact h7 k hk l hl⟩, ⟨h8, by rw [he _ (by omega) (by omega)]; exact h9, fun k hk l hl => by rw [he _ (by omega) (by omega)]; exact h10 k hk l hl⟩⟩
  have := hw.pi hT (show k < 6 by omega)
  exact (h4 k hk).fr (he _ (by omega) (by omega)) (fun i hi => he _ (by omega) (by omega))
section SPC
variable {L : Nat} {π : Nat → Nat → Nat} {mi0 : Nat → Nat → Int32} {ml : Nat → Nat → Int64} {mr : Nat → Nat → Option Nat} {d : Nat} {E : Option Value → pm_M → Prop} {S T : Nat} {v : SV}
theorem l_spc3 (hw : WR π mr) (hS : S ∈ k_sp) (hT : T ∈ k_sp) (hST : S ≠ T) (hE : ∀ mi, SI π mi0 mi S T v v.2.1.1 v.2.2.1.1 v.2.2.2.1 → mi S 4 = nI v.2.1.1 → mi S 5 = nI v.2.2.1.1 → mi S 6 = nI v.2.2.2.1 → E none (WW L, mi, ml, mr)) (hv : v.2.2.2.1 ≤ 6) (hu6 : v.2.1.1 ≤ 6) (hn6 : v.2.2.1.1 ≤ 6) : ∀ k i mi, i + k = v.2.2.2.1 → SI π mi0 mi S T v v.2.1.1 v.2.2.1.1 i → mi S 4 = nI v.2.1.1 → mi S 5 = nI v.2.2.1.1 → mi S 6 = nI v.2.2.2.1 → Ev gC (pm_ev gC (d + 2)) E q_38 102 [some (.ref S), some (.ref T), some (.int (nI i))] [] (WW L, mi, ml, mr) := by
  intro k
  induction k with
  | zero =>
    intro i mi hi hI hu hn hs
    have hi : i = v.2.2.2.1 := by omega
    subst hi
    refine ev_iload_n (p' := 103) i_38_102 rfl rfl ?_
    refine ev_aload_n (p' := 104) i_38_103 rfl rfl ?_
    refine ev_geti (p' := 107) i_38_104 rfl fl_4_32 rfl (is_sp hS) ?_
    refine ev_icmp_ge (p' := 110) (tg := 134) i_38_107 rfl rfl (fun c107 => ?_) (fun c107 => absurd ((by rw [hs]; exact nI_le (by omega) (by omega))) c107)
    exact ev_ret i_38_134 rfl (hE mi hI hu hn hs)
  | succ k ih =>
    intro i mi hi hI hu hn hs
    refine ev_iload_n (p' := 103) i_38_102 rfl rfl ?_
    refine ev_aload_n (p' := 104) i_38_103 rfl rfl ?_
    refine ev_geti (p' := 107) i_38_104 rfl fl_4_32 rfl (is_sp hS) ?_
    refine ev_icmp_ge (p' := 110) (tg := 134) i_38_107 rfl rfl (fun c107 => absurd c107 ((by rw [hs]; exact nI_ge (by omega) (by omega)))) (fun c107 => ?_)
    refine ev_aload_n (p' := 111) i_38_110 rfl rfl ?_
    refine ev_getr (p' := 114) i_38_111 rfl fl_4_22 rfl (is_sp hT) (hw.stood hT) ?_
    refine ev_iload_n (p' := 115) i_38_114 rfl rfl ?_
    refine ev_aaldN (p' := 116) 27 i_38_115 rfl (is_so hT) (by decide) (len_so hT) (by omega) (by decide) (hw.stood1 hT (by omega)) ?_
    refine ev_iconst (p' := 117) (v := 0) i_38_116 rfl (by decide) ?_
    refine ev_aload_n (p' := 118) i_38_117 rfl rfl ?_
    refine ev_getr (p' := 121) i_38_118 rfl fl_4_22 rfl (is_sp hS) (hw.stood hS) ?_
    refine ev_iload_n (p' := 122) i_38_121 rfl rfl ?_
    refine ev_aaldN (p' := 123) 27 i_38_122 rfl (is_so hS) (by decide) (len_so hS) (by omega) (by decide) (hw.stood1 hS (by omega)) ?_
    refine ev_iconst (p' := 124) (v := 0) i_38_123 rfl (by decide) ?_
    refine ev_iconst (p' := 125) (v := 2) i_38_124 rfl (by decide) ?_
    refine ev_acopy (p' := 128) i_38_125 rfl cl_4_53_0 (is_sor hT (by omega)) (is_sor hS (by omega)) (by have := (sh_sp S hS).2.2.2.2.2.2.2.2.2; show S + 10 + i ≤ 284; omega) (by decide) (by decide) (by decide) (by rw [len_sor hT (by omega)]; decide) (by rw [len_sor hS (by omega)]; decide) (Nat.le_of_ble_eq_true rfl) ?_
    refine ev_iinc (p' := 131) (ls' := [_, _, _]) i_38_128 rfl rfl rfl (by decide) (nI_inc _) rfl ?_
    refine ev_goto (tg := 102) i_38_131 rfl ?_
    have hf := sp_far S hS T hT hST
    have ho : ∀ a, a ≠ S + 10 + i → pm_cpy mi (T + 10 + i) (0 : Int32).toNatClampNeg (S + 10 + i) (0 : Int32).toNatClampNeg (2 : Int32).toNatClampNeg a = mi a := fun a ha => pm_cpy_ne ha
    refine ih (i + 1) _ (by omega) ?_ (by rw [ho _ (by omega)]; exact hu) (by rw [ho _ (by omega)]; exact hn) (by rw [ho _ (by omega)]; exact hs)
    obtain ⟨h0, g1, g2, g3, g4, g5⟩ := hI
    refine ⟨h0.out hw hT (fun a h1 h2 => ho a (by omega)), g1.fr (ho _ (by omega)) (fun k hk => ho _ (by omega)), fun k hk => (g2 k hk).fr (ho _ (by omega)) (fun l hl => ho _ (by omega)), fun k hk l hl => ?_, fun k hk l hl => ?_, fun a ha => ?_⟩
    · rw [ho _ (by omega)]; exact g3 k hk l hl
    · by_cases hki : k = i
      · subst hki
        rw [show (0 : Int32).toNatClampNeg = 0 from rfl, show (2 : Int32).toNatClampNeg = 2 from rfl, pm_cpy_in hl]
        exact h0.2.2.2.2.2 k (by omega) l hl
      · rw [ho _ (by omega)]; exact g4 k (by omega) l hl
    · rw [ho _ (by omega)]; exact g5 a ha
theorem l_spc2 (hw : WR π mr) (hS : S ∈ k_sp) (hT : T ∈ k_sp) (hST : S ≠ T) (hE : ∀ mi, SI π mi0 mi S T v v.2.1.1 v.2.2.1.1 v.2.2.2.1 → mi S 4 = nI v.2.1.1 → mi S 5 = nI v.2.2.1.1 → mi S 6 = nI v.2.2.2.1 → E none (WW L, mi, ml, mr)) (hv : v.2.2.2.1 ≤ 6) (hu6 : v.2.1.1 ≤ 6) (hn6 : v.2.2.1.1 ≤ 6) : ∀ k i mi, i + k = v.2.2.1.1 → SI π mi0 mi S T v v.2.1.1 i 0 → mi S 4 = nI v.2.1.1 → mi S 5 = nI v.2.2.1.1 → Ev gC (pm_ev gC (d + 2)) E q_38 60 [some (.ref S), some (.ref T), some (.int (nI i))] [] (WW L, mi, ml, mr) := by
  intro k
  induction k with
  | zero =>
    intro i mi hi hI hu hn
    have hi : i = v.2.2.1.1 := by omega
    subst hi
    refine ev_iload_n (p' := 61) i_38_60 rfl rfl ?_
    refine ev_aload_n (p' := 62) i_38_61 rfl rfl ?_
    refine ev_geti (p' := 65) i_38_62 rfl fl_4_29 rfl (is_sp hS) ?_
    refine ev_icmp_ge (p' := 68) (tg := 92) i_38_65 rfl rfl (fun c65 => ?_) (fun c65 => absurd ((by rw [hn]; exact nI_le (by omega) (by omega))) c65)
    refine ev_aload_n (p' := 93) i_38_92 rfl rfl ?_
    refine ev_aload_n (p' := 94) i_38_93 rfl rfl ?_
    refine ev_geti (p' := 97) i_38_94 rfl fl_4_32 rfl (is_sp hT) ?_
    refine ev_puti (p' := 100) i_38_97 rfl fl_4_32 rfl (is_sp hS) (gc_sp hS) rfl ?_
    refine ev_iconst (p' := 101) (v := nI 0) i_38_100 rfl (by decide) ?_
    refine ev_istore_n (p' := 102) (ls' := [_, _, _]) i_38_101 rfl rfl (by decide) rfl ?_
    have hf := sp_far S hS T hT hST
    have hIT := hI.1
    rw [hIT.2.2.2.2.1]
    exact l_spc3 hw hS hT hST hE hv hu6 hn6 v.2.2.2.1 0 _ (by omega) (hI.mono hS hT hST hw hu6 _ _ rfl) (by rw [pm_u_oth (by omega)]; exact hu) (by rw [pm_u_oth (by omega)]; exact hn) pm_u_self
  | succ k ih =>
    intro i mi hi hI hu hn
    refine ev_iload_n (p' := 61) i_38_60 rfl rfl ?_
    refine ev_aload_n (p' := 62) i_38_61 rfl rfl ?_
    refine ev_geti (p' := 65) i_38_62 rfl fl_4_29 rfl (is_sp hS) ?_
    refine ev_icmp_ge (p' := 68) (tg := 92) i_38_65 rfl rfl (fun c65 => absurd c65 ((by rw [hn]; exact nI_ge (by omega) (by omega)))) (fun c65 => ?_)
    refine ev_aload_n (p' := 69) i_38_68 rfl rfl ?_
    refine ev_getr (p' := 72) i_38_69 rfl fl_4_19 rfl (is_sp hT) (hw.notes hT) ?_
    refine ev_iload_n (p' := 73) i_38_72 rfl rfl ?_
    refine ev_aaldN (p' := 74) 27 i_38_73 rfl (is_nt hT) (by decide) (len_nt hT) (by omega) (by decide) (hw.note hT (by omega)) ?_
    refine ev_iconst (p' := 75) (v := 0) i_38_74 rfl (by decide) ?_
    refine ev_aload_n (p' := 76) i_38_75 rfl rfl ?_
    refine ev_getr (p' := 79) i_38_76 rfl fl_4_19 rfl (is_sp hS) (hw.notes hS) ?_
    refine ev_iload_n (p' := 80) i_38_79 rfl rfl ?_
    refine ev_aaldN (p' := 81) 27 i_38_80 rfl (is_nt hS) (by decide) (len_nt hS) (by omega) (by decide) (hw.note hS (by omega)) ?_
    refine ev_iconst (p' := 82) (v := 0) i_38_81 rfl (by decide) ?_
    refine ev_iconst (p' := 83) (v := 5) i_38_82 rfl (by decide) ?_
    refine ev_acopy (p' := 86) i_38_83 rfl cl_4_53_0 (is_ntr hT (by omega)) (is_ntr hS (by omega)) (by have := (sh_sp S hS).2.2.2.2.2.2.2.2.2; show S + 3 + i ≤ 284; omega) (by decide) (by decide) (by decide) (by rw [len_ntr hT (by omega)]; decide) (by rw [len_ntr hS (by omega)]; decide) (Nat.le_of_ble_eq_true rfl) ?_
    refine ev_iinc (p' := 89) (ls' := [_, _, _]) i_38_86 rfl rfl rfl (by decide) (nI_inc _) rfl ?_
    refine ev_goto (tg := 60) i_38_89 rfl ?_
    have hf := sp_far S hS T hT hST
    have ho : ∀ a, a ≠ S + 3 + i → pm_cpy mi (T + 3 + i) (0 : Int32).toNatClampNeg (S + 3 + i) (0 : Int32).toNatClampNeg (5 : Int32).toNatClampNeg a = mi a := fun a ha => pm_cpy_ne ha
    refine ih (i + 1) _ (by omega) ?_ (by rw [ho _ (by omega)]; exact hu) (by rw [ho _ (by omega)]; exact hn)
    obtain ⟨h0, g1, g2, g3, g4, g5⟩ := hI
    refine ⟨h0.out hw hT (fun a h1 h2 => ho a (by omega)), g1.fr (ho _ (by omega)) (fun k hk => ho _ (by omega)), fun k hk => (g2 k hk).fr (ho _ (by omega)) (fun l hl => ho _ (by omega)), fun k hk l hl => ?_, fun k hk l hl => absurd hk (by omega), fun a ha => ?_⟩
    · by_cases hki : k = i
      · subst hki
        rw [show (0 : Int32).toNatClampNeg = 0 from rfl, show (5 : Int32).toNatClampNeg = 5 from rfl, pm_cpy_in hl]
        exact h0.2.2.1.2.2 k (by omega) l hl
      · rw [ho _ (by omega)]; exact g3 k (by omega) l hl
    · rw [ho _ (by omega)]; exact g5 a ha
theorem l_spc1 (hw : WR π mr) (hS : S ∈ k_sp) (hT : T ∈ k_sp) (hST : S ≠ T) (hE : ∀ mi, SI π mi0 mi S T v v.2.1.1 v.2.2.1.1 v.2.2.2.1 → mi S 4 = nI v.2.1.1 → mi S 5 = nI v.2.2.1.1 → mi S 6 = nI v.2.2.2.1 → E none (WW L, mi, ml, mr)) (hv : v.2.2.2.1 ≤ 6) (hu6 : v.2.1.1 ≤ 6) (hn6 : v.2.2.1.1 ≤ 6) : ∀ k i mi, i + k = v.2.1.1 → SI π mi0 mi S T v i 0 0 → mi S 4 = nI v.2.1.1 → Ev gC (pm_ev gC (d + 2)) E q_38 21 [some (.ref S), some (.ref T), some (.int (nI i))] [] (WW L, mi, ml, mr) := by
  intro k
  induction k with
  | zero =>
    intro i mi hi hI hu
    have hi : i = v.2.1.1 := by omega
    subst hi
    refine ev_iload_n (p' := 22) i_38_21 rfl rfl ?_
    refine ev_aload_n (p' := 23) i_38_22 rfl rfl ?_
    refine ev_geti (p' := 26) i_38_23 rfl fl_4_25 rfl (is_sp hS) ?_
    refine ev_icmp_ge (p' := 29) (tg := 50) i_38_26 rfl rfl (fun c26 => ?_) (fun c26 => absurd ((by rw [hu]; exact nI_le (by omega) (by omega))) c26)
    refine ev_aload_n (p' := 51) i_38_50 rfl rfl ?_
    refine ev_aload_n (p' := 52) i_38_51 rfl rfl ?_
    refine ev_geti (p' := 55) i_38_52 rfl fl_4_29 rfl (is_sp hT) ?_
    refine ev_puti (p' := 58) i_38_55 rfl fl_4_29 rfl (is_sp hS) (gc_sp hS) rfl ?_
    refine ev_iconst (p' := 59) (v := nI 0) i_38_58 rfl (by decide) ?_
    refine ev_istore_n (p' := 60) (ls' := [_, _, _]) i_38_59 rfl rfl (by decide) rfl ?_
    have hIT := hI.1
    rw [hIT.2.2.1.2.1]
    exact l_spc2 hw hS hT hST hE hv hu6 hn6 v.2.2.1.1 0 _ (by omega) (hI.mono hS hT hST hw hu6 _ _ rfl) (by rw [pm_u_oth (by omega)]; exact hu) pm_u_self
  | succ k ih =>
    intro i mi hi hI hu
    refine ev_iload_n (p' := 22) i_38_21 rfl rfl ?_
    refine ev_aload_n (p' := 23) i_38_22 rfl rfl ?_
    refine ev_geti (p' := 26) i_38_23 rfl fl_4_25 rfl (is_sp hS) ?_
    refine ev_icmp_ge (p' := 29) (tg := 50) i_38_26 rfl rfl (fun c26 => absurd c26 ((by rw [hu]; exact nI_ge (by omega) (by omega)))) (fun c26 => ?_)
    refine ev_aload_n (p' := 30) i_38_29 rfl rfl ?_
    refine ev_getr (p' := 33) i_38_30 rfl fl_4_11 rfl (is_sp hS) (hw.past hS) ?_
    refine ev_iload_n (p' := 34) i_38_33 rfl rfl ?_
    refine ev_aaldN (p' := 35) 24 i_38_34 rfl (is_past hS) (by decide) (len_past hS) (by omega) (by decide) (hw.old hS (by omega)) ?_
    refine ev_aload_n (p' := 36) i_38_35 rfl rfl ?_
    refine ev_getr (p' := 39) i_38_36 rfl fl_4_11 rfl (is_sp hT) (hw.past hT) ?_
    refine ev_iload_n (p' := 40) i_38_39 rfl rfl ?_
    refine ev_aaldN (p' := 41) 24 i_38_40 rfl (is_past hT) (by decide) (len_past hT) (by omega) (by decide) (hw.old hT (by omega)) ?_
    refine ev_v1V (p' := 44) i_38_41 rfl cl_4_49_2 (by decide) (is_pg ((sh_sp _ hS).2.2.2.2.2.2.2.1 _ (hw.pi hS (by omega)))) (Nat.le_of_ble_eq_true rfl) (s_pgc _ hw (pg_old hS (hw.pi hS (show i < 6 by omega))) (pg_old hT (hw.pi hT (show i < 6 by omega))) (by have := sp_far S hS T hT hST; have := hw.pi hS (show i < 6 by omega); have := hw.pi hT (show i < 6 by omega); omega) (hI.1.2.1.2.2 i (by omega)).1 (hI.1.2.1.2.2 i (by omega)).2.1) ?_
    refine ev_iinc (p' := 47) (ls' := [_, _, _]) i_38_44 rfl rfl rfl (by decide) (nI_inc _) rfl ?_
    refine ev_goto (tg := 21) i_38_47 rfl ?_
    have hf := sp_far S hS T hT hST
    have hpi := hw.pi hS (show i < 6 by omega)
    have hpt := hw.pi hT (show i < 6 by omega)
    have hn7 := (hI.1.2.1.2.2 i (by omega)).1
    have ho : ∀ a, (a < S + 26 + 10 * π S i ∨ S + 26 + 10 * π S i + 9 < a) → cg mi (S + 26 + 10 * π S i) (T + 26 + 10 * π T i) (v.2.1.2 i).1 a = mi a := fun a ha => cg_fr hn7 ha
    refine ih (i + 1) _ (by omega) ?_ (by rw [ho _ (by omega)]; exact hu)
    obtain ⟨h0, g1, g2, g3, g4, g5⟩ := hI
    refine ⟨h0.out hw hT (fun a h1 h2 => ho a (by omega)), g1.fr (ho _ (by omega)) (fun k hk => ho _ (by omega)), fun k hk => ?_, fun k hk l hl => absurd hk (by omega), fun k hk l hl => absurd hk (by omega), fun a ha => ?_⟩
    · by_cases hki : k = i
      · subst hki
        exact (h0.2.1.2.2 k (by omega)).copied
      · have hfk := old_far hw hS (i := k) (j := i) (by omega) (by omega) hki
        exact (g2 k (by omega)).fr (ho _ (by omega)) (fun l hl => ho _ (by omega))
    · rw [ho _ (by omega)]; exact g5 a ha
end SPC
