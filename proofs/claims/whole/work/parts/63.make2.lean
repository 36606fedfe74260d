theorem ev_mk0 {g : Nat → Prop} {C : Nat → List Value → pm_M → Option Value → pm_M → Prop} {E : Option Value → pm_M → Prop} {q : pm_D} {pc p' : Nat} {ls : pm_L} {r : List Value} {mem : pm_M} {M i b kd tg : Nat} {Q : (Nat → Nat → Int32) → (Nat → Nat → Int64) → (Nat → Nat → Option Nat) → Prop} {WE : pm_W} (h : pm_at q pc = some (.invokespecial i, 3)) (hp : pc + 3 = p') (hc : (q.2.1, i, kd, tg, M, 0) ∈ k_cs) (hk : kd ∈ [4, 5, 6, 7]) (hi : pm_is mem b tg) (hr : (r.map fun v => v.category).sum ≤ 8) (hC : ∃ mi' ml' mr', C M [.ref b] mem none (WE, mi', ml', mr') ∧ Q mi' ml' mr') (kk : ∀ mi' ml' mr', Q mi' ml' mr' → Ev g C E q p' ls r (WE, mi', ml', mr')) : Ev g C E q pc ls (.ref b :: r) mem := by
  obtain ⟨mi', ml', mr', h1, h2⟩ := hC
  exact ev_p0V h hp hc hk hi hr h1 (kk _ _ _ h2)
theorem ev_mk1 {g : Nat → Prop} {C : Nat → List Value → pm_M → Option Value → pm_M → Prop} {E : Option Value → pm_M → Prop} {q : pm_D} {pc p' : Nat} {ls : pm_L} {r : List Value} {mem : pm_M} {M i b kd tg : Nat} {x : Value} {Q : (Nat → Nat → Int32) → (Nat → Nat → Int64) → (Nat → Nat → Option Nat) → Prop} {WE : pm_W} (h : pm_at q pc = some (.invokespecial i, 3)) (hp : pc + 3 = p') (hc : (q.2.1, i, kd, tg, M, 1) ∈ k_cs) (hk : kd ∈ [4, 5, 6, 7]) (hi : pm_is mem b tg) (hr : (r.map fun v => v.category).sum ≤ 8) (hC : ∃ mi' ml' mr', C M [.ref b, x] mem none (WE, mi', ml', mr') ∧ Q mi' ml' mr') (kk : ∀ mi' ml' mr', Q mi' ml' mr' → Ev g C E q p' ls r (WE, mi', ml', mr')) : Ev g C E q pc ls (x :: .ref b :: r) mem := by
  obtain ⟨mi', ml', mr', h1, h2⟩ := hC
  exact ev_p1V h hp hc hk hi hr h1 (kk _ _ _ h2)
theorem PGF.fr {p K i : Nat} {mi mi' : Nat → Nat → Int32} {mr mr' : Nat → Nat → Option Nat} (h : PGF p K mi mr i) (h1 : mi' (p + 1) = mi (p + 1)) (h2 : mr' (p + 1) = mr (p + 1)) (h3 : mr' (p + 2) = mr (p + 2)) : PGF p K mi' mr' i := by
  unfold PGF at *
  rw [h1, h2, h3]
  exact h
def pgs : Nat → List (Nat × Nat)
  | 0 => []
  | i + 1 => pgs i ++ (2, 6) :: pgS
theorem pgs_len : ∀ i, (pgs i).length = 10 * i := by
  intro i
  induction i with
  | zero => rfl
  | succ i ih => rw [pgs, List.length_append, ih, List.length_cons, pgS_len]; omega
theorem pgs_s {x : List (Nat × Nat)} {i : Nat} : x ++ pgs i ++ [(2, 6)] ++ pgS = x ++ pgs (i + 1) := by simp [pgs, List.append_assoc]
def spA : List (Nat × Nat) := (27, 6) :: List.replicate 6 (20, 5)
def spB : List (Nat × Nat) := (27, 6) :: List.replicate 6 (20, 2)
def spS : List (Nat × Nat) := (24, 6) :: (spA ++ spB ++ (2, 6) :: pgS ++ pgs 6)
theorem spS_len : spS.length = 85 := rfl
theorem spS_e {shl : List (Nat × Nat)} : shl ++ [(24, 6)] ++ (27, 6) :: List.replicate 6 (20, 5) ++ (27, 6) :: List.replicate 6 (20, 2) ++ [(2, 6)] ++ pgS ++ pgs 6 = shl ++ spS := by simp [spS, spA, spB, List.append_assoc]
def SPF (p K : Nat) (mi : Nat → Nat → Int32) (mr : Nat → Nat → Option Nat) (i : Nat) : Prop := (mr (p + 1) 0 = some (p + 17) ∧ mr (p + 1) 1 = some (p + 2) ∧ mr (p + 1) 2 = some (p + 3) ∧ mr (p + 1) 3 = some (p + 10)) ∧ (∀ j, j < 6 → mr (p + 3) j = some (p + 3 + 1 + j)) ∧ (∀ j, j < 6 → mr (p + 10) j = some (p + 10 + 1 + j)) ∧ (∀ j, j < i → mr (p + 2) j = some (p + 26 + 10 * j + 1)) ∧ (mi (p + 1) 4 = 0 ∧ mi (p + 1) 5 = 0 ∧ mi (p + 1) 6 = 0) ∧ PGF (p + 16) K mi mr 7 ∧ ∀ j, j < i → PGF (p + 26 + 10 * j) K mi mr 7
theorem SPF.step {p K i : Nat} {mi mi1 : Nat → Nat → Int32} {ml ml1 : Nat → Nat → Int64} {mr mr1 : Nat → Nat → Option Nat} (h : SPF p K mi mr i) (hu : UP (p + 26 + 10 * i) (pm_z mi (p + 26 + 10 * i + 1) (p + 26 + 10 * i + 1 + 1) 0) mi1 (pm_z ml (p + 26 + 10 * i + 1) (p + 26 + 10 * i + 1 + 1) 0) ml1 (pm_z mr (p + 26 + 10 * i + 1) (p + 26 + 10 * i + 1 + 1) none) mr1) (hf : PGF (p + 26 + 10 * i) K mi1 mr1 7) : SPF p K mi1 (pm_u mr1 (p + 2) i (some (p + 26 + 10 * i + 1))) (i + 1) := by
  obtain ⟨a1, a2, a3, a4, a5, a6, a7⟩ := h
  have e1 : ∀ a, a ≤ p + 26 + 10 * i → mi1 a = mi a := fun a ha => by rw [(hu a ha).1, pm_z_lo (by omega)]
  have e3 : ∀ a, a ≤ p + 26 + 10 * i → mr1 a = mr a := fun a ha => by rw [(hu a ha).2.2, pm_z_lo (by omega)]
  have f3 : ∀ a, a ≤ p + 26 + 10 * i → a ≠ p + 2 → pm_u mr1 (p + 2) i (some (p + 26 + 10 * i + 1)) a = mr a := fun a ha hb => by rw [pm_u_ne hb, e3 a ha]
  refine ⟨by rw [f3 _ (by omega) (by omega)]; exact a1, fun j hj => by rw [f3 _ (by omega) (by omega)]; exact a2 j hj, fun j hj => by rw [f3 _ (by omega) (by omega)]; exact a3 j hj, fun j hj => ?_, by rw [e1 _ (by omega)]; exact a5, a6.fr (e1 _ (by omega)) (f3 _ (by omega) (by omega)) (f3 _ (by omega) (by omega)), fun j hj => ?_⟩
  · by_cases hh : j = i
    · subst hh; exact pm_u_self
    · rw [pm_u_oth hh, e3 _ (by omega)]; exact a4 j (by omega)
  · by_cases hh : j = i
    · subst hh; exact hf.fr rfl (pm_u_ne (by omega)) (pm_u_ne (by omega))
    · exact (a7 j (by omega)).fr (e1 _ (by omega)) (f3 _ (by omega) (by omega)) (f3 _ (by omega) (by omega))
theorem l_iSpread {L p K : Nat} {shl : List (Nat × Nat)} {mi0 : Nat → Nat → Int32} {ml0 : Nat → Nat → Int64} {mr0 : Nat → Nat → Option Nat} {E : Option Value → pm_M → Prop} {d : Nat} (hl : shl.length = p + 1) (hP : shl[p]? = some (4, 7)) (hb : p + 200 < 900000) (hE : ∀ mi ml mr, UP p mi0 mi ml0 ml mr0 mr → SPF p K mi mr 6 → E none (W0 L (shl ++ spS), mi, ml, mr)) : ∀ k i mi ml mr, i + k = 6 → UP p mi0 mi ml0 ml mr0 mr → SPF p K mi mr i → Ev gT (pm_ev gT (d + 2)) E q_33 64 [some (.ref (p + 1)), some (.ref K), some (.int (nI i))] [] (W0 L (shl ++ [(24, 6)] ++ (27, 6) :: List.replicate 6 (20, 5) ++ (27, 6) :: List.replicate 6 (20, 2) ++ [(2, 6)] ++ pgS ++ pgs i), mi, ml, mr) := by
  intro k
  induction k with
  | zero =>
    intro i mi ml mr hi hU hI
    have hi : i = 6 := by omega
    subst hi
    refine ev_iload_n (p' := 65) i_33_64 rfl rfl ?_
    refine ev_bipush (p' := 67) (v := 6) i_33_65 rfl (by decide) ?_
    refine ev_icmp_ge (p' := 70) (tg := 90) i_33_67 rfl rfl (fun c67 => ?_) (fun c67 => absurd (by decide) c67)
    exact ev_ret i_33_90 rfl (by rw [spS_e]; exact hE _ _ _ hU hI)
  | succ k ih =>
    intro i mi ml mr hi hU hI
    refine ev_iload_n (p' := 65) i_33_64 rfl rfl ?_
    refine ev_bipush (p' := 67) (v := 6) i_33_65 rfl (by decide) ?_
    refine ev_icmp_ge (p' := 70) (tg := 90) i_33_67 rfl rfl (fun c67 => absurd c67 (nI_ge (b := 6) (by omega) (by decide))) (fun c67 => ?_)
    refine ev_aload_n (p' := 71) i_33_70 rfl rfl ?_
    refine ev_getr (p' := 74) i_33_71 rfl fl_4_11 rfl (isW (i := p) rfl (isA (isA (isA (isA (isA (isA hP))))))) hI.1.2.1 ?_
    refine ev_iload_n (p' := 75) i_33_74 rfl rfl ?_
    refine ev_newW (p' := 78) 2 6 (k := p + 26 + 10 * i + 1) i_33_75 rfl (by decide +kernel) (by decide) rfl (by (try simp only [List.length_append, List.length_cons, List.length_nil, List.length_replicate, pgS_len, pgs_len]); omega) rfl (by omega) ?_
    refine ev_dup (p' := 79) i_33_78 rfl rfl ?_
    refine ev_aload_n (p' := 80) i_33_79 rfl rfl ?_
    refine ev_mk1 (p' := 83) i_33_80 rfl cl_4_35_2 (by decide) (isW (i := p + 26 + 10 * i) rfl (isN (by (try simp only [List.length_append, List.length_cons, List.length_nil, List.length_replicate, pgS_len, pgs_len]); omega))) (Nat.le_of_ble_eq_true rfl) (s_iPage (p := p + 26 + 10 * i) (by (try simp only [List.length_append, List.length_cons, List.length_nil, List.length_replicate, pgS_len, pgs_len]); omega) (isN (by (try simp only [List.length_append, List.length_cons, List.length_nil, List.length_replicate, pgS_len, pgs_len]); omega)) (by omega) _) (fun mi9 ml9 mr9 z9 => ?_)
    refine ev_aastN (p' := 84) 24 2 i_33_83 rfl (isW (i := p + 1) rfl (isA (isA (isA (isA (isA (isA (isA (isN hl))))))))) (lnW (i := p + 1) rfl (isA (isA (isA (isA (isA (isA (isA (isN hl))))))))) (by omega) (by decide) (isW (i := p + 26 + 10 * i) rfl (isA (isN (by (try simp only [List.length_append, List.length_cons, List.length_nil, List.length_replicate, pgS_len, pgs_len]); omega)))) (by decide) trivial ?_
    refine ev_iinc (p' := 87) (ls' := [_, _, _]) i_33_84 rfl rfl rfl (by decide) (nI_inc _) rfl ?_
    refine ev_goto (tg := 64) i_33_87 rfl ?_
    rw [pgs_s]
    exact ih (i + 1) _ _ _ (by omega) (fun a ha => ⟨by rw [(z9.1 a (by omega)).1, pm_z_lo (by omega)]; exact (hU a ha).1, by rw [(z9.1 a (by omega)).2.1, pm_z_lo (by omega)]; exact (hU a ha).2.1, by rw [pm_u_ne (by omega), (z9.1 a (by omega)).2.2, pm_z_lo (by omega)]; exact (hU a ha).2.2⟩) (hI.step z9.1 z9.2)
theorem s_iSpread {L p K : Nat} {shl : List (Nat × Nat)} {mi : Nat → Nat → Int32} {ml : Nat → Nat → Int64} {mr : Nat → Nat → Option Nat} (hl : shl.length = p + 1) (hP : shl[p]? = some (4, 7)) (hb : p + 200 < 900000) (d : Nat) : ∃ mi' ml' mr', pm_ev gT (d + 3) 33 [.ref (p + 1), .ref K] (W0 L shl, mi, ml, mr) none (W0 L (shl ++ spS), mi', ml', mr') ∧ (UP p mi mi' ml ml' mr mr' ∧ SPF p K mi' mr' 6) := by
  obtain ⟨_x, m', ⟨h1, mi1, ml1, mr1, h2, h3⟩, h5⟩ := ev_some (E := fun _x m => _x = none ∧ ∃ mi' ml' mr', m = (W0 L (shl ++ spS), mi', ml', mr') ∧ (UP p mi mi' ml ml' mr mr' ∧ SPF p K mi' mr' 6)) (g := gT) (d := d + 2) (M := 33) (args := [.ref (p + 1), .ref K]) (mem := (W0 L shl, mi, ml, mr)) (q := q_33) rfl (Nat.le_of_ble_eq_true rfl) rfl (by
    refine ev_aload_n (p' := 1) i_33_0 rfl rfl ?_
    refine ev_objInit (p' := 4) i_33_1 rfl cl_4_3_0 (Nat.le_of_ble_eq_true rfl) ?_
    refine ev_aload_n (p' := 5) i_33_4 rfl rfl ?_
    refine ev_bipush (p' := 7) (v := nI 6) i_33_5 rfl (by decide) ?_
    refine ev_anewaW (p' := 10) 24 6 (k := p + 2) i_33_7 rfl (by decide +kernel) (by decide) (by decide) (by (try simp only [List.length_append, List.length_cons, List.length_nil, List.length_replicate, pgS_len, pgs_len]); omega) rfl (by omega) ?_
    refine ev_putr (p' := 13) i_33_10 rfl fl_4_11 rfl (isW (i := p) rfl (isA hP)) trivial rfl rfl ?_
    refine ev_aload_n (p' := 14) i_33_13 rfl rfl ?_
    refine ev_bipush (p' := 16) (v := nI 6) i_33_14 rfl (by decide) ?_
    refine ev_iconst (p' := 17) (v := nI 5) i_33_16 rfl (by decide) ?_
    refine ev_mnewW (p' := 21) (x := 6) (y := 5) (k := p + 3) i_33_17 rfl (by decide +kernel) (by decide) (by decide) (by (try simp only [List.length_append, List.length_cons, List.length_nil, List.length_replicate, pgS_len, pgs_len]); omega) rfl (by omega) ?_
    refine ev_putr (p' := 24) i_33_21 rfl fl_4_19 rfl (isW (i := p) rfl (isA (isA hP))) trivial rfl rfl ?_
    refine ev_aload_n (p' := 25) i_33_24 rfl rfl ?_
    refine ev_bipush (p' := 27) (v := nI 6) i_33_25 rfl (by decide) ?_
    refine ev_iconst (p' := 28) (v := nI 2) i_33_27 rfl (by decide) ?_
    refine ev_mnewW (p' := 32) (x := 6) (y := 2) (k := p + 10) i_33_28 rfl (by decide +kernel) (by decide) (by decide) (by (try simp only [List.length_append, List.length_cons, List.length_nil, List.length_replicate, pgS_len, pgs_len]); omega) rfl (by omega) ?_
    refine ev_putr (p' := 35) i_33_32 rfl fl_4_22 rfl (isW (i := p) rfl (isA (isA (isA hP)))) trivial rfl rfl ?_
    refine ev_aload_n (p' := 36) i_33_35 rfl rfl ?_
    refine ev_iconst (p' := 37) (v := 0) i_33_36 rfl (by decide) ?_
    refine ev_puti (p' := 40) i_33_37 rfl fl_4_25 rfl (isW (i := p) rfl (isA (isA (isA hP)))) trivial rfl ?_
    refine ev_aload_n (p' := 41) i_33_40 rfl rfl ?_
    refine ev_iconst (p' := 42) (v := 0) i_33_41 rfl (by decide) ?_
    refine ev_puti (p' := 45) i_33_42 rfl fl_4_29 rfl (isW (i := p) rfl (isA (isA (isA hP)))) trivial rfl ?_
    refine ev_aload_n (p' := 46) i_33_45 rfl rfl ?_
    refine ev_iconst (p' := 47) (v := 0) i_33_46 rfl (by decide) ?_
    refine ev_puti (p' := 50) i_33_47 rfl fl_4_32 rfl (isW (i := p) rfl (isA (isA (isA hP)))) trivial rfl ?_
    refine ev_aload_n (p' := 51) i_33_50 rfl rfl ?_
    refine ev_newW (p' := 54) 2 6 (k := p + 17) i_33_51 rfl (by decide +kernel) (by decide) rfl (by (try simp only [List.length_append, List.length_cons, List.length_nil, List.length_replicate, pgS_len, pgs_len]); omega) rfl (by omega) ?_
    refine ev_dup (p' := 55) i_33_54 rfl rfl ?_
    refine ev_aload_n (p' := 56) i_33_55 rfl rfl ?_
    refine ev_mk1 (p' := 59) i_33_56 rfl cl_4_35_2 (by decide) (isW (i := p + 16) rfl (isN (by (try simp only [List.length_append, List.length_cons, List.length_nil, List.length_replicate, pgS_len, pgs_len]); omega))) (Nat.le_of_ble_eq_true rfl) (s_iPage (p := p + 16) (by (try simp only [List.length_append, List.length_cons, List.length_nil, List.length_replicate, pgS_len, pgs_len]); omega) (isN (by (try simp only [List.length_append, List.length_cons, List.length_nil, List.length_replicate, pgS_len, pgs_len]); omega)) (by omega) _) (fun mi9 ml9 mr9 z9 => ?_)
    refine ev_putr (p' := 62) i_33_59 rfl fl_4_38 rfl (isW (i := p) rfl (isA (isA (isA (isA (isA hP)))))) trivial rfl rfl ?_
    refine ev_iconst (p' := 63) (v := nI 0) i_33_62 rfl (by decide) ?_
    refine ev_istore_n (p' := 64) (ls' := [_, _, _]) i_33_63 rfl rfl (by decide) rfl ?_
    refine ev_cast rfl rfl (by rw [show (shl ++ [(24, 6)] ++ (27, 6) :: List.replicate 6 (20, 5) ++ (27, 6) :: List.replicate 6 (20, 2) ++ [(2, 6)] ++ pgS) = (shl ++ [(24, 6)] ++ (27, 6) :: List.replicate 6 (20, 5) ++ (27, 6) :: List.replicate 6 (20, 2) ++ [(2, 6)] ++ pgS) ++ pgs 0 from (List.append_nil _).symm]) ?_
    refine l_iSpread (mi0 := mi) (ml0 := ml) (mr0 := mr) hl hP hb (fun mi1 ml1 mr1 z1 z2 => ⟨rfl, mi1, ml1, mr1, rfl, z1, z2⟩) 6 0 _ _ _ (by decide) (fun a ha => ⟨?_, ?_, ?_⟩) ⟨⟨?_, ?_, ?_, ?_⟩, fun j hj => ?_, fun j hj => ?_, fun j hj => absurd hj (Nat.not_lt_zero j), ⟨?_, ?_, ?_⟩, ?_, fun j hj => absurd hj (Nat.not_lt_zero j)⟩
    · rw [(z9.1 a (by omega)).1, pm_z_lo (by omega), pm_u_ne (by omega), pm_u_ne (by omega), pm_u_ne (by omega), pm_z_lo (by omega), pm_z_lo (by omega), pm_z_lo (by omega)]
    · rw [(z9.1 a (by omega)).2.1, pm_z_lo (by omega), pm_z_lo (by omega), pm_z_lo (by omega), pm_z_lo (by omega)]
    · rw [pm_u_ne (by omega), (z9.1 a (by omega)).2.2, pm_z_lo (by omega), pm_u_ne (by omega), pm_zr_lo (by omega) (by omega), pm_u_ne (by omega), pm_zr_lo (by omega) (by omega), pm_u_ne (by omega), pm_z_lo (by omega)]
    · exact pm_u_self
    · rw [pm_u_oth (by decide), (z9.1 (p + 1) (by omega)).2.2, pm_z_lo (by omega), pm_u_oth (by decide), pm_zr_lo (by omega) (by omega), pm_u_oth (by decide), pm_zr_lo (by omega) (by omega)]; exact pm_u_self
    · rw [pm_u_oth (by decide), (z9.1 (p + 1) (by omega)).2.2, pm_z_lo (by omega), pm_u_oth (by decide), pm_zr_lo (by omega) (by omega)]; exact pm_u_self
    · rw [pm_u_oth (by decide), (z9.1 (p + 1) (by omega)).2.2, pm_z_lo (by omega)]; exact pm_u_self
    · rw [pm_u_ne (by omega), (z9.1 (p + 3) (by omega)).2.2, pm_z_lo (by omega), pm_u_ne (by omega), pm_zr_lo (by omega) (by omega), pm_u_ne (by omega)]; exact pm_zr_row hj
    · rw [pm_u_ne (by omega), (z9.1 (p + 10) (by omega)).2.2, pm_z_lo (by omega), pm_u_ne (by omega)]; exact pm_zr_row hj
    · rw [(z9.1 (p + 1) (by omega)).1, pm_z_lo (by omega), pm_u_oth (by decide), pm_u_oth (by decide)]; exact pm_u_self
    · rw [(z9.1 (p + 1) (by omega)).1, pm_z_lo (by omega), pm_u_oth (by decide)]; exact pm_u_self
    · rw [(z9.1 (p + 1) (by omega)).1, pm_z_lo (by omega)]; exact pm_u_self
    · exact z9.2.fr rfl (pm_u_ne (by omega)) (pm_u_ne (by omega)))
  subst h1 h2
  exact ⟨mi1, ml1, mr1, h5, h3⟩
theorem s_iText {L p : Nat} {shl : List (Nat × Nat)} {mi : Nat → Nat → Int32} {ml : Nat → Nat → Int64} {mr : Nat → Nat → Option Nat} (hl : shl.length = p + 1) (hP : shl[p]? = some (7, 7)) (hb : p + 100 < 900000) (d : Nat) : ∃ mi' ml' mr', pm_ev gT (d + 1) 44 [.ref (p + 1)] (W0 L shl, mi, ml, mr) none (W0 L (shl ++ [(21, 150)]), mi', ml', mr') ∧ (UP p mi mi' ml ml' mr mr' ∧ mr' (p + 1) 0 = some (p + 2) ∧ mi' (p + 1) 1 = 0) := by
  obtain ⟨_x, m', ⟨h1, mi1, ml1, mr1, h2, h3⟩, h5⟩ := ev_some (E := fun _x m => _x = none ∧ ∃ mi' ml' mr', m = (W0 L (shl ++ [(21, 150)]), mi', ml', mr') ∧ (UP p mi mi' ml ml' mr mr' ∧ mr' (p + 1) 0 = some (p + 2) ∧ mi' (p + 1) 1 = 0)) (g := gT) (d := d + 0) (M := 44) (args := [.ref (p + 1)]) (mem := (W0 L shl, mi, ml, mr)) (q := q_44) rfl (Nat.le_of_ble_eq_true rfl) rfl (by
    refine ev_aload_n (p' := 1) i_44_0 rfl rfl ?_
    refine ev_objInit (p' := 4) i_44_1 rfl cl_7_3_0 (Nat.le_of_ble_eq_true rfl) ?_
    refine ev_aload_n (p' := 5) i_44_4 rfl rfl ?_
    refine ev_sipush (p' := 8) (v := nI 150) i_44_5 rfl (by decide) ?_
    refine ev_newaW (p' := 10) 21 150 (k := p + 2) i_44_8 rfl rfl (by decide) (by (try simp only [List.length_append, List.length_cons, List.length_nil, List.length_replicate]); omega) rfl (by omega) ?_
    refine ev_putr (p' := 13) i_44_10 rfl fl_7_9 rfl (isW (i := p) rfl (isA hP)) trivial rfl rfl ?_
    refine ev_aload_n (p' := 14) i_44_13 rfl rfl ?_
    refine ev_iconst (p' := 15) (v := 0) i_44_14 rfl (by decide) ?_
    refine ev_puti (p' := 18) i_44_15 rfl fl_7_15 rfl (isW (i := p) rfl (isA hP)) trivial rfl ?_
    refine ev_aload_n (p' := 19) i_44_18 rfl rfl ?_
    refine ev_iconst (p' := 20) (v := 0) i_44_19 rfl (by decide) ?_
    refine ev_puti (p' := 23) i_44_20 rfl fl_7_19 rfl (isW (i := p) rfl (isA hP)) trivial rfl ?_
    refine ev_aload_n (p' := 24) i_44_23 rfl rfl ?_
    refine ev_iconst (p' := 25) (v := 0) i_44_24 rfl (by decide) ?_
    refine ev_puti (p' := 28) i_44_25 rfl fl_7_22 rfl (isW (i := p) rfl (isA hP)) trivial rfl ?_
    refine ev_aload_n (p' := 29) i_44_28 rfl rfl ?_
    refine ev_iconst (p' := 30) (v := 0) i_44_29 rfl (by decide) ?_
    refine ev_puti (p' := 33) i_44_30 rfl fl_7_25 rfl (isW (i := p) rfl (isA hP)) trivial rfl ?_
    refine ev_aload_n (p' := 34) i_44_33 rfl rfl ?_
    refine ev_iconst (p' := 35) (v := 0) i_44_34 rfl (by decide) ?_
    refine ev_puti (p' := 38) i_44_35 rfl fl_7_28 rfl (isW (i := p) rfl (isA hP)) trivial rfl ?_
    refine ev_aload_n (p' := 39) i_44_38 rfl rfl ?_
    refine ev_iconst (p' := 40) (v := -1) i_44_39 rfl (by decide) ?_
    refine ev_puti (p' := 43) i_44_40 rfl fl_7_31 rfl (isW (i := p) rfl (isA hP)) trivial rfl ?_
    exact ev_ret i_44_43 rfl ⟨rfl, _, _, _, rfl, fun a ha => ⟨by rw [pm_u_ne (by omega), pm_u_ne (by omega), pm_u_ne (by omega), pm_u_ne (by omega), pm_u_ne (by omega), pm_u_ne (by omega), pm_z_lo (by omega)], pm_z_lo (by omega), by rw [pm_u_ne (by omega), pm_z_lo (by omega)]⟩, pm_u_self, by rw [pm_u_oth (by decide), pm_u_oth (by decide), pm_u_oth (by decide), pm_u_oth (by decide), pm_u_oth (by decide)]; exact pm_u_self⟩)
  subst h1 h2
  exact ⟨mi1, ml1, mr1, h5, h3⟩
theorem s_iWalk {L p : Nat} {shl : List (Nat × Nat)} {mi : Nat → Nat → Int32} {ml : Nat → Nat → Int64} {mr : Nat → Nat → Option Nat} (hl : shl.length = p + 1) (hP : shl[p]? = some (9, 2)) (hb : p + 100 < 900000) (d : Nat) : ∃ mi' ml' mr', pm_ev gT (d + 1) 62 [.ref (p + 1)] (W0 L shl, mi, ml, mr) none (W0 L (shl ++ [(20, 13)]), mi', ml', mr') ∧ (UP p mi mi' ml ml' mr mr' ∧ mr' (p + 1) 0 = some (p + 2)) := by
  obtain ⟨_x, m', ⟨h1, mi1, ml1, mr1, h2, h3⟩, h5⟩ := ev_some (E := fun _x m => _x = none ∧ ∃ mi' ml' mr', m = (W0 L (shl ++ [(20, 13)]), mi', ml', mr') ∧ (UP p mi mi' ml ml' mr mr' ∧ mr' (p + 1) 0 = some (p + 2))) (g := gT) (d := d + 0) (M := 62) (args := [.ref (p + 1)]) (mem := (W0 L shl, mi, ml, mr)) (q := q_62) rfl (Nat.le_of_ble_eq_true rfl) rfl (by
    refine ev_aload_n (p' := 1) i_62_0 rfl rfl ?_
    refine ev_objInit (p' := 4) i_62_1 rfl cl_9_3_0 (Nat.le_of_ble_eq_true rfl) ?_
    refine ev_aload_n (p' := 5) i_62_4 rfl rfl ?_
    refine ev_bipush (p' := 7) (v := nI 13) i_62_5 rfl (by decide) ?_
    refine ev_newaW (p' := 9) 20 13 (k := p + 2) i_62_7 rfl rfl (by decide) (by (try simp only [List.length_append, List.length_cons, List.length_nil, List.length_replicate]); omega) rfl (by omega) ?_
    refine ev_putr (p' := 12) i_62_9 rfl fl_9_9 rfl (isW (i := p) rfl (isA hP)) trivial rfl rfl ?_
    refine ev_aload_n (p' := 13) i_62_12 rfl rfl ?_
    refine ev_iconst (p' := 14) (v := 0) i_62_13 rfl (by decide) ?_
    refine ev_puti (p' := 17) i_62_14 rfl fl_9_15 rfl (isW (i := p) rfl (isA hP)) trivial rfl ?_
    exact ev_ret i_62_17 rfl ⟨rfl, _, _, _, rfl, fun a ha => ⟨by rw [pm_u_ne (by omega), pm_z_lo (by omega)], pm_z_lo (by omega), by rw [pm_u_ne (by omega), pm_z_lo (by omega)]⟩, pm_u_self⟩)
  subst h1 h2
  exact ⟨mi1, ml1, mr1, h5, h3⟩
