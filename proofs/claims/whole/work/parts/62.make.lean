/-! ===== the makers ===== -/
def gT : Nat → Prop := fun _ => True
abbrev W0 (L : Nat) (shl : List (Nat × Nat)) : pm_W := (shl.length, (shl.map Prod.snd).sum, fun k => if k = 0 then (99, L) else shl.getD (k - 1) (0, 0))
theorem isW {L i k t len : Nat} {shl : List (Nat × Nat)} {mi : Nat → Nat → Int32} {ml : Nat → Nat → Int64} {mr : Nat → Nat → Option Nat} (hk : k = i + 1) (h : shl[i]? = some (t, len)) : pm_is (W0 L shl, mi, ml, mr) k t := by
  subst hk
  refine ⟨by omega, (List.getElem?_eq_some_iff.mp h).1, ?_⟩
  show (if i + 1 = 0 then (99, L) else shl.getD (i + 1 - 1) (0, 0)).1 = t
  rw [if_neg (by omega), Nat.add_sub_cancel, List.getD_eq_getElem?_getD, h]
  rfl
theorem lnW {L i k t len : Nat} {shl : List (Nat × Nat)} (hk : k = i + 1) (h : shl[i]? = some (t, len)) : ((W0 L shl).2.2 k).2 = len := by
  subst hk
  show (if i + 1 = 0 then (99, L) else shl.getD (i + 1 - 1) (0, 0)).2 = len
  rw [if_neg (by omega), Nat.add_sub_cancel, List.getD_eq_getElem?_getD, h]
  rfl
theorem isA {shl x : List (Nat × Nat)} {i : Nat} {v : Nat × Nat} (h : shl[i]? = some v) : (shl ++ x)[i]? = some v := by
  rw [List.getElem?_append_left (List.getElem?_eq_some_iff.mp h).1]
  exact h
theorem isN {shl x : List (Nat × Nat)} {i : Nat} {v : Nat × Nat} (h : shl.length = i) : (shl ++ v :: x)[i]? = some v := by
  subst h
  rw [List.getElem?_append_right (Nat.le_refl _), Nat.sub_self]
  rfl
theorem W0_new {L t len : Nat} {shl : List (Nat × Nat)} {mi : Nat → Nat → Int32} {ml : Nat → Nat → Int64} {mr : Nat → Nat → Option Nat} : pm_new (W0 L shl, mi, ml, mr) t len = (W0 L (shl ++ [(t, len)]), pm_z mi (shl.length + 1) (shl.length + 2) 0, pm_z ml (shl.length + 1) (shl.length + 2) 0, pm_z mr (shl.length + 1) (shl.length + 2) none) := by
  have e : (fun k => if k = shl.length + 1 then (t, len) else if k = 0 then (99, L) else shl.getD (k - 1) (0, 0)) = fun k => if k = 0 then (99, L) else (shl ++ [(t, len)]).getD (k - 1) (0, 0) := by
    funext k
    by_cases h0 : k = 0
    · subst h0
      rw [if_neg (by omega), if_pos rfl, if_pos rfl]
    · rw [if_neg h0, if_neg h0]
      by_cases h1 : k = shl.length + 1
      · rw [if_pos h1, List.getD_eq_getElem?_getD, List.getElem?_append_right (by omega), show k - 1 - shl.length = 0 by omega]
        rfl
      · rw [if_neg h1, List.getD_eq_getElem?_getD, List.getD_eq_getElem?_getD]
        by_cases h2 : k - 1 < shl.length
        · rw [List.getElem?_append_left h2]
        · rw [List.getElem?_eq_none (by omega), List.getElem?_eq_none (by rw [List.length_append]; simp only [List.length_cons, List.length_nil]; omega)]
  have hz : (shl.map Prod.snd).sum + len = ((shl ++ [(t, len)]).map Prod.snd).sum := by rw [List.map_append, List.sum_append]; simp
  have hn : shl.length + 1 = (shl ++ [(t, len)]).length := by rw [List.length_append]; rfl
  show ((shl.length + 1, (shl.map Prod.snd).sum + len, fun k => if k = shl.length + 1 then (t, len) else if k = 0 then (99, L) else shl.getD (k - 1) (0, 0)), _, _, _) = _
  rw [e, hz, hn]
theorem W0_new2 {L m len : Nat} {shl : List (Nat × Nat)} {mi : Nat → Nat → Int32} {ml : Nat → Nat → Int64} {mr : Nat → Nat → Option Nat} : pm_new2 (W0 L shl, mi, ml, mr) m len = (W0 L (shl ++ (27, m) :: List.replicate m (20, len)), pm_z mi (shl.length + 1) (shl.length + (2 + m)) 0, pm_z ml (shl.length + 1) (shl.length + (2 + m)) 0, pm_zr mr (shl.length + 1) (shl.length + (2 + m)) (shl.length + 1) m) := by
  have e : (fun k => if k = shl.length + 1 then (27, m) else if shl.length + 1 < k ∧ k ≤ shl.length + (1 + m) then (20, len) else if k = 0 then (99, L) else shl.getD (k - 1) (0, 0)) = fun k => if k = 0 then (99, L) else (shl ++ (27, m) :: List.replicate m (20, len)).getD (k - 1) (0, 0) := by
    funext k
    by_cases h0 : k = 0
    · subst h0
      rw [if_neg (by omega), if_neg (by omega), if_pos rfl, if_pos rfl]
    · rw [if_neg h0, if_neg h0]
      by_cases h1 : k = shl.length + 1
      · rw [if_pos h1, List.getD_eq_getElem?_getD, List.getElem?_append_right (by omega), show k - 1 - shl.length = 0 by omega]
        rfl
      · rw [if_neg h1]
        by_cases h3 : shl.length + 1 < k ∧ k ≤ shl.length + (1 + m)
        · rw [if_pos h3, List.getD_eq_getElem?_getD, List.getElem?_append_right (by omega), show k - 1 - shl.length = (k - 2 - shl.length) + 1 by omega, List.getElem?_cons_succ, List.getElem?_replicate, if_pos (by omega)]
          rfl
        · rw [if_neg h3, List.getD_eq_getElem?_getD, List.getD_eq_getElem?_getD]
          by_cases h2 : k - 1 < shl.length
          · rw [List.getElem?_append_left h2]
          · rw [List.getElem?_eq_none (by omega), List.getElem?_eq_none (by rw [List.length_append]; simp only [List.length_cons, List.length_replicate]; omega)]
  have hz : (shl.map Prod.snd).sum + (m + m * len) = ((shl ++ (27, m) :: List.replicate m (20, len)).map Prod.snd).sum := by rw [List.map_append, List.sum_append]; simp
  have hn : shl.length + (1 + m) = (shl ++ (27, m) :: List.replicate m (20, len)).length := by rw [List.length_append]; simp only [List.length_cons, List.length_replicate]; omega
  show ((shl.length + (1 + m), (shl.map Prod.snd).sum + (m + m * len), fun k => if k = shl.length + 1 then (27, m) else if shl.length + 1 < k ∧ k ≤ shl.length + (1 + m) then (20, len) else if k = 0 then (99, L) else shl.getD (k - 1) (0, 0)), _, _, _) = _
  rw [e, hz]
  conv => lhs; rw [hn]
theorem ev_newW {g : Nat → Prop} {C : Nat → List Value → pm_M → Option Value → pm_M → Prop} {E : Option Value → pm_M → Prop} {q : pm_D} {pc p' : Nat} {ls : pm_L} {r : List Value} {mi : Nat → Nat → Int32} {ml : Nat → Nat → Int64} {mr : Nat → Nat → Option Nat} {L N i k : Nat} {shl : List (Nat × Nat)} (c len : Nat) (h : pm_at q pc = some (.new i, 3)) (hp : pc + 3 = p') (hw : (q.2.1, i, c) ∈ k_nw) (hc : c < 13) (hl : k_nf c = len) (hN : shl.length = N) (hk : N + 1 = k) (hb : k + 1 < 1000000)
    (kk : Ev g C E q p' ls (.ref k :: r) (W0 L (shl ++ [(c, len)]), pm_z mi k (k + 1) 0, pm_z ml k (k + 1) 0, pm_z mr k (k + 1) none)) : Ev g C E q pc ls r (W0 L shl, mi, ml, mr) := by
  subst hN hk hl
  refine ev_new c h hp hw hc (by show shl.length + 2 < 1000000; omega) ?_
  rw [W0_new]
  exact kk
theorem ev_newaW {g : Nat → Prop} {C : Nat → List Value → pm_M → Option Value → pm_M → Prop} {E : Option Value → pm_M → Prop} {q : pm_D} {pc p' : Nat} {ls : pm_L} {r : List Value} {mi : Nat → Nat → Int32} {ml : Nat → Nat → Int64} {mr : Nat → Nat → Option Nat} {L N k : Nat} {t : ArrayType} {shl : List (Nat × Nat)} (tg len : Nat) (h : pm_at q pc = some (.newarray t, 2)) (hp : pc + 2 = p') (ht : pm_atag t = some tg) (hm : len ≤ 100000) (hN : shl.length = N) (hk : N + 1 = k) (hb : k + 1 < 1000000)
    (kk : Ev g C E q p' ls (.ref k :: r) (W0 L (shl ++ [(tg, len)]), pm_z mi k (k + 1) 0, pm_z ml k (k + 1) 0, pm_z mr k (k + 1) none)) : Ev g C E q pc ls (.int (nI len) :: r) (W0 L shl, mi, ml, mr) := by
  subst hN hk
  have e : (nI len).toNatClampNeg = len := nI_clamp (by omega)
  refine ev_newa tg h hp (nI_pos (by omega)) (by rw [e]; exact hm) ht (by show shl.length + 2 < 1000000; omega) ?_
  rw [e, W0_new]
  exact kk
theorem ev_anewaW {g : Nat → Prop} {C : Nat → List Value → pm_M → Option Value → pm_M → Prop} {E : Option Value → pm_M → Prop} {q : pm_D} {pc p' : Nat} {ls : pm_L} {r : List Value} {mi : Nat → Nat → Int32} {ml : Nat → Nat → Int64} {mr : Nat → Nat → Option Nat} {L N i k : Nat} {shl : List (Nat × Nat)} (tg len : Nat) (h : pm_at q pc = some (.anewarray i, 3)) (hp : pc + 3 = p') (hw : (q.2.1, i, tg) ∈ k_nw) (ht : 23 ≤ tg ∧ tg ≤ 26) (hm : len ≤ 100000) (hN : shl.length = N) (hk : N + 1 = k) (hb : k + 1 < 1000000)
    (kk : Ev g C E q p' ls (.ref k :: r) (W0 L (shl ++ [(tg, len)]), pm_z mi k (k + 1) 0, pm_z ml k (k + 1) 0, pm_z mr k (k + 1) none)) : Ev g C E q pc ls (.int (nI len) :: r) (W0 L shl, mi, ml, mr) := by
  subst hN hk
  have e : (nI len).toNatClampNeg = len := nI_clamp (by omega)
  refine ev_anewa tg h hp (nI_pos (by omega)) (by rw [e]; exact hm) hw ht (by show shl.length + 2 < 1000000; omega) ?_
  rw [e, W0_new]
  exact kk
theorem ev_mnewW {g : Nat → Prop} {C : Nat → List Value → pm_M → Option Value → pm_M → Prop} {E : Option Value → pm_M → Prop} {q : pm_D} {pc p' : Nat} {ls : pm_L} {r : List Value} {mi : Nat → Nat → Int32} {ml : Nat → Nat → Int64} {mr : Nat → Nat → Option Nat} {L N i k x y : Nat} {shl : List (Nat × Nat)} (h : pm_at q pc = some (.multianewarray i 2, 4)) (hp : pc + 4 = p') (hw : (q.2.1, i, 27) ∈ k_nw) (hx : x ≤ 1000) (hy : y ≤ 1000) (hN : shl.length = N) (hk : N + 1 = k) (hb : k + 1 < 990000)
    (kk : Ev g C E q p' ls (.ref k :: r) (W0 L (shl ++ (27, x) :: List.replicate x (20, y)), pm_z mi k (k + 1 + x) 0, pm_z ml k (k + 1 + x) 0, pm_zr mr k (k + 1 + x) k x)) : Ev g C E q pc ls (.int (nI y) :: .int (nI x) :: r) (W0 L shl, mi, ml, mr) := by
  subst hN hk
  have e : (nI x).toNatClampNeg = x := nI_clamp (by omega)
  have e2 : (nI y).toNatClampNeg = y := nI_clamp (by omega)
  refine ev_mnew h hp (nI_pos (by omega)) (nI_pos (by omega)) (by rw [e]; exact hx) (by rw [e2]; exact hy) hw (by rw [e]; show shl.length + 2 + x < 1000000; omega) ?_
  rw [e, e2, W0_new2, show shl.length + (2 + x) = shl.length + 1 + 1 + x by omega]
  exact kk
theorem ev_aastN {g : Nat → Prop} {C : Nat → List Value → pm_M → Option Value → pm_M → Prop} {E : Option Value → pm_M → Prop} {q : pm_D} {pc p' : Nat} {ls : pm_L} {r : List Value} {mi : Nat → Nat → Int32} {ml : Nat → Nat → Int64} {mr : Nat → Nat → Option Nat} {n z : Nat} {sh : Nat → Nat × Nat} {i k a m : Nat} (t c : Nat) (h : pm_at q pc = some (.aastore, 1)) (hp : pc + 1 = p') (hi : pm_is ((n, z, sh), mi, ml, mr) k t) (hl : (sh k).2 = m) (hm : i < m) (hm2 : m < 2 ^ 31) (hia : pm_is ((n, z, sh), mi, ml, mr) a c) (htc : (t, c) ∈ [(23, 4), (24, 2), (25, 3), (26, 8), (26, 6), (26, 0), (26, 1), (26, 5), (26, 10)]) (hg : g k)
    (kk : Ev g C E q p' ls r ((n, z, sh), mi, ml, pm_u mr k i (some a))) : Ev g C E q pc ls (.ref a :: .int (nI i) :: .ref k :: r) ((n, z, sh), mi, ml, mr) := by
  refine ev_aast t c h hp (by rw [hl]; exact vp_in_nI hm hm2) hi hia htc hg ?_
  rw [nI_clamp (by omega)]
  exact kk
theorem pm_z_lo {α : Type} {f : Nat → Nat → α} {lo hi a : Nat} {v : α} (h : a < lo) : pm_z f lo hi v a = f a := by
  funext i
  exact if_neg (by omega)
theorem pm_zin {α : Type} {f : Nat → Nat → α} {lo hi a i : Nat} {v : α} (h : lo ≤ a ∧ a < hi) : pm_z f lo hi v a i = v := if_pos h
theorem pm_zr_lo {f : Nat → Nat → Option Nat} {lo hi o m a : Nat} (h : a < lo) (h2 : a ≠ o) : pm_zr f lo hi o m a = f a := by
  funext i
  unfold pm_zr
  rw [if_neg (by omega), if_neg (by omega)]
theorem pm_zr_row {f : Nat → Nat → Option Nat} {lo hi o m i : Nat} (h : i < m) : pm_zr f lo hi o m o i = some (o + 1 + i) := if_pos ⟨rfl, h⟩
theorem rep_s {x : List (Nat × Nat)} {a : Nat × Nat} {i : Nat} : x ++ List.replicate i a ++ [a] = x ++ List.replicate (i + 1) a := by rw [List.append_assoc, ← List.replicate_succ']
def pgS : List (Nat × Nat) := (25, 7) :: (20, 7) :: List.replicate 7 (3, 8)
theorem pgS_len : pgS.length = 9 := rfl
theorem pgS_e {shl : List (Nat × Nat)} : shl ++ [(25, 7)] ++ [(20, 7)] ++ List.replicate 7 (3, 8) = shl ++ pgS := by simp [pgS, List.append_assoc]
/-- what a page's maker leaves: below p + 1 all is as it was -/
def UP (p : Nat) (mi0 mi : Nat → Nat → Int32) (ml0 ml : Nat → Nat → Int64) (mr0 mr : Nat → Nat → Option Nat) : Prop := ∀ a, a ≤ p → mi a = mi0 a ∧ ml a = ml0 a ∧ mr a = mr0 a
theorem UP.trans {p p2 : Nat} {a b c : Nat → Nat → Int32} {a1 b1 c1 : Nat → Nat → Int64} {a2 b2 c2 : Nat → Nat → Option Nat} (h : UP p a b a1 b1 a2 b2) (h2 : UP p2 b c b1 c1 b2 c2) (hp : p ≤ p2) : UP p a c a1 c1 a2 c2 := fun x hx => by
  obtain ⟨e1, e2, e3⟩ := h x hx
  obtain ⟨f1, f2, f3⟩ := h2 x (by omega)
  exact ⟨f1.trans e1, f2.trans e2, f3.trans e3⟩
theorem UP.rf {p : Nat} {a : Nat → Nat → Int32} {a1 : Nat → Nat → Int64} {a2 : Nat → Nat → Option Nat} : UP p a a a1 a1 a2 a2 := fun _ _ => ⟨rfl, rfl, rfl⟩
def PGF (p K : Nat) (mi : Nat → Nat → Int32) (mr : Nat → Nat → Option Nat) (i : Nat) : Prop := mr (p + 1) 0 = some K ∧ mr (p + 1) 1 = some (p + 2) ∧ mr (p + 1) 2 = some (p + 3) ∧ (∀ j, j < i → mr (p + 2) j = some (p + 3 + j + 1)) ∧ mi (p + 1) 3 = 20 ∧ mi (p + 1) 4 = 0 ∧ mi (p + 1) 5 = 0
theorem s_iPiece {g : Nat → Prop} {mem : pm_M} (d : Nat) {b : Nat} : pm_ev g (d + 1) 29 [.ref b] mem none mem := by
  refine ev_enter (q := q_29) rfl (Nat.le_of_ble_eq_true rfl) rfl ?_
  refine ev_aload_n (p' := 1) i_29_0 rfl rfl ?_
  refine ev_objInit (p' := 4) i_29_1 rfl cl_3_1_0 (Nat.le_of_ble_eq_true rfl) ?_
  exact ev_ret i_29_4 rfl ⟨rfl, rfl⟩
theorem s_iVee {g : Nat → Prop} {mem : pm_M} (d : Nat) {b : Nat} : pm_ev g (d + 1) 58 [.ref b] mem none mem := by
  refine ev_enter (q := q_58) rfl (Nat.le_of_ble_eq_true rfl) rfl ?_
  refine ev_aload_n (p' := 1) i_58_0 rfl rfl ?_
  refine ev_objInit (p' := 4) i_58_1 rfl cl_8_3_0 (Nat.le_of_ble_eq_true rfl) ?_
  exact ev_ret i_58_4 rfl ⟨rfl, rfl⟩
theorem s_iTent {g : Nat → Prop} {mem : pm_M} (d : Nat) {b : Nat} (hi : pm_is mem b 6) : pm_ev g (d + 2) 42 [.ref b] mem none mem := by
  refine ev_enter (q := q_42) rfl (Nat.le_of_ble_eq_true rfl) rfl ?_
  refine ev_aload_n (p' := 1) i_42_0 rfl rfl ?_
  refine ev_p0V (p' := 4) i_42_1 rfl cl_6_3_6 (by decide) hi (Nat.le_of_ble_eq_true rfl) (s_iVee _) ?_
  exact ev_ret i_42_4 rfl ⟨rfl, rfl⟩
theorem s_iBox0 {g : Nat → Prop} {mem : pm_M} (d : Nat) {b : Nat} (hi : pm_is mem b 0) : pm_ev g (d + 2) 0 [.ref b] mem none mem := by
  refine ev_enter (q := q_0) rfl (Nat.le_of_ble_eq_true rfl) rfl ?_
  refine ev_aload_n (p' := 1) i_0_0 rfl rfl ?_
  refine ev_p0V (p' := 4) i_0_1 rfl cl_0_3_0 (by decide) hi (Nat.le_of_ble_eq_true rfl) (s_iVee _) ?_
  exact ev_ret i_0_4 rfl ⟨rfl, rfl⟩
theorem s_iBox5 {g : Nat → Prop} {mem : pm_M} (d : Nat) {b : Nat} (hi : pm_is mem b 5) : pm_ev g (d + 2) 0 [.ref b] mem none mem := by
  refine ev_enter (q := q_0) rfl (Nat.le_of_ble_eq_true rfl) rfl ?_
  refine ev_aload_n (p' := 1) i_0_0 rfl rfl ?_
  refine ev_p0V (p' := 4) i_0_1 rfl cl_0_3_5 (by decide) hi (Nat.le_of_ble_eq_true rfl) (s_iVee _) ?_
  exact ev_ret i_0_4 rfl ⟨rfl, rfl⟩
theorem s_iFlap1 {g : Nat → Prop} {mem : pm_M} (d : Nat) {b : Nat} (hi : pm_is mem b 1) : pm_ev g (d + 2) 4 [.ref b] mem none mem := by
  refine ev_enter (q := q_4) rfl (Nat.le_of_ble_eq_true rfl) rfl ?_
  refine ev_aload_n (p' := 1) i_4_0 rfl rfl ?_
  refine ev_p0V (p' := 4) i_4_1 rfl cl_1_1_1 (by decide) hi (Nat.le_of_ble_eq_true rfl) (s_iVee _) ?_
  exact ev_ret i_4_4 rfl ⟨rfl, rfl⟩
theorem s_iFlap10 {g : Nat → Prop} {mem : pm_M} (d : Nat) {b : Nat} (hi : pm_is mem b 10) : pm_ev g (d + 2) 4 [.ref b] mem none mem := by
  refine ev_enter (q := q_4) rfl (Nat.le_of_ble_eq_true rfl) rfl ?_
  refine ev_aload_n (p' := 1) i_4_0 rfl rfl ?_
  refine ev_p0V (p' := 4) i_4_1 rfl cl_1_1_10 (by decide) hi (Nat.le_of_ble_eq_true rfl) (s_iVee _) ?_
  exact ev_ret i_4_4 rfl ⟨rfl, rfl⟩
theorem s_iStage {g : Nat → Prop} {mem : pm_M} (d : Nat) {b : Nat} (hi : pm_is mem b 5) : pm_ev g (d + 3) 39 [.ref b] mem none mem := by
  refine ev_enter (q := q_39) rfl (Nat.le_of_ble_eq_true rfl) rfl ?_
  refine ev_aload_n (p' := 1) i_39_0 rfl rfl ?_
  refine ev_p0V (p' := 4) i_39_1 rfl cl_5_1_5 (by decide) hi (Nat.le_of_ble_eq_true rfl) (s_iBox5 _ hi) ?_
  exact ev_ret i_39_4 rfl ⟨rfl, rfl⟩
theorem s_iWheel {g : Nat → Prop} {mem : pm_M} (d : Nat) {b : Nat} (hi : pm_is mem b 10) : pm_ev g (d + 3) 66 [.ref b] mem none mem := by
  refine ev_enter (q := q_66) rfl (Nat.le_of_ble_eq_true rfl) rfl ?_
  refine ev_aload_n (p' := 1) i_66_0 rfl rfl ?_
  refine ev_p0V (p' := 4) i_66_1 rfl cl_10_1_10 (by decide) hi (Nat.le_of_ble_eq_true rfl) (s_iFlap10 _ hi) ?_
  exact ev_ret i_66_4 rfl ⟨rfl, rfl⟩
theorem PGF.step {p K i : Nat} {mi : Nat → Nat → Int32} {mr : Nat → Nat → Option Nat} (h : PGF p K mi mr i) : PGF p K (pm_z mi (p + 3 + i + 1) (p + 3 + i + 1 + 1) 0) (pm_u (pm_z mr (p + 3 + i + 1) (p + 3 + i + 1 + 1) none) (p + 2) i (some (p + 3 + i + 1))) (i + 1) := by
  obtain ⟨a1, a2, a3, a4, a5, a6, a7⟩ := h
  have e : pm_u (pm_z mr (p + 3 + i + 1) (p + 3 + i + 1 + 1) none) (p + 2) i (some (p + 3 + i + 1)) (p + 1) = mr (p + 1) := by rw [pm_u_ne (by omega), pm_z_lo (by omega)]
  refine ⟨by rw [e]; exact a1, by rw [e]; exact a2, by rw [e]; exact a3, fun j hj => ?_, by rw [pm_z_lo (by omega)]; exact a5, by rw [pm_z_lo (by omega)]; exact a6, by rw [pm_z_lo (by omega)]; exact a7⟩
  by_cases hh : j = i
  · subst hh; exact pm_u_self
  · rw [pm_u_oth hh, pm_z_lo (by omega)]; exact a4 j (by omega)
theorem l_iPage {L p K : Nat} {shl : List (Nat × Nat)} {mi0 : Nat → Nat → Int32} {ml0 : Nat → Nat → Int64} {mr0 : Nat → Nat → Option Nat} {E : Option Value → pm_M → Prop} {d : Nat} (hl : shl.length = p + 1) (hP : shl[p]? = some (2, 6)) (hb : p + 100 < 900000) (hE : ∀ mi ml mr, UP p mi0 mi ml0 ml mr0 mr → PGF p K mi mr 7 → E none (W0 L (shl ++ pgS), mi, ml, mr)) : ∀ k i mi ml mr, i + k = 7 → UP p mi0 mi ml0 ml mr0 mr → PGF p K mi mr i → Ev gT (pm_ev gT (d + 1)) E q_7 44 [some (.ref (p + 1)), some (.ref K), some (.int (nI i))] [] (W0 L (shl ++ [(25, 7)] ++ [(20, 7)] ++ List.replicate i (3, 8)), mi, ml, mr) := by
  intro k
  induction k with
  | zero =>
    intro i mi ml mr hi hU hI
    have hi : i = 7 := by omega
    subst hi
    refine ev_iload_n (p' := 45) i_7_44 rfl rfl ?_
    refine ev_bipush (p' := 47) (v := 7) i_7_45 rfl (by decide) ?_
    refine ev_icmp_ge (p' := 50) (tg := 69) i_7_47 rfl rfl (fun c47 => ?_) (fun c47 => absurd (by decide) c47)
    exact ev_ret i_7_69 rfl (by rw [pgS_e]; exact hE _ _ _ hU hI)
  | succ k ih =>
    intro i mi ml mr hi hU hI
    refine ev_iload_n (p' := 45) i_7_44 rfl rfl ?_
    refine ev_bipush (p' := 47) (v := 7) i_7_45 rfl (by decide) ?_
    refine ev_icmp_ge (p' := 50) (tg := 69) i_7_47 rfl rfl (fun c47 => absurd c47 (nI_ge (b := 7) (by omega) (by decide))) (fun c47 => ?_)
    refine ev_aload_n (p' := 51) i_7_50 rfl rfl ?_
    refine ev_getr (p' := 54) i_7_51 rfl fl_2_11 rfl (isW (i := p) rfl (isA (isA (isA hP)))) hI.2.1 ?_
    refine ev_iload_n (p' := 55) i_7_54 rfl rfl ?_
    refine ev_newW (p' := 58) 3 8 (k := p + 3 + i + 1) i_7_55 rfl (by decide +kernel) (by decide) rfl (by (try simp only [List.length_append, List.length_cons, List.length_nil, List.length_replicate]); omega) rfl (by omega) ?_
    refine ev_dup (p' := 59) i_7_58 rfl rfl ?_
    refine ev_p0V (p' := 62) i_7_59 rfl cl_2_35_3 (by decide) (isW (i := p + 3 + i) rfl (isN (by (try simp only [List.length_append, List.length_cons, List.length_nil, List.length_replicate]); omega))) (Nat.le_of_ble_eq_true rfl) (s_iPiece _) ?_
    refine ev_aastN (p' := 63) 25 3 i_7_62 rfl (isW (i := p + 1) rfl (isA (isA (isA (isN hl))))) (lnW (i := p + 1) rfl (isA (isA (isA (isN hl))))) (by omega) (by decide) (isW (i := p + 3 + i) rfl (isN (by (try simp only [List.length_append, List.length_cons, List.length_nil, List.length_replicate]); omega))) (by decide) trivial ?_
    refine ev_iinc (p' := 66) (ls' := [_, _, _]) i_7_63 rfl rfl rfl (by decide) (nI_inc _) rfl ?_
    refine ev_goto (tg := 44) i_7_66 rfl ?_
    rw [rep_s]
    exact ih (i + 1) _ _ _ (by omega) (hU.trans (fun a ha => ⟨pm_z_lo (by omega), pm_z_lo (by omega), by rw [pm_u_ne (by omega), pm_z_lo (by omega)]⟩) (Nat.le_refl _)) hI.step
theorem s_iPage {L p K : Nat} {shl : List (Nat × Nat)} {mi : Nat → Nat → Int32} {ml : Nat → Nat → Int64} {mr : Nat → Nat → Option Nat} (hl : shl.length = p + 1) (hP : shl[p]? = some (2, 6)) (hb : p + 100 < 900000) (d : Nat) : ∃ mi' ml' mr', pm_ev gT (d + 2) 7 [.ref (p + 1), .ref K] (W0 L shl, mi, ml, mr) none (W0 L (shl ++ pgS), mi', ml', mr') ∧ (UP p mi mi' ml ml' mr mr' ∧ PGF p K mi' mr' 7) := by
  obtain ⟨_x, m', ⟨h1, mi1, ml1, mr1, h2, h3⟩, h5⟩ := ev_some (E := fun _x m => _x = none ∧ ∃ mi' ml' mr', m = (W0 L (shl ++ pgS), mi', ml', mr') ∧ (UP p mi mi' ml ml' mr mr' ∧ PGF p K mi' mr' 7)) (g := gT) (d := d + 1) (M := 7) (args := [.ref (p + 1), .ref K]) (mem := (W0 L shl, mi, ml, mr)) (q := q_7) rfl (Nat.le_of_ble_eq_true rfl) rfl (by
    refine ev_aload_n (p' := 1) i_7_0 rfl rfl ?_
    refine ev_objInit (p' := 4) i_7_1 rfl cl_2_3_0 (Nat.le_of_ble_eq_true rfl) ?_
    refine ev_aload_n (p' := 5) i_7_4 rfl rfl ?_
    refine ev_bipush (p' := 7) (v := nI 7) i_7_5 rfl (by decide) ?_
    refine ev_anewaW (p' := 10) 25 7 (k := p + 2) i_7_7 rfl (by decide +kernel) (by decide) (by decide) (by (try simp only [List.length_append, List.length_cons, List.length_nil, List.length_replicate]); omega) rfl (by omega) ?_
    refine ev_putr (p' := 13) i_7_10 rfl fl_2_11 rfl (isW (i := p) rfl (isA hP)) trivial rfl rfl ?_
    refine ev_aload_n (p' := 14) i_7_13 rfl rfl ?_
    refine ev_bipush (p' := 16) (v := nI 7) i_7_14 rfl (by decide) ?_
    refine ev_newaW (p' := 18) 20 7 (k := p + 3) i_7_16 rfl rfl (by decide) (by (try simp only [List.length_append, List.length_cons, List.length_nil, List.length_replicate]); omega) rfl (by omega) ?_
    refine ev_putr (p' := 21) i_7_18 rfl fl_2_17 rfl (isW (i := p) rfl (isA (isA hP))) trivial rfl rfl ?_
    refine ev_aload_n (p' := 22) i_7_21 rfl rfl ?_
    refine ev_bipush (p' := 24) (v := 20) i_7_22 rfl (by decide) ?_
    refine ev_puti (p' := 27) i_7_24 rfl fl_2_21 rfl (isW (i := p) rfl (isA (isA hP))) trivial rfl ?_
    refine ev_aload_n (p' := 28) i_7_27 rfl rfl ?_
    refine ev_iconst (p' := 29) (v := 0) i_7_28 rfl (by decide) ?_
    refine ev_puti (p' := 32) i_7_29 rfl fl_2_25 rfl (isW (i := p) rfl (isA (isA hP))) trivial rfl ?_
    refine ev_aload_n (p' := 33) i_7_32 rfl rfl ?_
    refine ev_iconst (p' := 34) (v := 0) i_7_33 rfl (by decide) ?_
    refine ev_puti (p' := 37) i_7_34 rfl fl_2_28 rfl (isW (i := p) rfl (isA (isA hP))) trivial rfl ?_
    refine ev_aload_n (p' := 38) i_7_37 rfl rfl ?_
    refine ev_aload_n (p' := 39) i_7_38 rfl rfl ?_
    refine ev_putr (p' := 42) i_7_39 rfl fl_2_31 rfl (isW (i := p) rfl (isA (isA hP))) trivial rfl rfl ?_
    refine ev_iconst (p' := 43) (v := nI 0) i_7_42 rfl (by decide) ?_
    refine ev_istore_n (p' := 44) (ls' := [_, _, _]) i_7_43 rfl rfl (by decide) rfl ?_
    refine ev_cast rfl rfl (by rw [show shl ++ [(25, 7)] ++ [(20, 7)] = shl ++ [(25, 7)] ++ [(20, 7)] ++ List.replicate 0 (3, 8) from (List.append_nil _).symm]) ?_
    exact l_iPage (mi0 := mi) (ml0 := ml) (mr0 := mr) hl hP hb (fun mi1 ml1 mr1 z1 z2 => ⟨rfl, mi1, ml1, mr1, rfl, z1, z2⟩) 7 0 _ _ _ (by decide) (fun a ha => ⟨by rw [pm_u_ne (by omega), pm_u_ne (by omega), pm_u_ne (by omega), pm_z_lo (by omega), pm_z_lo (by omega)], by rw [pm_z_lo (by omega), pm_z_lo (by omega)], by rw [pm_u_ne (by omega), pm_u_ne (by omega), pm_z_lo (by omega), pm_u_ne (by omega), pm_z_lo (by omega)]⟩) ⟨pm_u_self, by rw [pm_u_oth (by decide), pm_u_oth (by decide), pm_z_lo (by omega)]; exact pm_u_self, by rw [pm_u_oth (by decide)]; exact pm_u_self, fun j hj => absurd hj (Nat.not_lt_zero j), by rw [pm_u_oth (by decide), pm_u_oth (by decide)]; exact pm_u_self, by rw [pm_u_oth (by decide)]; exact pm_u_self, pm_u_self⟩)
  subst h1 h2
  exact ⟨mi1, ml1, mr1, h5, h3⟩
