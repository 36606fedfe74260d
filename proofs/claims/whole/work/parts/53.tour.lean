/-! ===== tour: both sides ===== -/
def orr (f : Nat → Int32) (l : Nat) : Nat → Int32
  | 0 => 0
  | n + 1 => orr f l n ||| f (l + n)
theorem orr_s {f : Nat → Int32} {l n : Nat} : orr f l (n + 1) = orr f l n ||| f (l + n) := rfl
theorem orr_0 {f : Nat → Int32} {l : Nat} : orr f l 0 = 0 := rfl
abbrev cvr (W : Int32) (f : Nat → Int32) (l h : Nat) : Prop := W &&& (orr f l (h + 1 - l) ^^^ -1) = 0
theorem orr_bit {f : Nat → Int32} {l b : Nat} : ∀ n, (orr f l n).toBitVec.getLsbD b = true ↔ ∃ j, j < n ∧ (f (l + j)).toBitVec.getLsbD b = true := by
  intro n
  induction n with
  | zero =>
    rw [orr_0]
    constructor
    · intro h
      rw [show (0 : Int32).toBitVec = 0#32 from rfl, BitVec.getLsbD_zero] at h
      exact absurd h (by decide)
    · rintro ⟨j, h, -⟩
      exact absurd h (Nat.not_lt_zero j)
  | succ n ih =>
    rw [orr_s, Int32.toBitVec_or, BitVec.getLsbD_or, Bool.or_eq_true, ih]
    constructor
    · rintro (⟨j, h1, h2⟩ | h)
      · exact ⟨j, by omega, h2⟩
      · exact ⟨n, by omega, h⟩
    · rintro ⟨j, h1, h2⟩
      by_cases hj : j = n
      · subst hj; exact Or.inr h2
      · exact Or.inl ⟨j, by omega, h2⟩
theorem and_not0 {W x : Int32} : W &&& (x ^^^ -1) = 0 ↔ ∀ b, b < 32 → W.toBitVec.getLsbD b = true → x.toBitVec.getLsbD b = true := by
  rw [← Int32.toBitVec_inj, Int32.toBitVec_and, Int32.toBitVec_xor, show (-1 : Int32).toBitVec = BitVec.allOnes 32 from rfl, show (0 : Int32).toBitVec = 0#32 from rfl]
  constructor
  · intro h b hb hw
    have e := congrArg (fun z => z.getLsbD b) h
    simp only [BitVec.getLsbD_and, BitVec.getLsbD_xor, BitVec.getLsbD_allOnes, BitVec.getLsbD_zero, hw, hb, decide_true, Bool.true_and] at e
    cases hx : x.toBitVec.getLsbD b
    · rw [hx] at e; exact absurd e (by decide)
    · rfl
  · intro h
    apply BitVec.eq_of_getLsbD_eq
    intro b hb
    simp only [BitVec.getLsbD_and, BitVec.getLsbD_xor, BitVec.getLsbD_allOnes, BitVec.getLsbD_zero, hb, decide_true]
    cases hw : W.toBitVec.getLsbD b
    · rfl
    · rw [h b hb hw]; rfl
theorem cvr_mono {W : Int32} {f : Nat → Int32} {l h l' h' : Nat} (h1 : l' ≤ l) (h2 : h ≤ h') (hc : cvr W f l h) : cvr W f l' h' := by
  refine and_not0.mpr ?_
  intro b hb hw
  obtain ⟨j, h3, h4⟩ := (orr_bit _).mp (and_not0.mp hc b hb hw)
  exact (orr_bit _).mpr ⟨l + j - l', by omega, by rw [show l' + (l + j - l') = l + j by omega]; exact h4⟩
theorem mnI {a b : Nat} (ha : a < 2 ^ 31) (hb : b < 2 ^ 31) : (if nI b < nI a then nI b else nI a) = nI (min a b) := by
  by_cases h : b < a
  · rw [if_pos (nI_lt h ha), Nat.min_eq_right (by omega)]
  · rw [if_neg (nI_nlt (by omega) hb), Nat.min_eq_left (by omega)]
theorem mxI {a b : Nat} (ha : a < 2 ^ 31) (hb : b < 2 ^ 31) : (if nI a < nI b then nI b else nI a) = nI (max a b) := by
  by_cases h : a < b
  · rw [if_pos (nI_lt h hb), Nat.max_eq_right (by omega)]
  · rw [if_neg (nI_nlt (by omega) ha), Nat.max_eq_left (by omega)]
theorem mx0 {a : Nat} (ha : a < 2 ^ 31) : (if (0 : Int32) < nI a then nI a else 0) = nI a := by
  have h := mxI (a := 0) (b := a) (by decide) ha
  rw [Nat.max_eq_right (Nat.zero_le a)] at h
  exact h
/-- a code of a walk: the sooner the less -/
def wcd (p : Nat → Nat) : Nat → Nat
  | 0 => 0
  | n + 1 => wcd p n * 13 + p n
theorem wcd_eq {p q : Nat → Nat} : ∀ n, (∀ j, j < n → p j = q j) → wcd p n = wcd q n := by
  intro n
  induction n with
  | zero => intro _; rfl
  | succ n ih => intro h; show wcd p n * 13 + p n = wcd q n * 13 + q n; rw [ih (fun j hj => h j (by omega)), h n (by omega)]
theorem wcd_lt {p q : Nat → Nat} {k : Nat} : ∀ n, (∀ j, j < n → p j < 13) → k < n → (∀ j, j < k → p j = q j) → p k < q k → wcd p n < wcd q n := by
  intro n
  induction n with
  | zero => intro _ h; exact absurd h (Nat.not_lt_zero k)
  | succ n ih =>
    intro hp hk he hl
    show wcd p n * 13 + p n < wcd q n * 13 + q n
    by_cases h : k = n
    · subst h
      rw [wcd_eq k he]
      omega
    · have h1 := ih (fun j hj => hp j (by omega)) (by omega) he hl
      have h2 := hp n (by omega)
      omega
theorem wkp_12 {s x y k : Nat} (hs : s ≤ 12) (hx : x ≤ 12) (hy : y ≤ 12) (hk : k ≤ wln s x y) : wkp s x y k ≤ 12 := by
  unfold wln at hk
  unfold wkp
  split <;> split <;> omega
def wky (s x y : Nat) : Nat := wln s x y * 13 ^ 40 + wcd (wkp s x y) (wln s x y + 1)
theorem wcd_up {p : Nat → Nat} : ∀ n, (∀ j, j < n → p j < 13) → wcd p n < 13 ^ n := by
  intro n
  induction n with
  | zero => intro _; show 0 < 13 ^ 0; decide
  | succ n ih =>
    intro h
    have h1 := ih (fun j hj => h j (by omega))
    have h2 := h n (by omega)
    show wcd p n * 13 + p n < 13 ^ (n + 1)
    rw [Nat.pow_succ]
    omega
theorem wky_lt {s x y x0 y0 : Nat} (hs : s ≤ 12) (hx : x ≤ 12) (hy : y ≤ 12) (hx0 : x0 ≤ 12) (hy0 : y0 ≤ 12) (h : sn2 s x y x0 y0) : wky s x y < wky s x0 y0 := by
  have b1 : ∀ j, j < wln s x y + 1 → wkp s x y j < 13 := fun j hj => by have := wkp_12 hs hx hy (show j ≤ wln s x y by omega); omega
  have hl : wln s x y + 1 ≤ 40 := by unfold wln; omega
  have u1 : wcd (wkp s x y) (wln s x y + 1) < 13 ^ 40 := Nat.lt_of_lt_of_le (wcd_up _ b1) (Nat.pow_le_pow_right (by decide) hl)
  have same : ∀ k, wln s x y = wln s x0 y0 → k < wln s x y + 1 → (∀ j, j < k → wkp s x y j = wkp s x0 y0 j) → wkp s x y k < wkp s x0 y0 k → wky s x y < wky s x0 y0 := fun k e hk he hlt => by
    unfold wky
    rw [← e]
    exact Nat.add_lt_add_left (wcd_lt _ b1 hk he hlt) _
  rcases h with (h | ⟨e, k, h1, h2, h3⟩) | ⟨e1, e2, h3⟩
  · unfold wky
    generalize 13 ^ 40 = Z at *
    obtain ⟨w, hw⟩ : ∃ w, wln s x0 y0 = wln s x y + 1 + w := ⟨wln s x0 y0 - (wln s x y + 1), by omega⟩
    rw [hw, Nat.add_mul, Nat.add_mul, Nat.one_mul]
    omega
  · exact same k e (by omega) h2 h3
  · refine same 1 (e1.trans e2.symm) (by omega) (fun j hj => ?_) h3
    have : j = 0 := by omega
    subst this
    rw [wkp_0, wkp_0]
abbrev cnd (cov : Nat → Nat → Prop) (s x y l h : Nat) : Prop := l ≤ s ∧ s ≤ h ∧ h ≤ 12 ∧ cov l h ∧ ((x = l ∧ y = h) ∨ (x = h ∧ y = l))
theorem tour_opt {cov : Nat → Nat → Prop} {s : Nat} (hs : s ≤ 12) : ∀ n x y l h, wky s x y < n → cnd cov s x y l h → ∃ x0 y0 l0 h0, cnd cov s x0 y0 l0 h0 ∧ ∀ l h, l ≤ s → s ≤ h → h ≤ 12 → cov l h → ¬ sn2 s l h x0 y0 ∧ ¬ sn2 s h l x0 y0 := by
  intro n
  induction n with
  | zero => intro x y l h h1; exact absurd h1 (Nat.not_lt_zero _)
  | succ n ih =>
    intro x y l h h1 hc
    apply Classical.byContradiction
    intro hn
    apply hn
    refine ⟨x, y, l, h, hc, fun l' h' g1 g2 g3 g4 => ⟨fun z => ?_, fun z => ?_⟩⟩
    · have hk := wky_lt hs (by omega) (by omega) (by have := hc.2.2.2.2; omega) (by have := hc.2.2.2.2; omega) z
      exact hn (ih l' h' l' h' (by omega) ⟨g1, g2, g3, g4, Or.inl ⟨rfl, rfl⟩⟩)
    · have hk := wky_lt hs (by omega) (by omega) (by have := hc.2.2.2.2; omega) (by have := hc.2.2.2.2; omega) z
      exact hn (ih h' l' l' h' (by omega) ⟨g1, g2, g3, g4, Or.inr ⟨rfl, rfl⟩⟩)
theorem gst_12 {cov : Nat → Nat → Prop} {s : Nat} (hs : s ≤ 12) (hc : cov 0 12) : ∀ k, k ≤ SLf cov s s s → (gst cov s (SLf cov s s s) k).2.2 ≤ 12 := by
  obtain ⟨x0, y0, l0, h0, ⟨h1, h2, h3, h4, hb⟩, hopt⟩ := tour_opt hs (wky s 0 12 + 1) 0 12 0 12 (Nat.lt_succ_self _) ⟨Nat.zero_le _, hs, Nat.le_refl _, hc, Or.inl ⟨rfl, rfl⟩⟩
  have hl := tour_len hs h1 h2 h3 h4 hb hopt
  intro k hk
  generalize hm : SLf cov s s s = m at *
  rcases hb with ⟨rfl, rfl⟩ | ⟨rfl, rfl⟩
  · obtain ⟨p1, p2⟩ := tour_d hs h1 h2 h3 h4 hopt hm.symm hl
    rw [wlnd h1 h2] at hl
    by_cases h : k ≤ s - x0
    · rw [p1 k h]; exact hs
    · have p := p2 (k - (s - x0)) (by omega)
      rw [show s - x0 + (k - (s - x0)) = k by omega] at p
      rw [p]
      show max s (x0 + (k - (s - x0))) ≤ 12
      omega
  · obtain ⟨p1, p2⟩ := tour_u hs h1 h2 h3 h4 hopt hm.symm hl
    rw [wlnu h1 h2] at hl
    by_cases h : k ≤ x0 - s
    · rw [p1 k h]; show s + k ≤ 12; omega
    · have p := p2 (k - (x0 - s)) (by omega)
      rw [show x0 - s + (k - (x0 - s)) = k by omega] at p
      rw [p]
      exact h3
theorem SL_1000 {cov : Nat → Nat → Prop} {a lo hi : Nat} : SLf cov a lo hi ≤ 1000 := slB_le0 _ _
theorem slT_0 {cov : Nat → Nat → Prop} {a lo hi b t x : Nat} : slT cov a lo hi b 0 t x = x := rfl
theorem slB_0 {cov : Nat → Nat → Prop} {a lo hi x : Nat} : slB cov a lo hi 0 x = slT cov a lo hi 0 (13 - hi) hi x := rfl
theorem slB_s {cov : Nat → Nat → Prop} {a lo hi b x : Nat} : slB cov a lo hi (b + 1) x = slB cov a lo hi b (slT cov a lo hi (b + 1) (13 - hi) hi x) := rfl
def TW (mi : Nat → Nat → Int32) (W : Int32) (f : Nat → Int32) : Prop := mi 6 1 = W ∧ ∀ o, o < 13 → mi 7 o = f o
theorem l_cov {L : Nat} {π : Nat → Nat → Nat} {mi : Nat → Nat → Int32} {ml : Nat → Nat → Int64} {mr : Nat → Nat → Option Nat} {d : Nat} (hw : WR π mr) {W : Int32} {f : Nat → Int32} (hT : TW mi W f) {l h : Nat} (hl : l ≤ h) (hh : h ≤ 12) : ∀ k n, n + k = h + 1 - l → Ev gC (pm_ev gC d) (fun r m => r = some (.int (B (cvr W f l h))) ∧ m = (WW L, mi, ml, mr)) q_63 9 [some (.ref 6), some (.int (nI l)), some (.int (nI h)), some (.int (orr f l n)), some (.int (nI (l + n)))] [] (WW L, mi, ml, mr) := by
  intro k
  induction k with
  | zero =>
    intro n hn
    have hn : n = h + 1 - l := by omega
    subst hn
    refine ev_iload (p' := 11) i_63_9 rfl rfl ?_
    refine ev_iload_n (p' := 12) i_63_11 rfl rfl ?_
    refine ev_icmp_gt (p' := 15) (tg := 38) i_63_12 rfl rfl (fun c12 => ?_) (fun c12 => absurd (nI_lt (by omega) (by omega)) c12)
    refine ev_aload_n (p' := 39) i_63_38 rfl rfl ?_
    refine ev_geti (p' := 42) i_63_39 rfl fl_9_15 rfl is_6 ?_
    rw [hT.1]
    refine ev_iload_n (p' := 43) i_63_42 rfl rfl ?_
    refine ev_iconst (p' := 44) (v := -1) i_63_43 rfl (by decide) ?_
    refine ev_ixor (p' := 45) i_63_44 rfl ?_
    refine ev_iand (p' := 46) i_63_45 rfl ?_
    refine ev_if_ne (p' := 49) (tg := 53) i_63_46 rfl rfl (fun c46 => ?_) (fun c46 => ?_)
    · refine ev_iconst (p' := 54) (v := 0) i_63_53 rfl (by decide) ?_
      exact ev_iret i_63_54 rfl rfl ⟨by rw [B_f c46], rfl⟩
    · refine ev_iconst (p' := 50) (v := 1) i_63_49 rfl (by decide) ?_
      refine ev_goto (tg := 54) i_63_50 rfl ?_
      exact ev_iret i_63_54 rfl rfl ⟨by rw [B_t (Classical.not_not.mp c46)], rfl⟩
  | succ k ih =>
    intro n hn
    refine ev_iload (p' := 11) i_63_9 rfl rfl ?_
    refine ev_iload_n (p' := 12) i_63_11 rfl rfl ?_
    refine ev_icmp_gt (p' := 15) (tg := 38) i_63_12 rfl rfl (fun c12 => absurd c12 (nI_nlt (by omega) (by omega))) (fun c12 => ?_)
    refine ev_iload (p' := 17) i_63_15 rfl rfl ?_
    refine ev_bipush (p' := 19) (v := 12) i_63_17 rfl (by decide) ?_
    refine ev_icmp_gt (p' := 22) (tg := 38) i_63_19 rfl rfl (fun c19 => absurd c19 (Int32.not_lt.mpr (nI_le (b := 12) (by omega) (by decide)))) (fun c19 => ?_)
    refine ev_iload_n (p' := 23) i_63_22 rfl rfl ?_
    refine ev_aload_n (p' := 24) i_63_23 rfl rfl ?_
    refine ev_getr (p' := 27) i_63_24 rfl fl_9_9 rfl is_6 (rf_6_0 hw) ?_
    refine ev_iload (p' := 29) i_63_27 rfl rfl ?_
    refine ev_ialdN (p' := 30) i_63_29 rfl is_7 len_7 (by omega) (by decide) ?_
    rw [hT.2 _ (show l + n < 13 by omega)]
    refine ev_ior (p' := 31) i_63_30 rfl ?_
    refine ev_istore_n (p' := 32) (ls' := [_, _, _, _, _]) i_63_31 rfl rfl (by decide) rfl ?_
    refine ev_iinc (p' := 35) (ls' := [_, _, _, _, _]) i_63_32 rfl rfl rfl (by decide) (nI_inc _) rfl ?_
    refine ev_goto (tg := 9) i_63_35 rfl ?_
    exact ih (n + 1) (by omega)
theorem s_cov {L : Nat} {π : Nat → Nat → Nat} {mi : Nat → Nat → Int32} {ml : Nat → Nat → Int64} {mr : Nat → Nat → Option Nat} (d : Nat) (hw : WR π mr) {W : Int32} {f : Nat → Int32} (hT : TW mi W f) {l h : Nat} (hl : l ≤ h) (hh : h ≤ 12) : pm_ev gC (d + 1) 63 [.ref 6, .int (nI l), .int (nI h)] (WW L, mi, ml, mr) (some (.int (B (cvr W f l h)))) (WW L, mi, ml, mr) := by
  refine ev_enter (q := q_63) rfl (Nat.le_of_ble_eq_true rfl) rfl ?_
  refine ev_iconst (p' := 1) (v := 0) i_63_0 rfl (by decide) ?_
  refine ev_istore_n (p' := 2) (ls' := [_, _, _, _, _]) i_63_1 rfl rfl (by decide) rfl ?_
  refine ev_iconst (p' := 3) (v := 0) i_63_2 rfl (by decide) ?_
  refine ev_iload_n (p' := 4) i_63_3 rfl rfl ?_
  refine ev_max (p' := 7) i_63_4 rfl cl_9_19_0 (Nat.le_of_ble_eq_true rfl) ?_
  rw [mx0 (by omega)]
  refine ev_istore (p' := 9) (ls' := [_, _, _, _, _]) i_63_7 rfl rfl (by decide) rfl ?_
  exact l_cov hw hT hl hh (h + 1 - l) 0 (by omega)
theorem l_sli {L : Nat} {π : Nat → Nat → Nat} {mi : Nat → Nat → Int32} {ml : Nat → Nat → Int64} {mr : Nat → Nat → Option Nat} {d : Nat} {E : Option Value → pm_M → Prop} (hw : WR π mr) {W : Int32} {f : Nat → Int32} (hT : TW mi W f) {a lo hi : Nat} (h1 : lo ≤ a) (h2 : a ≤ hi) (h3 : hi ≤ 12) {b : Nat} (hb : b ≤ lo) : ∀ k t x x7 x8, t + k = 13 → hi ≤ t → x ≤ 1000 → (∀ y6 y7 y8, Ev gC (pm_ev gC (d + 1)) E q_64 92 [some (.ref 6), some (.int (nI a)), some (.int (nI lo)), some (.int (nI hi)), some (.int (nI (slT (cvr W f) a lo hi b k t x))), some (.int (nI b)), y6, y7, y8] [] (WW L, mi, ml, mr)) → Ev gC (pm_ev gC (d + 1)) E q_64 16 [some (.ref 6), some (.int (nI a)), some (.int (nI lo)), some (.int (nI hi)), some (.int (nI x)), some (.int (nI b)), some (.int (nI t)), x7, x8] [] (WW L, mi, ml, mr) := by
  intro k
  induction k with
  | zero =>
    intro t x x7 x8 ht hh hx hk
    have ht : t = 13 := by omega
    subst ht
    rw [slT_0] at hk
    refine ev_iload (p' := 18) i_64_16 rfl rfl ?_
    refine ev_bipush (p' := 20) (v := 12) i_64_18 rfl (by decide) ?_
    refine ev_icmp_gt (p' := 23) (tg := 92) i_64_20 rfl rfl (fun c20 => ?_) (fun c20 => absurd (by decide) c20)
    exact hk _ _ _
  | succ k ih =>
    intro t x x7 x8 ht hh hx hk
    refine ev_iload (p' := 18) i_64_16 rfl rfl ?_
    refine ev_bipush (p' := 20) (v := 12) i_64_18 rfl (by decide) ?_
    refine ev_icmp_gt (p' := 23) (tg := 92) i_64_20 rfl rfl (fun c20 => absurd c20 (Int32.not_lt.mpr (nI_le (b := 12) (by omega) (by decide)))) (fun c20 => ?_)
    refine ev_aload_n (p' := 24) i_64_23 rfl rfl ?_
    refine ev_iload (p' := 26) i_64_24 rfl rfl ?_
    refine ev_iload (p' := 28) i_64_26 rfl rfl ?_
    refine ev_v2I (p' := 31) i_64_28 rfl cl_9_25_9 (by decide) is_6 (Nat.le_of_ble_eq_true rfl) (s_cov _ hw hT (show b ≤ t by omega) (show t ≤ 12 by omega)) ?_
    refine ev_if_eq (p' := 34) (tg := 86) i_64_31 rfl rfl (fun c31 => ?_) (fun c31 => ?_)
    · replace c31 := B0 c31
      refine ev_iinc (p' := 89) (ls' := [_, _, _, _, _, _, _, _, _]) i_64_86 rfl rfl rfl (by decide) (nI_inc _) rfl ?_
      refine ev_goto (tg := 16) i_64_89 rfl ?_
      rw [slT_f c31] at hk
      exact ih (t + 1) x _ _ (by omega) (by omega) hx hk
    · replace c31 := B1 c31
      refine ev_iload (p' := 36) i_64_34 rfl rfl ?_
      refine ev_iload_n (p' := 37) i_64_36 rfl rfl ?_
      refine ev_icmp_ge (p' := 40) (tg := 47) i_64_37 rfl rfl (fun c37 => ?_) (fun c37 => ?_)
      · refine ev_iconst (p' := 48) (v := nI 0) i_64_47 rfl (by decide) ?_
        refine ev_istore (p' := 50) (ls' := [_, _, _, _, _, _, _, _, _]) i_64_48 rfl rfl (by decide) rfl ?_
        refine ev_iload (p' := 52) i_64_50 rfl rfl ?_
        refine ev_iload_n (p' := 53) i_64_52 rfl rfl ?_
        refine ev_icmp_le (p' := 56) (tg := 63) i_64_53 rfl rfl (fun c53 => ?_) (fun c53 => ?_)
        · refine ev_iconst (p' := 64) (v := nI 0) i_64_63 rfl (by decide) ?_
          refine ev_istore (p' := 66) (ls' := [_, _, _, _, _, _, _, _, _]) i_64_64 rfl rfl (by decide) rfl ?_
          refine ev_iload (p' := 68) i_64_66 rfl rfl ?_
          refine ev_iload (p' := 70) i_64_68 rfl rfl ?_
          refine ev_iload (p' := 72) i_64_70 rfl rfl ?_
          refine ev_iaddN (p' := 73) i_64_72 rfl ?_
          refine ev_iload (p' := 75) i_64_73 rfl rfl ?_
          refine ev_iload (p' := 77) i_64_75 rfl rfl ?_
          refine ev_min (p' := 80) i_64_77 rfl cl_9_29_0 (Nat.le_of_ble_eq_true rfl) ?_
          rw [mnI (by omega) (by omega)]
          refine ev_iaddN (p' := 81) i_64_80 rfl ?_
          refine ev_min (p' := 84) i_64_81 rfl cl_9_29_0 (Nat.le_of_ble_eq_true rfl) ?_
          rw [mnI (by omega) (by omega)]
          refine ev_istore (p' := 86) (ls' := [_, _, _, _, _, _, _, _, _]) i_64_84 rfl rfl (by decide) rfl ?_
          refine ev_iinc (p' := 89) (ls' := [_, _, _, _, _, _, _, _, _]) i_64_86 rfl rfl rfl (by decide) (nI_inc _) rfl ?_
          refine ev_goto (tg := 16) i_64_89 rfl ?_
          have e : cst a lo hi b t = 0 + 0 + min 0 0 := by
            unfold cst
            rw [if_neg (fun z => absurd ((nI_leI (by omega) (by omega)).mp c37) (by omega)), if_neg (fun z => absurd ((nI_leI (by omega) (by omega)).mp c53) (by omega))]
          rw [slT_t c31, e] at hk
          exact ih (t + 1) _ _ _ (by omega) (by omega) (by omega) hk
        · refine ev_iload (p' := 58) i_64_56 rfl rfl ?_
          refine ev_iload_n (p' := 59) i_64_58 rfl rfl ?_
          refine ev_isub (p' := 60) i_64_59 rfl ?_
          rw [pk_sub (show a ≤ t by omega)]
          refine ev_goto (tg := 64) i_64_60 rfl ?_
          refine ev_istore (p' := 66) (ls' := [_, _, _, _, _, _, _, _, _]) i_64_64 rfl rfl (by decide) rfl ?_
          refine ev_iload (p' := 68) i_64_66 rfl rfl ?_
          refine ev_iload (p' := 70) i_64_68 rfl rfl ?_
          refine ev_iload (p' := 72) i_64_70 rfl rfl ?_
          refine ev_iaddN (p' := 73) i_64_72 rfl ?_
          refine ev_iload (p' := 75) i_64_73 rfl rfl ?_
          refine ev_iload (p' := 77) i_64_75 rfl rfl ?_
          refine ev_min (p' := 80) i_64_77 rfl cl_9_29_0 (Nat.le_of_ble_eq_true rfl) ?_
          rw [mnI (by omega) (by omega)]
          refine ev_iaddN (p' := 81) i_64_80 rfl ?_
          refine ev_min (p' := 84) i_64_81 rfl cl_9_29_0 (Nat.le_of_ble_eq_true rfl) ?_
          rw [mnI (by omega) (by omega)]
          refine ev_istore (p' := 86) (ls' := [_, _, _, _, _, _, _, _, _]) i_64_84 rfl rfl (by decide) rfl ?_
          refine ev_iinc (p' := 89) (ls' := [_, _, _, _, _, _, _, _, _]) i_64_86 rfl rfl rfl (by decide) (nI_inc _) rfl ?_
          refine ev_goto (tg := 16) i_64_89 rfl ?_
          have e : cst a lo hi b t = 0 + (t - a) + min 0 (t - a) := by
            unfold cst
            rw [if_neg (fun z => absurd ((nI_leI (by omega) (by omega)).mp c37) (by omega)), if_pos (by have := Nat.lt_of_not_le (fun z => c53 (nI_le (a := t) (b := hi) z (by omega))); omega)]
          rw [slT_t c31, e] at hk
          exact ih (t + 1) _ _ _ (by omega) (by omega) (by omega) hk
      · refine ev_iload_n (p' := 41) i_64_40 rfl rfl ?_
        refine ev_iload (p' := 43) i_64_41 rfl rfl ?_
        refine ev_isub (p' := 44) i_64_43 rfl ?_
        rw [pk_sub (show b ≤ a by omega)]
        refine ev_goto (tg := 48) i_64_44 rfl ?_
        refine ev_istore (p' := 50) (ls' := [_, _, _, _, _, _, _, _, _]) i_64_48 rfl rfl (by decide) rfl ?_
        refine ev_iload (p' := 52) i_64_50 rfl rfl ?_
        refine ev_iload_n (p' := 53) i_64_52 rfl rfl ?_
        refine ev_icmp_le (p' := 56) (tg := 63) i_64_53 rfl rfl (fun c53 => ?_) (fun c53 => ?_)
        · refine ev_iconst (p' := 64) (v := nI 0) i_64_63 rfl (by decide) ?_
          refine ev_istore (p' := 66) (ls' := [_, _, _, _, _, _, _, _, _]) i_64_64 rfl rfl (by decide) rfl ?_
          refine ev_iload (p' := 68) i_64_66 rfl rfl ?_
          refine ev_iload (p' := 70) i_64_68 rfl rfl ?_
          refine ev_iload (p' := 72) i_64_70 rfl rfl ?_
          refine ev_iaddN (p' := 73) i_64_72 rfl ?_
          refine ev_iload (p' := 75) i_64_73 rfl rfl ?_
          refine ev_iload (p' := 77) i_64_75 rfl rfl ?_
          refine ev_min (p' := 80) i_64_77 rfl cl_9_29_0 (Nat.le_of_ble_eq_true rfl) ?_
          rw [mnI (by omega) (by omega)]
          refine ev_iaddN (p' := 81) i_64_80 rfl ?_
          refine ev_min (p' := 84) i_64_81 rfl cl_9_29_0 (Nat.le_of_ble_eq_true rfl) ?_
          rw [mnI (by omega) (by omega)]
          refine ev_istore (p' := 86) (ls' := [_, _, _, _, _, _, _, _, _]) i_64_84 rfl rfl (by decide) rfl ?_
          refine ev_iinc (p' := 89) (ls' := [_, _, _, _, _, _, _, _, _]) i_64_86 rfl rfl rfl (by decide) (nI_inc _) rfl ?_
          refine ev_goto (tg := 16) i_64_89 rfl ?_
          have e : cst a lo hi b t = (a - b) + 0 + min (a - b) 0 := by
            unfold cst
            rw [if_pos (by have := Nat.lt_of_not_le (fun z => c37 (nI_le (a := lo) (b := b) z (by omega))); omega), if_neg (fun z => absurd ((nI_leI (by omega) (by omega)).mp c53) (by omega))]
          rw [slT_t c31, e] at hk
          exact ih (t + 1) _ _ _ (by omega) (by omega) (by omega) hk
        · refine ev_iload (p' := 58) i_64_56 rfl rfl ?_
          refine ev_iload_n (p' := 59) i_64_58 rfl rfl ?_
          refine ev_isub (p' := 60) i_64_59 rfl ?_
          rw [pk_sub (show a ≤ t by omega)]
          refine ev_goto (tg := 64) i_64_60 rfl ?_
          refine ev_istore (p' := 66) (ls' := [_, _, _, _, _, _, _, _, _]) i_64_64 rfl rfl (by decide) rfl ?_
          refine ev_iload (p' := 68) i_64_66 rfl rfl ?_
          refine ev_iload (p' := 70) i_64_68 rfl rfl ?_
          refine ev_iload (p' := 72) i_64_70 rfl rfl ?_
          refine ev_iaddN (p' := 73) i_64_72 rfl ?_
          refine ev_iload (p' := 75) i_64_73 rfl rfl ?_
          refine ev_iload (p' := 77) i_64_75 rfl rfl ?_
          refine ev_min (p' := 80) i_64_77 rfl cl_9_29_0 (Nat.le_of_ble_eq_true rfl) ?_
          rw [mnI (by omega) (by omega)]
          refine ev_iaddN (p' := 81) i_64_80 rfl ?_
          refine ev_min (p' := 84) i_64_81 rfl cl_9_29_0 (Nat.le_of_ble_eq_true rfl) ?_
          rw [mnI (by omega) (by omega)]
          refine ev_istore (p' := 86) (ls' := [_, _, _, _, _, _, _, _, _]) i_64_84 rfl rfl (by decide) rfl ?_
          refine ev_iinc (p' := 89) (ls' := [_, _, _, _, _, _, _, _, _]) i_64_86 rfl rfl rfl (by decide) (nI_inc _) rfl ?_
          refine ev_goto (tg := 16) i_64_89 rfl ?_
          have e : cst a lo hi b t = (a - b) + (t - a) + min (a - b) (t - a) := by
            unfold cst
            rw [if_pos (by have := Nat.lt_of_not_le (fun z => c37 (nI_le (a := lo) (b := b) z (by omega))); omega), if_pos (by have := Nat.lt_of_not_le (fun z => c53 (nI_le (a := t) (b := hi) z (by omega))); omega)]
          rw [slT_t c31, e] at hk
          exact ih (t + 1) _ _ _ (by omega) (by omega) (by omega) hk
theorem l_slo {L : Nat} {π : Nat → Nat → Nat} {mi : Nat → Nat → Int32} {ml : Nat → Nat → Int64} {mr : Nat → Nat → Option Nat} {d : Nat} {E : Option Value → pm_M → Prop} (hw : WR π mr) {W : Int32} {f : Nat → Int32} (hT : TW mi W f) {a lo hi : Nat} (h1 : lo ≤ a) (h2 : a ≤ hi) (h3 : hi ≤ 12) : ∀ b x x6 x7 x8, b ≤ lo → x ≤ 1000 → E (some (.int (nI (slB (cvr W f) a lo hi b x)))) (WW L, mi, ml, mr) → Ev gC (pm_ev gC (d + 1)) E q_64 8 [some (.ref 6), some (.int (nI a)), some (.int (nI lo)), some (.int (nI hi)), some (.int (nI x)), some (.int (nI b)), x6, x7, x8] [] (WW L, mi, ml, mr) := by
  intro b
  induction b with
  | zero =>
    intro x x6 x7 x8 hb hx hE
    refine ev_iload (p' := 10) i_64_8 rfl rfl ?_
    refine ev_if_lt (p' := 13) (tg := 98) i_64_10 rfl rfl (fun c10 => absurd c10 (nI_pos (by decide))) (fun c10 => ?_)
    refine ev_iload_n (p' := 14) i_64_13 rfl rfl ?_
    refine ev_istore (p' := 16) (ls' := [_, _, _, _, _, _, _, _, _]) i_64_14 rfl rfl (by decide) rfl ?_
    rw [slB_0] at hE
    refine l_sli hw hT h1 h2 h3 (Nat.zero_le lo) (13 - hi) hi x _ _ (by omega) (Nat.le_refl _) hx (fun y6 y7 y8 => ?_)
    refine ev_iinc (p' := 95) (ls' := [_, _, _, _, _, _, _, _, _]) i_64_92 rfl rfl rfl (by decide) rfl rfl ?_
    refine ev_goto (tg := 8) i_64_95 rfl ?_
    refine ev_iload (p' := 10) i_64_8 rfl rfl ?_
    refine ev_if_lt (p' := 13) (tg := 98) i_64_10 rfl rfl (fun c10 => ?_) (fun c10 => absurd (by decide) c10)
    refine ev_iload (p' := 100) i_64_98 rfl rfl ?_
    exact ev_iretI i_64_100 rfl hE
  | succ b ih =>
    intro x x6 x7 x8 hb hx hE
    refine ev_iload (p' := 10) i_64_8 rfl rfl ?_
    refine ev_if_lt (p' := 13) (tg := 98) i_64_10 rfl rfl (fun c10 => absurd c10 (nI_pos (by omega))) (fun c10 => ?_)
    refine ev_iload_n (p' := 14) i_64_13 rfl rfl ?_
    refine ev_istore (p' := 16) (ls' := [_, _, _, _, _, _, _, _, _]) i_64_14 rfl rfl (by decide) rfl ?_
    rw [slB_s] at hE
    refine l_sli hw hT h1 h2 h3 hb (13 - hi) hi x _ _ (by omega) (Nat.le_refl _) hx (fun y6 y7 y8 => ?_)
    refine ev_iinc (p' := 95) (ls' := [_, _, _, _, _, _, _, _, _]) i_64_92 rfl rfl rfl (by decide) (nI_dec _) rfl ?_
    refine ev_goto (tg := 8) i_64_95 rfl ?_
    exact ih _ _ _ _ (by omega) (Nat.le_trans (slT_le0 _ _ _) hx) hE
theorem s_sl {L : Nat} {π : Nat → Nat → Nat} {mi : Nat → Nat → Int32} {ml : Nat → Nat → Int64} {mr : Nat → Nat → Option Nat} (d : Nat) (hw : WR π mr) {W : Int32} {f : Nat → Int32} (hT : TW mi W f) {a lo hi : Nat} (h1 : lo ≤ a) (h2 : a ≤ hi) (h3 : hi ≤ 12) : pm_ev gC (d + 2) 64 [.ref 6, .int (nI a), .int (nI lo), .int (nI hi)] (WW L, mi, ml, mr) (some (.int (nI (SLf (cvr W f) a lo hi)))) (WW L, mi, ml, mr) := by
  refine ev_enter (q := q_64) rfl (Nat.le_of_ble_eq_true rfl) rfl ?_
  refine ev_sipush (p' := 3) (v := nI 1000) i_64_0 rfl (by decide) ?_
  refine ev_istore (p' := 5) (ls' := [_, _, _, _, _, _, _, _, _]) i_64_3 rfl rfl (by decide) rfl ?_
  refine ev_iload_n (p' := 6) i_64_5 rfl rfl ?_
  refine ev_istore (p' := 8) (ls' := [_, _, _, _, _, _, _, _, _]) i_64_6 rfl rfl (by decide) rfl ?_
  exact l_slo hw hT h1 h2 h3 lo 1000 _ _ _ (Nat.le_refl _) (Nat.le_refl _) ⟨rfl, rfl⟩
theorem l_oa {L : Nat} {π : Nat → Nat → Nat} {mi : Nat → Nat → Int32} {ml : Nat → Nat → Int64} {mr : Nat → Nat → Option Nat} {d : Nat} {E : Option Value → pm_M → Prop} (hw : WR π mr) {W : Int32} {f : Nat → Int32} (hT : TW mi W f) {s k0 : Nat} (hs : s ≤ 12) (hcv : cvr W f 0 12) (hk0 : k0 ≤ SLf (cvr W f) s s s) (hE : E (some (.int (nI (gst (cvr W f) s (SLf (cvr W f) s s s) k0).1))) (WW L, mi, ml, mr)) : ∀ q k a lo hi x8, k + q = k0 → gst (cvr W f) s (SLf (cvr W f) s s s) k = (a, lo, hi) → Ev gC (pm_ev gC (d + 2)) E q_65 22 [some (.ref 6), some (.int (nI s)), some (.int (nI k0)), some (.int (nI a)), some (.int (nI lo)), some (.int (nI hi)), some (.int (nI (SLf (cvr W f) s s s - k))), some (.int (nI k)), x8] [] (WW L, mi, ml, mr) := by
  intro q
  induction q with
  | zero =>
    intro k a lo hi x8 hk e
    have hk : k = k0 := by omega
    subst hk
    have hm := @SL_1000 (cvr W f) s s s
    refine ev_iload (p' := 24) i_65_22 rfl rfl ?_
    refine ev_iload_n (p' := 25) i_65_24 rfl rfl ?_
    refine ev_icmp_ge (p' := 28) (tg := 106) i_65_25 rfl rfl (fun c25 => ?_) (fun c25 => absurd (nI_le (Nat.le_refl _) (by omega)) c25)
    refine ev_iload_n (p' := 107) i_65_106 rfl rfl ?_
    exact ev_iretI i_65_107 rfl (by rw [e] at hE; exact hE)
  | succ q ih =>
    intro k a lo hi x8 hk e
    have hm := @SL_1000 (cvr W f) s s s
    have hi12 := gst_12 hs hcv k (by omega)
    have hin := @gst_in (cvr W f) s (SLf (cvr W f) s s s) k
    rw [e] at hi12 hin
    simp only at hi12 hin
    rw [show SLf (cvr W f) s s s - k = SLf (cvr W f) s s s - (k + 1) + 1 by omega]
    refine ev_iload (p' := 24) i_65_22 rfl rfl ?_
    refine ev_iload_n (p' := 25) i_65_24 rfl rfl ?_
    refine ev_icmp_ge (p' := 28) (tg := 106) i_65_25 rfl rfl (fun c25 => absurd c25 (nI_ge (by omega) (by omega))) (fun c25 => ?_)
    refine ev_iload (p' := 30) i_65_28 rfl rfl ?_
    refine ev_if_le (p' := 33) (tg := 106) i_65_30 rfl rfl (fun c30 => absurd c30 (fun z => absurd ((nI_leI (b := 0) (by omega) (by decide)).mp z) (by omega))) (fun c30 => ?_)
    refine ev_iinc (p' := 36) (ls' := [_, _, _, _, _, _, _, _, _]) i_65_33 rfl rfl rfl (by decide) (nI_dec _) rfl ?_
    refine ev_iload_n (p' := 37) i_65_36 rfl rfl ?_
    refine ev_if_le (p' := 40) (tg := 66) i_65_37 rfl rfl (fun c37 => ?_) (fun c37 => ?_)
    · refine ev_iconst (p' := 67) (v := 0) i_65_66 rfl (by decide) ?_
      refine ev_istore (p' := 69) (ls' := [_, _, _, _, _, _, _, _, _]) i_65_67 rfl rfl (by decide) rfl ?_
      refine ev_iload (p' := 71) i_65_69 rfl rfl ?_
      refine ev_if_eq (p' := 74) (tg := 80) i_65_71 rfl rfl (fun c71 => ?_) (fun c71 => absurd (rfl) c71)
      refine ev_iload_n (p' := 81) i_65_80 rfl rfl ?_
      refine ev_iconst (p' := 82) (v := nI 1) i_65_81 rfl (by decide) ?_
      refine ev_iaddN (p' := 83) i_65_82 rfl ?_
      refine ev_istore_n (p' := 84) (ls' := [_, _, _, _, _, _, _, _, _]) i_65_83 rfl rfl (by decide) rfl ?_
      refine ev_iload (p' := 86) i_65_84 rfl rfl ?_
      refine ev_iload_n (p' := 87) i_65_86 rfl rfl ?_
      refine ev_min (p' := 90) i_65_87 rfl cl_9_29_0 (Nat.le_of_ble_eq_true rfl) ?_
      rw [mnI (by omega) (by omega)]
      refine ev_istore (p' := 92) (ls' := [_, _, _, _, _, _, _, _, _]) i_65_90 rfl rfl (by decide) rfl ?_
      refine ev_iload (p' := 94) i_65_92 rfl rfl ?_
      refine ev_iload_n (p' := 95) i_65_94 rfl rfl ?_
      refine ev_max (p' := 98) i_65_95 rfl cl_9_19_0 (Nat.le_of_ble_eq_true rfl) ?_
      rw [mxI (by omega) (by omega)]
      refine ev_istore (p' := 100) (ls' := [_, _, _, _, _, _, _, _, _]) i_65_98 rfl rfl (by decide) rfl ?_
      refine ev_iinc (p' := 103) (ls' := [_, _, _, _, _, _, _, _, _]) i_65_100 rfl rfl rfl (by decide) (nI_inc _) rfl ?_
      refine ev_goto (tg := 22) i_65_103 rfl ?_
      exact ih (k + 1) _ _ _ _ (by omega) (gst_f e (fun z => absurd ((nI_leI (b := 0) (by omega) (by decide)).mp c37) (by omega)))
    · have ha1 : 1 ≤ a := by have := Nat.lt_of_not_le (fun z => c37 (nI_le (b := 0) z (by decide))); omega
      refine ev_aload_n (p' := 41) i_65_40 rfl rfl ?_
      refine ev_iload_n (p' := 42) i_65_41 rfl rfl ?_
      refine ev_iconst (p' := 43) (v := nI 1) i_65_42 rfl (by decide) ?_
      refine ev_isub (p' := 44) i_65_43 rfl ?_
      rw [pk_sub ha1]
      refine ev_iload (p' := 46) i_65_44 rfl rfl ?_
      refine ev_iload_n (p' := 47) i_65_46 rfl rfl ?_
      refine ev_iconst (p' := 48) (v := nI 1) i_65_47 rfl (by decide) ?_
      refine ev_isub (p' := 49) i_65_48 rfl ?_
      rw [pk_sub ha1]
      refine ev_min (p' := 52) i_65_49 rfl cl_9_29_0 (Nat.le_of_ble_eq_true rfl) ?_
      rw [mnI (by omega) (by omega)]
      refine ev_iload (p' := 54) i_65_52 rfl rfl ?_
      refine ev_v3I (p' := 57) i_65_54 rfl cl_9_32_9 (by decide) is_6 (Nat.le_of_ble_eq_true rfl) (s_sl _ hw hT (by omega) (by omega) (by omega)) ?_
      refine ev_iload (p' := 59) i_65_57 rfl rfl ?_
      refine ev_icmp_ne (p' := 62) (tg := 66) i_65_59 rfl rfl (fun c59 => ?_) (fun c59 => ?_)
      · refine ev_iconst (p' := 67) (v := 0) i_65_66 rfl (by decide) ?_
        refine ev_istore (p' := 69) (ls' := [_, _, _, _, _, _, _, _, _]) i_65_67 rfl rfl (by decide) rfl ?_
        refine ev_iload (p' := 71) i_65_69 rfl rfl ?_
        refine ev_if_eq (p' := 74) (tg := 80) i_65_71 rfl rfl (fun c71 => ?_) (fun c71 => absurd (rfl) c71)
        refine ev_iload_n (p' := 81) i_65_80 rfl rfl ?_
        refine ev_iconst (p' := 82) (v := nI 1) i_65_81 rfl (by decide) ?_
        refine ev_iaddN (p' := 83) i_65_82 rfl ?_
        refine ev_istore_n (p' := 84) (ls' := [_, _, _, _, _, _, _, _, _]) i_65_83 rfl rfl (by decide) rfl ?_
        refine ev_iload (p' := 86) i_65_84 rfl rfl ?_
        refine ev_iload_n (p' := 87) i_65_86 rfl rfl ?_
        refine ev_min (p' := 90) i_65_87 rfl cl_9_29_0 (Nat.le_of_ble_eq_true rfl) ?_
        rw [mnI (by omega) (by omega)]
        refine ev_istore (p' := 92) (ls' := [_, _, _, _, _, _, _, _, _]) i_65_90 rfl rfl (by decide) rfl ?_
        refine ev_iload (p' := 94) i_65_92 rfl rfl ?_
        refine ev_iload_n (p' := 95) i_65_94 rfl rfl ?_
        refine ev_max (p' := 98) i_65_95 rfl cl_9_19_0 (Nat.le_of_ble_eq_true rfl) ?_
        rw [mxI (by omega) (by omega)]
        refine ev_istore (p' := 100) (ls' := [_, _, _, _, _, _, _, _, _]) i_65_98 rfl rfl (by decide) rfl ?_
        refine ev_iinc (p' := 103) (ls' := [_, _, _, _, _, _, _, _, _]) i_65_100 rfl rfl rfl (by decide) (nI_inc _) rfl ?_
        refine ev_goto (tg := 22) i_65_103 rfl ?_
        exact ih (k + 1) _ _ _ _ (by omega) (gst_f e (fun z => c59 (by rw [z.2])))
      · refine ev_iconst (p' := 63) (v := 1) i_65_62 rfl (by decide) ?_
        refine ev_goto (tg := 67) i_65_63 rfl ?_
        refine ev_istore (p' := 69) (ls' := [_, _, _, _, _, _, _, _, _]) i_65_67 rfl rfl (by decide) rfl ?_
        refine ev_iload (p' := 71) i_65_69 rfl rfl ?_
        refine ev_if_eq (p' := 74) (tg := 80) i_65_71 rfl rfl (fun c71 => absurd c71 (by decide)) (fun c71 => ?_)
        refine ev_iload_n (p' := 75) i_65_74 rfl rfl ?_
        refine ev_iconst (p' := 76) (v := nI 1) i_65_75 rfl (by decide) ?_
        refine ev_isub (p' := 77) i_65_76 rfl ?_
        rw [pk_sub ha1]
        refine ev_goto (tg := 83) i_65_77 rfl ?_
        refine ev_istore_n (p' := 84) (ls' := [_, _, _, _, _, _, _, _, _]) i_65_83 rfl rfl (by decide) rfl ?_
        refine ev_iload (p' := 86) i_65_84 rfl rfl ?_
        refine ev_iload_n (p' := 87) i_65_86 rfl rfl ?_
        refine ev_min (p' := 90) i_65_87 rfl cl_9_29_0 (Nat.le_of_ble_eq_true rfl) ?_
        rw [mnI (by omega) (by omega)]
        refine ev_istore (p' := 92) (ls' := [_, _, _, _, _, _, _, _, _]) i_65_90 rfl rfl (by decide) rfl ?_
        refine ev_iload (p' := 94) i_65_92 rfl rfl ?_
        refine ev_iload_n (p' := 95) i_65_94 rfl rfl ?_
        refine ev_max (p' := 98) i_65_95 rfl cl_9_19_0 (Nat.le_of_ble_eq_true rfl) ?_
        rw [mxI (by omega) (by omega)]
        refine ev_istore (p' := 100) (ls' := [_, _, _, _, _, _, _, _, _]) i_65_98 rfl rfl (by decide) rfl ?_
        refine ev_iinc (p' := 103) (ls' := [_, _, _, _, _, _, _, _, _]) i_65_100 rfl rfl rfl (by decide) (nI_inc _) rfl ?_
        refine ev_goto (tg := 22) i_65_103 rfl ?_
        exact ih (k + 1) _ _ _ _ (by omega) (gst_t e ⟨by have := Nat.lt_of_not_le (fun z => c37 (nI_le (b := 0) z (by decide))); omega, (nI_eq (by have := @SL_1000 (cvr W f) (a - 1) (min lo (a - 1)) hi; omega) (by omega)).mp (Classical.not_not.mp c59)⟩)
theorem s_oa {L : Nat} {π : Nat → Nat → Nat} {mi : Nat → Nat → Int32} {ml : Nat → Nat → Int64} {mr : Nat → Nat → Option Nat} (d : Nat) (hw : WR π mr) {W : Int32} {f : Nat → Int32} (hT : TW mi W f) {s k0 : Nat} (hs : s ≤ 12) (hcv : cvr W f 0 12) (hk0 : k0 ≤ SLf (cvr W f) s s s) : pm_ev gC (d + 3) 65 [.ref 6, .int (nI s), .int (nI k0)] (WW L, mi, ml, mr) (some (.int (nI (gst (cvr W f) s (SLf (cvr W f) s s s) k0).1))) (WW L, mi, ml, mr) := by
  refine ev_enter (q := q_65) rfl (Nat.le_of_ble_eq_true rfl) rfl ?_
  refine ev_iload_n (p' := 1) i_65_0 rfl rfl ?_
  refine ev_istore_n (p' := 2) (ls' := [_, _, _, _, _, _, _, _, _]) i_65_1 rfl rfl (by decide) rfl ?_
  refine ev_iload_n (p' := 3) i_65_2 rfl rfl ?_
  refine ev_istore (p' := 5) (ls' := [_, _, _, _, _, _, _, _, _]) i_65_3 rfl rfl (by decide) rfl ?_
  refine ev_iload_n (p' := 6) i_65_5 rfl rfl ?_
  refine ev_istore (p' := 8) (ls' := [_, _, _, _, _, _, _, _, _]) i_65_6 rfl rfl (by decide) rfl ?_
  refine ev_aload_n (p' := 9) i_65_8 rfl rfl ?_
  refine ev_iload_n (p' := 10) i_65_9 rfl rfl ?_
  refine ev_iload (p' := 12) i_65_10 rfl rfl ?_
  refine ev_iload (p' := 14) i_65_12 rfl rfl ?_
  refine ev_v3I (p' := 17) i_65_14 rfl cl_9_32_9 (by decide) is_6 (Nat.le_of_ble_eq_true rfl) (s_sl _ hw hT (Nat.le_refl s) (Nat.le_refl s) hs) ?_
  refine ev_istore (p' := 19) (ls' := [_, _, _, _, _, _, _, _, _]) i_65_17 rfl rfl (by decide) rfl ?_
  refine ev_iconst (p' := 20) (v := nI 0) i_65_19 rfl (by decide) ?_
  refine ev_istore (p' := 22) (ls' := [_, _, _, _, _, _, _, _, _]) i_65_20 rfl rfl (by decide) rfl ?_
  exact l_oa hw hT hs hcv hk0 ⟨rfl, rfl⟩ k0 0 s s s _ (by omega) rfl
