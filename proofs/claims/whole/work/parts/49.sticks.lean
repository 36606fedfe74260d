/-! ===== sticks ===== -/
def hb (x : Int32) (k : Nat) : Nat := if (x >>> (nI k &&& 31)) &&& 1 = 0 then 0 else 1
def hcn (x : Int32) (m : Nat) : Nat := fold (fun k c => c + hb x k) m 0
theorem hcn_0 {x : Int32} : hcn x 0 = 0 := rfl
theorem hcn_s {x : Int32} {m : Nat} : hcn x (m + 1) = hcn x m + hb x m := rfl
theorem hb_t {x : Int32} {k : Nat} (h : HS x k) : hb x k = 1 := if_neg h
theorem hb_f {x : Int32} {k : Nat} (h : ¬ HS x k) : hb x k = 0 := if_pos (Classical.not_not.mp h)
theorem bcn : ∀ n, n < 8 → ∀ s, s < 2 ^ n → bcnt (nI s) = nI (hcn (nI s) n) := by decide +kernel
theorem hcn_le {x : Int32} : ∀ m, hcn x m ≤ m := by
  intro m
  induction m with
  | zero => exact Nat.le_refl _
  | succ m ih =>
    rw [hcn_s]
    unfold hb
    split <;> omega
theorem xm1 (y : Int32) (h : y &&& 1 = 0) : (y ^^^ -1) &&& 1 = 1 := by
  have e : (y ^^^ -1) &&& 1 = (y &&& 1) ^^^ (-1 &&& 1) := by
    apply Int32.toBitVec_inj.mp
    rw [Int32.toBitVec_and, Int32.toBitVec_xor, Int32.toBitVec_xor, Int32.toBitVec_and, Int32.toBitVec_and]
    ext i
    simp only [BitVec.getElem_and, BitVec.getElem_xor]
    cases y.toBitVec[i] <;> cases (1 : Int32).toBitVec[i] <;> simp
  rw [e, h]
  decide
theorem m1sh : ∀ k, k < 13 → (-1 : Int32) >>> (nI k &&& 31) = -1 ∧ (0 : Int32) >>> (nI k &&& 31) = 0 := by decide +kernel
theorem sub_has {s f : Int32} (h : s &&& (f ^^^ -1) = 0) {k : Nat} (hk : k < 13) (hs : HS s k) : HS f k := by
  intro hf
  apply hs
  have h1 : (s >>> (nI k &&& 31)) &&& ((f >>> (nI k &&& 31)) ^^^ -1) = 0 := by
    have h2 := congrArg (fun z => z >>> (nI k &&& 31)) h
    simp only [Int32.shiftRight_and, Int32.shiftRight_xor, (m1sh k hk).1, (m1sh k hk).2] at h2
    exact h2
  have h3 := xm1 _ hf
  calc (s >>> (nI k &&& 31)) &&& 1 = (s >>> (nI k &&& 31)) &&& (((f >>> (nI k &&& 31)) ^^^ -1) &&& 1) := by rw [h3]
    _ = ((s >>> (nI k &&& 31)) &&& ((f >>> (nI k &&& 31)) ^^^ -1)) &&& 1 := by rw [Int32.and_assoc]
    _ = 0 := by rw [h1]; decide
theorem hcn_sub {s f : Int32} (h : s &&& (f ^^^ -1) = 0) : ∀ m, m ≤ 13 → hcn s m ≤ hcn f m := by
  intro m
  induction m with
  | zero => intro _; rw [hcn_0, hcn_0]; exact Nat.le_refl _
  | succ m ih =>
    intro hm
    have h1 := ih (by omega)
    rw [hcn_s, hcn_s]
    by_cases h2 : HS s m
    · rw [hb_t h2, hb_t (sub_has h (by omega) h2)]; omega
    · rw [hb_f h2]; omega
theorem nI_sub {a b : Nat} (h : b ≤ a) : nI a - nI b = nI (a - b) := by
  have e : nI a = nI (a - b) + nI b := by rw [nI_add, Nat.sub_add_cancel h]
  rw [e, Int32.add_sub_cancel]
theorem ten_c : ∀ c, c ≤ 10 → (10 : Int32) - nI c = nI (10 - c) := by decide +kernel
/-- the weight's factors, one by one -/
noncomputable def fac (s f : Int32) (c k : Nat) : Nat := @ite _ (HS f k) (Classical.propDecidable _) (@ite _ (HS s k) (Classical.propDecidable _) c (10 - c)) 1
noncomputable def prd (s f : Int32) (c m : Nat) : Nat := fold (fun k w => w * fac s f c k) m 1
theorem prd_s {s f : Int32} {c m : Nat} : prd s f c (m + 1) = prd s f c m * fac s f c m := rfl
theorem fac_1 {s f : Int32} {c k : Nat} (h : ¬ HS f k) : fac s f c k = 1 := @if_neg _ (Classical.propDecidable _) h _ _ _
theorem fac_c {s f : Int32} {c k : Nat} (h : HS f k) (h2 : HS s k) : fac s f c k = c := (@if_pos _ (Classical.propDecidable _) h _ _ _).trans (@if_pos _ (Classical.propDecidable _) h2 _ _ _)
theorem fac_d {s f : Int32} {c k : Nat} (h : HS f k) (h2 : ¬ HS s k) : fac s f c k = 10 - c := (@if_pos _ (Classical.propDecidable _) h _ _ _).trans (@if_neg _ (Classical.propDecidable _) h2 _ _ _)
theorem prd_eq {s f : Int32} {c : Nat} (h : s &&& (f ^^^ -1) = 0) : ∀ m, m ≤ 13 → prd s f c m = c ^ hcn s m * (10 - c) ^ (hcn f m - hcn s m) := by
  intro m
  induction m with
  | zero => intro _; rfl
  | succ m ih =>
    intro hm
    have h1 := hcn_sub h m (by omega)
    rw [prd_s, ih (by omega), hcn_s, hcn_s]
    by_cases h2 : HS f m
    · rw [hb_t h2]
      by_cases h3 : HS s m
      · rw [hb_t h3, fac_c h2 h3, show hcn f m + 1 - (hcn s m + 1) = hcn f m - hcn s m by omega, Nat.pow_succ, Nat.mul_assoc, Nat.mul_comm _ c, ← Nat.mul_assoc]
      · rw [hb_f h3, fac_d h2 h3, Nat.add_zero, show hcn f m + 1 - hcn s m = hcn f m - hcn s m + 1 by omega, Nat.pow_succ, Nat.mul_assoc]
    · rw [hb_f h2, hb_f (fun z => h2 (sub_has h (by omega) z)), fac_1 h2, Nat.add_zero, Nat.add_zero, Nat.mul_one]
/-- how many are seen when those of s are held -/
noncomputable def bN (v : PV) (oo s : Nat) : Nat := (bcnt (VS v (nI oo) (nI s))).toNatClampNeg
theorem bN_eq (v : PV) (oo s : Nat) (h7 : v.1 ≤ 7) : bcnt (VS v (nI oo) (nI s)) = nI (bN v oo s) ∧ bN v oo s < 8 := by
  obtain ⟨x, h1, h2⟩ := VS_lt v (nI oo) (nI s) h7
  obtain ⟨c, h3, h4⟩ := bc_ok x h1
  unfold bN
  rw [h2, h4, nI_clamp (by omega)]
  exact ⟨rfl, h3⟩
noncomputable def WN (v : PV) (oo c fr s : Nat) : Nat := c ^ hcn (nI s) v.1 * (10 - c) ^ (hcn (nI fr) v.1 - hcn (nI s) v.1) * bN v oo s
noncomputable def SN (v : PV) (oo c fr m : Nat) : Nat := fold (fun s a => if nI s &&& (nI fr ^^^ -1) = 0 then a + WN v oo c fr s else a) m 0
theorem SN_t {v : PV} {oo c fr m : Nat} (h : nI m &&& (nI fr ^^^ -1) = 0) : SN v oo c fr (m + 1) = SN v oo c fr m + WN v oo c fr m := if_pos h
theorem SN_f {v : PV} {oo c fr m : Nat} (h : ¬ nI m &&& (nI fr ^^^ -1) = 0) : SN v oo c fr (m + 1) = SN v oo c fr m := if_neg h
theorem WN_lt {v : PV} {oo c fr s : Nat} (h7 : v.1 ≤ 7) (hc : c ≤ 10) : WN v oo c fr s ≤ 1000000000000000 := by
  have h1 : c ^ hcn (nI s) v.1 ≤ 10 ^ 7 := Nat.le_trans (Nat.pow_le_pow_left hc _) (Nat.pow_le_pow_right (by decide) (Nat.le_trans (hcn_le _) h7))
  have h2 : (10 - c) ^ (hcn (nI fr) v.1 - hcn (nI s) v.1) ≤ 10 ^ 7 := Nat.le_trans (Nat.pow_le_pow_left (by omega) _) (Nat.pow_le_pow_right (by decide) (Nat.le_trans (Nat.sub_le _ _) (Nat.le_trans (hcn_le _) h7)))
  have h3 : bN v oo s ≤ 10 := by have := (bN_eq v oo s h7).2; omega
  unfold WN
  exact Nat.le_trans (Nat.mul_le_mul (Nat.mul_le_mul h1 h2) h3) (by decide)
theorem SN_0 {v : PV} {oo c fr : Nat} : SN v oo c fr 0 = 0 := rfl
theorem SN_lt {v : PV} {oo c fr : Nat} (h7 : v.1 ≤ 7) (hc : c ≤ 10) : ∀ m, SN v oo c fr m ≤ m * 1000000000000000 := by
  intro m
  induction m with
  | zero => rw [SN_0]; exact Nat.zero_le _
  | succ m ih =>
    have h2 := WN_lt (oo := oo) (fr := fr) (s := m) h7 hc
    rw [Nat.succ_mul]
    by_cases h : nI m &&& (nI fr ^^^ -1) = 0
    · rw [SN_t h]; exact Nat.add_le_add ih h2
    · rw [SN_f h]; exact Nat.le_trans ih (Nat.le_add_right _ _)
/-- the fraction in its least terms -/
noncomputable def frA (A : AV) (t b : Nat) : AV := (A.1, A.2.1, A.2.2.1, (lN t / lN (Nat.gcd b t), lN b / lN (Nat.gcd b t)), A.2.2.2.2)
def lcn (f : Nat → Nat → Int32) (m : Nat) : Nat := fold (fun i a => if f 7 i ≤ f 6 i then a else a + 1) m 0
theorem hcn_up : ∀ m, m < 7 → ∀ s, s < 2 ^ m → hcn (nI (s + 2 ^ m)) (m + 1) = hcn (nI s) m + 1 ∧ hcn (nI s) (m + 1) = hcn (nI s) m := by decide +kernel
theorem loose_cnt (f : Nat → Nat → Int32) : ∀ m, m ≤ 7 → ∃ s, s < 2 ^ m ∧ looseN f m = nI s ∧ lcn f m = hcn (nI s) m := by
  intro m
  induction m with
  | zero => intro _; exact ⟨0, by decide, rfl, rfl⟩
  | succ m ih =>
    intro hm
    obtain ⟨s, h1, h2, h3⟩ := ih (by omega)
    by_cases h : f 7 m ≤ f 6 m
    · refine ⟨s, by rw [Nat.pow_succ]; omega, ?_, ?_⟩
      · show (if f 7 m ≤ f 6 m then looseN f m else looseN f m ||| (1 <<< (nI m &&& 31))) = _
        rw [if_pos h, h2]
      · show (if f 7 m ≤ f 6 m then lcn f m else lcn f m + 1) = _
        rw [if_pos h, h3, (hcn_up m (by omega) s h1).2]
    · refine ⟨s + 2 ^ m, by rw [Nat.pow_succ]; omega, ?_, ?_⟩
      · show (if f 7 m ≤ f 6 m then looseN f m else looseN f m ||| (1 <<< (nI m &&& 31))) = _
        rw [if_neg h, h2, or_up m (by omega) s h1]
      · show (if f 7 m ≤ f 6 m then lcn f m else lcn f m + 1) = _
        rw [if_neg h, h3, (hcn_up m (by omega) s h1).1]
/-! Euclid -/
def eu : Nat → Nat → Nat → Nat
  | 0, a, _ => a
  | l + 1, a, b => if b = 0 then a else eu l b (a % b)
theorem eu_0 {l a : Nat} : eu l a 0 = a := by
  cases l with
  | zero => rfl
  | succ l => exact if_pos rfl
theorem eu_s {l a b : Nat} (h : b ≠ 0) : eu (l + 1) a b = eu l b (a % b) := if_neg h
theorem gcd_s {a b : Nat} : Nat.gcd b a = Nat.gcd (a % b) b := Nat.gcd_rec b a
theorem eu_gcd : ∀ e a b l, b < 2 ^ e → 2 * e ≤ l → eu (l + 1) a b = Nat.gcd b a := by
  intro e
  induction e with
  | zero =>
    intro a b l hb _
    have hb : b = 0 := by rw [Nat.pow_zero] at hb; omega
    subst hb
    rw [eu_0, Nat.gcd_zero_left]
  | succ e ih =>
    intro a b l hb hl
    by_cases h0 : b = 0
    · subst h0
      rw [eu_0, Nat.gcd_zero_left]
    · obtain ⟨l', rfl⟩ : ∃ l', l = l' + 1 + 1 := ⟨l - 2, by omega⟩
      rw [eu_s h0, gcd_s]
      have hr := Nat.mod_lt a (Nat.pos_of_ne_zero h0)
      by_cases h1 : a % b = 0
      · rw [h1, eu_0, Nat.gcd_zero_left]
      · rw [eu_s h1, gcd_s]
        refine ih _ _ _ ?_ (by omega)
        have h2 := Nat.mod_lt b (Nat.pos_of_ne_zero h1)
        have h3 : 2 * (b % (a % b)) < b := by
          by_cases h4 : 2 * (a % b) ≤ b
          · omega
          · rw [Nat.mod_eq_sub_mod (by omega), Nat.mod_eq_of_lt (by omega)]
            omega
        rw [Nat.pow_succ] at hb
        omega
theorem cmp_eq {b : Nat} (h : b < 2 ^ 63) : lg_cmp (lN b) 0 = 0 ↔ b = 0 := by
  unfold lg_cmp
  constructor
  · intro hh
    by_cases h0 : b = 0
    · exact h0
    · have h1 : lN b > 0 := (pk_lLT (a := 0) (by decide) h).mpr (by omega)
      rw [if_pos h1] at hh
      exact absurd hh (by decide)
  · rintro rfl
    decide
theorem cmp_gt {b : Nat} (h : b < 2 ^ 63) (h0 : 0 < b) : lg_cmp (lN b) 0 = 1 := by
  unfold lg_cmp
  exact if_pos ((pk_lLT (a := 0) (by decide) h).mpr h0)
theorem lN_ne {b : Nat} (h : b < 2 ^ 63) (h0 : b ≠ 0) : ¬ lN b = 0 := fun z => h0 ((pk_lEQ h (by decide)).mp (z.trans (by decide : (0 : Int64) = lN 0)))
theorem l_pow {g : Nat → Prop} {C : Nat → List Value → pm_M → Option Value → pm_M → Prop} {mem : pm_M} {E : Option Value → pm_M → Prop} {b t : Nat} (hb : b < 2 ^ 31) (ht : t < 2 ^ 31) (hE : E (some (.long (lN (b ^ t)))) mem) : ∀ k i, i + k = t → Ev g C E q_125 5 [some (.int (nI b)), some (.int (nI t)), some (.long (lN (b ^ i))), none, some (.int (nI i))] [] mem := by
  intro k
  induction k with
  | zero =>
    intro i hi
    have hi : i = t := by omega
    subst hi
    refine ev_iload (p' := 7) i_125_5 rfl rfl ?_
    refine ev_iload_n (p' := 8) i_125_7 rfl rfl ?_
    refine ev_icmp_ge (p' := 11) (tg := 22) i_125_8 rfl rfl (fun c8 => ?_) (fun c8 => absurd (nI_le (by omega) (by omega)) c8)
    refine ev_lload_n (p' := 23) i_125_22 rfl rfl ?_
    exact ev_lret i_125_23 rfl hE
  | succ k ih =>
    intro i hi
    refine ev_iload (p' := 7) i_125_5 rfl rfl ?_
    refine ev_iload_n (p' := 8) i_125_7 rfl rfl ?_
    refine ev_icmp_ge (p' := 11) (tg := 22) i_125_8 rfl rfl (fun c8 => absurd c8 (nI_ge (by omega) (by omega))) (fun c8 => ?_)
    refine ev_lload_n (p' := 12) i_125_11 rfl rfl ?_
    refine ev_iload_n (p' := 13) i_125_12 rfl rfl ?_
    refine ev_i2l (p' := 14) i_125_13 rfl ?_
    rw [nI_l hb]
    refine ev_lmul (p' := 15) i_125_14 rfl ?_
    rw [lN_mul, ← Nat.pow_succ]
    refine ev_lstore_n (p' := 16) (ls' := [_, _, _, _, _]) i_125_15 rfl rfl (by decide) rfl ?_
    refine ev_iinc (p' := 19) (ls' := [_, _, _, _, _]) i_125_16 rfl rfl rfl (by decide) (nI_inc _) rfl ?_
    refine ev_goto (tg := 5) i_125_19 rfl ?_
    exact ih (i + 1) (by omega)
theorem s_pow {g : Nat → Prop} (d : Nat) {mem : pm_M} {b t : Nat} (hb : b < 2 ^ 31) (ht : t < 2 ^ 31) : pm_ev g (d + 1) 125 [.int (nI b), .int (nI t)] mem (some (.long (lN (b ^ t)))) mem := by
  refine ev_enter (q := q_125) rfl (Nat.le_of_ble_eq_true rfl) rfl ?_
  refine ev_lconst (p' := 1) (v := 1) i_125_0 rfl (by decide) ?_
  refine ev_lstore_n (p' := 2) (ls' := [_, _, _, _, _]) i_125_1 rfl rfl (by decide) rfl ?_
  refine ev_iconst (p' := 3) (v := nI 0) i_125_2 rfl (by decide) ?_
  refine ev_istore (p' := 5) (ls' := [_, _, _, _, _]) i_125_3 rfl rfl (by decide) rfl ?_
  exact l_pow hb ht ⟨rfl, rfl⟩ t 0 (by omega)
theorem l_eu {g : Nat → Prop} {C : Nat → List Value → pm_M → Option Value → pm_M → Prop} {mem : pm_M} {E : Option Value → pm_M → Prop} {x y : Int64} : ∀ l a b x9 x10, l < 200 → a < 2 ^ 63 → b < 2 ^ 63 → E (some (.long (lN (eu l a b)))) mem → Ev g C E q_127 11 [some (.long x), none, some (.long y), none, some (.long (lN a)), none, some (.long (lN b)), none, some (.int (nI l)), x9, x10] [] mem := by
  intro l
  induction l with
  | zero =>
    intro a b x9 x10 hl ha hb hE
    refine ev_iload (p' := 13) i_127_11 rfl rfl ?_
    refine ev_if_le (p' := 16) (tg := 44) i_127_13 rfl rfl (fun c13 => ?_) (fun c13 => absurd (by decide) c13)
    refine ev_lload (p' := 46) i_127_44 rfl rfl ?_
    exact ev_lret i_127_46 rfl hE
  | succ l ih =>
    intro a b x9 x10 hl ha hb hE
    by_cases h0 : b = 0
    · subst h0
      rw [eu_0] at hE
      refine ev_iload (p' := 13) i_127_11 rfl rfl ?_
      refine ev_if_le (p' := 16) (tg := 44) i_127_13 rfl rfl (fun c13 => absurd c13 (nI_nle (by omega) (by omega))) (fun c13 => ?_)
      refine ev_lload (p' := 18) i_127_16 rfl rfl ?_
      refine ev_lconst (p' := 19) (v := 0) i_127_18 rfl (by decide) ?_
      refine ev_lcmp (p' := 20) i_127_19 rfl ?_
      refine ev_if_eq (p' := 23) (tg := 44) i_127_20 rfl rfl (fun c20 => ?_) (fun c20 => absurd ((cmp_eq hb).mpr rfl) c20)
      refine ev_lload (p' := 46) i_127_44 rfl rfl ?_
      exact ev_lret i_127_46 rfl hE
    · rw [eu_s h0] at hE
      refine ev_iload (p' := 13) i_127_11 rfl rfl ?_
      refine ev_if_le (p' := 16) (tg := 44) i_127_13 rfl rfl (fun c13 => absurd c13 (nI_nle (by omega) (by omega))) (fun c13 => ?_)
      refine ev_lload (p' := 18) i_127_16 rfl rfl ?_
      refine ev_lconst (p' := 19) (v := 0) i_127_18 rfl (by decide) ?_
      refine ev_lcmp (p' := 20) i_127_19 rfl ?_
      refine ev_if_eq (p' := 23) (tg := 44) i_127_20 rfl rfl (fun c20 => absurd c20 (fun z => h0 ((cmp_eq hb).mp z))) (fun c20 => ?_)
      refine ev_lload (p' := 25) i_127_23 rfl rfl ?_
      refine ev_lload (p' := 27) i_127_25 rfl rfl ?_
      refine ev_lrem (p' := 28) i_127_27 rfl (lN_ne hb h0) ?_
      rw [pk_lRem ha (Nat.pos_of_ne_zero h0) hb]
      refine ev_lstore (p' := 30) (ls' := [_, _, _, _, _, _, _, _, _, _, _]) i_127_28 rfl rfl (by decide) rfl ?_
      refine ev_lload (p' := 32) i_127_30 rfl rfl ?_
      refine ev_lstore (p' := 34) (ls' := [_, _, _, _, _, _, _, _, _, _, _]) i_127_32 rfl rfl (by decide) rfl ?_
      refine ev_lload (p' := 36) i_127_34 rfl rfl ?_
      refine ev_lstore (p' := 38) (ls' := [_, _, _, _, _, _, _, _, _, _, _]) i_127_36 rfl rfl (by decide) rfl ?_
      refine ev_iinc (p' := 41) (ls' := [_, _, _, _, _, _, _, _, _, _, _]) i_127_38 rfl rfl rfl (by decide) (nI_dec _) rfl ?_
      refine ev_goto (tg := 11) i_127_41 rfl ?_
      exact ih b (a % b) _ _ (by omega) hb (Nat.lt_trans (Nat.mod_lt _ (Nat.pos_of_ne_zero h0)) hb) hE
theorem s_cd {g : Nat → Prop} (d : Nat) {mem : pm_M} {a b : Nat} (ha : a < 2 ^ 63) (hb : b < 2 ^ 60) : pm_ev g (d + 1) 127 [.long (lN a), .long (lN b)] mem (some (.long (lN (Nat.gcd b a)))) mem := by
  refine ev_enter (q := q_127) rfl (Nat.le_of_ble_eq_true rfl) rfl ?_
  refine ev_lload_n (p' := 1) i_127_0 rfl rfl ?_
  refine ev_lstore (p' := 3) (ls' := [_, _, _, _, _, _, _, _, _, _, _]) i_127_1 rfl rfl (by decide) rfl ?_
  refine ev_lload_n (p' := 4) i_127_3 rfl rfl ?_
  refine ev_lstore (p' := 6) (ls' := [_, _, _, _, _, _, _, _, _, _, _]) i_127_4 rfl rfl (by decide) rfl ?_
  refine ev_sipush (p' := 9) (v := nI 128) i_127_6 rfl (by decide) ?_
  refine ev_istore (p' := 11) (ls' := [_, _, _, _, _, _, _, _, _, _, _]) i_127_9 rfl rfl (by decide) rfl ?_
  exact l_eu 128 a b _ _ (by decide) ha (by omega) ⟨by rw [eu_gcd 60 a b 127 hb (by decide)], rfl⟩
theorem gcd_pos {t b : Nat} (hb : 0 < b) : 0 < Nat.gcd b t := Nat.gcd_pos_of_pos_left _ hb
theorem gcd_lt {t b : Nat} (h0 : 0 < b) (hb : b < 2 ^ 60) : Nat.gcd b t < 2 ^ 63 := Nat.lt_of_le_of_lt (Nat.gcd_le_left _ h0) (by omega)
theorem s_keep {L : Nat} {π : Nat → Nat → Nat} {mi : Nat → Nat → Int32} {ml : Nat → Nat → Int64} {mr : Nat → Nat → Option Nat} (d : Nat) {t b : Nat} (ht : t < 2 ^ 63) (h0 : 0 < b) (hb : b < 2 ^ 60) : pm_ev gC (d + 2) 126 [.ref 1, .long (lN t), .long (lN b)] (WW L, mi, ml, mr) none (WW L, mi, pm_u (pm_u ml 1 8 (lN t / lN (Nat.gcd b t))) 1 9 (lN b / lN (Nat.gcd b t)), mr) := by
  refine ev_enter (q := q_126) rfl (Nat.le_of_ble_eq_true rfl) rfl ?_
  refine ev_lload_n (p' := 1) i_126_0 rfl rfl ?_
  refine ev_lload_n (p' := 2) i_126_1 rfl rfl ?_
  refine ev_s2L (p' := 5) i_126_2 rfl cl_11_364_0 (by decide) (Nat.le_of_ble_eq_true rfl) (s_cd _ ht hb) ?_
  refine ev_lstore (p' := 7) (ls' := [_, _, _, _, _, _, _]) i_126_5 rfl rfl (by decide) rfl ?_
  refine ev_lload (p' := 9) i_126_7 rfl rfl ?_
  refine ev_lconst (p' := 10) (v := 0) i_126_9 rfl (by decide) ?_
  refine ev_lcmp (p' := 11) i_126_10 rfl ?_
  refine ev_if_le (p' := 14) (tg := 30) i_126_11 rfl rfl (fun c11 => absurd c11 (by rw [cmp_gt (gcd_lt h0 hb) (gcd_pos h0)]; decide)) (fun c11 => ?_)
  refine ev_aload_n (p' := 15) i_126_14 rfl rfl ?_
  refine ev_lload_n (p' := 16) i_126_15 rfl rfl ?_
  refine ev_lload (p' := 18) i_126_16 rfl rfl ?_
  refine ev_ldiv (p' := 19) i_126_18 rfl (lN_ne (gcd_lt h0 hb) (Nat.pos_iff_ne_zero.mp (gcd_pos h0))) ?_
  refine ev_putl (p' := 22) i_126_19 rfl fl_11_40 rfl is_1 (gc (by decide)) rfl ?_
  refine ev_aload_n (p' := 23) i_126_22 rfl rfl ?_
  refine ev_lload_n (p' := 24) i_126_23 rfl rfl ?_
  refine ev_lload (p' := 26) i_126_24 rfl rfl ?_
  refine ev_ldiv (p' := 27) i_126_26 rfl (lN_ne (gcd_lt h0 hb) (Nat.pos_iff_ne_zero.mp (gcd_pos h0))) ?_
  refine ev_putl (p' := 30) i_126_27 rfl fl_11_44 rfl is_1 (gc (by decide)) rfl ?_
  exact ev_ret i_126_30 rfl ⟨rfl, rfl⟩
theorem l_lay {L : Nat} {mi : Nat → Nat → Int32} {ml : Nat → Nat → Int64} {mr : Nat → Nat → Option Nat} {C : Nat → List Value → pm_M → Option Value → pm_M → Prop} {E : Option Value → pm_M → Prop} {t u : Nat} (h0u : 0 < u) (hu : u < 2 ^ 60) (hE : E none (WW L, mi, pm_u (pm_u ml 285 35 (lN t / lN (Nat.gcd u t))) 285 36 (lN u / lN (Nat.gcd u t)), mr)) : ∀ b a x9 x10, a < 2 ^ 63 → b < 2 ^ 63 → Nat.gcd b a = Nat.gcd u t → Ev gR C E q_212 6 [some (.ref 285), some (.long (lN t)), none, some (.long (lN u)), none, some (.long (lN a)), none, some (.long (lN b)), none, x9, x10] [] (WW L, mi, ml, mr) := by
  intro b
  induction b using Nat.strongRecOn with
  | _ b ih =>
  intro a x9 x10 ha hb hg
  by_cases h0 : b = 0
  · subst h0
    refine ev_lload (p' := 8) i_212_6 rfl rfl ?_
    refine ev_lconst (p' := 9) (v := 0) i_212_8 rfl (by decide) ?_
    refine ev_lcmp (p' := 10) i_212_9 rfl ?_
    refine ev_if_eq (p' := 13) (tg := 31) i_212_10 rfl rfl (fun c10 => ?_) (fun c10 => absurd ((cmp_eq hb).mpr rfl) c10)
    rw [Nat.gcd_zero_left] at hg
    subst hg
    have hz := lN_ne (gcd_lt (t := t) h0u hu) (Nat.pos_iff_ne_zero.mp (gcd_pos h0u))
    refine ev_aload_n (p' := 32) i_212_31 rfl rfl ?_
    refine ev_lload_n (p' := 33) i_212_32 rfl rfl ?_
    refine ev_lload (p' := 35) i_212_33 rfl rfl ?_
    refine ev_ldiv (p' := 36) i_212_35 rfl hz ?_
    refine ev_putl (p' := 39) i_212_36 rfl fl_12_309 rfl is_285 (gr (by decide)) rfl ?_
    refine ev_aload_n (p' := 40) i_212_39 rfl rfl ?_
    refine ev_lload_n (p' := 41) i_212_40 rfl rfl ?_
    refine ev_lload (p' := 43) i_212_41 rfl rfl ?_
    refine ev_ldiv (p' := 44) i_212_43 rfl hz ?_
    refine ev_putl (p' := 47) i_212_44 rfl fl_12_82 rfl is_285 (gr (by decide)) rfl ?_
    exact ev_ret i_212_47 rfl hE
  refine ev_lload (p' := 8) i_212_6 rfl rfl ?_
  refine ev_lconst (p' := 9) (v := 0) i_212_8 rfl (by decide) ?_
  refine ev_lcmp (p' := 10) i_212_9 rfl ?_
  refine ev_if_eq (p' := 13) (tg := 31) i_212_10 rfl rfl (fun c10 => absurd c10 (fun z => h0 ((cmp_eq hb).mp z))) (fun c10 => ?_)
  refine ev_lload (p' := 15) i_212_13 rfl rfl ?_
  refine ev_lload (p' := 17) i_212_15 rfl rfl ?_
  refine ev_lrem (p' := 18) i_212_17 rfl (lN_ne hb h0) ?_
  rw [pk_lRem ha (Nat.pos_of_ne_zero h0) hb]
  refine ev_lstore (p' := 20) (ls' := [_, _, _, _, _, _, _, _, _, _, _]) i_212_18 rfl rfl (by decide) rfl ?_
  refine ev_lload (p' := 22) i_212_20 rfl rfl ?_
  refine ev_lstore (p' := 24) (ls' := [_, _, _, _, _, _, _, _, _, _, _]) i_212_22 rfl rfl (by decide) rfl ?_
  refine ev_lload (p' := 26) i_212_24 rfl rfl ?_
  refine ev_lstore (p' := 28) (ls' := [_, _, _, _, _, _, _, _, _, _, _]) i_212_26 rfl rfl (by decide) rfl ?_
  refine ev_goto (tg := 6) i_212_28 rfl ?_
  exact ih (a % b) (Nat.mod_lt _ (Nat.pos_of_ne_zero h0)) b _ _ hb (Nat.lt_trans (Nat.mod_lt _ (Nat.pos_of_ne_zero h0)) hb) (by rw [← gcd_s]; exact hg)
theorem s_lay {L : Nat} {π : Nat → Nat → Nat} {mi : Nat → Nat → Int32} {ml : Nat → Nat → Int64} {mr : Nat → Nat → Option Nat} (d : Nat) {t u : Nat} (ht : t < 2 ^ 63) (h0 : 0 < u) (hu : u < 2 ^ 60) : pm_ev gR (d + 1) 212 [.ref 285, .long (lN t), .long (lN u)] (WW L, mi, ml, mr) none (WW L, mi, pm_u (pm_u ml 285 35 (lN t / lN (Nat.gcd u t))) 285 36 (lN u / lN (Nat.gcd u t)), mr) := by
  refine ev_enter (q := q_212) rfl (Nat.le_of_ble_eq_true rfl) rfl ?_
  refine ev_lload_n (p' := 1) i_212_0 rfl rfl ?_
  refine ev_lstore (p' := 3) (ls' := [_, _, _, _, _, _, _, _, _, _, _]) i_212_1 rfl rfl (by decide) rfl ?_
  refine ev_lload_n (p' := 4) i_212_3 rfl rfl ?_
  refine ev_lstore (p' := 6) (ls' := [_, _, _, _, _, _, _, _, _, _, _]) i_212_4 rfl rfl (by decide) rfl ?_
  exact l_lay h0 hu ⟨rfl, rfl⟩ u t _ _ ht (by omega) rfl
theorem l_sticksC {L : Nat} {π : Nat → Nat → Nat} {ml : Nat → Nat → Int64} {mr : Nat → Nat → Option Nat} {d : Nat} {E : Option Value → pm_M → Prop} (hw : WR π mr) {A : AV} (hA : okA A) {oo c fr : Nat} (ho : oo < 13) (hc10 : c ≤ 10) (hfr : fr < 2 ^ A.1.1.1) (hE : ∀ mi x8 x9 x10, CR π mi ml A → Ev gC (pm_ev gC (d + 7)) E q_98 119 [some (.ref 1), some (.int (nI oo)), some (.int (nI c)), some (.int (nI fr)), some (.int (nI (hcn (nI fr) A.1.1.1))), some (.long (lN (SN A.1.1 oo c fr (fr + 1)))), none, some (.int (nI (fr + 1))), x8, x9, x10] [] (WW L, mi, ml, mr)) : ∀ (k i : Nat) (mi : Nat → Nat → Int32) (x8 x9 x10 : Option Value), i + k = fr + 1 → CR π mi ml A → Ev gC (pm_ev gC (d + 7)) E q_98 45 [some (.ref 1), some (.int (nI oo)), some (.int (nI c)), some (.int (nI fr)), some (.int (nI (hcn (nI fr) A.1.1.1))), some (.long (lN (SN A.1.1 oo c fr i))), none, some (.int (nI i)), x8, x9, x10] [] (WW L, mi, ml, mr) := by
  intro k
  induction k with
  | zero =>
    intro i mi x8 x9 x10 hi hc
    have hi : i = fr + 1 := by omega
    subst hi
    have h7 := hA.n7
    have hn := hc.hn
    have hp7 : 2 ^ A.1.1.1 ≤ 128 := Nat.le_trans (Nat.pow_le_pow_right (by decide) h7) (by decide)
    refine ev_iload (p' := 47) i_98_45 rfl rfl ?_
    refine ev_iload_n (p' := 48) i_98_47 rfl rfl ?_
    refine ev_icmp_gt (p' := 51) (tg := 119) i_98_48 rfl rfl (fun c48 => ?_) (fun c48 => absurd (nI_lt (by omega) (by omega)) c48)
    exact hE _ _ _ _ hc
  | succ k ih =>
    intro i mi x8 x9 x10 hi hc
    have h7 := hA.n7
    have hn := hc.hn
    have hp7 : 2 ^ A.1.1.1 ≤ 128 := Nat.le_trans (Nat.pow_le_pow_right (by decide) h7) (by decide)
    refine ev_iload (p' := 47) i_98_45 rfl rfl ?_
    refine ev_iload_n (p' := 48) i_98_47 rfl rfl ?_
    refine ev_icmp_gt (p' := 51) (tg := 119) i_98_48 rfl rfl (fun c48 => absurd c48 (Int32.not_lt.mpr (nI_le (by omega) (by omega)))) (fun c48 => ?_)
    refine ev_iload (p' := 53) i_98_51 rfl rfl ?_
    refine ev_iload_n (p' := 54) i_98_53 rfl rfl ?_
    refine ev_iconst (p' := 55) (v := -1) i_98_54 rfl (by decide) ?_
    refine ev_ixor (p' := 56) i_98_55 rfl ?_
    refine ev_iand (p' := 57) i_98_56 rfl ?_
    refine ev_if_ne (p' := 60) (tg := 113) i_98_57 rfl rfl (fun c57 => ?_) (fun c57 => ?_)
    · refine ev_iinc (p' := 116) (ls' := [_, _, _, _, _, _, _, _, _, _, _]) i_98_113 rfl rfl rfl (by decide) (nI_inc _) rfl ?_
      refine ev_goto (tg := 45) i_98_116 rfl ?_
      refine ev_cast (by rw [SN_f c57]) rfl rfl (ih (i + 1) _ _ _ _ (by omega) hc)
    · replace c57 := Classical.not_not.mp c57
      have hle := hcn_sub c57 A.1.1.1 (by omega)
      have hl7 := hcn_le (x := nI fr) A.1.1.1
      refine ev_iload (p' := 62) i_98_60 rfl rfl ?_
      refine ev_s1I (p' := 65) i_98_62 rfl cl_11_290_0 (by decide) (Nat.le_of_ble_eq_true rfl) (s_bitCount _ _) ?_
      rw [bcn A.1.1.1 (by omega) i (by omega)]
      refine ev_istore (p' := 67) (ls' := [_, _, _, _, _, _, _, _, _, _, _]) i_98_65 rfl rfl (by decide) rfl ?_
      refine ev_iload_n (p' := 68) i_98_67 rfl rfl ?_
      refine ev_iload (p' := 70) i_98_68 rfl rfl ?_
      refine ev_s2L (p' := 73) i_98_70 rfl cl_11_295_0 (by decide) (Nat.le_of_ble_eq_true rfl) (s_pow _ (by omega) (by omega)) ?_
      refine ev_bipush (p' := 75) (v := 10) i_98_73 rfl (by decide) ?_
      refine ev_iload_n (p' := 76) i_98_75 rfl rfl ?_
      refine ev_isub (p' := 77) i_98_76 rfl ?_
      rw [ten_c c hc10]
      refine ev_iload (p' := 79) i_98_77 rfl rfl ?_
      refine ev_iload (p' := 81) i_98_79 rfl rfl ?_
      refine ev_isub (p' := 82) i_98_81 rfl ?_
      rw [nI_sub hle]
      refine ev_s2L (p' := 85) i_98_82 rfl cl_11_295_0 (by decide) (Nat.le_of_ble_eq_true rfl) (s_pow _ (by omega) (by omega)) ?_
      refine ev_lmul (p' := 86) i_98_85 rfl ?_
      rw [lN_mul]
      refine ev_lstore (p' := 88) (ls' := [_, _, _, _, _, _, _, _, _, _, _]) i_98_86 rfl rfl (by decide) rfl ?_
      refine ev_lload (p' := 90) i_98_88 rfl rfl ?_
      refine ev_lload (p' := 92) i_98_90 rfl rfl ?_
      refine ev_aload_n (p' := 93) i_98_92 rfl rfl ?_
      refine ev_getr (p' := 96) i_98_93 rfl fl_11_78 rfl is_1 (rf_1_0 hw) ?_
      refine ev_getr (p' := 99) i_98_96 rfl fl_11_97 rfl (is_sp sp_17) (hw.page sp_17) ?_
      refine ev_iload_n (p' := 100) i_98_99 rfl rfl ?_
      refine ev_iload (p' := 102) i_98_100 rfl rfl ?_
      refine ev_v2I (p' := 105) i_98_102 rfl cl_11_154_2 (by decide) (is_pg pg_33) (Nat.le_of_ble_eq_true rfl) (v_vis _ hw pg_33 hc.pg hA.1.1 _ _) ?_
      refine ev_s1I (p' := 108) i_98_105 rfl cl_11_290_0 (by decide) (Nat.le_of_ble_eq_true rfl) (s_bitCount _ _) ?_
      rw [(bN_eq A.1.1 oo i h7).1]
      refine ev_i2l (p' := 109) i_98_108 rfl ?_
      rw [nI_l (by have := (bN_eq A.1.1 oo i h7).2; omega)]
      refine ev_lmul (p' := 110) i_98_109 rfl ?_
      rw [lN_mul]
      refine ev_ladd (p' := 111) i_98_110 rfl ?_
      rw [lN_add]
      refine ev_lstore (p' := 113) (ls' := [_, _, _, _, _, _, _, _, _, _, _]) i_98_111 rfl rfl (by decide) rfl ?_
      refine ev_iinc (p' := 116) (ls' := [_, _, _, _, _, _, _, _, _, _, _]) i_98_113 rfl rfl rfl (by decide) (nI_inc _) rfl ?_
      refine ev_goto (tg := 45) i_98_116 rfl ?_
      refine ev_cast (by rw [SN_t c57]; rfl) rfl rfl (ih (i + 1) _ _ _ _ (by omega) (hc.hm hw pg_33))
theorem C_sticks_bad (L d : Nat) (A : AV) (hA : okA A) (y : Int32) (x : Int32) (hb : ¬ ((0 ≤ y ∧ y ≤ 12) ∧ (0 ≤ x ∧ x ≤ 10))) : Cst L (d + 24) 98 [.int y, .int x] A (.int (-2)) (badA A) := by
  refine C_of (q := q_98) rfl (Nat.le_of_ble_eq_true rfl) rfl (fun π mi ml mr hw hc => ?_)
  have hn := hc.hn
  have h7 := hA.n7
  refine ev_iload_n (p' := 1) i_98_0 rfl rfl ?_
  refine ev_s1I (p' := 4) i_98_1 rfl cl_11_138_0 (by decide) (Nat.le_of_ble_eq_true rfl) (s_isNoOpening _ _) ?_
  refine ev_if_ne (p' := 7) (tg := 17) i_98_4 rfl rfl (fun c4 => ?_) (fun c4 => ?_)
  · replace c4 := B1 c4
    refine ev_aload_n (p' := 18) i_98_17 rfl rfl ?_
    refine ev_v0I (p' := 21) i_98_18 rfl cl_11_93_11 (by decide) is_1 (Nat.le_of_ble_eq_true rfl) (s_bad _) ?_
    exact ev_iretI i_98_21 rfl (EC.mk rfl hw (hc.bad hw))
  · replace c4 := B0n c4
    refine ev_iload_n (p' := 8) i_98_7 rfl rfl ?_
    refine ev_iconst (p' := 9) (v := 0) i_98_8 rfl (by decide) ?_
    refine ev_bipush (p' := 11) (v := 10) i_98_9 rfl (by decide) ?_
    refine ev_s3I (p' := 14) i_98_11 rfl cl_11_89_0 (by decide) (Nat.le_of_ble_eq_true rfl) (s_outside _ _ _ _) ?_
    refine ev_if_eq (p' := 17) (tg := 22) i_98_14 rfl rfl (fun c14 => ?_) (fun c14 => ?_)
    · replace c14 := B0 c14
      exact absurd ⟨ni c4, ni c14⟩ hb
    · replace c14 := B1 c14
      refine ev_aload_n (p' := 18) i_98_17 rfl rfl ?_
      refine ev_v0I (p' := 21) i_98_18 rfl cl_11_93_11 (by decide) is_1 (Nat.le_of_ble_eq_true rfl) (s_bad _) ?_
      exact ev_iretI i_98_21 rfl (EC.mk rfl hw (hc.bad hw))
theorem R_sticks_bad (L d : Nat) (A : AV) (hA : okA A) (y : Int32) (x : Int32) (hb : ¬ ((0 ≤ y ∧ y ≤ 12) ∧ (0 ≤ x ∧ x ≤ 10))) : Rst L (d + 24) 213 [.int y, .int x] A (.int (-2)) (badA A) := by
  refine R_of (q := q_213) rfl (Nat.le_of_ble_eq_true rfl) rfl (fun π mi ml mr hw hc => ?_)
  have hn := hc.hn
  have h7 := hA.n7
  refine ev_iload_n (p' := 1) i_213_0 rfl rfl ?_
  refine ev_s1I (p' := 4) i_213_1 rfl cl_12_228_0 (by decide) (Nat.le_of_ble_eq_true rfl) (s_isOpening _ _) ?_
  refine ev_if_eq (p' := 7) (tg := 17) i_213_4 rfl rfl (fun c4 => ?_) (fun c4 => ?_)
  · replace c4 := B0 c4
    refine ev_aload_n (p' := 18) i_213_17 rfl rfl ?_
    refine ev_v0I (p' := 21) i_213_18 rfl cl_12_119_12 (by decide) is_285 (Nat.le_of_ble_eq_true rfl) (s_mbad _ hw) ?_
    exact ev_iretI i_213_21 rfl (ER.mk rfl (hc.bad h7))
  · replace c4 := B1 c4
    refine ev_iload_n (p' := 8) i_213_7 rfl rfl ?_
    refine ev_iconst (p' := 9) (v := 0) i_213_8 rfl (by decide) ?_
    refine ev_bipush (p' := 11) (v := 10) i_213_9 rfl (by decide) ?_
    refine ev_s3I (p' := 14) i_213_11 rfl cl_12_115_0 (by decide) (Nat.le_of_ble_eq_true rfl) (s_in _ _ _ _) ?_
    refine ev_if_ne (p' := 17) (tg := 22) i_213_14 rfl rfl (fun c14 => ?_) (fun c14 => ?_)
    · replace c14 := B1 c14
      exact absurd ⟨c4, c14⟩ hb
    · replace c14 := B0n c14
      refine ev_aload_n (p' := 18) i_213_17 rfl rfl ?_
      refine ev_v0I (p' := 21) i_213_18 rfl cl_12_119_12 (by decide) is_285 (Nat.le_of_ble_eq_true rfl) (s_mbad _ hw) ?_
      exact ev_iretI i_213_21 rfl (ER.mk rfl (hc.bad h7))
theorem CR.fra {π : Nat → Nat → Nat} {mi : Nat → Nat → Int32} {ml : Nat → Nat → Int64} {A : AV} {t b : Nat} (h : CR π mi ml A) : CR π mi (pm_u (pm_u ml 1 8 (lN t / lN (Nat.gcd b t))) 1 9 (lN b / lN (Nat.gcd b t))) (frA A t b) :=
  ⟨h.1, h.2.1, h.2.2.1, ⟨by rw [pm_u_oth (by decide), pm_u_self]; rfl, by rw [pm_u_self]; rfl⟩, h.2.2.2.2⟩
theorem RR.fra {mi : Nat → Nat → Int32} {ml : Nat → Nat → Int64} {A : AV} {t b : Nat} (h : RR mi ml A) : RR mi (pm_u (pm_u ml 285 35 (lN t / lN (Nat.gcd b t))) 285 36 (lN b / lN (Nat.gcd b t))) (frA A t b) :=
  ⟨h.1, h.2.1, h.2.2.1, ⟨by rw [pm_u_oth (by decide), pm_u_self]; rfl, by rw [pm_u_self]; rfl⟩, h.2.2.2.2⟩
theorem t60 {m : Nat} (h : m ≤ 7) : 0 < 10 ^ m ∧ 10 ^ m < 2 ^ 60 := ⟨Nat.pow_pos (by decide), Nat.lt_of_le_of_lt (Nat.pow_le_pow_right (by decide) h) (by decide)⟩
theorem C_sticks (L d : Nat) (A : AV) (hA : okA A) {oo c fr : Nat} (ho : oo < 13) (hc10 : c ≤ 10) (hfr : fr < 2 ^ A.1.1.1) (eF : looseN (fx A.1.1.2.2.2) A.1.1.1 = nI fr) (eL : lcn (fx A.1.1.2.2.2) A.1.1.1 = hcn (nI fr) A.1.1.1) : Cst L (d + 24) 98 [.int (nI oo), .int (nI c)] A (.int 1) (frA A (SN A.1.1 oo c fr (fr + 1)) (10 ^ hcn (nI fr) A.1.1.1)) := by
  refine C_of (q := q_98) rfl (Nat.le_of_ble_eq_true rfl) rfl (fun π mi ml mr hw hc => ?_)
  have hn := hc.hn
  have h7 := hA.n7
  refine ev_iload_n (p' := 1) i_98_0 rfl rfl ?_
  refine ev_s1I (p' := 4) i_98_1 rfl cl_11_138_0 (by decide) (Nat.le_of_ble_eq_true rfl) (s_isNoOpening _ _) ?_
  refine ev_if_ne (p' := 7) (tg := 17) i_98_4 rfl rfl (fun c4 => absurd c4 (fun z => z (B_f (nj (in0 (m := 12) (by omega) (by decide) rfl))))) (fun c4 => ?_)
  refine ev_iload_n (p' := 8) i_98_7 rfl rfl ?_
  refine ev_iconst (p' := 9) (v := 0) i_98_8 rfl (by decide) ?_
  refine ev_bipush (p' := 11) (v := 10) i_98_9 rfl (by decide) ?_
  refine ev_s3I (p' := 14) i_98_11 rfl cl_11_89_0 (by decide) (Nat.le_of_ble_eq_true rfl) (s_outside _ _ _ _) ?_
  refine ev_if_eq (p' := 17) (tg := 22) i_98_14 rfl rfl (fun c14 => ?_) (fun c14 => absurd (B_f (nj (in0 hc10 (by decide) rfl))) c14)
  refine ev_aload_n (p' := 23) i_98_22 rfl rfl ?_
  refine ev_getr (p' := 26) i_98_23 rfl fl_11_78 rfl is_1 (rf_1_0 hw) ?_
  refine ev_getr (p' := 29) i_98_26 rfl fl_11_97 rfl (is_sp sp_17) (hw.page sp_17) ?_
  refine ev_v0I (p' := 32) i_98_29 rfl cl_11_287_2 (by decide) (is_pg pg_33) (Nat.le_of_ble_eq_true rfl) (s_loose _ hw pg_33 hc.pg.1 hc.pg.2.1) ?_
  have hp7 : 2 ^ A.1.1.1 ≤ 128 := Nat.le_trans (Nat.pow_le_pow_right (by decide) h7) (by decide)
  have hl7 := hcn_le (x := nI fr) A.1.1.1
  rw [looseN_cg hc.pg.pfe, eF]
  refine ev_istore_n (p' := 33) (ls' := [_, _, _, _, _, _, _, _, _, _, _]) i_98_32 rfl rfl (by decide) rfl ?_
  refine ev_iload_n (p' := 34) i_98_33 rfl rfl ?_
  refine ev_s1I (p' := 37) i_98_34 rfl cl_11_290_0 (by decide) (Nat.le_of_ble_eq_true rfl) (s_bitCount _ _) ?_
  rw [bcn A.1.1.1 (by omega) fr hfr]
  refine ev_istore (p' := 39) (ls' := [_, _, _, _, _, _, _, _, _, _, _]) i_98_37 rfl rfl (by decide) rfl ?_
  refine ev_lconst (p' := 40) (v := 0) i_98_39 rfl (by decide) ?_
  refine ev_lstore (p' := 42) (ls' := [_, _, _, _, _, _, _, _, _, _, _]) i_98_40 rfl rfl (by decide) rfl ?_
  refine ev_iconst (p' := 43) (v := nI 0) i_98_42 rfl (by decide) ?_
  refine ev_istore (p' := 45) (ls' := [_, _, _, _, _, _, _, _, _, _, _]) i_98_43 rfl rfl (by decide) rfl ?_
  refine l_sticksC (d := d + 16) hw hA ho hc10 hfr (fun mi x8 x9 x10 hc => ?_) (fr + 1) 0 mi _ _ _ (by omega) hc
  have hS := SN_lt (oo := oo) (fr := fr) h7 hc10 (fr + 1)
  have h60 := t60 (m := hcn (nI fr) A.1.1.1) (Nat.le_trans (hcn_le _) h7)
  refine ev_aload_n (p' := 120) i_98_119 rfl rfl ?_
  refine ev_lload (p' := 122) i_98_120 rfl rfl ?_
  refine ev_bipush (p' := 124) (v := nI 10) i_98_122 rfl (by decide) ?_
  refine ev_iload (p' := 126) i_98_124 rfl rfl ?_
  refine ev_s2L (p' := 129) i_98_126 rfl cl_11_295_0 (by decide) (Nat.le_of_ble_eq_true rfl) (s_pow _ (by decide) (by omega)) ?_
  refine ev_v2V (p' := 132) i_98_129 rfl cl_11_299_11 (by decide) is_1 (Nat.le_of_ble_eq_true rfl) (s_keep (π := π) _ (by omega) h60.1 h60.2) ?_
  refine ev_iconst (p' := 133) (v := 1) i_98_132 rfl (by decide) ?_
  exact ev_iretI i_98_133 rfl (EC.mk rfl hw hc.fra)
/-- all but that pieces stick for a while -/
def RV (mi : Nat → Nat → Int32) (ml : Nat → Nat → Int64) (A : AV) : Prop := RR (pm_u mi 285 22 0) ml A
theorem pm_uu {f : Nat → Nat → Int32} {k j : Nat} {x y : Int32} : pm_u (pm_u f k j x) k j y = pm_u f k j y := by
  funext a b
  unfold pm_u
  by_cases h : a = k ∧ b = j
  · rw [if_pos h, if_pos h]
  · rw [if_neg h, if_neg h, if_neg h]
theorem RV.put {mi : Nat → Nat → Int32} {ml : Nat → Nat → Int64} {A : AV} {x : Int32} (h : RV mi ml A) : RV (pm_u mi 285 22 x) ml A := by
  unfold RV
  rw [pm_uu]
  exact h
theorem RR.rv {mi : Nat → Nat → Int32} {ml : Nat → Nat → Int64} {A : AV} (h : RR mi ml A) : RV mi ml A := by
  unfold RV
  rw [show pm_u mi 285 22 0 = mi from by rw [← h.2.2.2.2.2]; exact pm_u_same]
  exact h
theorem RV.hn {mi : Nat → Nat → Int32} {ml : Nat → Nat → Int64} {A : AV} (h : RV mi ml A) : mi 285 1 = nI A.1.1.1 := by
  have z := RR.hn h
  rw [pm_u_oth (by decide)] at z
  exact z
theorem RV.rp {mi : Nat → Nat → Int32} {ml : Nat → Nat → Int64} {A : AV} (h : RV mi ml A) : RP0 mi A.1.1 := by
  obtain ⟨h1, h2, h3, h4⟩ := h.1.1
  refine ⟨by rw [pm_u_oth (by decide)] at h1; exact h1, by rw [pm_u_oth (by decide)] at h2; exact h2, by rw [pm_u_oth (by decide)] at h3; exact h3, fun i hi j hj => ?_⟩
  have h5 := h4 i hi j hj
  rw [pm_u_ne (by omega)] at h5
  exact h5
theorem RV.hr {mi : Nat → Nat → Int32} {ml : Nat → Nat → Int64} {A : AV} {oo n : Nat} (h : RV mi ml A) (h7 : A.1.1.1 ≤ 7) : RV (hr mi oo n) ml A :=
  RR.scr h h7 (k := 300) (by omega) (fun a ha => by
    funext b
    unfold pm_u
    rw [hr_ne ha])
theorem v_mSeenH {L : Nat} {π : Nat → Nat → Nat} {mi : Nat → Nat → Int32} {ml : Nat → Nat → Int64} {mr : Nat → Nat → Option Nat} (d : Nat) (hw : WR π mr) {A : AV} (hc : RV mi ml A) (hA : okA A) {oo : Nat} (ho : oo < 13) {x : Int32} (hx : mi 285 22 = x) : pm_ev gR (d + 5) 171 [.ref 285, .int (nI oo)] (WW L, mi, ml, mr) (some (.int (VS A.1.1 (nI oo) x))) (WW L, hr mi oo A.1.1.1, ml, mr) := by
  have h := s_mSeen (L := L) (ml := ml) d hw hA.n7 hc.hn (hc.rp.oke hA.1.1) ho
  rw [hx, hc.rp.vise hA.n7] at h
  exact h
theorem l_free {L : Nat} {π : Nat → Nat → Nat} {mi : Nat → Nat → Int32} {ml : Nat → Nat → Int64} {mr : Nat → Nat → Option Nat} {d : Nat} {E : Option Value → pm_M → Prop} (hw : WR π mr) {n : Nat} (hn7 : n ≤ 7) (hn : mi 285 1 = nI n) (hok : ∀ i, i < n → okp (RFv mi) i) {oo c : Nat} (kk : ∀ x7 x8 x9 x10 x11, Ev gR (pm_ev gR (d + 7)) E q_213 86 [some (.ref 285), some (.int (nI oo)), some (.int (nI c)), some (.int (looseN (rf mi) n)), some (.long (lN (10 ^ lcn (rf mi) n))), none, some (.int (nI n)), x7, x8, x9, x10, x11] [] (WW L, mi, ml, mr)) : ∀ k i x7 x8 x9 x10 x11, i + k = n → Ev gR (pm_ev gR (d + 7)) E q_213 30 [some (.ref 285), some (.int (nI oo)), some (.int (nI c)), some (.int (looseN (rf mi) i)), some (.long (lN (10 ^ lcn (rf mi) i))), none, some (.int (nI i)), x7, x8, x9, x10, x11] [] (WW L, mi, ml, mr) := by
  intro k
  induction k with
  | zero =>
    intro i x7 x8 x9 x10 x11 hi
    have hi : i = n := by omega
    subst hi
    refine ev_iload (p' := 32) i_213_30 rfl rfl ?_
    refine ev_aload_n (p' := 33) i_213_32 rfl rfl ?_
    refine ev_geti (p' := 36) i_213_33 rfl fl_12_96 rfl is_285 ?_
    refine ev_icmp_ge (p' := 39) (tg := 86) i_213_36 rfl rfl (fun c36 => ?_) (fun c36 => absurd (by rw [hn]; exact nI_le (by omega) (by omega)) c36)
    exact kk _ _ _ _ _
  | succ k ih =>
    intro i x7 x8 x9 x10 x11 hi
    refine ev_iload (p' := 32) i_213_30 rfl rfl ?_
    refine ev_aload_n (p' := 33) i_213_32 rfl rfl ?_
    refine ev_geti (p' := 36) i_213_33 rfl fl_12_96 rfl is_285 ?_
    refine ev_icmp_ge (p' := 39) (tg := 86) i_213_36 rfl rfl (fun c36 => absurd c36 (by rw [hn]; exact nI_ge (by omega) (by omega))) (fun c36 => ?_)
    refine ev_iload_n (p' := 40) i_213_39 rfl rfl ?_
    refine ev_aload_n (p' := 41) i_213_40 rfl rfl ?_
    refine ev_iload (p' := 43) i_213_41 rfl rfl ?_
    refine ev_v1I (p' := 46) i_213_43 rfl cl_12_202_12 (by decide) is_285 (Nat.le_of_ble_eq_true rfl) (s_mStuck _ hw (by omega) (hok i (by omega))) ?_
    refine ev_if_eq (p' := 49) (tg := 53) i_213_46 rfl rfl (fun c46 => ?_) (fun c46 => ?_)
    · replace c46 := B0 c46
      refine ev_iconst (p' := 54) (v := 1) i_213_53 rfl (by decide) ?_
      refine ev_iload (p' := 56) i_213_54 rfl rfl ?_
      refine ev_ishl (p' := 57) i_213_56 rfl ?_
      refine ev_ior (p' := 58) i_213_57 rfl ?_
      refine ev_istore_n (p' := 59) (ls' := [_, _, _, _, _, _, _, _, _, _, _, _]) i_213_58 rfl rfl (by decide) rfl ?_
      refine ev_lload (p' := 61) i_213_59 rfl rfl ?_
      refine ev_aload_n (p' := 62) i_213_61 rfl rfl ?_
      refine ev_iload (p' := 64) i_213_62 rfl rfl ?_
      refine ev_v1I (p' := 67) i_213_64 rfl cl_12_202_12 (by decide) is_285 (Nat.le_of_ble_eq_true rfl) (s_mStuck _ hw (by omega) (hok i (by omega))) ?_
      refine ev_if_eq (p' := 70) (tg := 74) i_213_67 rfl rfl (fun c67 => ?_) (fun c67 => absurd (B_f c46) c67)
      refine ev_ldc2_w (p' := 77) (v := 10) i_213_74 rfl (by decide +kernel) ?_
      refine ev_lmul (p' := 78) i_213_77 rfl ?_
      refine ev_lstore (p' := 80) (ls' := [_, _, _, _, _, _, _, _, _, _, _, _]) i_213_78 rfl rfl (by decide) rfl ?_
      refine ev_iinc (p' := 83) (ls' := [_, _, _, _, _, _, _, _, _, _, _, _]) i_213_80 rfl rfl rfl (by decide) (nI_inc _) rfl ?_
      refine ev_goto (tg := 30) i_213_83 rfl ?_
      have e : looseN (rf mi) (i + 1) = looseN (rf mi) i ||| (1 <<< (nI i &&& 31)) := if_neg c46
      have e2 : lcn (rf mi) (i + 1) = lcn (rf mi) i + 1 := if_neg c46
      refine ev_cast (by rw [e, e2, Nat.pow_succ, ← lN_mul]; rfl) rfl rfl (ih (i + 1) _ _ _ _ _  (by omega))
    · replace c46 := B1 c46
      refine ev_iconst (p' := 50) (v := 0) i_213_49 rfl (by decide) ?_
      refine ev_goto (tg := 57) i_213_50 rfl ?_
      refine ev_ior (p' := 58) i_213_57 rfl ?_
      refine ev_istore_n (p' := 59) (ls' := [_, _, _, _, _, _, _, _, _, _, _, _]) i_213_58 rfl rfl (by decide) rfl ?_
      refine ev_lload (p' := 61) i_213_59 rfl rfl ?_
      refine ev_aload_n (p' := 62) i_213_61 rfl rfl ?_
      refine ev_iload (p' := 64) i_213_62 rfl rfl ?_
      refine ev_v1I (p' := 67) i_213_64 rfl cl_12_202_12 (by decide) is_285 (Nat.le_of_ble_eq_true rfl) (s_mStuck _ hw (by omega) (hok i (by omega))) ?_
      refine ev_if_eq (p' := 70) (tg := 74) i_213_67 rfl rfl (fun c67 => absurd c67 (B_tn c46)) (fun c67 => ?_)
      refine ev_lconst (p' := 71) (v := 1) i_213_70 rfl (by decide) ?_
      refine ev_goto (tg := 77) i_213_71 rfl ?_
      refine ev_lmul (p' := 78) i_213_77 rfl ?_
      refine ev_lstore (p' := 80) (ls' := [_, _, _, _, _, _, _, _, _, _, _, _]) i_213_78 rfl rfl (by decide) rfl ?_
      refine ev_iinc (p' := 83) (ls' := [_, _, _, _, _, _, _, _, _, _, _, _]) i_213_80 rfl rfl rfl (by decide) (nI_inc _) rfl ?_
      refine ev_goto (tg := 30) i_213_83 rfl ?_
      have e : looseN (rf mi) (i + 1) = looseN (rf mi) i := if_pos c46
      have e2 : lcn (rf mi) (i + 1) = lcn (rf mi) i := if_pos c46
      refine ev_cast (by rw [e, e2, Int32.or_zero, Int64.mul_one]) rfl rfl (ih (i + 1) _ _ _ _ _  (by omega))
theorem l_wt {L : Nat} {π : Nat → Nat → Nat} {mi : Nat → Nat → Int32} {ml : Nat → Nat → Int64} {mr : Nat → Nat → Option Nat} {d : Nat} {E : Option Value → pm_M → Prop} (hw : WR π mr) {n : Nat} (hn7 : n ≤ 7) (hn : mi 285 1 = nI n) {oo c fr s b : Nat} (hc10 : c ≤ 10) {w u : Int64} (kk : Ev gR (pm_ev gR (d + 7)) E q_213 180 [some (.ref 285), some (.int (nI oo)), some (.int (nI c)), some (.int (nI fr)), some (.long w), none, some (.long u), none, some (.int (nI s)), some (.long (lN (b * prd (nI s) (nI fr) c n))), none, some (.int (nI n))] [] (WW L, mi, ml, mr)) : ∀ k i, i + k = n → Ev gR (pm_ev gR (d + 7)) E q_213 127 [some (.ref 285), some (.int (nI oo)), some (.int (nI c)), some (.int (nI fr)), some (.long w), none, some (.long u), none, some (.int (nI s)), some (.long (lN (b * prd (nI s) (nI fr) c i))), none, some (.int (nI i))] [] (WW L, mi, ml, mr) := by
  intro k
  induction k with
  | zero =>
    intro i hi
    have hi : i = n := by omega
    subst hi
    refine ev_iload (p' := 129) i_213_127 rfl rfl ?_
    refine ev_aload_n (p' := 130) i_213_129 rfl rfl ?_
    refine ev_geti (p' := 133) i_213_130 rfl fl_12_96 rfl is_285 ?_
    refine ev_icmp_ge (p' := 136) (tg := 180) i_213_133 rfl rfl (fun c133 => ?_) (fun c133 => absurd (by rw [hn]; exact nI_le (by omega) (by omega)) c133)
    exact kk
  | succ k ih =>
    intro i hi
    refine ev_iload (p' := 129) i_213_127 rfl rfl ?_
    refine ev_aload_n (p' := 130) i_213_129 rfl rfl ?_
    refine ev_geti (p' := 133) i_213_130 rfl fl_12_96 rfl is_285 ?_
    refine ev_icmp_ge (p' := 136) (tg := 180) i_213_133 rfl rfl (fun c133 => absurd c133 (by rw [hn]; exact nI_ge (by omega) (by omega))) (fun c133 => ?_)
    refine ev_lload (p' := 138) i_213_136 rfl rfl ?_
    refine ev_iload_n (p' := 139) i_213_138 rfl rfl ?_
    refine ev_iload (p' := 141) i_213_139 rfl rfl ?_
    refine ev_s2I (p' := 144) i_213_141 rfl cl_12_208_0 (by decide) (Nat.le_of_ble_eq_true rfl) (s_mhas _ _ _) ?_
    refine ev_if_ne (p' := 147) (tg := 151) i_213_144 rfl rfl (fun c144 => ?_) (fun c144 => ?_)
    · replace c144 := B1 c144
      refine ev_iload (p' := 153) i_213_151 rfl rfl ?_
      refine ev_iload (p' := 155) i_213_153 rfl rfl ?_
      refine ev_s2I (p' := 158) i_213_155 rfl cl_12_208_0 (by decide) (Nat.le_of_ble_eq_true rfl) (s_mhas _ _ _) ?_
      refine ev_if_eq (p' := 161) (tg := 166) i_213_158 rfl rfl (fun c158 => ?_) (fun c158 => ?_)
      · replace c158 := B0 c158
        refine ev_bipush (p' := 168) (v := 10) i_213_166 rfl (by decide) ?_
        refine ev_iload_n (p' := 169) i_213_168 rfl rfl ?_
        refine ev_isub (p' := 170) i_213_169 rfl ?_
        rw [ten_c c hc10]
        refine ev_i2l (p' := 171) i_213_170 rfl ?_
        rw [nI_l (show 10 - c < 2 ^ 31 by omega)]
        refine ev_lmul (p' := 172) i_213_171 rfl ?_
        refine ev_lstore (p' := 174) (ls' := [_, _, _, _, _, _, _, _, _, _, _, _]) i_213_172 rfl rfl (by decide) rfl ?_
        refine ev_iinc (p' := 177) (ls' := [_, _, _, _, _, _, _, _, _, _, _, _]) i_213_174 rfl rfl rfl (by decide) (nI_inc _) rfl ?_
        refine ev_goto (tg := 127) i_213_177 rfl ?_
        refine ev_cast (by rw [prd_s, fac_d (HS_m.mp c144) (fun z => c158 (HS_m.mpr z)), ← Nat.mul_assoc, lN_mul]) rfl rfl (ih (i + 1) (by omega))
      · replace c158 := B1 c158
        refine ev_iload_n (p' := 162) i_213_161 rfl rfl ?_
        refine ev_i2l (p' := 163) i_213_162 rfl ?_
        rw [nI_l (show c < 2 ^ 31 by omega)]
        refine ev_goto (tg := 171) i_213_163 rfl ?_
        refine ev_lmul (p' := 172) i_213_171 rfl ?_
        refine ev_lstore (p' := 174) (ls' := [_, _, _, _, _, _, _, _, _, _, _, _]) i_213_172 rfl rfl (by decide) rfl ?_
        refine ev_iinc (p' := 177) (ls' := [_, _, _, _, _, _, _, _, _, _, _, _]) i_213_174 rfl rfl rfl (by decide) (nI_inc _) rfl ?_
        refine ev_goto (tg := 127) i_213_177 rfl ?_
        refine ev_cast (by rw [prd_s, fac_c (HS_m.mp c144) (HS_m.mp c158), ← Nat.mul_assoc, lN_mul]) rfl rfl (ih (i + 1) (by omega))
    · replace c144 := B0n c144
      refine ev_lconst (p' := 148) (v := 1) i_213_147 rfl (by decide) ?_
      refine ev_goto (tg := 171) i_213_148 rfl ?_
      refine ev_lmul (p' := 172) i_213_171 rfl ?_
      refine ev_lstore (p' := 174) (ls' := [_, _, _, _, _, _, _, _, _, _, _, _]) i_213_172 rfl rfl (by decide) rfl ?_
      refine ev_iinc (p' := 177) (ls' := [_, _, _, _, _, _, _, _, _, _, _, _]) i_213_174 rfl rfl rfl (by decide) (nI_inc _) rfl ?_
      refine ev_goto (tg := 127) i_213_177 rfl ?_
      refine ev_cast (by rw [prd_s, fac_1 (fun z => c144 (HS_m.mpr z)), Nat.mul_one, Int64.mul_one]) rfl rfl (ih (i + 1) (by omega))
theorem l_sticksR {L : Nat} {π : Nat → Nat → Nat} {ml : Nat → Nat → Int64} {mr : Nat → Nat → Option Nat} {d : Nat} {E : Option Value → pm_M → Prop} (hw : WR π mr) {A : AV} (hA : okA A) {oo c fr : Nat} (ho : oo < 13) (hc10 : c ≤ 10) (hfr : fr < 2 ^ A.1.1.1) {w : Int64} (hE : ∀ mi x9 x10 x11, RV mi ml A → Ev gR (pm_ev gR (d + 7)) E q_213 193 [some (.ref 285), some (.int (nI oo)), some (.int (nI c)), some (.int (nI fr)), some (.long w), none, some (.long (lN (SN A.1.1 oo c fr (fr + 1)))), none, some (.int (nI (fr + 1))), x9, x10, x11] [] (WW L, mi, ml, mr)) : ∀ (k i : Nat) (mi : Nat → Nat → Int32) (x9 x10 x11 : Option Value), i + k = fr + 1 → RV mi ml A → Ev gR (pm_ev gR (d + 7)) E q_213 92 [some (.ref 285), some (.int (nI oo)), some (.int (nI c)), some (.int (nI fr)), some (.long w), none, some (.long (lN (SN A.1.1 oo c fr i))), none, some (.int (nI i)), x9, x10, x11] [] (WW L, mi, ml, mr) := by
  intro k
  induction k with
  | zero =>
    intro i mi x9 x10 x11 hi hc
    have hi : i = fr + 1 := by omega
    subst hi
    have h7 := hA.n7
    have hn := hc.hn
    have hp7 : 2 ^ A.1.1.1 ≤ 128 := Nat.le_trans (Nat.pow_le_pow_right (by decide) h7) (by decide)
    refine ev_iload (p' := 94) i_213_92 rfl rfl ?_
    refine ev_iload_n (p' := 95) i_213_94 rfl rfl ?_
    refine ev_icmp_gt (p' := 98) (tg := 193) i_213_95 rfl rfl (fun c95 => ?_) (fun c95 => absurd (nI_lt (by omega) (by omega)) c95)
    exact hE _ _ _ _ hc
  | succ k ih =>
    intro i mi x9 x10 x11 hi hc
    have h7 := hA.n7
    have hn := hc.hn
    have hp7 : 2 ^ A.1.1.1 ≤ 128 := Nat.le_trans (Nat.pow_le_pow_right (by decide) h7) (by decide)
    refine ev_iload (p' := 94) i_213_92 rfl rfl ?_
    refine ev_iload_n (p' := 95) i_213_94 rfl rfl ?_
    refine ev_icmp_gt (p' := 98) (tg := 193) i_213_95 rfl rfl (fun c95 => absurd c95 (Int32.not_lt.mpr (nI_le (by omega) (by omega)))) (fun c95 => ?_)
    refine ev_iload (p' := 100) i_213_98 rfl rfl ?_
    refine ev_iload_n (p' := 101) i_213_100 rfl rfl ?_
    refine ev_iconst (p' := 102) (v := -1) i_213_101 rfl (by decide) ?_
    refine ev_ixor (p' := 103) i_213_102 rfl ?_
    refine ev_iand (p' := 104) i_213_103 rfl ?_
    refine ev_if_ne (p' := 107) (tg := 187) i_213_104 rfl rfl (fun c104 => ?_) (fun c104 => ?_)
    · refine ev_iinc (p' := 190) (ls' := [_, _, _, _, _, _, _, _, _, _, _, _]) i_213_187 rfl rfl rfl (by decide) (nI_inc _) rfl ?_
      refine ev_goto (tg := 92) i_213_190 rfl ?_
      refine ev_cast (by rw [SN_f c104]) rfl rfl (ih (i + 1) _ _ _ _ (by omega) hc)
    · replace c104 := Classical.not_not.mp c104
      refine ev_aload_n (p' := 108) i_213_107 rfl rfl ?_
      refine ev_iload (p' := 110) i_213_108 rfl rfl ?_
      refine ev_puti (p' := 113) i_213_110 rfl fl_12_205 rfl is_285 (gr (by decide)) rfl ?_
      refine ev_aload_n (p' := 114) i_213_113 rfl rfl ?_
      refine ev_iload_n (p' := 115) i_213_114 rfl rfl ?_
      have h22 : pm_u mi 285 22 (nI i) 285 22 = nI i := pm_u_self
      refine ev_v1I (p' := 118) i_213_115 rfl cl_12_237_12 (by decide) is_285 (Nat.le_of_ble_eq_true rfl) (v_mSeenH _ hw hc.put hA ho h22) ?_
      refine ev_s1I (p' := 121) i_213_118 rfl cl_12_249_0 (by decide) (Nat.le_of_ble_eq_true rfl) (s_bits _ _) ?_
      rw [VS_bits h7, (bN_eq A.1.1 oo i h7).1]
      refine ev_i2l (p' := 122) i_213_121 rfl ?_
      rw [nI_l (by have := (bN_eq A.1.1 oo i h7).2; omega)]
      refine ev_lstore (p' := 124) (ls' := [_, _, _, _, _, _, _, _, _, _, _, _]) i_213_122 rfl rfl (by decide) rfl ?_
      refine ev_iconst (p' := 125) (v := nI 0) i_213_124 rfl (by decide) ?_
      refine ev_istore (p' := 127) (ls' := [_, _, _, _, _, _, _, _, _, _, _, _]) i_213_125 rfl rfl (by decide) rfl ?_
      refine ev_cast (by rw [show prd (nI i) (nI fr) c 0 = 1 from rfl, Nat.mul_one]) rfl rfl (l_wt (b := bN A.1.1 oo i) hw h7 (hc.put.hr h7).hn hc10 ?_ A.1.1.1 0 (by omega))
      refine ev_lload (p' := 182) i_213_180 rfl rfl ?_
      refine ev_lload (p' := 184) i_213_182 rfl rfl ?_
      refine ev_ladd (p' := 185) i_213_184 rfl ?_
      rw [lN_add]
      refine ev_lstore (p' := 187) (ls' := [_, _, _, _, _, _, _, _, _, _, _, _]) i_213_185 rfl rfl (by decide) rfl ?_
      refine ev_iinc (p' := 190) (ls' := [_, _, _, _, _, _, _, _, _, _, _, _]) i_213_187 rfl rfl rfl (by decide) (nI_inc _) rfl ?_
      refine ev_goto (tg := 92) i_213_190 rfl ?_
      refine ev_cast (by rw [SN_t c104]; unfold WN; rw [prd_eq c104 A.1.1.1 (by omega), Nat.mul_comm (bN A.1.1 oo i)]) rfl rfl (ih (i + 1) _ _ _ _ (by omega) (hc.put.hr h7))
theorem lcn_cg {f f' : Nat → Nat → Int32} {n : Nat} (he : ∀ i, i < n → ∀ j, j < 8 → f' j i = f j i) : lcn f' n = lcn f n :=
  fold_congr (fun i hi x => by
    show (if f' 7 i ≤ f' 6 i then x else x + 1) = (if f 7 i ≤ f 6 i then x else x + 1)
    rw [he i hi 7 (by decide), he i hi 6 (by decide)])
theorem R_sticks (L d : Nat) (A : AV) (hA : okA A) {oo c fr : Nat} (ho : oo < 13) (hc10 : c ≤ 10) (hfr : fr < 2 ^ A.1.1.1) (eF : looseN (fx A.1.1.2.2.2) A.1.1.1 = nI fr) (eL : lcn (fx A.1.1.2.2.2) A.1.1.1 = hcn (nI fr) A.1.1.1) : Rst L (d + 24) 213 [.int (nI oo), .int (nI c)] A (.int 1) (frA A (SN A.1.1 oo c fr (fr + 1)) (10 ^ hcn (nI fr) A.1.1.1)) := by
  refine R_of (q := q_213) rfl (Nat.le_of_ble_eq_true rfl) rfl (fun π mi ml mr hw hc => ?_)
  have hn := hc.hn
  have h7 := hA.n7
  refine ev_iload_n (p' := 1) i_213_0 rfl rfl ?_
  refine ev_s1I (p' := 4) i_213_1 rfl cl_12_228_0 (by decide) (Nat.le_of_ble_eq_true rfl) (s_isOpening _ _) ?_
  refine ev_if_eq (p' := 7) (tg := 17) i_213_4 rfl rfl (fun c4 => absurd c4 (B_tn (in0 (m := 12) (by omega) (by decide) rfl))) (fun c4 => ?_)
  refine ev_iload_n (p' := 8) i_213_7 rfl rfl ?_
  refine ev_iconst (p' := 9) (v := 0) i_213_8 rfl (by decide) ?_
  refine ev_bipush (p' := 11) (v := 10) i_213_9 rfl (by decide) ?_
  refine ev_s3I (p' := 14) i_213_11 rfl cl_12_115_0 (by decide) (Nat.le_of_ble_eq_true rfl) (s_in _ _ _ _) ?_
  refine ev_if_ne (p' := 17) (tg := 22) i_213_14 rfl rfl (fun c14 => ?_) (fun c14 => absurd (B_tn (in0 hc10 (by decide) rfl)) c14)
  refine ev_iconst (p' := 23) (v := 0) i_213_22 rfl (by decide) ?_
  refine ev_istore_n (p' := 24) (ls' := [_, _, _, _, _, _, _, _, _, _, _, _]) i_213_23 rfl rfl (by decide) rfl ?_
  refine ev_lconst (p' := 25) (v := 1) i_213_24 rfl (by decide) ?_
  refine ev_lstore (p' := 27) (ls' := [_, _, _, _, _, _, _, _, _, _, _, _]) i_213_25 rfl rfl (by decide) rfl ?_
  refine ev_iconst (p' := 28) (v := nI 0) i_213_27 rfl (by decide) ?_
  refine ev_istore (p' := 30) (ls' := [_, _, _, _, _, _, _, _, _, _, _, _]) i_213_28 rfl rfl (by decide) rfl ?_
  refine l_free (d := d + 16) hw h7 hn (hc.1.1.oke hA.1.1) (fun x7 x8 x9 x10 x11 => ?_) A.1.1.1 0 _ _ _ _ _ (by omega)
  rw [looseN_cg hc.1.1.rfe, eF, show lcn (rf mi) A.1.1.1 = lcn (fx A.1.1.2.2.2) A.1.1.1 from lcn_cg hc.1.1.rfe, eL]
  refine ev_lconst (p' := 87) (v := 0) i_213_86 rfl (by decide) ?_
  refine ev_lstore (p' := 89) (ls' := [_, _, _, _, _, _, _, _, _, _, _, _]) i_213_87 rfl rfl (by decide) rfl ?_
  refine ev_iconst (p' := 90) (v := nI 0) i_213_89 rfl (by decide) ?_
  refine ev_istore (p' := 92) (ls' := [_, _, _, _, _, _, _, _, _, _, _, _]) i_213_90 rfl rfl (by decide) rfl ?_
  refine ev_cast rfl rfl rfl (l_sticksR (d := d + 16) (w := lN (10 ^ hcn (nI fr) A.1.1.1)) hw hA ho hc10 hfr (fun mi x9 x10 x11 hc => ?_) (fr + 1) 0 mi _ _ _ (by omega) hc.rv)
  have hp7 : 2 ^ A.1.1.1 ≤ 128 := Nat.le_trans (Nat.pow_le_pow_right (by decide) h7) (by decide)
  have hl7 := hcn_le (x := nI fr) A.1.1.1
  have hS := SN_lt (oo := oo) (fr := fr) h7 hc10 (fr + 1)
  have h60 := t60 (m := hcn (nI fr) A.1.1.1) (Nat.le_trans (hcn_le _) h7)
  refine ev_aload_n (p' := 194) i_213_193 rfl rfl ?_
  refine ev_iconst (p' := 195) (v := 0) i_213_194 rfl (by decide) ?_
  refine ev_puti (p' := 198) i_213_195 rfl fl_12_205 rfl is_285 (gr (by decide)) rfl ?_
  refine ev_aload_n (p' := 199) i_213_198 rfl rfl ?_
  refine ev_lload (p' := 201) i_213_199 rfl rfl ?_
  refine ev_lload (p' := 203) i_213_201 rfl rfl ?_
  refine ev_v2V (p' := 206) i_213_203 rfl cl_12_314_12 (by decide) is_285 (Nat.le_of_ble_eq_true rfl) (s_lay (π := π) _ (by omega) h60.1 h60.2) ?_
  refine ev_iconst (p' := 207) (v := 1) i_213_206 rfl (by decide) ?_
  exact ev_iretI i_213_207 rfl (ER.mk rfl (RR.fra hc))
theorem Q_sticks (L : Nat) (A : AV) (hA : okA A) (y x : Int32) : SameI L 98 213 [.int y, .int x] A := by
  by_cases h : (0 ≤ y ∧ y ≤ 12) ∧ (0 ≤ x ∧ x ≤ 10)
  · obtain ⟨oo, h1, rfl⟩ := of0 (m := 12) h.1 rfl
    obtain ⟨c, h2, rfl⟩ := of0 (m := 10) h.2 rfl
    obtain ⟨fr, hfr, eF, eL⟩ := loose_cnt (fx A.1.1.2.2.2) A.1.1.1 hA.n7
    exact ⟨_, frA A (SN A.1.1 oo c fr (fr + 1)) (10 ^ hcn (nI fr) A.1.1.1), hA, fun d => C_sticks L d A hA (by omega) h2 hfr eF eL, fun d => R_sticks L d A hA (by omega) h2 hfr eF eL⟩
  · exact ⟨_, badA A, hA.bad, fun d => C_sticks_bad L d A hA y x h, fun d => R_sticks_bad L d A hA y x h⟩
