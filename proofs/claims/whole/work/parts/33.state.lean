/-! ===== the whole state, twice ===== -/
abbrev AV : Type := SV × ((Nat → Bool) × (Nat → SV)) × (Nat × (Nat → Int32)) × (Int64 × Int64) × (Int32 × Int32 × Int32)
def CR (π : Nat → Nat → Nat) (mi : Nat → Nat → Int32) (ml : Nat → Nat → Int64) (A : AV) : Prop := CSp π mi 17 A.1 ∧ (∀ i, i < 2 → mi 3 i = (if A.2.1.1 i = true then 1 else 0) ∧ (A.2.1.1 i = true → CSp π mi (103 + 86 * i) (A.2.1.2 i))) ∧ (A.2.2.1.1 ≤ 150 ∧ mi 4 1 = nI A.2.2.1.1 ∧ ∀ i, i < A.2.2.1.1 → mi 5 i = A.2.2.1.2 i) ∧ (ml 1 8 = A.2.2.2.1.1 ∧ ml 1 9 = A.2.2.2.1.2) ∧ (mi 1 10 = A.2.2.2.2.1 ∧ mi 1 11 = A.2.2.2.2.2.1 ∧ mi 1 12 = A.2.2.2.2.2.2)
/-- a page laid into a row -/
def RPg (mi : Nat → Nat → Int32) (r off : Nat) (v : PV) : Prop := mi r off = nI v.1 ∧ mi r (off + 1) = v.2.2.1 ∧ mi r (off + 2) = v.2.1 ∧ ∀ i, i < v.1 → ∀ j, j < 7 → mi r (off + 3 + 7 * j + i) = v.2.2.2 j i
def RSp (mi : Nat → Nat → Int32) (r off : Nat) (v : SV) : Prop := RPg mi r off v.1 ∧ mi r (off + 52) = nI v.2.2.1.1 ∧ mi r (off + 53) = nI v.2.2.2.1 ∧ mi r (off + 54) = nI v.2.1.1 ∧ (∀ i, i < v.2.2.1.1 → ∀ j, j < 5 → mi r (off + 55 + 5 * i + j) = v.2.2.1.2 i j) ∧ (∀ i, i < v.2.2.2.1 → mi r (off + 85 + i) = v.2.2.2.2 i 0 ∧ mi r (off + 91 + i) = v.2.2.2.2 i 1) ∧ ∀ k, k < v.2.1.1 → RPg mi r (off + 97 + 52 * k) (v.2.1.2 k)
/-- the reference's page as it stands -/
def RP0 (mi : Nat → Nat → Int32) (v : PV) : Prop := mi 285 1 = nI v.1 ∧ mi 285 2 = v.2.2.1 ∧ mi 285 3 = v.2.1 ∧ ∀ i, i < v.1 → ∀ j, j < 7 → mi (287 + j) i = v.2.2.2 j i
def RS0 (mi : Nat → Nat → Int32) (v : SV) : Prop := RP0 mi v.1 ∧ (mi 285 25 = nI v.2.1.1 ∧ ∀ k, k < v.2.1.1 → RPg mi 301 (52 * k) (v.2.1.2 k)) ∧ (mi 285 4 = nI v.2.2.1.1 ∧ ∀ i, i < v.2.2.1.1 → ∀ j, j < 5 → mi 294 (5 * i + j) = v.2.2.1.2 i j) ∧ (mi 285 5 = nI v.2.2.2.1 ∧ ∀ i, i < v.2.2.2.1 → mi 295 i = v.2.2.2.2 i 0 ∧ mi 296 i = v.2.2.2.2 i 1)
def RR (mi : Nat → Nat → Int32) (ml : Nat → Nat → Int64) (A : AV) : Prop := RS0 mi A.1 ∧ (∀ i, i < 2 → mi 311 i = (if A.2.1.1 i = true then 1 else 0) ∧ (A.2.1.1 i = true → RSp mi 310 (420 * i) (A.2.1.2 i))) ∧ (mi 285 17 = nI A.2.2.1.1 ∧ ∀ i, i < A.2.2.1.1 → mi 297 i = A.2.2.1.2 i) ∧ (ml 285 35 = A.2.2.2.1.1 ∧ ml 285 36 = A.2.2.2.1.2) ∧ (mi 286 0 = A.2.2.2.2.1 ∧ mi 286 1 = A.2.2.2.2.2.1 ∧ mi 286 2 = A.2.2.2.2.2.2) ∧ mi 285 22 = 0
/-- numbers as told -/
def okPV (v : PV) : Prop := v.1 ≤ 7 ∧ (∃ w, 6 ≤ w ∧ w ≤ 40 ∧ v.2.1 = nI w) ∧ (∃ o, o < 13 ∧ v.2.2.1 = nI o) ∧ ∀ i, i < v.1 → okp v.2.2.2 i
def okSV (v : SV) : Prop := okPV v.1 ∧ (v.2.1.1 ≤ 6 ∧ ∀ k, k < v.2.1.1 → okPV (v.2.1.2 k)) ∧ (v.2.2.1.1 ≤ 6 ∧ ∀ i, i < v.2.2.1.1 → (∃ k, k < 7 ∧ v.2.2.1.2 i 0 = nI k) ∧ (∃ t, 1 ≤ t ∧ t < 10 ∧ v.2.2.1.2 i 1 = nI t) ∧ (∃ o, o < 13 ∧ v.2.2.1.2 i 2 = nI o) ∧ (∃ p, p < 4 ∧ v.2.2.1.2 i 3 = nI p) ∧ ∃ x, x < 21 ∧ v.2.2.1.2 i 4 = nI x) ∧ (v.2.2.2.1 ≤ 6 ∧ ∀ i, i < v.2.2.2.1 → (∃ o, o < 13 ∧ v.2.2.2.2 i 0 = nI o) ∧ ∃ s, s < 128 ∧ v.2.2.2.2 i 1 = nI s)
def okA (A : AV) : Prop := okSV A.1 ∧ (∀ i, i < 2 → A.2.1.1 i = true → okSV (A.2.1.2 i)) ∧ A.2.2.1.1 ≤ 150 ∧ ∀ i, i < A.2.2.1.1 → ∃ c, c < 128 ∧ A.2.2.1.2 i = nI c
/-- a call of the class, of the reference: from A to A', answering r -/
def Cst (L d M : Nat) (as : List Value) (A : AV) (r : Value) (A' : AV) : Prop := ∀ π mi ml mr, WR π mr → CR π mi ml A → ∃ π' mi1 ml1 mr1, pm_ev gC d M (.ref 1 :: as) (WW L, mi, ml, mr) (some r) (WW L, mi1, ml1, mr1) ∧ WR π' mr1 ∧ CR π' mi1 ml1 A'
def Rst (L d M : Nat) (as : List Value) (A : AV) (r : Value) (A' : AV) : Prop := ∀ π mi ml mr, WR π mr → RR mi ml A → ∃ mi1 ml1, pm_ev gR d M (.ref 285 :: as) (WW L, mi, ml, mr) (some r) (WW L, mi1, ml1, mr) ∧ RR mi1 ml1 A'
theorem sp_rng : ∀ T ∈ k_sp, 17 ≤ T ∧ T + 85 ≤ 274 := by decide +kernel
theorem CSp.cong {π : Nat → Nat → Nat} {mi mi' : Nat → Nat → Int32} {T : Nat} {v : SV} {mr : Nat → Nat → Option Nat} (hw : WR π mr) (hT : T ∈ k_sp) (h : CSp π mi T v) (he : ∀ a, 17 ≤ a → a < 275 → mi' a = mi a) : CSp π mi' T v :=
  h.out hw hT (fun a h1 h2 => he a (Nat.le_trans (sp_rng T hT).1 h1) (by have := sp_rng T hT; omega))
theorem sp_img {i : Nat} (hi : i < 2) : 103 + 86 * i ∈ k_sp := by
  match i, hi with
  | 0, _ => decide
  | 1, _ => decide
  | i + 2, h => omega
/-- what the class holds but for cell 1 -/
theorem CR.st {π : Nat → Nat → Nat} {mi mi' : Nat → Nat → Int32} {ml : Nat → Nat → Int64} {mr : Nat → Nat → Option Nat} {A : AV} {s : Int32 × Int32 × Int32} (hw : WR π mr) (h : CR π mi ml A) (he : ∀ a, 2 ≤ a → mi' a = mi a) (h1 : mi' 1 10 = s.1 ∧ mi' 1 11 = s.2.1 ∧ mi' 1 12 = s.2.2) : CR π mi' ml (A.1, A.2.1, A.2.2.1, A.2.2.2.1, s) := by
  obtain ⟨a1, a2, a3, a4, a5⟩ := h
  refine ⟨a1.cong hw sp_17 (fun a h1 h2 => he a (by omega)), fun i hi => ⟨by rw [he 3 (by omega)]; exact (a2 i hi).1, fun hk => ((a2 i hi).2 hk).cong hw (sp_img hi) (fun a h1 h2 => he a (by omega))⟩, ⟨a3.1, by rw [he 4 (by omega)]; exact a3.2.1, fun i hi => by rw [he 5 (by omega)]; exact a3.2.2 i hi⟩, a4, h1⟩
theorem RPg.cong {mi mi' : Nat → Nat → Int32} {r off : Nat} {v : PV} (h : RPg mi r off v) (he : mi' r = mi r) : RPg mi' r off v := by
  unfold RPg at *
  rw [he]
  exact h
theorem RSp.cong {mi mi' : Nat → Nat → Int32} {r off : Nat} {v : SV} (h : RSp mi r off v) (he : mi' r = mi r) : RSp mi' r off v := by
  obtain ⟨a1, a2, a3, a4, a5, a6, a7⟩ := h
  exact ⟨a1.cong he, by rw [he]; exact a2, by rw [he]; exact a3, by rw [he]; exact a4, fun i hi j hj => by rw [he]; exact a5 i hi j hj, fun i hi => by rw [he]; exact a6 i hi, fun k hk => (a7 k hk).cong he⟩
theorem RS0.cong {mi mi' : Nat → Nat → Int32} {v : SV} (h : RS0 mi v) (he : ∀ a, 285 ≤ a → a ≤ 301 → a ≠ 286 → mi' a = mi a) (hv : v.1.1 ≤ 7) : RS0 mi' v := by
  obtain ⟨⟨b1, b2, b3, b4⟩, ⟨a1, a2⟩, ⟨a3, a4⟩, a5, a6⟩ := h
  refine ⟨⟨by rw [he 285 (by omega) (by omega) (by omega)]; exact b1, by rw [he 285 (by omega) (by omega) (by omega)]; exact b2, by rw [he 285 (by omega) (by omega) (by omega)]; exact b3, fun i hi j hj => by rw [he (287 + j) (by omega) (by omega) (by omega)]; exact b4 i hi j hj⟩, ⟨by rw [he 285 (by omega) (by omega) (by omega)]; exact a1, fun k hk => (a2 k hk).cong (he 301 (by omega) (by omega) (by omega))⟩, ⟨by rw [he 285 (by omega) (by omega) (by omega)]; exact a3, fun i hi j hj => by rw [he 294 (by omega) (by omega) (by omega)]; exact a4 i hi j hj⟩, by rw [he 285 (by omega) (by omega) (by omega)]; exact a5, fun i hi => by rw [he 295 (by omega) (by omega) (by omega), he 296 (by omega) (by omega) (by omega)]; exact a6 i hi⟩
theorem RR.st {mi mi' : Nat → Nat → Int32} {ml : Nat → Nat → Int64} {A : AV} {s : Int32 × Int32 × Int32} (hv : A.1.1.1 ≤ 7) (h : RR mi ml A) (he : ∀ a, 285 ≤ a → a ≠ 286 → mi' a = mi a) (h1 : mi' 286 0 = s.1 ∧ mi' 286 1 = s.2.1 ∧ mi' 286 2 = s.2.2) : RR mi' ml (A.1, A.2.1, A.2.2.1, A.2.2.2.1, s) := by
  obtain ⟨a1, a2, a3, a4, a5, a6⟩ := h
  refine ⟨a1.cong (fun a h1 _ h3 => he a h1 h3) hv, fun i hi => ⟨by rw [he 311 (by omega) (by omega)]; exact (a2 i hi).1, fun hk => ((a2 i hi).2 hk).cong (he 310 (by omega) (by omega))⟩, ⟨by rw [he 285 (by omega) (by omega)]; exact a3.1, fun i hi => by rw [he 297 (by omega) (by omega)]; exact a3.2 i hi⟩, a4, h1, by rw [he 285 (by omega) (by omega)]; exact a6⟩
def badA (A : AV) : AV := (A.1, A.2.1, A.2.2.1, A.2.2.2.1, (A.2.2.2.2.1 + 1, A.2.2.2.2.2.1, A.2.2.2.2.2.2))
def noA (A : AV) : AV := (A.1, A.2.1, A.2.2.1, A.2.2.2.1, (A.2.2.2.2.1, A.2.2.2.2.2.1 + 1, A.2.2.2.2.2.2))
def fullA (A : AV) : AV := (A.1, A.2.1, A.2.2.1, A.2.2.2.1, (A.2.2.2.2.1, A.2.2.2.2.2.1, A.2.2.2.2.2.2 + 1))
theorem okA.st {A : AV} (h : okA A) (s : Int32 × Int32 × Int32) : okA (A.1, A.2.1, A.2.2.1, A.2.2.2.1, s) := h
theorem CR.bad {π : Nat → Nat → Nat} {mi : Nat → Nat → Int32} {ml : Nat → Nat → Int64} {mr : Nat → Nat → Option Nat} {A : AV} (hw : WR π mr) (h : CR π mi ml A) : CR π (pm_u mi 1 10 (mi 1 10 + 1)) ml (badA A) :=
  h.st hw (fun a ha => pm_u_ne (by omega)) ⟨by rw [pm_u_self, h.2.2.2.2.1], by rw [pm_u_oth (by decide)]; exact h.2.2.2.2.2.1, by rw [pm_u_oth (by decide)]; exact h.2.2.2.2.2.2⟩
theorem CR.no {π : Nat → Nat → Nat} {mi : Nat → Nat → Int32} {ml : Nat → Nat → Int64} {mr : Nat → Nat → Option Nat} {A : AV} (hw : WR π mr) (h : CR π mi ml A) : CR π (pm_u mi 1 11 (mi 1 11 + 1)) ml (noA A) :=
  h.st hw (fun a ha => pm_u_ne (by omega)) ⟨by rw [pm_u_oth (by decide)]; exact h.2.2.2.2.1, by rw [pm_u_self, h.2.2.2.2.2.1], by rw [pm_u_oth (by decide)]; exact h.2.2.2.2.2.2⟩
theorem CR.full {π : Nat → Nat → Nat} {mi : Nat → Nat → Int32} {ml : Nat → Nat → Int64} {mr : Nat → Nat → Option Nat} {A : AV} (hw : WR π mr) (h : CR π mi ml A) : CR π (pm_u mi 1 12 (mi 1 12 + 1)) ml (fullA A) :=
  h.st hw (fun a ha => pm_u_ne (by omega)) ⟨by rw [pm_u_oth (by decide)]; exact h.2.2.2.2.1, by rw [pm_u_oth (by decide)]; exact h.2.2.2.2.2.1, by rw [pm_u_self, h.2.2.2.2.2.2]⟩
theorem RR.bad {mi : Nat → Nat → Int32} {ml : Nat → Nat → Int64} {A : AV} (hv : A.1.1.1 ≤ 7) (h : RR mi ml A) : RR (pm_u mi 286 0 (mi 286 0 + 1)) ml (badA A) :=
  h.st hv (fun a _ ha => pm_u_ne (by omega)) ⟨by rw [pm_u_self, h.2.2.2.2.1.1], by rw [pm_u_oth (by decide)]; exact h.2.2.2.2.1.2.1, by rw [pm_u_oth (by decide)]; exact h.2.2.2.2.1.2.2⟩
theorem RR.no {mi : Nat → Nat → Int32} {ml : Nat → Nat → Int64} {A : AV} (hv : A.1.1.1 ≤ 7) (h : RR mi ml A) : RR (pm_u mi 286 1 (mi 286 1 + 1)) ml (noA A) :=
  h.st hv (fun a _ ha => pm_u_ne (by omega)) ⟨by rw [pm_u_oth (by decide)]; exact h.2.2.2.2.1.1, by rw [pm_u_self, h.2.2.2.2.1.2.1], by rw [pm_u_oth (by decide)]; exact h.2.2.2.2.1.2.2⟩
theorem RR.full {mi : Nat → Nat → Int32} {ml : Nat → Nat → Int64} {A : AV} (hv : A.1.1.1 ≤ 7) (h : RR mi ml A) : RR (pm_u mi 286 2 (mi 286 2 + 1)) ml (fullA A) :=
  h.st hv (fun a _ ha => pm_u_ne (by omega)) ⟨by rw [pm_u_oth (by decide)]; exact h.2.2.2.2.1.1, by rw [pm_u_oth (by decide)]; exact h.2.2.2.2.1.2.1, by rw [pm_u_self, h.2.2.2.2.1.2.2]⟩
theorem s_bad {L : Nat} {mi : Nat → Nat → Int32} {ml : Nat → Nat → Int64} {mr : Nat → Nat → Option Nat} (d : Nat) : pm_ev gC (d + 1) 106 [.ref 1] (WW L, mi, ml, mr) (some (.int (-2))) (WW L, pm_u mi 1 10 (mi 1 10 + 1), ml, mr) := by
  refine ev_enter (q := q_106) rfl (Nat.le_of_ble_eq_true rfl) rfl ?_
  refine ev_aload_n (p' := 1) i_106_0 rfl rfl ?_
  refine ev_dup (p' := 2) i_106_1 rfl rfl ?_
  refine ev_geti (p' := 5) i_106_2 rfl fl_11_47 rfl is_1 ?_
  refine ev_iconst (p' := 6) (v := 1) i_106_5 rfl (by decide) ?_
  refine ev_iadd (p' := 7) i_106_6 rfl ?_
  refine ev_puti (p' := 10) i_106_7 rfl fl_11_47 rfl is_1 (gc (by decide)) rfl ?_
  refine ev_bipush (p' := 12) (v := -2) i_106_10 rfl (by decide) ?_
  exact ev_iretI i_106_12 rfl ⟨rfl, rfl⟩
theorem s_badE {L : Nat} {mi : Nat → Nat → Int32} {ml : Nat → Nat → Int64} {mr : Nat → Nat → Option Nat} (d : Nat) : pm_ev gC (d + 1) 107 [.ref 1] (WW L, mi, ml, mr) (some (.int (-10))) (WW L, pm_u mi 1 10 (mi 1 10 + 1), ml, mr) := by
  refine ev_enter (q := q_107) rfl (Nat.le_of_ble_eq_true rfl) rfl ?_
  refine ev_aload_n (p' := 1) i_107_0 rfl rfl ?_
  refine ev_dup (p' := 2) i_107_1 rfl rfl ?_
  refine ev_geti (p' := 5) i_107_2 rfl fl_11_47 rfl is_1 ?_
  refine ev_iconst (p' := 6) (v := 1) i_107_5 rfl (by decide) ?_
  refine ev_iadd (p' := 7) i_107_6 rfl ?_
  refine ev_puti (p' := 10) i_107_7 rfl fl_11_47 rfl is_1 (gc (by decide)) rfl ?_
  refine ev_bipush (p' := 12) (v := -10) i_107_10 rfl (by decide) ?_
  exact ev_iretI i_107_12 rfl ⟨rfl, rfl⟩
theorem s_no {L : Nat} {mi : Nat → Nat → Int32} {ml : Nat → Nat → Int64} {mr : Nat → Nat → Option Nat} (d : Nat) : pm_ev gC (d + 1) 108 [.ref 1] (WW L, mi, ml, mr) (some (.int (-3))) (WW L, pm_u mi 1 11 (mi 1 11 + 1), ml, mr) := by
  refine ev_enter (q := q_108) rfl (Nat.le_of_ble_eq_true rfl) rfl ?_
  refine ev_aload_n (p' := 1) i_108_0 rfl rfl ?_
  refine ev_dup (p' := 2) i_108_1 rfl rfl ?_
  refine ev_geti (p' := 5) i_108_2 rfl fl_11_51 rfl is_1 ?_
  refine ev_iconst (p' := 6) (v := 1) i_108_5 rfl (by decide) ?_
  refine ev_iadd (p' := 7) i_108_6 rfl ?_
  refine ev_puti (p' := 10) i_108_7 rfl fl_11_51 rfl is_1 (gc (by decide)) rfl ?_
  refine ev_bipush (p' := 12) (v := -3) i_108_10 rfl (by decide) ?_
  exact ev_iretI i_108_12 rfl ⟨rfl, rfl⟩
theorem s_full {L : Nat} {mi : Nat → Nat → Int32} {ml : Nat → Nat → Int64} {mr : Nat → Nat → Option Nat} (d : Nat) : pm_ev gC (d + 1) 109 [.ref 1] (WW L, mi, ml, mr) (some (.int (-4))) (WW L, pm_u mi 1 12 (mi 1 12 + 1), ml, mr) := by
  refine ev_enter (q := q_109) rfl (Nat.le_of_ble_eq_true rfl) rfl ?_
  refine ev_aload_n (p' := 1) i_109_0 rfl rfl ?_
  refine ev_dup (p' := 2) i_109_1 rfl rfl ?_
  refine ev_geti (p' := 5) i_109_2 rfl fl_11_54 rfl is_1 ?_
  refine ev_iconst (p' := 6) (v := 1) i_109_5 rfl (by decide) ?_
  refine ev_iadd (p' := 7) i_109_6 rfl ?_
  refine ev_puti (p' := 10) i_109_7 rfl fl_11_54 rfl is_1 (gc (by decide)) rfl ?_
  refine ev_bipush (p' := 12) (v := -4) i_109_10 rfl (by decide) ?_
  exact ev_iretI i_109_12 rfl ⟨rfl, rfl⟩
theorem s_mbad {L : Nat} {π : Nat → Nat → Nat} {mi : Nat → Nat → Int32} {ml : Nat → Nat → Int64} {mr : Nat → Nat → Option Nat} (d : Nat) (hw : WR π mr) : pm_ev gR (d + 1) 130 [.ref 285] (WW L, mi, ml, mr) (some (.int (-2))) (WW L, pm_u mi 286 0 (mi 286 0 + 1), ml, mr) := by
  refine ev_enter (q := q_130) rfl (Nat.le_of_ble_eq_true rfl) rfl ?_
  refine ev_aload_n (p' := 1) i_130_0 rfl rfl ?_
  refine ev_getr (p' := 4) i_130_1 rfl fl_12_1 rfl is_285 (rf_285_0 hw) ?_
  refine ev_iconst (p' := 5) (v := nI 0) i_130_4 rfl (by decide) ?_
  refine ev_dup2 (p' := 6) i_130_5 rfl rfl rfl ?_
  refine ev_ialdN (p' := 7) i_130_6 rfl is_286 len_286 (by omega) (by decide) ?_
  refine ev_iconst (p' := 8) (v := 1) i_130_7 rfl (by decide) ?_
  refine ev_iadd (p' := 9) i_130_8 rfl ?_
  refine ev_iastN (p' := 10) i_130_9 rfl is_286 len_286 (by omega) (by decide) (gr (by decide)) ?_
  refine ev_bipush (p' := 12) (v := -2) i_130_10 rfl (by decide) ?_
  exact ev_iretI i_130_12 rfl ⟨rfl, rfl⟩
theorem s_mten {L : Nat} {π : Nat → Nat → Nat} {mi : Nat → Nat → Int32} {ml : Nat → Nat → Int64} {mr : Nat → Nat → Option Nat} (d : Nat) (hw : WR π mr) : pm_ev gR (d + 1) 131 [.ref 285] (WW L, mi, ml, mr) (some (.int (-10))) (WW L, pm_u mi 286 0 (mi 286 0 + 1), ml, mr) := by
  refine ev_enter (q := q_131) rfl (Nat.le_of_ble_eq_true rfl) rfl ?_
  refine ev_aload_n (p' := 1) i_131_0 rfl rfl ?_
  refine ev_getr (p' := 4) i_131_1 rfl fl_12_1 rfl is_285 (rf_285_0 hw) ?_
  refine ev_iconst (p' := 5) (v := nI 0) i_131_4 rfl (by decide) ?_
  refine ev_dup2 (p' := 6) i_131_5 rfl rfl rfl ?_
  refine ev_ialdN (p' := 7) i_131_6 rfl is_286 len_286 (by omega) (by decide) ?_
  refine ev_iconst (p' := 8) (v := 1) i_131_7 rfl (by decide) ?_
  refine ev_iadd (p' := 9) i_131_8 rfl ?_
  refine ev_iastN (p' := 10) i_131_9 rfl is_286 len_286 (by omega) (by decide) (gr (by decide)) ?_
  refine ev_bipush (p' := 12) (v := -10) i_131_10 rfl (by decide) ?_
  exact ev_iretI i_131_12 rfl ⟨rfl, rfl⟩
theorem s_mno {L : Nat} {π : Nat → Nat → Nat} {mi : Nat → Nat → Int32} {ml : Nat → Nat → Int64} {mr : Nat → Nat → Option Nat} (d : Nat) (hw : WR π mr) : pm_ev gR (d + 1) 132 [.ref 285] (WW L, mi, ml, mr) (some (.int (-3))) (WW L, pm_u mi 286 1 (mi 286 1 + 1), ml, mr) := by
  refine ev_enter (q := q_132) rfl (Nat.le_of_ble_eq_true rfl) rfl ?_
  refine ev_aload_n (p' := 1) i_132_0 rfl rfl ?_
  refine ev_getr (p' := 4) i_132_1 rfl fl_12_1 rfl is_285 (rf_285_0 hw) ?_
  refine ev_iconst (p' := 5) (v := nI 1) i_132_4 rfl (by decide) ?_
  refine ev_dup2 (p' := 6) i_132_5 rfl rfl rfl ?_
  refine ev_ialdN (p' := 7) i_132_6 rfl is_286 len_286 (by omega) (by decide) ?_
  refine ev_iconst (p' := 8) (v := 1) i_132_7 rfl (by decide) ?_
  refine ev_iadd (p' := 9) i_132_8 rfl ?_
  refine ev_iastN (p' := 10) i_132_9 rfl is_286 len_286 (by omega) (by decide) (gr (by decide)) ?_
  refine ev_bipush (p' := 12) (v := -3) i_132_10 rfl (by decide) ?_
  exact ev_iretI i_132_12 rfl ⟨rfl, rfl⟩
theorem s_mfull {L : Nat} {π : Nat → Nat → Nat} {mi : Nat → Nat → Int32} {ml : Nat → Nat → Int64} {mr : Nat → Nat → Option Nat} (d : Nat) (hw : WR π mr) : pm_ev gR (d + 1) 133 [.ref 285] (WW L, mi, ml, mr) (some (.int (-4))) (WW L, pm_u mi 286 2 (mi 286 2 + 1), ml, mr) := by
  refine ev_enter (q := q_133) rfl (Nat.le_of_ble_eq_true rfl) rfl ?_
  refine ev_aload_n (p' := 1) i_133_0 rfl rfl ?_
  refine ev_getr (p' := 4) i_133_1 rfl fl_12_1 rfl is_285 (rf_285_0 hw) ?_
  refine ev_iconst (p' := 5) (v := nI 2) i_133_4 rfl (by decide) ?_
  refine ev_dup2 (p' := 6) i_133_5 rfl rfl rfl ?_
  refine ev_ialdN (p' := 7) i_133_6 rfl is_286 len_286 (by omega) (by decide) ?_
  refine ev_iconst (p' := 8) (v := 1) i_133_7 rfl (by decide) ?_
  refine ev_iadd (p' := 9) i_133_8 rfl ?_
  refine ev_iastN (p' := 10) i_133_9 rfl is_286 len_286 (by omega) (by decide) (gr (by decide)) ?_
  refine ev_bipush (p' := 12) (v := -4) i_133_10 rfl (by decide) ?_
  exact ev_iretI i_133_12 rfl ⟨rfl, rfl⟩
