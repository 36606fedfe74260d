/-! ===== calls by what is said of their ends ===== -/
theorem nI_mul (a b : Nat) : nI a * nI b = nI (a * b) := (Int32.ofNat_mul a b).symm
theorem ev_imulN {g : Nat → Prop} {C : Nat → List Value → pm_M → Option Value → pm_M → Prop} {E : Option Value → pm_M → Prop} {q : pm_D} {pc p' : Nat} {ls : pm_L} {r : List Value} {mem : pm_M} {x y : Nat} (h : pm_at q pc = some (.imul, 1)) (hp : pc + 1 = p') (k : Ev g C E q p' ls (.int (nI (x * y)) :: r) mem) : Ev g C E q pc ls (.int (nI y) :: .int (nI x) :: r) mem := ev_imul h hp (by rw [nI_mul]; exact k)
def EC (L : Nat) (r : Value) (A' : AV) : Option Value → pm_M → Prop := fun x m => x = some r ∧ ∃ π mi ml mr, m = (WW L, mi, ml, mr) ∧ WR π mr ∧ CR π mi ml A'
def ER (L : Nat) (mr : Nat → Nat → Option Nat) (r : Value) (A' : AV) : Option Value → pm_M → Prop := fun x m => x = some r ∧ ∃ mi ml, m = (WW L, mi, ml, mr) ∧ RR mi ml A'
theorem EC.mk {L : Nat} {x r : Value} {A' : AV} {π : Nat → Nat → Nat} {mi : Nat → Nat → Int32} {ml : Nat → Nat → Int64} {mr : Nat → Nat → Option Nat} (hx : x = r) (hw : WR π mr) (hc : CR π mi ml A') : EC L r A' (some x) (WW L, mi, ml, mr) := ⟨by rw [hx], π, mi, ml, mr, rfl, hw, hc⟩
theorem ER.mk {L : Nat} {x r : Value} {A' : AV} {mi : Nat → Nat → Int32} {ml : Nat → Nat → Int64} {mr : Nat → Nat → Option Nat} (hx : x = r) (hc : RR mi ml A') : ER L mr r A' (some x) (WW L, mi, ml, mr) := ⟨by rw [hx], mi, ml, rfl, hc⟩
theorem C_of {L d M : Nat} {as : List Value} {A A' : AV} {r : Value} {q : pm_D} {ls : pm_L} (hq : pm_all[M]? = some q) (ha : (pm_sl (.ref 1 :: as)).length ≤ q.2.2.2.1) (hl : pm_en (.ref 1 :: as) q.2.2.2.1 = ls)
    (h : ∀ π mi ml mr, WR π mr → CR π mi ml A → Ev gC (pm_ev gC d) (EC L r A') q 0 ls [] (WW L, mi, ml, mr)) : Cst L (d + 1) M as A r A' := by
  intro π mi ml mr hw hc
  obtain ⟨x, m, ⟨h1, π', mi1, ml1, mr1, h2, h3, h4⟩, h5⟩ := ev_some hq ha hl (h π mi ml mr hw hc)
  subst h1 h2
  exact ⟨π', mi1, ml1, mr1, h5, h3, h4⟩
theorem R_of {L d M : Nat} {as : List Value} {A A' : AV} {r : Value} {q : pm_D} {ls : pm_L} (hq : pm_all[M]? = some q) (ha : (pm_sl (.ref 285 :: as)).length ≤ q.2.2.2.1) (hl : pm_en (.ref 285 :: as) q.2.2.2.1 = ls)
    (h : ∀ π mi ml mr, WR π mr → RR mi ml A → Ev gR (pm_ev gR d) (ER L mr r A') q 0 ls [] (WW L, mi, ml, mr)) : Rst L (d + 1) M as A r A' := by
  intro π mi ml mr hw hc
  obtain ⟨x, m, ⟨h1, mi1, ml1, h2, h4⟩, h5⟩ := ev_some hq ha hl (h π mi ml mr hw hc)
  subst h1 h2
  exact ⟨mi1, ml1, h5, h4⟩
def SameI (L Mc Mr : Nat) (as : List Value) (A : AV) : Prop := ∃ (x : Int32) (A' : AV), okA A' ∧ (∀ d, Cst L (d + 24) Mc as A (.int x) A') ∧ ∀ d, Rst L (d + 24) Mr as A (.int x) A'
def SameJ (L Mc Mr : Nat) (as : List Value) (A : AV) : Prop := ∃ (x : Int64) (A' : AV), okA A' ∧ (∀ d, Cst L (d + 24) Mc as A (.long x) A') ∧ ∀ d, Rst L (d + 24) Mr as A (.long x) A'
theorem okA.n7 {A : AV} (h : okA A) : A.1.1.1 ≤ 7 := h.1.1.1
theorem okA.bad {A : AV} (h : okA A) : okA (badA A) := h
theorem okA.no {A : AV} (h : okA A) : okA (noA A) := h
theorem okA.full {A : AV} (h : okA A) : okA (fullA A) := h
theorem CR.pg {π : Nat → Nat → Nat} {mi : Nat → Nat → Int32} {ml : Nat → Nat → Int64} {A : AV} (h : CR π mi ml A) : CPg mi 33 A.1.1 := h.1.1
theorem CR.hn {π : Nat → Nat → Nat} {mi : Nat → Nat → Int32} {ml : Nat → Nat → Int64} {A : AV} (h : CR π mi ml A) : mi 33 5 = nI A.1.1.1 := h.1.1.2.1
theorem RR.hn {mi : Nat → Nat → Int32} {ml : Nat → Nat → Int64} {A : AV} (h : RR mi ml A) : mi 285 1 = nI A.1.1.1 := h.1.1.1
theorem ni {v lo hi : Int32} (h : ¬ (v < lo ∨ ¬ v ≤ hi)) : lo ≤ v ∧ v ≤ hi := ⟨Int32.not_lt.mp (fun z => h (Or.inl z)), Classical.not_not.mp (fun z => h (Or.inr z))⟩
theorem nj {v lo hi : Int32} (h : lo ≤ v ∧ v ≤ hi) : ¬ (v < lo ∨ ¬ v ≤ hi) := fun z => z.elim (fun y => Int32.not_lt.mpr h.1 y) (fun y => y h.2)
theorem B_tn {p : Prop} [Decidable p] (h : p) : ¬ B p = 0 := by rw [B_t h]; decide
theorem in0 {j m : Nat} {M : Int32} (h : j ≤ m) (hm : m < 2 ^ 31) (hM : nI m = M) : 0 ≤ nI j ∧ nI j ≤ M := ⟨nI_pos' (by omega), hM ▸ nI_le h hm⟩
theorem in1 {j m : Nat} {M : Int32} (h1 : 1 ≤ j) (h : j ≤ m) (hm : m < 2 ^ 31) (hM : nI m = M) : 1 ≤ nI j ∧ nI j ≤ M := ⟨nI_le (a := 1) h1 (by omega), hM ▸ nI_le h hm⟩
theorem inn {j n : Nat} (h : j < n) (hn : n ≤ 7) : 0 ≤ nI j ∧ nI j ≤ nI n - 1 := by
  obtain ⟨m, rfl⟩ : ∃ m, n = m + 1 := ⟨n - 1, by omega⟩
  rw [nI_pred]
  exact in0 (by omega) (by omega) rfl
theorem of0 {v M : Int32} {m : Nat} (h : 0 ≤ v ∧ v ≤ M) (hM : M.toInt = m) : ∃ j, j ≤ m ∧ v = nI j := nI_of2 hM (Int32.not_lt.mpr h.1) h.2
theorem of1 {v M : Int32} {m : Nat} (h : 1 ≤ v ∧ v ≤ M) (hM : M.toInt = m) : ∃ j, 1 ≤ j ∧ j ≤ m ∧ v = nI j := by
  have h0 : ¬ v < 0 := fun z => absurd (Int32.lt_of_lt_of_le z (Int32.le_trans (by decide : (0 : Int32) ≤ 1) h.1)) (Int32.lt_irrefl)
  obtain ⟨j, hj, e⟩ := nI_of2 hM h0 h.2
  refine ⟨j, ?_, hj, e⟩
  match j with
  | 0 => rw [e] at h; exact absurd h.1 (by decide)
  | j + 1 => omega
theorem ofn {v : Int32} {n : Nat} (hn : n ≤ 7) (h : 0 ≤ v ∧ v ≤ nI n - 1) : ∃ j, j < n ∧ v = nI j := by
  match n, hn with
  | 0, _ => exact absurd (Int32.le_trans h.1 h.2) (by decide)
  | n + 1, hn =>
    rw [nI_pred] at h
    obtain ⟨j, hj, e⟩ := of0 h (nI_toInt (by omega))
    exact ⟨j, by omega, e⟩
theorem pw7 : ∀ n, n < 8 → ((1 : Int32) <<< (nI n &&& 31) - 1).toInt = ((2 ^ n - 1 : Nat) : Int) := by decide +kernel
theorem ofs {v : Int32} {n : Nat} (hn : n ≤ 7) (h : 0 ≤ v ∧ v ≤ 1 <<< (nI n &&& 31) - 1) : ∃ s, s < 2 ^ n ∧ v = nI s := by
  obtain ⟨j, hj, e⟩ := nI_of2 (pw7 n (by omega)) (Int32.not_lt.mpr h.1) h.2
  exact ⟨j, by have := Nat.two_pow_pos n; omega, e⟩
theorem pw7b : ∀ n, n < 8 → ∀ s, s < 2 ^ n → 0 ≤ nI s ∧ nI s ≤ (1 : Int32) <<< (nI n &&& 31) - 1 := by decide +kernel
theorem ins {s n : Nat} (hn : n ≤ 7) (h : s < 2 ^ n) : 0 ≤ nI s ∧ nI s ≤ 1 <<< (nI n &&& 31) - 1 := pw7b n (by omega) s h
theorem CSp.pi {π π' : Nat → Nat → Nat} {mi : Nat → Nat → Int32} {S : Nat} {v : SV} (h : CSp π mi S v) (he : π' S = π S) : CSp π' mi S v := by
  unfold CSp at *
  rw [he]
  exact h
theorem CR.up {π π' : Nat → Nat → Nat} {mi mi' : Nat → Nat → Int32} {ml : Nat → Nat → Int64} {mr : Nat → Nat → Option Nat} {A : AV} {v : SV} (hw : WR π mr) (h : CR π mi ml A) (hS : CSp π' mi' 17 v) (hp : ∀ T, T ≠ 17 → π' T = π T) (he : ∀ a, a < 17 ∨ 103 ≤ a → mi' a = mi a) : CR π' mi' ml (v, A.2) := by
  obtain ⟨a1, a2, a3, a4, a5⟩ := h
  refine ⟨hS, fun i hi => ⟨by rw [he 3 (by omega)]; exact (a2 i hi).1, fun hk => ((((a2 i hi).2 hk).out hw (sp_img hi) (fun a h1 h2 => he a (by omega))).pi (hp _ (by omega)))⟩, ⟨a3.1, by rw [he 4 (by omega)]; exact a3.2.1, fun i hi => by rw [he 5 (by omega)]; exact a3.2.2 i hi⟩, a4, by rw [he 1 (by omega)]; exact a5⟩
theorem RR.up {mi mi' : Nat → Nat → Int32} {ml : Nat → Nat → Int64} {A : AV} {v : SV} (h : RR mi ml A) (hS : RS0 mi' v) (he : ∀ a, a = 286 ∨ a = 297 ∨ a = 310 ∨ a = 311 → mi' a = mi a) (h17 : mi' 285 17 = mi 285 17) (h22 : mi' 285 22 = mi 285 22) : RR mi' ml (v, A.2) := by
  obtain ⟨a1, a2, a3, a4, a5, a6⟩ := h
  refine ⟨hS, fun i hi => ⟨by rw [he 311 (by omega)]; exact (a2 i hi).1, fun hk => ((a2 i hi).2 hk).cong (he 310 (by omega))⟩, ⟨by rw [h17]; exact a3.1, fun i hi => by rw [he 297 (by omega)]; exact a3.2 i hi⟩, a4, by rw [he 286 (by omega)]; exact a5, by rw [h22]; exact a6⟩
/-- rows that count for nothing -/
theorem CR.scr {π : Nat → Nat → Nat} {mi mi' : Nat → Nat → Int32} {ml : Nat → Nat → Int64} {mr : Nat → Nat → Option Nat} {A : AV} (hw : WR π mr) (h : CR π mi ml A) (he : ∀ a, a ≤ 5 ∨ (17 ≤ a ∧ a < 275) → mi' a = mi a) : CR π mi' ml A := by
  obtain ⟨a1, a2, a3, a4, a5⟩ := h
  refine ⟨a1.cong hw sp_17 (fun a h1 h2 => he a (by omega)), fun i hi => ⟨by rw [he 3 (by omega)]; exact (a2 i hi).1, fun hk => ((a2 i hi).2 hk).cong hw (sp_img hi) (fun a h1 h2 => he a (by omega))⟩, ⟨a3.1, by rw [he 4 (by omega)]; exact a3.2.1, fun i hi => by rw [he 5 (by omega)]; exact a3.2.2 i hi⟩, a4, by rw [he 1 (by omega)]; exact a5⟩
theorem RR.scr {mi mi' : Nat → Nat → Int32} {ml : Nat → Nat → Int64} {A : AV} {k : Nat} (h : RR mi ml A) (hv : A.1.1.1 ≤ 7) (hk : k = 298 ∨ k = 299 ∨ k = 300 ∨ (302 ≤ k ∧ k ≤ 309)) (he : ∀ a, a ≠ k → mi' a = mi a) : RR mi' ml A := by
  obtain ⟨a1, a2, a3, a4, a5, a6⟩ := h
  refine ⟨⟨?_, ?_, ?_, ?_⟩, fun i hi => ⟨by rw [he 311 (by omega)]; exact (a2 i hi).1, fun hk => ((a2 i hi).2 hk).cong (he 310 (by omega))⟩, ⟨by rw [he 285 (by omega)]; exact a3.1, fun i hi => by rw [he 297 (by omega)]; exact a3.2 i hi⟩, a4, by rw [he 286 (by omega)]; exact a5, by rw [he 285 (by omega)]; exact a6⟩
  · exact ⟨by rw [he 285 (by omega)]; exact a1.1.1, by rw [he 285 (by omega)]; exact a1.1.2.1, by rw [he 285 (by omega)]; exact a1.1.2.2.1, fun i hi j hj => by rw [he (287 + j) (by omega)]; exact a1.1.2.2.2 i hi j hj⟩
  · exact ⟨by rw [he 285 (by omega)]; exact a1.2.1.1, fun k' hk' => (a1.2.1.2 k' hk').cong (he 301 (by omega))⟩
  · exact ⟨by rw [he 285 (by omega)]; exact a1.2.2.1.1, fun i hi j hj => by rw [he 294 (by omega)]; exact a1.2.2.1.2 i hi j hj⟩
  · exact ⟨by rw [he 285 (by omega)]; exact a1.2.2.2.1, fun i hi => by rw [he 295 (by omega), he 296 (by omega)]; exact a1.2.2.2.2 i hi⟩
theorem pg2_sep : ∀ P ∈ k_pg, ∀ Q ∈ k_pg, Q ≠ P + 2 ∧ ∀ i, i < 7 → Q + 3 + i ≠ P + 2 := by decide +kernel
theorem pg2_sp : ∀ P ∈ k_pg, ∀ S ∈ k_sp, S ≠ P + 2 ∧ ∀ i, i < 6 → S + 3 + i ≠ P + 2 ∧ S + 10 + i ≠ P + 2 := by decide +kernel
theorem pg2_lo : ∀ P ∈ k_pg, 19 ≤ P + 2 := by decide +kernel
theorem CPg.h2 {mi mi' : Nat → Nat → Int32} {P Q : Nat} {v : PV} (h : CPg mi Q v) (hP : P ∈ k_pg) (hQ : Q ∈ k_pg) (he : ∀ a, a ≠ P + 2 → mi' a = mi a) : CPg mi' Q v :=
  h.fr (he _ (pg2_sep P hP Q hQ).1) (fun i hi => he _ ((pg2_sep P hP Q hQ).2 i hi))
theorem CSp.h2 {π : Nat → Nat → Nat} {mi mi' : Nat → Nat → Int32} {mr : Nat → Nat → Option Nat} {P S : Nat} {v : SV} (hw : WR π mr) (h : CSp π mi S v) (hP : P ∈ k_pg) (hS : S ∈ k_sp) (he : ∀ a, a ≠ P + 2 → mi' a = mi a) : CSp π mi' S v := by
  obtain ⟨a1, ⟨a2, a3, a4⟩, ⟨a5, a6, a7⟩, a8, a9, a10⟩ := h
  have hs := pg2_sp P hP S hS
  exact ⟨a1.h2 hP (pg_sp hS) he, ⟨a2, by rw [he _ hs.1]; exact a3, fun i hi => (a4 i hi).h2 hP (pg_old hS (hw.pi hS (by omega))) he⟩, ⟨a5, by rw [he _ hs.1]; exact a6, fun i hi j hj => by rw [he _ (hs.2 i (by omega)).1]; exact a7 i hi j hj⟩, a8, by rw [he _ hs.1]; exact a9, fun i hi j hj => by rw [he _ (hs.2 i (by omega)).2]; exact a10 i hi j hj⟩
theorem CR.h2 {π : Nat → Nat → Nat} {mi mi' : Nat → Nat → Int32} {ml : Nat → Nat → Int64} {mr : Nat → Nat → Option Nat} {P : Nat} {A : AV} (hw : WR π mr) (h : CR π mi ml A) (hP : P ∈ k_pg) (he : ∀ a, a ≠ P + 2 → mi' a = mi a) : CR π mi' ml A := by
  obtain ⟨a1, a2, a3, a4, a5⟩ := h
  have hl := pg2_lo P hP
  exact ⟨a1.h2 hw hP sp_17 he, fun i hi => ⟨by rw [he 3 (by omega)]; exact (a2 i hi).1, fun hk => ((a2 i hi).2 hk).h2 hw hP (sp_img hi) he⟩, ⟨a3.1, by rw [he 4 (by omega)]; exact a3.2.1, fun i hi => by rw [he 5 (by omega)]; exact a3.2.2 i hi⟩, a4, by rw [he 1 (by omega)]; exact a5⟩
theorem CR.hm {π : Nat → Nat → Nat} {mi : Nat → Nat → Int32} {ml : Nat → Nat → Int64} {mr : Nat → Nat → Option Nat} {P n : Nat} {o h : Int32} {A : AV} (hw : WR π mr) (hc : CR π mi ml A) (hP : P ∈ k_pg) : CR π (hm mi P o h n) ml A := hc.h2 hw hP (fun a ha => hm_ne ha)
theorem RR.hr {mi : Nat → Nat → Int32} {ml : Nat → Nat → Int64} {oo n : Nat} {A : AV} (hc : RR mi ml A) (hv : A.1.1.1 ≤ 7) : RR (hr mi oo n) ml A := hc.scr hv (k := 300) (by omega) (fun a ha => hr_ne ha)
/-- what is seen of a page, how high one stands -/
noncomputable def VS (v : PV) (o h : Int32) : Int32 := vis (fx v.2.2.2) v.1 o h v.1
def HT (v : PV) (o : Int32) (i : Nat) : Int32 := hgt (fx v.2.2.2) o 0 i
theorem sees_cg {f f' : Nat → Nat → Int32} {o h : Int32} {n : Nat} (hn : n < 2 ^ 31) (he : ∀ i, i < n → ∀ j, j < 8 → f' j i = f j i) {i : Nat} (hi : i < n) : sees f' n o h i ↔ sees f n o h i := by
  unfold sees
  rw [hgt_cg hn he i hi]
  refine and_congr_right (fun _ => not_congr ⟨?_, ?_⟩)
  · rintro ⟨j, h1, h2, h3⟩
    exact ⟨j, h1, by rw [← he j h1 3 (by omega), ← he i hi 3 (by omega)]; exact h2, by rw [← hgt_cg hn he j h1]; exact h3⟩
  · rintro ⟨j, h1, h2, h3⟩
    exact ⟨j, h1, by rw [he j h1 3 (by omega), he i hi 3 (by omega)]; exact h2, by rw [hgt_cg hn he j h1]; exact h3⟩
theorem vis_z {f : Nat → Nat → Int32} {n : Nat} {o h : Int32} : vis f n o h 0 = 0 := rfl
theorem vis_cg {f f' : Nat → Nat → Int32} {o h : Int32} {n : Nat} (hn : n < 2 ^ 31) (he : ∀ i, i < n → ∀ j, j < 8 → f' j i = f j i) : ∀ m, m ≤ n → vis f' n o h m = vis f n o h m := by
  intro m
  induction m with
  | zero => intro _; rw [vis_z, vis_z]
  | succ m ih =>
    intro hm
    by_cases hs : sees f n o h m
    · rw [vis_t hs, vis_t ((sees_cg hn he (by omega)).mpr hs), ih (by omega)]
    · rw [vis_f hs, vis_f (fun z => hs ((sees_cg hn he (by omega)).mp z)), ih (by omega)]
theorem fx_cg {f f' : Nat → Nat → Int32} {n : Nat} (he : ∀ i, i < n → ∀ j, j < 7 → f' j i = f j i) : ∀ i, i < n → ∀ j, j < 8 → fx f' j i = fx f j i := by
  intro i hi j hj
  unfold fx
  split
  · rw [he i hi 0 (by omega)]
  · exact he i hi j (by omega)
theorem CPg.pfe {mi : Nat → Nat → Int32} {P : Nat} {v : PV} (h : CPg mi P v) : ∀ i, i < v.1 → ∀ j, j < 8 → pf mi P j i = fx v.2.2.2 j i := fun i hi j hj => h.2.2.2.2 i hi j hj
theorem CPg.vise {mi : Nat → Nat → Int32} {P : Nat} {v : PV} {o h : Int32} (hp : CPg mi P v) : vis (pf mi P) v.1 o h v.1 = VS v o h := vis_cg (by have := hp.1; omega) hp.pfe v.1 (Nat.le_refl _)
theorem CPg.hte {mi : Nat → Nat → Int32} {P i : Nat} {v : PV} {o : Int32} (hp : CPg mi P v) (hi : i < v.1) : hgt (pf mi P) o 0 i = HT v o i := hgt_cg (by have := hp.1; omega) hp.pfe i hi
theorem okPV.k {v : PV} (hv : okPV v) : ∀ i, i < v.1 → ∃ k, k < 6 ∧ v.2.2.2 0 i = nI k := fun i hi => (hv.2.2.2 i hi).1
theorem CPg.ks {mi : Nat → Nat → Int32} {P : Nat} {v : PV} (hp : CPg mi P v) (hv : okPV v) : ∀ i, i < v.1 → ∃ k, k < 6 ∧ mi (P + 3 + i) 0 = nI k := fun i hi => by
  obtain ⟨k, h1, h2⟩ := hv.k i hi
  exact ⟨k, h1, by rw [hp.2.2.2.2 i hi 0 (by omega)]; exact h2⟩
theorem RP0.rfe {mi : Nat → Nat → Int32} {v : PV} (h : RP0 mi v) : ∀ i, i < v.1 → ∀ j, j < 8 → rf mi j i = fx v.2.2.2 j i := fx_cg (fun i hi j hj => h.2.2.2 i hi j hj)
theorem RP0.oke {mi : Nat → Nat → Int32} {v : PV} (h : RP0 mi v) (hv : okPV v) : ∀ i, i < v.1 → okp (RFv mi) i := fun i hi => okp_cg (hv.2.2.2 i hi) (fun j hj => h.2.2.2 i hi j hj)
theorem RP0.vise {mi : Nat → Nat → Int32} {v : PV} {o h : Int32} (hp : RP0 mi v) (h7 : v.1 ≤ 7) : vis (rf mi) v.1 o h v.1 = VS v o h := vis_cg (by omega) hp.rfe v.1 (Nat.le_refl _)
theorem RP0.hte {mi : Nat → Nat → Int32} {v : PV} {o : Int32} {i : Nat} (hp : RP0 mi v) (h7 : v.1 ≤ 7) (hi : i < v.1) : hgt (rf mi) o 0 i = HT v o i := hgt_cg (by omega) hp.rfe i hi
theorem v_vis {L : Nat} {π : Nat → Nat → Nat} {mi : Nat → Nat → Int32} {ml : Nat → Nat → Int64} {mr : Nat → Nat → Option Nat} (d : Nat) (hw : WR π mr) {P : Nat} (hP : P ∈ k_pg) {v : PV} (hp : CPg mi P v) (hv : okPV v) (o h : Int32) : pm_ev gC (d + 5) 21 [.ref P, .int o, .int h] (WW L, mi, ml, mr) (some (.int (VS v o h))) (WW L, hm mi P o h v.1, ml, mr) := by
  rw [← hp.vise]
  exact s_vis d hw hP hp.1 hp.2.1 (hp.ks hv) o h
theorem v_visMany {L : Nat} {π : Nat → Nat → Nat} {mi : Nat → Nat → Int32} {ml : Nat → Nat → Int64} {mr : Nat → Nat → Option Nat} (d : Nat) (hw : WR π mr) {P : Nat} (hP : P ∈ k_pg) {v : PV} (hp : CPg mi P v) (hv : okPV v) (o : Int32) : pm_ev gC (d + 6) 23 [.ref P, .int o] (WW L, mi, ml, mr) (some (.int (bcnt (VS v o 0)))) (WW L, hm mi P o 0 v.1, ml, mr) := by
  rw [← hp.vise]
  exact s_visMany d hw hP hp.1 hp.2.1 (hp.ks hv) o
theorem v_mSeen {L : Nat} {π : Nat → Nat → Nat} {mi : Nat → Nat → Int32} {ml : Nat → Nat → Int64} {mr : Nat → Nat → Option Nat} (d : Nat) (hw : WR π mr) {A : AV} (hc : RR mi ml A) (hA : okA A) {oo : Nat} (ho : oo < 13) : pm_ev gR (d + 5) 171 [.ref 285, .int (nI oo)] (WW L, mi, ml, mr) (some (.int (VS A.1.1 (nI oo) 0))) (WW L, hr mi oo A.1.1.1, ml, mr) := by
  have h := s_mSeen (L := L) (ml := ml) d hw hA.n7 hc.hn (hc.1.1.oke hA.1.1) ho
  rw [hc.2.2.2.2.2, hc.1.1.vise hA.n7] at h
  exact h
theorem v_mHeight {L : Nat} {π : Nat → Nat → Nat} {mi : Nat → Nat → Int32} {ml : Nat → Nat → Int64} {mr : Nat → Nat → Option Nat} (d : Nat) (hw : WR π mr) {A : AV} (hc : RR mi ml A) (hA : okA A) {oo i : Nat} (ho : oo < 13) (hi : i < A.1.1.1) : pm_ev gR (d + 4) 170 [.ref 285, .int (nI i), .int (nI oo)] (WW L, mi, ml, mr) (some (.int (HT A.1.1 (nI oo) i))) (WW L, mi, ml, mr) := by
  have h := s_mHeight (L := L) (ml := ml) d hw hA.n7 hc.hn (hc.1.1.oke hA.1.1) ho hi
  rw [hc.2.2.2.2.2, hc.1.1.hte hA.n7 hi] at h
  exact h
theorem s_noPiece {L : Nat} {π : Nat → Nat → Nat} {mi : Nat → Nat → Int32} {ml : Nat → Nat → Int64} {mr : Nat → Nat → Option Nat} (d : Nat) (hw : WR π mr) {n : Nat} (hn : mi 33 5 = nI n) (v : Int32) : pm_ev gC (d + 2) 110 [.ref 1, .int v] (WW L, mi, ml, mr) (some (.int (B (v < 0 ∨ ¬ v ≤ nI n - 1)))) (WW L, mi, ml, mr) := by
  refine ev_enter (q := q_110) rfl (Nat.le_of_ble_eq_true rfl) rfl ?_
  refine ev_iload_n (p' := 1) i_110_0 rfl rfl ?_
  refine ev_iconst (p' := 2) (v := 0) i_110_1 rfl (by decide) ?_
  refine ev_aload_n (p' := 3) i_110_2 rfl rfl ?_
  refine ev_getr (p' := 6) i_110_3 rfl fl_11_78 rfl is_1 (rf_1_0 hw) ?_
  refine ev_getr (p' := 9) i_110_6 rfl fl_11_97 rfl (is_sp sp_17) (hw.page sp_17) ?_
  refine ev_geti (p' := 12) i_110_9 rfl fl_11_100 rfl (is_pg pg_33) ?_
  refine ev_iconst (p' := 13) (v := 1) i_110_12 rfl (by decide) ?_
  refine ev_isub (p' := 14) i_110_13 rfl ?_
  refine ev_s3I (p' := 17) i_110_14 rfl cl_11_89_0 (by decide) (Nat.le_of_ble_eq_true rfl) (s_outside _ _ _ _) ?_
  exact ev_iret i_110_17 rfl B_nar ⟨by rw [hn], rfl⟩
theorem s_noPieces {L : Nat} {π : Nat → Nat → Nat} {mi : Nat → Nat → Int32} {ml : Nat → Nat → Int64} {mr : Nat → Nat → Option Nat} (d : Nat) (hw : WR π mr) {n : Nat} (hn : mi 33 5 = nI n) (v : Int32) : pm_ev gC (d + 2) 111 [.ref 1, .int v] (WW L, mi, ml, mr) (some (.int (B (v < 0 ∨ ¬ v ≤ 1 <<< (nI n &&& 31) - 1)))) (WW L, mi, ml, mr) := by
  refine ev_enter (q := q_111) rfl (Nat.le_of_ble_eq_true rfl) rfl ?_
  refine ev_iload_n (p' := 1) i_111_0 rfl rfl ?_
  refine ev_iconst (p' := 2) (v := 0) i_111_1 rfl (by decide) ?_
  refine ev_iconst (p' := 3) (v := 1) i_111_2 rfl (by decide) ?_
  refine ev_aload_n (p' := 4) i_111_3 rfl rfl ?_
  refine ev_getr (p' := 7) i_111_4 rfl fl_11_78 rfl is_1 (rf_1_0 hw) ?_
  refine ev_getr (p' := 10) i_111_7 rfl fl_11_97 rfl (is_sp sp_17) (hw.page sp_17) ?_
  refine ev_geti (p' := 13) i_111_10 rfl fl_11_100 rfl (is_pg pg_33) ?_
  refine ev_ishl (p' := 14) i_111_13 rfl ?_
  refine ev_iconst (p' := 15) (v := 1) i_111_14 rfl (by decide) ?_
  refine ev_isub (p' := 16) i_111_15 rfl ?_
  refine ev_s3I (p' := 19) i_111_16 rfl cl_11_89_0 (by decide) (Nat.le_of_ble_eq_true rfl) (s_outside _ _ _ _) ?_
  exact ev_iret i_111_19 rfl B_nar ⟨by rw [hn], rfl⟩
theorem s_isPiece {L : Nat} {π : Nat → Nat → Nat} {mi : Nat → Nat → Int32} {ml : Nat → Nat → Int64} {mr : Nat → Nat → Option Nat} (d : Nat) {n : Nat} (hn : mi 285 1 = nI n) (v : Int32) : pm_ev gR (d + 2) 141 [.ref 285, .int v] (WW L, mi, ml, mr) (some (.int (B (0 ≤ v ∧ v ≤ nI n - 1)))) (WW L, mi, ml, mr) := by
  refine ev_enter (q := q_141) rfl (Nat.le_of_ble_eq_true rfl) rfl ?_
  refine ev_iload_n (p' := 1) i_141_0 rfl rfl ?_
  refine ev_iconst (p' := 2) (v := 0) i_141_1 rfl (by decide) ?_
  refine ev_aload_n (p' := 3) i_141_2 rfl rfl ?_
  refine ev_geti (p' := 6) i_141_3 rfl fl_12_96 rfl is_285 ?_
  refine ev_iconst (p' := 7) (v := 1) i_141_6 rfl (by decide) ?_
  refine ev_isub (p' := 8) i_141_7 rfl ?_
  refine ev_s3I (p' := 11) i_141_8 rfl cl_12_115_0 (by decide) (Nat.le_of_ble_eq_true rfl) (s_in _ _ _ _) ?_
  exact ev_iret i_141_11 rfl B_nar ⟨by rw [hn], rfl⟩
theorem s_isSet {L : Nat} {π : Nat → Nat → Nat} {mi : Nat → Nat → Int32} {ml : Nat → Nat → Int64} {mr : Nat → Nat → Option Nat} (d : Nat) {n : Nat} (hn : mi 285 1 = nI n) (v : Int32) : pm_ev gR (d + 2) 143 [.ref 285, .int v] (WW L, mi, ml, mr) (some (.int (B (0 ≤ v ∧ v ≤ 1 <<< (nI n &&& 31) - 1)))) (WW L, mi, ml, mr) := by
  refine ev_enter (q := q_143) rfl (Nat.le_of_ble_eq_true rfl) rfl ?_
  refine ev_iload_n (p' := 1) i_143_0 rfl rfl ?_
  refine ev_iconst (p' := 2) (v := 0) i_143_1 rfl (by decide) ?_
  refine ev_iconst (p' := 3) (v := 1) i_143_2 rfl (by decide) ?_
  refine ev_aload_n (p' := 4) i_143_3 rfl rfl ?_
  refine ev_geti (p' := 7) i_143_4 rfl fl_12_96 rfl is_285 ?_
  refine ev_ishl (p' := 8) i_143_7 rfl ?_
  refine ev_iconst (p' := 9) (v := 1) i_143_8 rfl (by decide) ?_
  refine ev_isub (p' := 10) i_143_9 rfl ?_
  refine ev_s3I (p' := 13) i_143_10 rfl cl_12_115_0 (by decide) (Nat.le_of_ble_eq_true rfl) (s_in _ _ _ _) ?_
  exact ev_iret i_143_13 rfl B_nar ⟨by rw [hn], rfl⟩
