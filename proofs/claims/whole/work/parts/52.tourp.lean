/-! ===== tour: the walk ===== -/
def cst (a lo hi l h : Nat) : Nat := (if l < lo then a - l else 0) + (if hi < h then h - a else 0) + min (if l < lo then a - l else 0) (if hi < h then h - a else 0)
noncomputable def slT (cov : Nat → Nat → Prop) (a lo hi b : Nat) : Nat → Nat → Nat → Nat
  | 0, _, x => x
  | n + 1, t, x => slT cov a lo hi b n (t + 1) (@ite _ (cov b t) (Classical.propDecidable _) (min x (cst a lo hi b t)) x)
noncomputable def slB (cov : Nat → Nat → Prop) (a lo hi : Nat) : Nat → Nat → Nat
  | 0, x => slT cov a lo hi 0 (13 - hi) hi x
  | b + 1, x => slB cov a lo hi b (slT cov a lo hi (b + 1) (13 - hi) hi x)
noncomputable def SLf (cov : Nat → Nat → Prop) (a lo hi : Nat) : Nat := slB cov a lo hi lo 1000
theorem slT_t {cov : Nat → Nat → Prop} {a lo hi b n t x : Nat} (h : cov b t) : slT cov a lo hi b (n + 1) t x = slT cov a lo hi b n (t + 1) (min x (cst a lo hi b t)) := congrArg (slT cov a lo hi b n (t + 1)) (@if_pos _ (Classical.propDecidable _) h _ _ _)
theorem slT_f {cov : Nat → Nat → Prop} {a lo hi b n t x : Nat} (h : ¬ cov b t) : slT cov a lo hi b (n + 1) t x = slT cov a lo hi b n (t + 1) x := congrArg (slT cov a lo hi b n (t + 1)) (@if_neg _ (Classical.propDecidable _) h _ _ _)
theorem slT_le0 {cov : Nat → Nat → Prop} {a lo hi b : Nat} : ∀ n t x, slT cov a lo hi b n t x ≤ x := by
  intro n
  induction n with
  | zero => intro t x; exact Nat.le_refl _
  | succ n ih =>
    intro t x
    by_cases h : cov b t
    · rw [slT_t h]; exact Nat.le_trans (ih _ _) (Nat.min_le_left _ _)
    · rw [slT_f h]; exact ih _ _
theorem slT_le {cov : Nat → Nat → Prop} {a lo hi b : Nat} : ∀ n t x u, t ≤ u → u < t + n → cov b u → slT cov a lo hi b n t x ≤ cst a lo hi b u := by
  intro n
  induction n with
  | zero => intro t x u h1 h2; omega
  | succ n ih =>
    intro t x u h1 h2 hu
    by_cases hh : u = t
    · subst hh
      rw [slT_t hu]
      exact Nat.le_trans (slT_le0 _ _ _) (Nat.min_le_right _ _)
    · by_cases h : cov b t
      · rw [slT_t h]; exact ih _ _ u (by omega) (by omega) hu
      · rw [slT_f h]; exact ih _ _ u (by omega) (by omega) hu
theorem slT_ex {cov : Nat → Nat → Prop} {a lo hi b : Nat} : ∀ n t x, slT cov a lo hi b n t x = x ∨ ∃ u, t ≤ u ∧ u < t + n ∧ cov b u ∧ slT cov a lo hi b n t x = cst a lo hi b u := by
  intro n
  induction n with
  | zero => intro t x; exact Or.inl rfl
  | succ n ih =>
    intro t x
    by_cases h : cov b t
    · rw [slT_t h]
      rcases ih (t + 1) (min x (cst a lo hi b t)) with e | ⟨u, h1, h2, h3, h4⟩
      · rw [e]
        rcases Nat.le_total x (cst a lo hi b t) with z | z
        · exact Or.inl (Nat.min_eq_left z)
        · exact Or.inr ⟨t, Nat.le_refl _, by omega, h, Nat.min_eq_right z⟩
      · exact Or.inr ⟨u, by omega, by omega, h3, h4⟩
    · rw [slT_f h]
      rcases ih (t + 1) x with e | ⟨u, h1, h2, h3, h4⟩
      · exact Or.inl e
      · exact Or.inr ⟨u, by omega, by omega, h3, h4⟩
theorem slB_le0 {cov : Nat → Nat → Prop} {a lo hi : Nat} : ∀ b x, slB cov a lo hi b x ≤ x := by
  intro b
  induction b with
  | zero => intro x; exact slT_le0 _ _ _
  | succ b ih => intro x; exact Nat.le_trans (ih _) (slT_le0 _ _ _)
theorem slB_le {cov : Nat → Nat → Prop} {a lo hi : Nat} : ∀ b x l h, l ≤ b → hi ≤ h → h ≤ 12 → cov l h → slB cov a lo hi b x ≤ cst a lo hi l h := by
  intro b
  induction b with
  | zero =>
    intro x l h h1 h2 h3 h4
    have : l = 0 := by omega
    subst this
    exact slT_le _ _ _ h h2 (by omega) h4
  | succ b ih =>
    intro x l h h1 h2 h3 h4
    by_cases hh : l = b + 1
    · subst hh
      show slB cov a lo hi b (slT cov a lo hi (b + 1) (13 - hi) hi x) ≤ _
      exact Nat.le_trans (slB_le0 _ _) (slT_le (13 - hi) hi x h h2 (by omega) h4)
    · exact ih _ l h (by omega) h2 h3 h4
theorem slB_ex {cov : Nat → Nat → Prop} {a lo hi : Nat} : ∀ b x, slB cov a lo hi b x = x ∨ ∃ l h, l ≤ b ∧ hi ≤ h ∧ h ≤ 12 ∧ cov l h ∧ slB cov a lo hi b x = cst a lo hi l h := by
  intro b
  induction b with
  | zero =>
    intro x
    rcases slT_ex (cov := cov) (a := a) (lo := lo) (hi := hi) (b := 0) (13 - hi) hi x with e | ⟨u, h1, h2, h3, h4⟩
    · exact Or.inl e
    · exact Or.inr ⟨0, u, Nat.le_refl _, h1, by omega, h3, h4⟩
  | succ b ih =>
    intro x
    rcases ih (slT cov a lo hi (b + 1) (13 - hi) hi x) with e | ⟨l, h, h1, h2, h3, h4, h5⟩
    · rcases slT_ex (cov := cov) (a := a) (lo := lo) (hi := hi) (b := b + 1) (13 - hi) hi x with e2 | ⟨u, h1, h2, h3, h4⟩
      · exact Or.inl (e.trans e2)
      · exact Or.inr ⟨b + 1, u, Nat.le_refl _, h1, by omega, h3, e.trans h4⟩
    · exact Or.inr ⟨l, h, by omega, h2, h3, h4, h5⟩
theorem SL_le {cov : Nat → Nat → Prop} {a lo hi l h : Nat} (h1 : l ≤ lo) (h2 : hi ≤ h) (h3 : h ≤ 12) (h4 : cov l h) : SLf cov a lo hi ≤ cst a lo hi l h := slB_le _ _ l h h1 h2 h3 h4
theorem SL_ex {cov : Nat → Nat → Prop} (a lo hi : Nat) : SLf cov a lo hi = 1000 ∨ ∃ l h, l ≤ lo ∧ hi ≤ h ∧ h ≤ 12 ∧ cov l h ∧ SLf cov a lo hi = cst a lo hi l h := slB_ex _ _
/-- a walk from s to x, then to y: where it is after k steps, how long it is -/
def wkp (s x y k : Nat) : Nat := if k ≤ (s - x) + (x - s) then (if s ≤ x then s + k else s - k) else (if x ≤ y then x + (k - ((s - x) + (x - s))) else x - (k - ((s - x) + (x - s))))
def wln (s x y : Nat) : Nat := (s - x) + (x - s) + ((x - y) + (y - x))
def snr (s x y x0 y0 : Nat) : Prop := wln s x y < wln s x0 y0 ∨ (wln s x y = wln s x0 y0 ∧ ∃ k, k < wln s x y ∧ (∀ j, j < k → wkp s x y j = wkp s x0 y0 j) ∧ wkp s x y k < wkp s x0 y0 k)
def sn2 (s x y x0 y0 : Nat) : Prop := snr s x y x0 y0 ∨ (wln s x y = 1 ∧ wln s x0 y0 = 1 ∧ wkp s x y 1 < wkp s x0 y0 1)
theorem wkp_0 {s x y : Nat} : wkp s x y 0 = s := by unfold wkp; split <;> (try split) <;> omega
theorem snr_trans {s x y x1 y1 x2 y2 : Nat} (h1 : snr s x y x1 y1) (h2 : snr s x1 y1 x2 y2) : snr s x y x2 y2 := by
  rcases h1 with h1 | ⟨e1, k1, a1, b1, c1⟩
  · rcases h2 with h2 | ⟨e2, -⟩
    · exact Or.inl (by omega)
    · exact Or.inl (by omega)
  · rcases h2 with h2 | ⟨e2, k2, a2, b2, c2⟩
    · exact Or.inl (by omega)
    · refine Or.inr ⟨e1.trans e2, ?_⟩
      rcases Nat.lt_trichotomy k1 k2 with hk | hk | hk
      · exact ⟨k1, a1, fun j hj => (b1 j hj).trans (b2 j (by omega)), by rw [← b2 k1 hk]; exact c1⟩
      · subst hk
        exact ⟨k1, a1, fun j hj => (b1 j hj).trans (b2 j hj), Nat.lt_trans c1 c2⟩
      · exact ⟨k2, by omega, fun j hj => (b1 j (by omega)).trans (b2 j hj), by rw [b1 k2 hk]; exact c2⟩
theorem snr_irr {s x y : Nat} : ¬ snr s x y x y := by
  rintro (h | ⟨-, k, -, -, h⟩)
  · exact Nat.lt_irrefl _ h
  · exact Nat.lt_irrefl _ h
theorem sn2_new {s x y x1 y1 x2 y2 : Nat} (hc : snr s x1 y1 x2 y2) (hp : ¬ sn2 s x y x2 y2) : ¬ sn2 s x y x1 y1 := by
  rintro (h | ⟨h1, h2, h3⟩)
  · exact hp (Or.inl (snr_trans h hc))
  · rcases hc with hc | ⟨e, k, h4, h5, h6⟩
    · exact hp (Or.inl (Or.inl (by omega)))
    · have : k = 0 := by omega
      subst this
      rw [wkp_0, wkp_0] at h6
      exact Nat.lt_irrefl _ h6
theorem sn2_irr {s x y : Nat} : ¬ sn2 s x y x y := by
  rintro (h | ⟨-, -, h⟩)
  · exact snr_irr h
  · exact Nat.lt_irrefl _ h
/-- the way that is gone step by step: where, from where, to where -/
noncomputable def gst (cov : Nat → Nat → Prop) (s m : Nat) : Nat → Nat × Nat × Nat
  | 0 => (s, s, s)
  | k + 1 => (fun a' => (a', min (gst cov s m k).2.1 a', max (gst cov s m k).2.2 a')) (@ite _ (1 ≤ (gst cov s m k).1 ∧ SLf cov ((gst cov s m k).1 - 1) (min (gst cov s m k).2.1 ((gst cov s m k).1 - 1)) (gst cov s m k).2.2 = m - (k + 1)) (Classical.propDecidable _) ((gst cov s m k).1 - 1) ((gst cov s m k).1 + 1))
theorem gst_t {cov : Nat → Nat → Prop} {s m k a lo hi : Nat} (e : gst cov s m k = (a, lo, hi)) (h : 1 ≤ a ∧ SLf cov (a - 1) (min lo (a - 1)) hi = m - (k + 1)) : gst cov s m (k + 1) = (a - 1, min lo (a - 1), max hi (a - 1)) := by
  rw [gst, e]
  exact congrArg (fun a' => (a', min lo a', max hi a')) (@if_pos _ (Classical.propDecidable _) h _ _ _)
theorem gst_f {cov : Nat → Nat → Prop} {s m k a lo hi : Nat} (e : gst cov s m k = (a, lo, hi)) (h : ¬ (1 ≤ a ∧ SLf cov (a - 1) (min lo (a - 1)) hi = m - (k + 1))) : gst cov s m (k + 1) = (a + 1, min lo (a + 1), max hi (a + 1)) := by
  rw [gst, e]
  exact congrArg (fun a' => (a', min lo a', max hi a')) (@if_neg _ (Classical.propDecidable _) h _ _ _)
theorem gst_in {cov : Nat → Nat → Prop} {s m : Nat} : ∀ k, (gst cov s m k).2.1 ≤ (gst cov s m k).1 ∧ (gst cov s m k).1 ≤ (gst cov s m k).2.2 ∧ (gst cov s m k).2.2 ≤ s + k ∧ (gst cov s m k).2.1 ≤ s := by
  intro k
  induction k with
  | zero => exact ⟨Nat.le_refl _, Nat.le_refl _, Nat.le_refl _, Nat.le_refl _⟩
  | succ k ih =>
    obtain ⟨a, lo, hi, e⟩ : ∃ a lo hi, gst cov s m k = (a, lo, hi) := ⟨_, _, _, rfl⟩
    rw [e] at ih
    simp only at ih
    by_cases h : 1 ≤ a ∧ SLf cov (a - 1) (min lo (a - 1)) hi = m - (k + 1)
    · rw [gst_t e h]; simp only; omega
    · rw [gst_f e h]; simp only; omega
theorem dn0 {s l0 h0 l h : Nat} (m : Nat) : cst s s s l h = (s - l) + (h - s) + min (s - l) (h - s) := by
  unfold cst
  by_cases h1 : l < s
  · by_cases h2 : s < h
    · rw [if_pos h1, if_pos h2]
    · rw [if_pos h1, if_neg h2]; omega
  · by_cases h2 : s < h
    · rw [if_neg h1, if_pos h2]; omega
    · rw [if_neg h1, if_neg h2]; omega
theorem cst_dd {a lo hi l h : Nat} (h1 : l < lo) (h2 : hi < h) : cst a lo hi l h = (a - l) + (h - a) + min (a - l) (h - a) := by unfold cst; rw [if_pos h1, if_pos h2]
theorem cst_d0 {a lo hi l h : Nat} (h1 : l < lo) (h2 : ¬ hi < h) : cst a lo hi l h = a - l := by unfold cst; rw [if_pos h1, if_neg h2]; omega
theorem cst_0u {a lo hi l h : Nat} (h1 : ¬ l < lo) (h2 : hi < h) : cst a lo hi l h = h - a := by unfold cst; rw [if_neg h1, if_pos h2]; omega
theorem cst_00 {a lo hi l h : Nat} (h1 : ¬ l < lo) (h2 : ¬ hi < h) : cst a lo hi l h = 0 := by unfold cst; rw [if_neg h1, if_neg h2]; rfl
theorem cst_cases (a lo hi l h : Nat) : (l < lo ∧ hi < h ∧ cst a lo hi l h = (a - l) + (h - a) + min (a - l) (h - a)) ∨ (l < lo ∧ ¬ hi < h ∧ cst a lo hi l h = a - l) ∨ (¬ l < lo ∧ hi < h ∧ cst a lo hi l h = h - a) ∨ (¬ l < lo ∧ ¬ hi < h ∧ cst a lo hi l h = 0) := by
  by_cases h1 : l < lo
  · by_cases h2 : hi < h
    · exact Or.inl ⟨h1, h2, cst_dd h1 h2⟩
    · exact Or.inr (Or.inl ⟨h1, h2, cst_d0 h1 h2⟩)
  · by_cases h2 : hi < h
    · exact Or.inr (Or.inr (Or.inl ⟨h1, h2, cst_0u h1 h2⟩))
    · exact Or.inr (Or.inr (Or.inr ⟨h1, h2, cst_00 h1 h2⟩))
/-- from s straight down to x (x ≤ s), and on up; from s straight up to x, and on down -/
theorem wkd1 {s x y k : Nat} (hx : x ≤ s) (hk : k ≤ s - x) : wkp s x y k = s - k := by
  unfold wkp
  rw [if_pos (by omega)]
  by_cases h : s ≤ x
  · rw [if_pos h]; omega
  · rw [if_neg h]
theorem wkd2 {s x y j : Nat} (hx : x ≤ s) (hy : x ≤ y) : wkp s x y (s - x + j) = x + j := by
  unfold wkp
  by_cases h : j = 0
  · subst h
    rw [if_pos (by omega)]
    by_cases h2 : s ≤ x
    · rw [if_pos h2]; omega
    · rw [if_neg h2]; omega
  · rw [if_neg (by omega), if_pos hy]; omega
theorem wku1 {s x y k : Nat} (hx : s ≤ x) (hk : k ≤ x - s) : wkp s x y k = s + k := by
  unfold wkp
  rw [if_pos (by omega), if_pos hx]
theorem wku2 {s x y j : Nat} (hx : s ≤ x) (hy : y ≤ x) (hj : j ≤ x - y) : wkp s x y (x - s + j) = x - j := by
  unfold wkp
  by_cases h : j = 0
  · subst h
    rw [if_pos (by omega), if_pos hx]; omega
  · rw [if_neg (by omega)]
    by_cases h2 : x ≤ y
    · omega
    · rw [if_neg h2]; omega
theorem wlnd {s l h : Nat} (h1 : l ≤ s) (h2 : s ≤ h) : wln s l h = (s - l) + (h - l) := by unfold wln; omega
theorem wlnu {s l h : Nat} (h1 : l ≤ s) (h2 : s ≤ h) : wln s h l = (h - s) + (h - l) := by unfold wln; omega
theorem tour_len {cov : Nat → Nat → Prop} {s x0 y0 l0 h0 : Nat} (hs : s ≤ 12) (h1 : l0 ≤ s) (h2 : s ≤ h0) (h3 : h0 ≤ 12) (hc : cov l0 h0) (hb : (x0 = l0 ∧ y0 = h0) ∨ (x0 = h0 ∧ y0 = l0))
    (hopt : ∀ l h, l ≤ s → s ≤ h → h ≤ 12 → cov l h → ¬ sn2 s l h x0 y0 ∧ ¬ sn2 s h l x0 y0) : wln s x0 y0 = SLf cov s s s := by
  have hm := SL_le (a := s) h1 h2 h3 hc
  rw [dn0 (l0 := 0) (h0 := 0) 0] at hm
  rcases SL_ex (cov := cov) s s s with e | ⟨l, h, g1, g2, g3, g4, g5⟩
  · omega
  · rw [dn0 (l0 := 0) (h0 := 0) 0] at g5
    obtain ⟨o1, o2⟩ := hopt l h g1 g2 g3 g4
    have p1 : ¬ wln s l h < wln s x0 y0 := fun z => o1 (Or.inl (Or.inl z))
    have p2 : ¬ wln s h l < wln s x0 y0 := fun z => o2 (Or.inl (Or.inl z))
    rw [wlnd g1 g2] at p1
    rw [wlnu g1 g2] at p2
    rcases hb with ⟨rfl, rfl⟩ | ⟨rfl, rfl⟩
    · rw [wlnd h1 h2] at *; omega
    · rw [wlnu h1 h2] at *; omega
/-- one that goes down sooner is sooner -/
theorem tour_sn {s x y x0 y0 k m : Nat} (e1 : wln s x y = m) (e2 : wln s x0 y0 = m) (hk : k + 1 ≤ m) (hp : ∀ j, j ≤ k → wkp s x y j = wkp s x0 y0 j) (hl : wkp s x y (k + 1) < wkp s x0 y0 (k + 1)) (h1 : k + 1 = m → m = 1) : sn2 s x y x0 y0 := by
  by_cases h : k + 1 = m
  · have h2 := h1 h
    have : k = 0 := by omega
    subst this
    exact Or.inr ⟨e1.trans h2, e2.trans h2, hl⟩
  · exact Or.inl (Or.inr ⟨e1.trans e2.symm, k + 1, by omega, fun j hj => hp j (by omega), hl⟩)
theorem tour_d {cov : Nat → Nat → Prop} {s l0 h0 m : Nat} (hs : s ≤ 12) (h1 : l0 ≤ s) (h2 : s ≤ h0) (h3 : h0 ≤ 12) (hc : cov l0 h0)
    (hopt : ∀ l h, l ≤ s → s ≤ h → h ≤ 12 → cov l h → ¬ sn2 s l h l0 h0 ∧ ¬ sn2 s h l l0 h0) (hm : m = SLf cov s s s) (hl : wln s l0 h0 = m) :
    (∀ k, k ≤ s - l0 → gst cov s m k = (s - k, s - k, s)) ∧ ∀ j, s - l0 + j ≤ m → gst cov s m (s - l0 + j) = (l0 + j, l0, max s (l0 + j)) := by
  rw [wlnd h1 h2] at hl
  have hmin : ∀ l h, l ≤ s → s ≤ h → h ≤ 12 → cov l h → m ≤ (s - l) + (h - s) + min (s - l) (h - s) := fun l h g1 g2 g3 g4 => by
    have := SL_le (a := s) g1 g2 g3 g4
    rw [dn0 (l0 := 0) (h0 := 0) 0, ← hm] at this
    exact this
  have hb := hmin l0 h0 h1 h2 h3 hc
  have p1 : ∀ k, k ≤ s - l0 → gst cov s m k = (s - k, s - k, s) := by
    intro k
    induction k with
    | zero => intro _; rfl
    | succ k ih =>
      intro hk
      have e := ih (by omega)
      have cond : 1 ≤ s - k ∧ SLf cov (s - k - 1) (min (s - k) (s - k - 1)) s = m - (k + 1) := by
        refine ⟨by omega, ?_⟩
        have hle := SL_le (a := s - k - 1) (lo := min (s - k) (s - k - 1)) (hi := s) (l := l0) (h := h0) (by omega) h2 h3 hc
        rcases cst_cases (s - k - 1) (min (s - k) (s - k - 1)) s l0 h0 with ⟨z1, z2, z3⟩ | ⟨z1, z2, z3⟩ | ⟨z1, z2, z3⟩ | ⟨z1, z2, z3⟩
        all_goals
          rw [z3] at hle
          rcases SL_ex (cov := cov) (s - k - 1) (min (s - k) (s - k - 1)) s with e9 | ⟨l, h, g1, g2, g3, g4, g5⟩
          · omega
          · have q := hmin l h (by omega) g2 g3 g4
            rcases cst_cases (s - k - 1) (min (s - k) (s - k - 1)) s l h with ⟨y1, y2, y3⟩ | ⟨y1, y2, y3⟩ | ⟨y1, y2, y3⟩ | ⟨y1, y2, y3⟩ <;> omega
      rw [gst_t e cond]
      simp only [Prod.mk.injEq]
      omega
  refine ⟨p1, ?_⟩
  intro j
  induction j with
  | zero =>
    intro _
    rw [Nat.add_zero, p1 (s - l0) (Nat.le_refl _)]
    simp only [Prod.mk.injEq]
    omega
  | succ j ih =>
    intro hj
    have e := ih (by omega)
    rw [show s - l0 + (j + 1) = s - l0 + j + 1 by omega]
    have cond : ¬ (1 ≤ l0 + j ∧ SLf cov (l0 + j - 1) (min l0 (l0 + j - 1)) (max s (l0 + j)) = m - (s - l0 + j + 1)) := by
      rintro ⟨k1, k2⟩
      rcases SL_ex (cov := cov) (l0 + j - 1) (min l0 (l0 + j - 1)) (max s (l0 + j)) with e9 | ⟨l, h, g1, g2, g3, g4, g5⟩
      · omega
      · have q := hmin l h (by omega) (by omega) g3 g4
        obtain ⟨o1, o2⟩ := hopt l h (by omega) (by omega) g3 g4
        by_cases hj0 : j = 0
        · subst hj0
          rcases cst_cases (l0 + 0 - 1) (min l0 (l0 + 0 - 1)) (max s (l0 + 0)) l h with ⟨y1, y2, y3⟩ | ⟨y1, y2, y3⟩ | ⟨y1, y2, y3⟩ | ⟨y1, y2, y3⟩
          · by_cases hd : l0 + 0 - 1 - l ≤ h - (l0 + 0 - 1)
            · refine o1 (tour_sn (m := m) (k := s - l0) (by rw [wlnd (by omega) (by omega)]; omega) (by rw [wlnd h1 h2]; omega) (by omega) (fun i hi => ?_) ?_ (by omega))
              · rw [wkd1 (by omega) (by omega), wkd1 h1 (by omega)]
              · rw [wkd1 (by omega) (by omega), wkd2 (j := 1) h1 (by omega)]; omega
            · omega
          · refine o2 (tour_sn (m := m) (k := s - l0) (by rw [wlnu (by omega) (by omega)]; omega) (by rw [wlnd h1 h2]; omega) (by omega) (fun i hi => ?_) ?_ (by omega))
            · have hh : h = s := by omega
              subst hh
              have w := wku2 (s := h) (x := h) (y := l) (j := i) (Nat.le_refl _) (by omega) (by omega)
              rw [Nat.sub_self, Nat.zero_add] at w
              rw [w, wkd1 h1 (by omega)]
            · have hh : h = s := by omega
              subst hh
              have w := wku2 (s := h) (x := h) (y := l) (j := h - l0 + 1) (Nat.le_refl _) (by omega) (by omega)
              rw [Nat.sub_self, Nat.zero_add] at w
              rw [w, wkd2 (j := 1) h1 (by omega)]; omega
          · by_cases hz : l0 = 0
            · omega
            · by_cases hd : l = l0 - 1
              · refine o1 (tour_sn (m := m) (k := s - l0) (by rw [wlnd (by omega) (by omega)]; omega) (by rw [wlnd h1 h2]; omega) (by omega) (fun i hi => ?_) ?_ (by omega))
                · rw [wkd1 (by omega) (by omega), wkd1 h1 (by omega)]
                · rw [wkd1 (by omega) (by omega), wkd2 (j := 1) h1 (by omega)]; omega
              · omega
          · by_cases hz : l0 = 0
            · omega
            · refine o2 (tour_sn (m := m) (k := s - l0) (by rw [wlnu (by omega) (by omega)]; omega) (by rw [wlnd h1 h2]; omega) (by omega) (fun i hi => ?_) ?_ (by omega))
              · have hh : h = s := by omega
                subst hh
                have w := wku2 (s := h) (x := h) (y := l) (j := i) (Nat.le_refl _) (by omega) (by omega)
                rw [Nat.sub_self, Nat.zero_add] at w
                rw [w, wkd1 h1 (by omega)]
              · have hh : h = s := by omega
                subst hh
                have w := wku2 (s := h) (x := h) (y := l) (j := h - l0 + 1) (Nat.le_refl _) (by omega) (by omega)
                rw [Nat.sub_self, Nat.zero_add] at w
                rw [w, wkd2 (j := 1) h1 (by omega)]; omega
        · have hmn : min l0 (l0 + j - 1) = l0 := by omega
          rw [hmn] at g1 g5 k2
          by_cases hx : l0 + j ≤ s
          · have hmx : max s (l0 + j) = s := by omega
            rw [hmx] at g2 g5 k2
            rw [g5] at k2
            rcases cst_cases (l0 + j - 1) l0 s l h with ⟨y1, y2, y3⟩ | ⟨y1, y2, y3⟩ | ⟨y1, y2, y3⟩ | ⟨y1, y2, y3⟩ <;> rw [y3] at k2 <;> omega
          · have hmx : max s (l0 + j) = l0 + j := by omega
            rw [hmx] at g2 g5 k2
            rw [g5] at k2
            by_cases hq : l0 = s ∧ l < l0 ∧ ¬ l0 + j < h
            · obtain ⟨q3, q4, q5⟩ := hq
              have y3 := cst_d0 (a := l0 + j - 1) (lo := l0) (hi := l0 + j) q4 q5
              rw [y3] at k2
              have hh : h = s + j := by omega
              refine o2 (tour_sn (m := m) (k := s - l0 + j) (by rw [wlnu (by omega) (by omega)]; omega) (by rw [wlnd h1 h2]; omega) (by omega) (fun i hi => ?_) ?_ (by omega))
              · have w := wkd2 (s := s) (x := l0) (y := h0) (j := i) h1 (by omega)
                rw [show s - l0 + i = i by omega] at w
                rw [wku1 (by omega) (by omega), w]; omega
              · have w := wku2 (s := s) (x := h) (y := l) (j := 1) (by omega) (by omega) (by omega)
                rw [show h - s + 1 = s - l0 + j + 1 by omega] at w
                have w2 := wkd2 (s := s) (x := l0) (y := h0) (j := j + 1) h1 (by omega)
                rw [show s - l0 + (j + 1) = s - l0 + j + 1 by omega] at w2
                rw [w, w2]; omega
            · have q1 : m ≤ (s - l) + (h - s) + (s - l) := by omega
              have q2 : m ≤ (s - l) + (h - s) + (h - s) := by omega
              clear q hb hmn hmx g5 o1 o2 g4 hmin hopt p1 e ih hc hm
              obtain ⟨z, rfl⟩ : ∃ z, l0 = l + z := ⟨l0 - l, by omega⟩
              obtain ⟨p, rfl⟩ : ∃ p, s = l + z + p := ⟨s - (l + z), by omega⟩
              obtain ⟨r, rfl⟩ : ∃ r, j = p + r + 1 := ⟨j - (p + 1), by omega⟩
              obtain ⟨u, rfl⟩ : ∃ u, h = l + z + p + r + 1 + u := ⟨h - (l + z + p + r + 1), by omega⟩
              rcases cst_cases (l + z + (p + r + 1) - 1) (l + z) (l + z + (p + r + 1)) l (l + z + p + r + 1 + u) with ⟨y1, y2, y3⟩ | ⟨y1, y2, y3⟩ | ⟨y1, y2, y3⟩ | ⟨y1, y2, y3⟩
              · rw [y3] at k2
                rcases Nat.le_total (l + z + (p + r + 1) - 1 - l) (l + z + p + r + 1 + u - (l + z + (p + r + 1) - 1)) with w | w
                · rw [Nat.min_eq_left w] at k2; omega
                · rw [Nat.min_eq_right w] at k2; omega
              · rw [y3] at k2; omega
              · rw [y3] at k2; omega
              · rw [y3] at k2; omega
    rw [gst_f e cond]
    simp only [Prod.mk.injEq]
    omega
theorem tour_u {cov : Nat → Nat → Prop} {s l0 h0 m : Nat} (hs : s ≤ 12) (h1 : l0 ≤ s) (h2 : s ≤ h0) (h3 : h0 ≤ 12) (hc : cov l0 h0)
    (hopt : ∀ l h, l ≤ s → s ≤ h → h ≤ 12 → cov l h → ¬ sn2 s l h h0 l0 ∧ ¬ sn2 s h l h0 l0) (hm : m = SLf cov s s s) (hl : wln s h0 l0 = m) :
    (∀ k, k ≤ h0 - s → gst cov s m k = (s + k, s, s + k)) ∧ ∀ j, h0 - s + j ≤ m → gst cov s m (h0 - s + j) = (h0 - j, min s (h0 - j), h0) := by
  rw [wlnu h1 h2] at hl
  have hmin : ∀ l h, l ≤ s → s ≤ h → h ≤ 12 → cov l h → m ≤ (s - l) + (h - s) + min (s - l) (h - s) := fun l h g1 g2 g3 g4 => by
    have := SL_le (a := s) g1 g2 g3 g4
    rw [dn0 (l0 := 0) (h0 := 0) 0, ← hm] at this
    exact this
  have hb := hmin l0 h0 h1 h2 h3 hc
  have p1 : ∀ k, k ≤ h0 - s → gst cov s m k = (s + k, s, s + k) := by
    intro k
    induction k with
    | zero => intro _; rfl
    | succ k ih =>
      intro hk
      have e := ih (by omega)
      have cond : ¬ (1 ≤ s + k ∧ SLf cov (s + k - 1) (min s (s + k - 1)) (s + k) = m - (k + 1)) := by
        rintro ⟨k1, k2⟩
        rcases SL_ex (cov := cov) (s + k - 1) (min s (s + k - 1)) (s + k) with e9 | ⟨l, h, g1, g2, g3, g4, g5⟩
        · omega
        · have q := hmin l h (by omega) (by omega) g3 g4
          obtain ⟨o1, o2⟩ := hopt l h (by omega) (by omega) g3 g4
          by_cases hk0 : k = 0
          · subst hk0
            have hfin : (s < h ∧ (s - l) + (h - l) = m ∧ l < s) ∨ (h = s ∧ s - l = m ∧ l < s) := by
              rcases cst_cases (s + 0 - 1) (min s (s + 0 - 1)) (s + 0) l h with ⟨y1, y2, y3⟩ | ⟨y1, y2, y3⟩ | ⟨y1, y2, y3⟩ | ⟨y1, y2, y3⟩ <;> omega
            rcases hfin with ⟨f1, f2, f3⟩ | ⟨f1, f2, f3⟩
            · refine o1 (tour_sn (m := m) (k := 0) (by rw [wlnd (by omega) (by omega)]; omega) (by rw [wlnu h1 h2]; omega) (by omega) (fun i hi => ?_) ?_ (by omega))
              · have : i = 0 := by omega
                subst this
                rw [wkp_0, wkp_0]
              · rw [wkd1 (by omega) (by omega), wku1 h2 (by omega)]; omega
            · subst f1
              refine o2 (tour_sn (m := m) (k := 0) (by rw [wlnu (by omega) (by omega)]; omega) (by rw [wlnu h1 h2]; omega) (by omega) (fun i hi => ?_) ?_ (by omega))
              · have : i = 0 := by omega
                subst this
                rw [wkp_0, wkp_0]
              · have w := wku2 (s := h) (x := h) (y := l) (j := 1) (Nat.le_refl _) (by omega) (by omega)
                rw [Nat.sub_self, Nat.zero_add] at w
                rw [show 0 + 1 = 1 from rfl, w, wku1 h2 (by omega)]; omega
          · have hfin : h = s + k ∧ (k + (s + k - l)) = m ∧ l < s := by
              rcases cst_cases (s + k - 1) (min s (s + k - 1)) (s + k) l h with ⟨y1, y2, y3⟩ | ⟨y1, y2, y3⟩ | ⟨y1, y2, y3⟩ | ⟨y1, y2, y3⟩ <;> omega
            obtain ⟨f1, f2, f3⟩ := hfin
            refine o2 (tour_sn (m := m) (k := k) (by rw [wlnu (by omega) (by omega)]; omega) (by rw [wlnu h1 h2]; omega) (by omega) (fun i hi => ?_) ?_ (by omega))
            · rw [wku1 (by omega) (by omega), wku1 h2 (by omega)]
            · have w := wku2 (s := s) (x := h) (y := l) (j := 1) (by omega) (by omega) (by omega)
              rw [show h - s + 1 = k + 1 by omega] at w
              rw [w, wku1 h2 (by omega)]; omega
      rw [gst_f e cond]
      simp only [Prod.mk.injEq]
      omega
  refine ⟨p1, ?_⟩
  intro j
  induction j with
  | zero =>
    intro _
    rw [Nat.add_zero, p1 (h0 - s) (Nat.le_refl _)]
    simp only [Prod.mk.injEq]
    omega
  | succ j ih =>
    intro hj
    have e := ih (by omega)
    rw [show h0 - s + (j + 1) = h0 - s + j + 1 by omega]
    have cond : 1 ≤ h0 - j ∧ SLf cov (h0 - j - 1) (min (min s (h0 - j)) (h0 - j - 1)) h0 = m - (h0 - s + j + 1) := by
      refine ⟨by omega, ?_⟩
      have hle := SL_le (a := h0 - j - 1) (lo := min (min s (h0 - j)) (h0 - j - 1)) (hi := h0) (l := l0) (h := h0) (by omega) (Nat.le_refl _) h3 hc
      rcases cst_cases (h0 - j - 1) (min (min s (h0 - j)) (h0 - j - 1)) h0 l0 h0 with ⟨z1, z2, z3⟩ | ⟨z1, z2, z3⟩ | ⟨z1, z2, z3⟩ | ⟨z1, z2, z3⟩
      all_goals
        rw [z3] at hle
        rcases SL_ex (cov := cov) (h0 - j - 1) (min (min s (h0 - j)) (h0 - j - 1)) h0 with e9 | ⟨l, h, g1, g2, g3, g4, g5⟩
        · omega
        · have q := hmin l h (by omega) (by omega) g3 g4
          rcases cst_cases (h0 - j - 1) (min (min s (h0 - j)) (h0 - j - 1)) h0 l h with ⟨y1, y2, y3⟩ | ⟨y1, y2, y3⟩ | ⟨y1, y2, y3⟩ | ⟨y1, y2, y3⟩ <;> omega
    rw [gst_t e cond]
    simp only [Prod.mk.injEq]
    omega
theorem tour_path {cov : Nat → Nat → Prop} {s x0 y0 l0 h0 m k : Nat} (hs : s ≤ 12) (h1 : l0 ≤ s) (h2 : s ≤ h0) (h3 : h0 ≤ 12) (hc : cov l0 h0) (hb : (x0 = l0 ∧ y0 = h0) ∨ (x0 = h0 ∧ y0 = l0))
    (hopt : ∀ l h, l ≤ s → s ≤ h → h ≤ 12 → cov l h → ¬ sn2 s l h x0 y0 ∧ ¬ sn2 s h l x0 y0) (hm : m = SLf cov s s s) (hk : k ≤ m) : wkp s x0 y0 k = (gst cov s m k).1 := by
  have hl := tour_len hs h1 h2 h3 hc hb hopt
  rw [← hm] at hl
  rcases hb with ⟨rfl, rfl⟩ | ⟨rfl, rfl⟩
  · obtain ⟨p1, p2⟩ := tour_d hs h1 h2 h3 hc hopt hm hl
    by_cases h : k ≤ s - x0
    · rw [p1 k h, wkd1 h1 h]
    · have p := p2 (k - (s - x0)) (by omega)
      rw [show s - x0 + (k - (s - x0)) = k by omega] at p
      have w := wkd2 (s := s) (x := x0) (y := y0) (j := k - (s - x0)) h1 (by omega)
      rw [show s - x0 + (k - (s - x0)) = k by omega] at w
      rw [p, w]
  · rw [wlnu h1 h2] at hl
    obtain ⟨p1, p2⟩ := tour_u hs h1 h2 h3 hc hopt hm (by rw [wlnu h1 h2]; exact hl)
    by_cases h : k ≤ x0 - s
    · rw [p1 k h, wku1 h2 h]
    · have p := p2 (k - (x0 - s)) (by omega)
      rw [show x0 - s + (k - (x0 - s)) = k by omega] at p
      have w := wku2 (s := s) (x := x0) (y := y0) (j := k - (x0 - s)) h2 (by omega) (by omega)
      rw [show x0 - s + (k - (x0 - s)) = k by omega] at w
      rw [p, w]
