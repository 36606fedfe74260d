/-! ===== read: the text, purely ===== -/
noncomputable def rnE (p : Int32 → Prop) (T : Nat → Int32) (n : Nat) : Nat → Nat → Nat
  | 0, i => i
  | k + 1, i => @ite _ (i < n ∧ p (T i)) (Classical.propDecidable _) (rnE p T n k (i + 1)) i
noncomputable def rE (p : Int32 → Prop) (T : Nat → Int32) (n i : Nat) : Nat := rnE p T n (n - i) i
theorem rE_n {p : Int32 → Prop} {T : Nat → Int32} {n i : Nat} (h : ¬ (i < n ∧ p (T i))) : rE p T n i = i := by
  unfold rE
  generalize n - i = k
  cases k with
  | zero => rfl
  | succ k => exact @if_neg _ (Classical.propDecidable _) h _ _ _
theorem rE_s {p : Int32 → Prop} {T : Nat → Int32} {n i : Nat} (h : i < n) (hp : p (T i)) : rE p T n i = rE p T n (i + 1) := by
  unfold rE
  rw [show n - i = n - (i + 1) + 1 by omega]
  exact @if_pos _ (Classical.propDecidable _) ⟨h, hp⟩ _ _ _
theorem rE_all {p : Int32 → Prop} {T : Nat → Int32} {n : Nat} : ∀ k i, i + k = n → i ≤ rE p T n i ∧ rE p T n i ≤ n ∧ (∀ j, i ≤ j → j < rE p T n i → p (T j)) ∧ ¬ (rE p T n i < n ∧ p (T (rE p T n i))) := by
  intro k
  induction k with
  | zero =>
    intro i hi
    have hn : ¬ (i < n ∧ p (T i)) := fun z => by omega
    rw [rE_n hn]
    exact ⟨Nat.le_refl _, by omega, fun j h1 h2 => by omega, hn⟩
  | succ k ih =>
    intro i hi
    by_cases h : p (T i)
    · rw [rE_s (by omega) h]
      obtain ⟨h1, h2, h3, h4⟩ := ih (i + 1) (by omega)
      refine ⟨by omega, h2, fun j h5 h6 => ?_, h4⟩
      by_cases e : j = i
      · subst e; exact h
      · exact h3 j (by omega) h6
    · have hn : ¬ (i < n ∧ p (T i)) := fun z => h z.2
      rw [rE_n hn]
      exact ⟨Nat.le_refl _, by omega, fun j h1 h2 => by omega, hn⟩
abbrev pSp (x : Int32) : Prop := x = 32
abbrev pLe (x : Int32) : Prop := 97 ≤ x ∧ x ≤ 122
abbrev pFi (x : Int32) : Prop := 48 ≤ x ∧ x ≤ 57
noncomputable def skp (T : Nat → Int32) (n i : Nat) : Nat := rE pSp T n i
noncomputable def lE (T : Nat → Int32) (n i : Nat) : Nat := rE pLe T n i
noncomputable def fE (T : Nat → Int32) (n i : Nat) : Nat := rE pFi T n i
theorem skp_le {T : Nat → Int32} {n i : Nat} (h : i ≤ n) : i ≤ skp T n i ∧ skp T n i ≤ n := by
  obtain ⟨h1, h2, -⟩ := rE_all (p := pSp) (T := T) (n := n) (n - i) i (by omega)
  exact ⟨h1, h2⟩
theorem lE_le {T : Nat → Int32} {n i : Nat} (h : i ≤ n) : i ≤ lE T n i ∧ lE T n i ≤ n := by
  obtain ⟨h1, h2, -⟩ := rE_all (p := pLe) (T := T) (n := n) (n - i) i (by omega)
  exact ⟨h1, h2⟩
theorem fE_le {T : Nat → Int32} {n i : Nat} (h : i ≤ n) : i ≤ fE T n i ∧ fE T n i ≤ n := by
  obtain ⟨h1, h2, -⟩ := rE_all (p := pFi) (T := T) (n := n) (n - i) i (by omega)
  exact ⟨h1, h2⟩
theorem fE_in {T : Nat → Int32} {n i j : Nat} (h : i ≤ n) (h1 : i ≤ j) (h2 : j < fE T n i) : pFi (T j) := by
  obtain ⟨-, -, h3, -⟩ := rE_all (p := pFi) (T := T) (n := n) (n - i) i (by omega)
  exact h3 j h1 h2
theorem fE_up {T : Nat → Int32} {n i : Nat} (h : i < n) (hp : pFi (T i)) : i + 1 ≤ fE T n i := by
  unfold fE
  rw [rE_s h hp]
  exact (fE_le (T := T) (show i + 1 ≤ n by omega)).1
theorem lE_up {T : Nat → Int32} {n i : Nat} (h : i < n) (hp : pLe (T i)) : i + 1 ≤ lE T n i := by
  unfold lE
  rw [rE_s h hp]
  exact (lE_le (T := T) (show i + 1 ≤ n by omega)).1
theorem skp_skp {T : Nat → Int32} {n i : Nat} (h : i ≤ n) : skp T n (skp T n i) = skp T n i := by
  obtain ⟨-, -, -, h4⟩ := rE_all (p := pSp) (T := T) (n := n) (n - i) i (by omega)
  exact rE_n h4
/-- numbers -/
def dg (x : Int32) : Nat := x.toNatClampNeg - 48
def fv (T : Nat → Int32) (s m : Nat) : Nat := if m = s + 1 then dg (T s) else 10 * dg (T s) + dg (T (s + 1))
def fvn (T : Nat → Int32) (s : Nat) : Nat → Nat
  | 0 => 0
  | k + 1 => fvn T s k % 10 * 10 + dg (T (s + k))
theorem dg_fi {x : Int32} (h : pFi x) : ∃ c, 48 ≤ c ∧ c ≤ 57 ∧ x = nI c ∧ dg x = c - 48 := by
  have h0 : ¬ x < 0 := fun z => absurd (Int32.lt_of_lt_of_le z (Int32.le_trans (by decide : (0 : Int32) ≤ 48) h.1)) Int32.lt_irrefl
  obtain ⟨j, hj, e⟩ := nI_of2 (M := 57) (n := 57) (by decide) h0 h.2
  refine ⟨j, ?_, hj, e, ?_⟩
  · have h1 := h.1
    rw [e] at h1
    exact (nI_leI (a := 48) (by decide) (by omega)).mp h1
  · unfold dg
    rw [e, nI_clamp (by omega)]
theorem dg_le {x : Int32} (h : pFi x) : dg x ≤ 9 := by
  obtain ⟨c, h1, h2, -, h3⟩ := dg_fi h
  omega
theorem fvn_lt {T : Nat → Int32} {s : Nat} : ∀ k, (∀ j, j < k → pFi (T (s + j))) → fvn T s k < 100 := by
  intro k
  cases k with
  | zero => intro _; show 0 < 100; decide
  | succ k =>
    intro h
    have h1 := dg_le (h k (by omega))
    show fvn T s k % 10 * 10 + dg (T (s + k)) < 100
    omega
theorem fvn_fv {T : Nat → Int32} {s m : Nat} (h1 : s + 1 ≤ m) (h2 : m ≤ s + 2) (hf : ∀ j, s ≤ j → j < m → pFi (T j)) : fvn T s (m - s) = fv T s m := by
  unfold fv
  by_cases h : m = s + 1
  · rw [if_pos h, h, show s + 1 - s = 0 + 1 by omega]
    show 0 % 10 * 10 + dg (T s) = dg (T s)
    omega
  · rw [if_neg h, show m - s = 0 + 1 + 1 by omega]
    show (0 % 10 * 10 + dg (T s)) % 10 * 10 + dg (T (s + 1)) = _
    have h3 := dg_le (hf s (Nat.le_refl _) (by omega))
    omega
theorem fv_lt {T : Nat → Int32} {s m : Nat} (h1 : s + 1 ≤ m) (h2 : m ≤ s + 2) (hf : ∀ j, s ≤ j → j < m → pFi (T j)) : fv T s m < 100 := by
  rw [← fvn_fv h1 h2 hf]
  exact fvn_lt _ (fun j hj => hf _ (by omega) (by omega))
def nmOK (T : Nat → Int32) (n : Nat) (lo hi : Int32) (e : Nat) : Prop := skp T n e + 1 ≤ fE T n (skp T n e) ∧ fE T n (skp T n e) ≤ skp T n e + 2 ∧ lo ≤ nI (fv T (skp T n e) (fE T n (skp T n e))) ∧ nI (fv T (skp T n e) (fE T n (skp T n e))) ≤ hi
noncomputable def nmS (T : Nat → Int32) (n : Nat) (lo hi : Int32) (st : Bool × Nat) : Bool × Nat := if st.1 = true then @ite _ (nmOK T n lo hi st.2) (Classical.propDecidable _) (true, fE T n (skp T n st.2)) (false, skp T n st.2) else st
noncomputable def nmV (T : Nat → Int32) (n : Nat) (lo hi : Int32) (st : Bool × Nat) : Int32 := @ite _ (st.1 = true ∧ nmOK T n lo hi st.2) (Classical.propDecidable _) (nI (fv T (skp T n st.2) (fE T n (skp T n st.2)))) lo
theorem nmS_t {T : Nat → Int32} {n e : Nat} {lo hi : Int32} (h : nmOK T n lo hi e) : nmS T n lo hi (true, e) = (true, fE T n (skp T n e)) := @if_pos _ (Classical.propDecidable _) h _ _ _
theorem nmS_f {T : Nat → Int32} {n e : Nat} {lo hi : Int32} (h : ¬ nmOK T n lo hi e) : nmS T n lo hi (true, e) = (false, skp T n e) := @if_neg _ (Classical.propDecidable _) h _ _ _
theorem nmS_n {T : Nat → Int32} {n e : Nat} {lo hi : Int32} : nmS T n lo hi (false, e) = (false, e) := rfl
theorem nmV_t {T : Nat → Int32} {n e : Nat} {lo hi : Int32} (h : nmOK T n lo hi e) : nmV T n lo hi (true, e) = nI (fv T (skp T n e) (fE T n (skp T n e))) := @if_pos _ (Classical.propDecidable _) ⟨rfl, h⟩ _ _ _
theorem nmV_f {T : Nat → Int32} {n e : Nat} {lo hi : Int32} (h : ¬ nmOK T n lo hi e) : nmV T n lo hi (true, e) = lo := @if_neg _ (Classical.propDecidable _) (fun z => h z.2) _ _ _
theorem nmV_n {T : Nat → Int32} {n e : Nat} {lo hi : Int32} : nmV T n lo hi (false, e) = lo := @if_neg _ (Classical.propDecidable _) (fun z => absurd z.1 Bool.false_ne_true) _ _ _
theorem nmS_ok {T : Nat → Int32} {n : Nat} {lo hi : Int32} {st : Bool × Nat} (h : (nmS T n lo hi st).1 = true) : st.1 = true ∧ nmOK T n lo hi st.2 := by
  obtain ⟨b, e⟩ := st
  cases b with
  | false => exact absurd h Bool.false_ne_true
  | true =>
    by_cases hk : nmOK T n lo hi e
    · exact ⟨rfl, hk⟩
    · rw [nmS_f hk] at h; exact absurd h Bool.false_ne_true
theorem nm_fv {T : Nat → Int32} {n e : Nat} {lo hi : Int32} (he : e ≤ n) (h : nmOK T n lo hi e) : fv T (skp T n e) (fE T n (skp T n e)) < 100 := fv_lt h.1 h.2.1 (fun j h1 h2 => fE_in (skp_le he).2 h1 h2)
theorem nmV_le {T : Nat → Int32} {n a b : Nat} {lo hi : Int32} {st : Bool × Nat} (hle : st.2 ≤ n) (h : (nmS T n lo hi st).1 = true) (hlo : lo = nI a) (hhi : hi = nI b) (ha : a < 2 ^ 31) (hb : b < 2 ^ 31) : ∃ k, a ≤ k ∧ k ≤ b ∧ nmV T n lo hi st = nI k := by
  obtain ⟨b', e⟩ := st
  obtain ⟨h1, h2⟩ := nmS_ok h
  cases b' with
  | false => exact absurd h1 Bool.false_ne_true
  | true =>
    have h3 := nm_fv hle h2
    obtain ⟨-, -, h4, h5⟩ := id h2
    rw [hlo] at h4
    rw [hhi] at h5
    exact ⟨_, (nI_leI ha (by omega)).mp h4, (nI_leI (by omega) hb).mp h5, nmV_t h2⟩
theorem nmS_le {T : Nat → Int32} {n : Nat} {lo hi : Int32} {st : Bool × Nat} (h : st.2 ≤ n) : (nmS T n lo hi st).2 ≤ n ∧ st.2 ≤ (nmS T n lo hi st).2 := by
  obtain ⟨b, e⟩ := st
  have h1 := skp_le (T := T) h
  have h2 := fE_le (T := T) h1.2
  cases b with
  | false => exact ⟨h, Nat.le_refl _⟩
  | true =>
    by_cases hk : nmOK T n lo hi e
    · rw [nmS_t hk]; exact ⟨h2.2, Nat.le_trans h1.1 h2.1⟩
    · rw [nmS_f hk]; exact ⟨h1.2, h1.1⟩
def enOK (T : Nat → Int32) (n e : Nat) : Prop := skp T n e < n ∧ T (skp T n e) = 59
noncomputable def enS (T : Nat → Int32) (n : Nat) (st : Bool × Nat) : Bool × Nat := if st.1 = true then @ite _ (enOK T n st.2) (Classical.propDecidable _) (true, skp T n st.2 + 1) (false, skp T n st.2) else st
theorem enS_t {T : Nat → Int32} {n e : Nat} (h : enOK T n e) : enS T n (true, e) = (true, skp T n e + 1) := @if_pos _ (Classical.propDecidable _) h _ _ _
theorem enS_f {T : Nat → Int32} {n e : Nat} (h : ¬ enOK T n e) : enS T n (true, e) = (false, skp T n e) := @if_neg _ (Classical.propDecidable _) h _ _ _
theorem enS_n {T : Nat → Int32} {n e : Nat} : enS T n (false, e) = (false, e) := rfl
theorem enS_ok {T : Nat → Int32} {n : Nat} {st : Bool × Nat} (h : (enS T n st).1 = true) : st.1 = true ∧ enOK T n st.2 := by
  obtain ⟨b, e⟩ := st
  cases b with
  | false => exact absurd h Bool.false_ne_true
  | true =>
    by_cases hk : enOK T n e
    · exact ⟨rfl, hk⟩
    · rw [enS_f hk] at h; exact absurd h Bool.false_ne_true
theorem enS_le {T : Nat → Int32} {n : Nat} {st : Bool × Nat} (h : st.2 ≤ n) : (enS T n st).2 ≤ n ∧ st.2 ≤ (enS T n st).2 := by
  obtain ⟨b, e⟩ := st
  have h1 := skp_le (T := T) h
  cases b with
  | false => exact ⟨h, Nat.le_refl _⟩
  | true =>
    by_cases hk : enOK T n e
    · rw [enS_t hk]; have := hk.1; exact ⟨this, Nat.le_trans h1.1 (Nat.le_succ _)⟩
    · rw [enS_f hk]; exact ⟨h1.2, h1.1⟩
/-- which word stands at s -/
noncomputable def wd (T : Nat → Int32) (n s : Nat) : Int32 := if lE T n s = s + 2 then (if T s = 111 ∧ T (s + 1) = 110 then 2 else -1) else if lE T n s = s + 5 then (if T s = 112 ∧ T (s + 1) = 105 ∧ T (s + 2) = 101 ∧ T (s + 3) = 99 ∧ T (s + 4) = 101 then 1 else -1) else if lE T n s = s + 4 then (if T s = 98 ∧ T (s + 1) = 111 ∧ T (s + 2) = 111 ∧ T (s + 3) = 107 then 0 else if T s = 111 ∧ T (s + 1) = 112 ∧ T (s + 2) = 101 ∧ T (s + 3) = 110 then 3 else if T s = 112 ∧ T (s + 1) = 117 ∧ T (s + 2) = 108 ∧ T (s + 3) = 108 then 4 else -1) else -1
/-- what the class holds of its text -/
def TB (mi : Nat → Nat → Int32) (T : Nat → Int32) (n : Nat) : Prop := n ≤ 150 ∧ mi 4 1 = nI n ∧ (∀ i, i < n → mi 5 i = T i) ∧ ∀ i, i < n → ∃ c, c < 128 ∧ T i = nI c
theorem TB.fr {mi mi' : Nat → Nat → Int32} {T : Nat → Int32} {n : Nat} (h : TB mi T n) (h1 : mi' 4 1 = mi 4 1) (h5 : mi' 5 = mi 5) : TB mi' T n := ⟨h.1, by rw [h1]; exact h.2.1, fun i hi => by rw [h5]; exact h.2.2.1 i hi, h.2.2.2⟩
/-- the token behind e -/
def TKN (mi : Nat → Nat → Int32) (T : Nat → Int32) (n e : Nat) : Prop := mi 4 3 = nI (skp T n e) ∧ (
  (skp T n e = n ∧ mi 4 2 = 0) ∨
  (skp T n e < n ∧ pLe (T (skp T n e)) ∧ mi 4 2 = 1 ∧ mi 4 4 = nI (lE T n (skp T n e))) ∨
  (skp T n e < n ∧ ¬ pLe (T (skp T n e)) ∧ pFi (T (skp T n e)) ∧ mi 4 4 = nI (fE T n (skp T n e)) ∧ (fE T n (skp T n e) ≤ skp T n e + 2 → mi 4 2 = 2 ∧ mi 4 5 = nI (fv T (skp T n e) (fE T n (skp T n e)))) ∧ (skp T n e + 2 < fE T n (skp T n e) → mi 4 2 = 4)) ∨
  (skp T n e < n ∧ ¬ pLe (T (skp T n e)) ∧ ¬ pFi (T (skp T n e)) ∧ mi 4 4 = nI (skp T n e + 1) ∧ mi 4 2 = (if T (skp T n e) = 59 then 3 else 4)))
theorem TKN.num {mi : Nat → Nat → Int32} {T : Nat → Int32} {n e : Nat} (h : TKN mi T n e) (h2 : mi 4 2 = 2) : skp T n e + 1 ≤ fE T n (skp T n e) ∧ fE T n (skp T n e) ≤ skp T n e + 2 ∧ mi 4 5 = nI (fv T (skp T n e) (fE T n (skp T n e))) ∧ mi 4 4 = nI (fE T n (skp T n e)) := by
  rcases h.2 with ⟨-, z⟩ | ⟨-, -, z, -⟩ | ⟨h1, -, h3, h4, h5, h6⟩ | ⟨-, -, -, -, z⟩
  · rw [z] at h2; exact absurd h2 (by decide)
  · rw [z] at h2; exact absurd h2 (by decide)
  · by_cases hk : fE T n (skp T n e) ≤ skp T n e + 2
    · exact ⟨fE_up h1 h3, hk, (h5 hk).2, h4⟩
    · rw [h6 (by omega)] at h2; exact absurd h2 (by decide)
  · rw [z] at h2
    split at h2 <;> exact absurd h2 (by decide)
theorem TKN.isn {mi : Nat → Nat → Int32} {T : Nat → Int32} {n e : Nat} (h : TKN mi T n e) (he : e ≤ n) (h1 : skp T n e + 1 ≤ fE T n (skp T n e)) (h2 : fE T n (skp T n e) ≤ skp T n e + 2) : mi 4 2 = 2 := by
  have hs := skp_le (T := T) he
  have hf := fE_in hs.2 (Nat.le_refl (skp T n e)) h1
  have hl := (fE_le (T := T) hs.2).2
  have hnl : ¬ pLe (T (skp T n e)) := fun z => absurd (Int32.le_trans z.1 hf.2) (by decide)
  rcases h.2 with ⟨z, -⟩ | ⟨-, z, -⟩ | ⟨-, -, -, -, h5, -⟩ | ⟨-, -, z, -⟩
  · omega
  · exact absurd z hnl
  · exact (h5 h2).1
  · exact absurd hf z
theorem TKN.semi {mi : Nat → Nat → Int32} {T : Nat → Int32} {n e : Nat} (h : TKN mi T n e) (h2 : mi 4 2 = 3) : enOK T n e ∧ mi 4 4 = nI (skp T n e + 1) := by
  rcases h.2 with ⟨-, z⟩ | ⟨-, -, z, -⟩ | ⟨h1, -, h3, h4, h5, h6⟩ | ⟨h1, -, -, h3, z⟩
  · rw [z] at h2; exact absurd h2 (by decide)
  · rw [z] at h2; exact absurd h2 (by decide)
  · by_cases hk : fE T n (skp T n e) ≤ skp T n e + 2
    · rw [(h5 hk).1] at h2; exact absurd h2 (by decide)
    · rw [h6 (by omega)] at h2; exact absurd h2 (by decide)
  · rw [z] at h2
    by_cases hk : T (skp T n e) = 59
    · exact ⟨⟨h1, hk⟩, h3⟩
    · rw [if_neg hk] at h2; exact absurd h2 (by decide)
theorem TKN.iss {mi : Nat → Nat → Int32} {T : Nat → Int32} {n e : Nat} (h : TKN mi T n e) (h2 : enOK T n e) : mi 4 2 = 3 := by
  have n1 : ¬ pLe (T (skp T n e)) := by rw [h2.2]; decide
  have n2 : ¬ pFi (T (skp T n e)) := by rw [h2.2]; decide
  have h0 := h2.1
  rcases h.2 with ⟨z, -⟩ | ⟨-, z, -⟩ | ⟨-, -, z, -⟩ | ⟨-, -, -, -, z⟩
  · omega
  · exact absurd z n1
  · exact absurd z n2
  · rw [z, if_pos h2.2]
theorem TKN.ended {mi : Nat → Nat → Int32} {T : Nat → Int32} {n e : Nat} (h : TKN mi T n e) (he : e ≤ n) : mi 4 2 = 0 ↔ ¬ skp T n e < n := by
  have hs := (skp_le (T := T) he).2
  rcases h.2 with ⟨z, z2⟩ | ⟨z, -, z2, -⟩ | ⟨h1, -, h3, h4, h5, h6⟩ | ⟨h1, -, -, h3, z⟩
  · exact ⟨fun _ => by omega, fun _ => z2⟩
  · exact ⟨fun y => by rw [z2] at y; exact absurd y (by decide), fun y => absurd z y⟩
  · refine ⟨fun y => ?_, fun y => absurd h1 y⟩
    by_cases hk : fE T n (skp T n e) ≤ skp T n e + 2
    · rw [(h5 hk).1] at y; exact absurd y (by decide)
    · rw [h6 (by omega)] at y; exact absurd y (by decide)
  · refine ⟨fun y => ?_, fun y => absurd h1 y⟩
    rw [z] at y
    split at y <;> exact absurd y (by decide)
/-- where reading is: on, or at a fault -/
def CS (mi : Nat → Nat → Int32) (T : Nat → Int32) (n : Nat) (st : Bool × Nat) : Prop := st.2 ≤ n ∧ (st.1 = true → mi 4 6 = -1 ∧ TKN mi T n st.2) ∧ (st.1 = false → mi 4 6 = nI st.2)
/-- the fields of the text's reader -/
def TFd (mi0 mi : Nat → Nat → Int32) (so st en va : Int32) : Prop := (∀ a, a ≠ 4 → mi a = mi0 a) ∧ mi 4 1 = mi0 4 1 ∧ mi 4 6 = mi0 4 6 ∧ mi 4 2 = so ∧ mi 4 3 = st ∧ mi 4 4 = en ∧ mi 4 5 = va
theorem TFd.u2 {mi0 mi : Nat → Nat → Int32} {so st en va : Int32} (h : TFd mi0 mi so st en va) (x : Int32) : TFd mi0 (pm_u mi 4 2 x) x st en va := by
  obtain ⟨a1, a2, a3, a4, a5, a6, a7⟩ := h
  exact ⟨fun a ha => by rw [pm_u_ne ha]; exact a1 a ha, by rw [pm_u_oth (by decide)]; exact a2, by rw [pm_u_oth (by decide)]; exact a3, pm_u_self, by rw [pm_u_oth (by decide)]; exact a5, by rw [pm_u_oth (by decide)]; exact a6, by rw [pm_u_oth (by decide)]; exact a7⟩
theorem TFd.u3 {mi0 mi : Nat → Nat → Int32} {so st en va : Int32} (h : TFd mi0 mi so st en va) (x : Int32) : TFd mi0 (pm_u mi 4 3 x) so x en va := by
  obtain ⟨a1, a2, a3, a4, a5, a6, a7⟩ := h
  exact ⟨fun a ha => by rw [pm_u_ne ha]; exact a1 a ha, by rw [pm_u_oth (by decide)]; exact a2, by rw [pm_u_oth (by decide)]; exact a3, by rw [pm_u_oth (by decide)]; exact a4, pm_u_self, by rw [pm_u_oth (by decide)]; exact a6, by rw [pm_u_oth (by decide)]; exact a7⟩
theorem TFd.u4 {mi0 mi : Nat → Nat → Int32} {so st en va : Int32} (h : TFd mi0 mi so st en va) (x : Int32) : TFd mi0 (pm_u mi 4 4 x) so st x va := by
  obtain ⟨a1, a2, a3, a4, a5, a6, a7⟩ := h
  exact ⟨fun a ha => by rw [pm_u_ne ha]; exact a1 a ha, by rw [pm_u_oth (by decide)]; exact a2, by rw [pm_u_oth (by decide)]; exact a3, by rw [pm_u_oth (by decide)]; exact a4, by rw [pm_u_oth (by decide)]; exact a5, pm_u_self, by rw [pm_u_oth (by decide)]; exact a7⟩
theorem TFd.u5 {mi0 mi : Nat → Nat → Int32} {so st en va : Int32} (h : TFd mi0 mi so st en va) (x : Int32) : TFd mi0 (pm_u mi 4 5 x) so st en x := by
  obtain ⟨a1, a2, a3, a4, a5, a6, a7⟩ := h
  exact ⟨fun a ha => by rw [pm_u_ne ha]; exact a1 a ha, by rw [pm_u_oth (by decide)]; exact a2, by rw [pm_u_oth (by decide)]; exact a3, by rw [pm_u_oth (by decide)]; exact a4, by rw [pm_u_oth (by decide)]; exact a5, by rw [pm_u_oth (by decide)]; exact a6, pm_u_self⟩
theorem TFd.len {mi0 mi : Nat → Nat → Int32} {so st en va : Int32} {T : Nat → Int32} {n : Nat} (h : TFd mi0 mi so st en va) (hB : TB mi0 T n) : mi 4 1 = nI n := h.2.1.trans hB.2.1
theorem TFd.by {mi0 mi : Nat → Nat → Int32} {so st en va : Int32} {T : Nat → Int32} {n i : Nat} (h : TFd mi0 mi so st en va) (hB : TB mi0 T n) (hi : i < n) : mi 5 i = T i := by rw [h.1 5 (by decide)]; exact hB.2.2.1 i hi
theorem s_tLe {L : Nat} {π : Nat → Nat → Nat} {mi : Nat → Nat → Int32} {ml : Nat → Nat → Int64} {mr : Nat → Nat → Option Nat} (d : Nat) (hw : WR π mr)  {i : Nat} {x : Int32} (hi : i < 150) (hx : mi 5 i = x) : pm_ev gC (d + 1) 56 [.ref 4, .int (nI i)] (WW L, mi, ml, mr) (some (.int (B (97 ≤ x ∧ x ≤ 122)))) (WW L, mi, ml, mr) := by
  refine ev_enter (q := q_56) rfl (Nat.le_of_ble_eq_true rfl) rfl ?_
  refine ev_aload_n (p' := 1) i_56_0 rfl rfl ?_
  refine ev_getr (p' := 4) i_56_1 rfl fl_7_9 rfl is_4 (rf_4_0 hw) ?_
  refine ev_iload_n (p' := 5) i_56_4 rfl rfl ?_
  refine ev_baldN (p' := 6) i_56_5 rfl is_5 len_5 (by omega) (by decide) ?_
  rw [hx]
  refine ev_bipush (p' := 8) (v := 97) i_56_6 rfl (by decide) ?_
  refine ev_icmp_lt (p' := 11) (tg := 26) i_56_8 rfl rfl (fun c8 => ?_) (fun c8 => ?_)
  · refine ev_iconst (p' := 27) (v := 0) i_56_26 rfl (by decide) ?_
    exact ev_iret i_56_27 rfl rfl ⟨by rw [B_f (fun z => absurd (Int32.lt_of_lt_of_le c8 z.1) Int32.lt_irrefl)], rfl⟩
  · refine ev_aload_n (p' := 12) i_56_11 rfl rfl ?_
    refine ev_getr (p' := 15) i_56_12 rfl fl_7_9 rfl is_4 (rf_4_0 hw) ?_
    refine ev_iload_n (p' := 16) i_56_15 rfl rfl ?_
    refine ev_baldN (p' := 17) i_56_16 rfl is_5 len_5 (by omega) (by decide) ?_
    rw [hx]
    refine ev_bipush (p' := 19) (v := 122) i_56_17 rfl (by decide) ?_
    refine ev_icmp_gt (p' := 22) (tg := 26) i_56_19 rfl rfl (fun c19 => ?_) (fun c19 => ?_)
    · refine ev_iconst (p' := 27) (v := 0) i_56_26 rfl (by decide) ?_
      exact ev_iret i_56_27 rfl rfl ⟨by rw [B_f (fun z => absurd (Int32.lt_of_lt_of_le c19 z.2) Int32.lt_irrefl)], rfl⟩
    · refine ev_iconst (p' := 23) (v := 1) i_56_22 rfl (by decide) ?_
      refine ev_goto (tg := 27) i_56_23 rfl ?_
      exact ev_iret i_56_27 rfl rfl ⟨by rw [B_t ⟨Int32.not_lt.mp c8, Int32.not_lt.mp c19⟩], rfl⟩
theorem s_tFi {L : Nat} {π : Nat → Nat → Nat} {mi : Nat → Nat → Int32} {ml : Nat → Nat → Int64} {mr : Nat → Nat → Option Nat} (d : Nat) (hw : WR π mr)  {i : Nat} {x : Int32} (hi : i < 150) (hx : mi 5 i = x) : pm_ev gC (d + 1) 57 [.ref 4, .int (nI i)] (WW L, mi, ml, mr) (some (.int (B (48 ≤ x ∧ x ≤ 57)))) (WW L, mi, ml, mr) := by
  refine ev_enter (q := q_57) rfl (Nat.le_of_ble_eq_true rfl) rfl ?_
  refine ev_aload_n (p' := 1) i_57_0 rfl rfl ?_
  refine ev_getr (p' := 4) i_57_1 rfl fl_7_9 rfl is_4 (rf_4_0 hw) ?_
  refine ev_iload_n (p' := 5) i_57_4 rfl rfl ?_
  refine ev_baldN (p' := 6) i_57_5 rfl is_5 len_5 (by omega) (by decide) ?_
  rw [hx]
  refine ev_bipush (p' := 8) (v := 48) i_57_6 rfl (by decide) ?_
  refine ev_icmp_lt (p' := 11) (tg := 26) i_57_8 rfl rfl (fun c8 => ?_) (fun c8 => ?_)
  · refine ev_iconst (p' := 27) (v := 0) i_57_26 rfl (by decide) ?_
    exact ev_iret i_57_27 rfl rfl ⟨by rw [B_f (fun z => absurd (Int32.lt_of_lt_of_le c8 z.1) Int32.lt_irrefl)], rfl⟩
  · refine ev_aload_n (p' := 12) i_57_11 rfl rfl ?_
    refine ev_getr (p' := 15) i_57_12 rfl fl_7_9 rfl is_4 (rf_4_0 hw) ?_
    refine ev_iload_n (p' := 16) i_57_15 rfl rfl ?_
    refine ev_baldN (p' := 17) i_57_16 rfl is_5 len_5 (by omega) (by decide) ?_
    rw [hx]
    refine ev_bipush (p' := 19) (v := 57) i_57_17 rfl (by decide) ?_
    refine ev_icmp_gt (p' := 22) (tg := 26) i_57_19 rfl rfl (fun c19 => ?_) (fun c19 => ?_)
    · refine ev_iconst (p' := 27) (v := 0) i_57_26 rfl (by decide) ?_
      exact ev_iret i_57_27 rfl rfl ⟨by rw [B_f (fun z => absurd (Int32.lt_of_lt_of_le c19 z.2) Int32.lt_irrefl)], rfl⟩
    · refine ev_iconst (p' := 23) (v := 1) i_57_22 rfl (by decide) ?_
      refine ev_goto (tg := 27) i_57_23 rfl ?_
      exact ev_iret i_57_27 rfl rfl ⟨by rw [B_t ⟨Int32.not_lt.mp c8, Int32.not_lt.mp c19⟩], rfl⟩
theorem l_fig {L : Nat} {π : Nat → Nat → Nat} {ml : Nat → Nat → Int64} {mr : Nat → Nat → Option Nat} {d : Nat} {E : Option Value → pm_M → Prop} (hw : WR π mr) {mi0 : Nat → Nat → Int32} {T : Nat → Int32} {n : Nat} (hB : TB mi0 T n) {s : Nat} {so : Int32} : ∀ k i mi, i + k = n → s ≤ i → (∀ j, s ≤ j → j < i → pFi (T j)) → TFd mi0 mi so (nI s) (nI i) (nI (fvn T s (i - s))) → (∀ mi, TFd mi0 mi so (nI s) (nI (fE T n i)) (nI (fvn T s (fE T n i - s))) → Ev gC (pm_ev gC (d + 1)) E q_55 67 [some (.ref 4)] [] (WW L, mi, ml, mr)) → Ev gC (pm_ev gC (d + 1)) E q_55 5 [some (.ref 4)] [] (WW L, mi, ml, mr) := by
  have h150 := hB.1
  intro k
  induction k with
  | zero =>
    intro i mi hi hsi hff hF hk
    have hi : i = n := by omega
    subst hi
    refine ev_aload_n (p' := 6) i_55_5 rfl rfl ?_
    refine ev_geti (p' := 9) i_55_6 rfl fl_7_25 rfl is_4 ?_
    rw [hF.2.2.2.2.2.1]
    refine ev_aload_n (p' := 10) i_55_9 rfl rfl ?_
    refine ev_geti (p' := 13) i_55_10 rfl fl_7_15 rfl is_4 ?_
    rw [hF.len hB]
    refine ev_icmp_ge (p' := 16) (tg := 67) i_55_13 rfl rfl (fun c13 => ?_) (fun c13 => absurd (nI_le (Nat.le_refl _) (by omega)) c13)
    rw [show fE T i i = i from rE_n (fun z => Nat.lt_irrefl _ z.1)] at hk
    exact hk _ hF
  | succ k ih =>
    intro i mi hi hsi hff hF hk
    have hin : i < n := by omega
    have hv := fvn_lt (T := T) (s := s) (i - s) (fun j hj => hff _ (by omega) (by omega))
    refine ev_aload_n (p' := 6) i_55_5 rfl rfl ?_
    refine ev_geti (p' := 9) i_55_6 rfl fl_7_25 rfl is_4 ?_
    rw [hF.2.2.2.2.2.1]
    refine ev_aload_n (p' := 10) i_55_9 rfl rfl ?_
    refine ev_geti (p' := 13) i_55_10 rfl fl_7_15 rfl is_4 ?_
    rw [hF.len hB]
    refine ev_icmp_ge (p' := 16) (tg := 67) i_55_13 rfl rfl (fun c13 => absurd c13 (nI_ge (by omega) (by omega))) (fun c13 => ?_)
    refine ev_aload_n (p' := 17) i_55_16 rfl rfl ?_
    refine ev_aload_n (p' := 18) i_55_17 rfl rfl ?_
    refine ev_geti (p' := 21) i_55_18 rfl fl_7_25 rfl is_4 ?_
    rw [hF.2.2.2.2.2.1]
    refine ev_v1I (p' := 24) i_55_21 rfl cl_7_114_7 (by decide) is_4 (Nat.le_of_ble_eq_true rfl) (s_tFi _ hw (show i < 150 by omega) (hF.by hB hin)) ?_
    refine ev_if_eq (p' := 27) (tg := 67) i_55_24 rfl rfl (fun c24 => ?_) (fun c24 => ?_)
    · replace c24 := B0 c24
      rw [show fE T n i = i from rE_n (fun z => c24 z.2)] at hk
      exact hk _ hF
    · replace c24 := B1 c24
      refine ev_aload_n (p' := 28) i_55_27 rfl rfl ?_
      refine ev_aload_n (p' := 29) i_55_28 rfl rfl ?_
      refine ev_geti (p' := 32) i_55_29 rfl fl_7_28 rfl is_4 ?_
      rw [hF.2.2.2.2.2.2]
      obtain ⟨c, hc1, hc2, hc3, hc4⟩ := dg_fi c24
      refine ev_bipush (p' := 34) (v := nI 10) i_55_32 rfl (by decide) ?_
      refine ev_irem (p' := 35) i_55_34 rfl (by decide) ?_
      rw [pk_rem (by omega) (by decide) (by decide)]
      refine ev_bipush (p' := 37) (v := nI 10) i_55_35 rfl (by decide) ?_
      refine ev_imulN (p' := 38) i_55_37 rfl ?_
      refine ev_aload_n (p' := 39) i_55_38 rfl rfl ?_
      refine ev_getr (p' := 42) i_55_39 rfl fl_7_9 rfl is_4 (rf_4_0 hw) ?_
      refine ev_aload_n (p' := 43) i_55_42 rfl rfl ?_
      refine ev_geti (p' := 46) i_55_43 rfl fl_7_25 rfl is_4 ?_
      rw [hF.2.2.2.2.2.1]
      refine ev_baldN (p' := 47) i_55_46 rfl is_5 len_5 (by omega) (by decide) ?_
      rw [hF.by hB hin, hc3]
      refine ev_iaddN (p' := 48) i_55_47 rfl ?_
      refine ev_bipush (p' := 50) (v := nI 48) i_55_48 rfl (by decide) ?_
      refine ev_isub (p' := 51) i_55_50 rfl ?_
      rw [pk_sub (show 48 ≤ fvn T s (i - s) % 10 * 10 + c by omega)]
      refine ev_puti (p' := 54) i_55_51 rfl fl_7_28 rfl is_4 (gc (by decide)) rfl ?_
      have hF2 := hF.u5 (nI (fvn T s (i - s) % 10 * 10 + c - 48))
      refine ev_aload_n (p' := 55) i_55_54 rfl rfl ?_
      refine ev_dup (p' := 56) i_55_55 rfl rfl ?_
      refine ev_geti (p' := 59) i_55_56 rfl fl_7_25 rfl is_4 ?_
      rw [hF2.2.2.2.2.2.1]
      refine ev_iconst (p' := 60) (v := nI 1) i_55_59 rfl (by decide) ?_
      refine ev_iaddN (p' := 61) i_55_60 rfl ?_
      refine ev_puti (p' := 64) i_55_61 rfl fl_7_25 rfl is_4 (gc (by decide)) rfl ?_
      refine ev_goto (tg := 5) i_55_64 rfl ?_
      have ev2 : fvn T s (i + 1 - s) = fvn T s (i - s) % 10 * 10 + c - 48 := by
        rw [show i + 1 - s = i - s + 1 by omega]
        show fvn T s (i - s) % 10 * 10 + dg (T (s + (i - s))) = _
        rw [show s + (i - s) = i by omega, hc4]
        omega
      refine ih (i + 1) _ (by omega) (by omega) (fun j h1 h2 => ?_) (by rw [ev2]; exact hF2.u4 (nI (i + 1))) ?_
      · by_cases e : j = i
        · subst e; exact c24
        · exact hff j h1 (by omega)
      · rw [show fE T n i = fE T n (i + 1) from rE_s hin c24] at hk; exact hk
theorem s_figs {L : Nat} {π : Nat → Nat → Nat} {ml : Nat → Nat → Int64} {mr : Nat → Nat → Option Nat} {mi : Nat → Nat → Int32} (d : Nat) (hw : WR π mr) {mi0 : Nat → Nat → Int32} {T : Nat → Int32} {n : Nat} (hB : TB mi0 T n) {s : Nat} {so va : Int32} (hs : s ≤ n) (hF : TFd mi0 mi so (nI s) (nI s) va) : ∃ mi', pm_ev gC (d + 2) 55 [.ref 4] (WW L, mi, ml, mr) (none) (WW L, mi', ml, mr) ∧ (∃ so' : Int32, TFd mi0 mi' so' (nI s) (nI (fE T n s)) (nI (fvn T s (fE T n s - s))) ∧ (fE T n s ≤ s + 2 → so' = 2) ∧ (s + 2 < fE T n s → so' = 4)) := by
  have h150 := hB.1
  have hle := fE_le (T := T) hs
  obtain ⟨_x, m', ⟨h1, mi1, h2, h3⟩, h5⟩ := ev_some (E := fun _x m => _x = none ∧ ∃ mi', m = (WW L, mi', ml, mr) ∧ (∃ so' : Int32, TFd mi0 mi' so' (nI s) (nI (fE T n s)) (nI (fvn T s (fE T n s - s))) ∧ (fE T n s ≤ s + 2 → so' = 2) ∧ (s + 2 < fE T n s → so' = 4))) (g := gC) (d := d + 1) (M := 55) (args := [.ref 4]) (mem := (WW L, mi, ml, mr)) (q := q_55) rfl (Nat.le_of_ble_eq_true rfl) rfl (by
    refine ev_aload_n (p' := 1) i_55_0 rfl rfl ?_
    refine ev_iconst (p' := 2) (v := 0) i_55_1 rfl (by decide) ?_
    refine ev_puti (p' := 5) i_55_2 rfl fl_7_28 rfl is_4 (gc (by decide)) rfl ?_
    refine l_fig hw hB (n - s) s _ (by omega) (Nat.le_refl _) (fun j h1 h2 => by omega) (by rw [Nat.sub_self]; exact hF.u5 0) (fun mi1 hF1 => ?_)
    refine ev_aload_n (p' := 68) i_55_67 rfl rfl ?_
    refine ev_aload_n (p' := 69) i_55_68 rfl rfl ?_
    refine ev_geti (p' := 72) i_55_69 rfl fl_7_25 rfl is_4 ?_
    rw [hF1.2.2.2.2.2.1]
    refine ev_aload_n (p' := 73) i_55_72 rfl rfl ?_
    refine ev_geti (p' := 76) i_55_73 rfl fl_7_22 rfl is_4 ?_
    rw [hF1.2.2.2.2.1]
    refine ev_isub (p' := 77) i_55_76 rfl ?_
    rw [pk_sub hle.1]
    refine ev_iconst (p' := 78) (v := 2) i_55_77 rfl (by decide) ?_
    refine ev_icmp_gt (p' := 81) (tg := 85) i_55_78 rfl rfl (fun c78 => ?_) (fun c78 => ?_)
    · refine ev_iconst (p' := 86) (v := 4) i_55_85 rfl (by decide) ?_
      refine ev_puti (p' := 89) i_55_86 rfl fl_7_19 rfl is_4 (gc (by decide)) rfl ?_
      exact ev_ret i_55_89 rfl ⟨rfl, _, rfl, _, hF1.u2 _, fun z => absurd ((nI_ltI (a := 2) (by decide) (by omega)).mp c78) (by omega), fun z => rfl⟩
    · refine ev_iconst (p' := 82) (v := 2) i_55_81 rfl (by decide) ?_
      refine ev_goto (tg := 86) i_55_82 rfl ?_
      refine ev_puti (p' := 89) i_55_86 rfl fl_7_19 rfl is_4 (gc (by decide)) rfl ?_
      exact ev_ret i_55_89 rfl ⟨rfl, _, rfl, _, hF1.u2 _, fun z => rfl, fun z => absurd (nI_lt (a := 2) (b := fE T n s - s) (by omega) (by omega)) c78⟩)
  subst h1 h2
  exact ⟨mi1, h5, h3⟩
