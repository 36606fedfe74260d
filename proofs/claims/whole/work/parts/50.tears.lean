/-! ===== tears ===== -/
/-- is piece k torn out with i0 -/
def TP (f : Nat → Nat → Int32) (i0 k : Nat) : Prop := k = i0 ∨ ∃ j, ∃ _ : j < k, f 4 k = nI j ∧ TP f i0 j
termination_by k
theorem TP_iff {f : Nat → Nat → Int32} {i0 k : Nat} : TP f i0 k ↔ k = i0 ∨ ∃ j, j < k ∧ f 4 k = nI j ∧ TP f i0 j := by
  rw [TP]
  constructor
  · rintro (h | ⟨j, h1, h2, h3⟩)
    · exact Or.inl h
    · exact Or.inr ⟨j, h1, h2, h3⟩
  · rintro (h | ⟨j, h1, h2, h3⟩)
    · exact Or.inl h
    · exact Or.inr ⟨j, h1, h2, h3⟩
theorem TP_lo {f : Nat → Nat → Int32} {i0 : Nat} : ∀ k, k < i0 → ¬ TP f i0 k := by
  intro k
  induction k using Nat.strongRecOn with
  | _ k ih =>
  intro hk h
  rcases TP_iff.mp h with h | ⟨j, h1, -, h3⟩
  · omega
  · exact ih j h1 (by omega) h3
theorem TP_on {f : Nat → Nat → Int32} {i0 k j : Nat} (hk : k ≠ i0) (hj : j < k) (hk7 : k < 2 ^ 31) (e : f 4 k = nI j) : TP f i0 k ↔ TP f i0 j := by
  rw [TP_iff]
  constructor
  · rintro (h | ⟨j', h1, h2, h3⟩)
    · exact absurd h hk
    · rw [e] at h2
      have := (nI_eq (by omega) (by omega)).mp h2
      subst this
      exact h3
  · exact fun h => Or.inr ⟨j, hj, e, h⟩
theorem TP_off {f : Nat → Nat → Int32} {i0 k : Nat} (hk : k ≠ i0) (hk7 : k < 2 ^ 31) (e : f 4 k = -1) : ¬ TP f i0 k := by
  rw [TP_iff]
  rintro (h | ⟨j', h1, h2, -⟩)
  · exact hk h
  · rw [e] at h2
    exact ne_m1 (by omega) h2.symm
/-- the new number of k -/
noncomputable def nm (f : Nat → Nat → Int32) (i0 k : Nat) : Nat := sc (fun k => ¬ TP f i0 k) k
theorem nm_t {f : Nat → Nat → Int32} {i0 k : Nat} (h : TP f i0 k) : nm f i0 (k + 1) = nm f i0 k := sc_f (fun z => z h)
theorem nm_f {f : Nat → Nat → Int32} {i0 k : Nat} (h : ¬ TP f i0 k) : nm f i0 (k + 1) = nm f i0 k + 1 := sc_t h
theorem nm_0 {f : Nat → Nat → Int32} {i0 : Nat} : nm f i0 0 = 0 := rfl
theorem nm_le {f : Nat → Nat → Int32} {i0 : Nat} (k : Nat) : nm f i0 k ≤ k := sc_le k
theorem nm_lt {f : Nat → Nat → Int32} {i0 j k : Nat} (hj : j < k) (h : ¬ TP f i0 j) : nm f i0 j < nm f i0 k := by
  have h1 := sc_up (p := fun k => ¬ TP f i0 k) (k - (j + 1)) (j + 1)
  rw [show j + 1 + (k - (j + 1)) = k by omega] at h1
  have h2 := nm_f h
  unfold nm at *
  omega
def tv (f : Nat → Nat → Int32) (m : Nat → Nat) (k j : Nat) : Int32 := if j = 4 then (if f 4 k = -1 then -1 else nI (m (f 4 k).toNatClampNeg)) else f j k
noncomputable def TF (f : Nat → Nat → Int32) (i0 m : Nat) : Nat → Nat → Int32 := fold (fun k g => @ite _ (TP f i0 k) (Classical.propDecidable _) g (fun j i => if i = nm f i0 k then tv f (nm f i0) k j else g j i)) m f
theorem TF_t {f : Nat → Nat → Int32} {i0 k : Nat} (h : TP f i0 k) : TF f i0 (k + 1) = TF f i0 k := @if_pos _ (Classical.propDecidable _) h _ _ _
theorem TF_f {f : Nat → Nat → Int32} {i0 k : Nat} (h : ¬ TP f i0 k) : TF f i0 (k + 1) = fun j i => if i = nm f i0 k then tv f (nm f i0) k j else TF f i0 k j i := @if_neg _ (Classical.propDecidable _) h _ _ _
theorem TF_in {f : Nat → Nat → Int32} {i0 k j : Nat} (h : ¬ TP f i0 k) : TF f i0 (k + 1) j (nm f i0 k) = tv f (nm f i0) k j := by
  rw [TF_f h]
  exact if_pos rfl
theorem TF_out {f : Nat → Nat → Int32} {i0 k j i : Nat} (h : ¬ TP f i0 k) (hi : i ≠ nm f i0 k) : TF f i0 (k + 1) j i = TF f i0 k j i := by
  rw [TF_f h]
  exact if_neg hi
noncomputable def tearV (v : PV) (i0 : Nat) : PV := (nm v.2.2.2 i0 v.1, v.2.1, v.2.2.1, TF v.2.2.2 i0 v.1)
theorem TF_ok {f : Nat → Nat → Int32} {i0 n : Nat} (hf : ∀ i, i < n → okp f i) (hn : n < 2 ^ 31) : ∀ m, m ≤ n → ∀ i, i < nm f i0 m → okp (TF f i0 m) i := by
  intro m
  induction m with
  | zero => intro _ i hi; rw [nm_0] at hi; omega
  | succ m ih =>
    intro hm i hi
    by_cases h : TP f i0 m
    · rw [nm_t h] at hi
      rw [TF_t h]
      exact ih (by omega) i hi
    · rw [nm_f h] at hi
      by_cases hh : i = nm f i0 m
      · subst hh
        obtain ⟨h1, h2, h3, h4, h5, h6, h8⟩ := hf m (by omega)
        have e : ∀ j, j ≠ 4 → TF f i0 (m + 1) j (nm f i0 m) = f j m := fun j hj => by
          rw [TF_in h]
          exact if_neg hj
        unfold okp
        rw [e 0 (by decide), e 1 (by decide), e 2 (by decide), e 3 (by decide), e 5 (by decide), e 6 (by decide)]
        refine ⟨h1, h2, h3, h4, ?_, h6, h8⟩
        rw [TF_in h]
        show (if f 4 m = -1 then (-1 : Int32) else nI (nm f i0 (f 4 m).toNatClampNeg)) = -1 ∨ ∃ j, j < nm f i0 m ∧ (if f 4 m = -1 then (-1 : Int32) else nI (nm f i0 (f 4 m).toNatClampNeg)) = nI j
        rcases h5 with h5 | ⟨j, hj, e5⟩
        · left; rw [if_pos h5]
        · right
          have hmi : m ≠ i0 := fun z => h (TP_iff.mpr (Or.inl z))
          refine ⟨nm f i0 j, nm_lt hj (fun z => h ((TP_on hmi hj (by omega) e5).mpr z)), ?_⟩
          rw [if_neg (by rw [e5]; exact ne_m1 (by omega)), e5, nI_clamp (by omega)]
      · exact okp_cg (ih (by omega) i (by omega)) (fun j _ => TF_out h hh)
theorem okPV.tear {v : PV} {i0 : Nat} (h : okPV v) : okPV (tearV v i0) :=
  ⟨Nat.le_trans (nm_le _) h.1, h.2.1, h.2.2.1, fun i hi => TF_ok h.2.2.2 (by have := h.1; omega) v.1 (Nat.le_refl _) i hi⟩
theorem bset_nat (p : Nat → Prop) : ∀ m, m ≤ 7 → ∃ s, s < 2 ^ m ∧ bset p m = nI s := by
  intro m
  induction m with
  | zero => intro _; exact ⟨0, by decide, rfl⟩
  | succ m ih =>
    intro hm
    obtain ⟨s, h1, h2⟩ := ih (by omega)
    by_cases h : p m
    · exact ⟨s + 2 ^ m, by rw [Nat.pow_succ]; omega, by rw [bset_t h, h2, or_up m (by omega) s h1]⟩
    · exact ⟨s, by rw [Nat.pow_succ]; omega, by rw [bset_f h, h2]⟩
def hz (x : Int32) (m : Nat) : Nat := fold (fun k c => c + (1 - hb x k)) m 0
theorem hz_s {x : Int32} {m : Nat} : hz x (m + 1) = hz x m + (1 - hb x m) := rfl
theorem hz_0 {x : Int32} : hz x 0 = 0 := rfl
theorem nw_eq : ∀ s, s < 128 → ∀ j, j < 7 → bcnt ((nI s ^^^ (-1 : Int32)) &&& ((1 : Int32) <<< (nI j &&& 31) - 1)) = nI (hz (nI s) j) := by decide +kernel
theorem hz_nm {f : Nat → Nat → Int32} {i0 n : Nat} {x : Int32} (hn : n ≤ 13) (hx : x = bset (TP f i0) n) : ∀ m, m ≤ n → hz x m = nm f i0 m := by
  intro m
  induction m with
  | zero => intro _; rw [hz_0, nm_0]
  | succ m ih =>
    intro hm
    have hb' : HS x m ↔ TP f i0 m := by
      rw [hx, bset_has (by omega) n hn]
      exact ⟨fun h => h.2, fun h => ⟨by omega, h⟩⟩
    rw [hz_s, ih (by omega)]
    by_cases h : TP f i0 m
    · rw [nm_t h, hb_t (hb'.mpr h)]; rfl
    · rw [nm_f h, hb_f (fun z => h (hb'.mp z))]
theorem cpc_T {mi : Nat → Nat → Int32} {Q T j : Nat} : cpc mi Q T T j = mi T j := by
  unfold cpc
  split <;> rfl
theorem cpc_ne {mi : Nat → Nat → Int32} {Q T a : Nat} (h : a ≠ Q) : cpc mi Q T a = mi a := by
  funext j
  exact if_neg (fun z => h z.1)
theorem cpc_Q {mi : Nat → Nat → Int32} {Q T j : Nat} (h : j < 8) : cpc mi Q T Q j = mi T j := if_pos ⟨rfl, h⟩
def nwv (s : Nat) (x : Int32) : Int32 := if x = -1 then -1 else nI (hz (nI s) x.toNatClampNeg)
theorem s_nw {g : Nat → Prop} (d : Nat) {mem : pm_M} {s : Nat} (hs : s < 128) {x : Int32} (hx : x = -1 ∨ ∃ j, j < 7 ∧ x = nI j) : pm_ev g (d + 2) 14 [.int (nI s), .int x] mem (some (.int (nwv s x))) mem := by
  rcases hx with rfl | ⟨j, hj, rfl⟩
  · refine ev_enter (q := q_14) rfl (Nat.le_of_ble_eq_true rfl) rfl ?_
    refine ev_iload_n (p' := 1) i_14_0 rfl rfl ?_
    refine ev_if_ge (p' := 4) (tg := 8) i_14_1 rfl rfl (fun c1 => absurd c1 (by decide)) (fun c1 => ?_)
    refine ev_iconst (p' := 5) (v := -1) i_14_4 rfl (by decide) ?_
    refine ev_goto (tg := 20) i_14_5 rfl ?_
    exact ev_iretI i_14_20 rfl ⟨rfl, rfl⟩
  · refine ev_enter (q := q_14) rfl (Nat.le_of_ble_eq_true rfl) rfl ?_
    refine ev_iload_n (p' := 1) i_14_0 rfl rfl ?_
    refine ev_if_ge (p' := 4) (tg := 8) i_14_1 rfl rfl (fun c1 => ?_) (fun c1 => absurd (nI_pos' (by omega)) c1)
    refine ev_iload_n (p' := 9) i_14_8 rfl rfl ?_
    refine ev_iconst (p' := 10) (v := -1) i_14_9 rfl (by decide) ?_
    refine ev_ixor (p' := 11) i_14_10 rfl ?_
    refine ev_iconst (p' := 12) (v := 1) i_14_11 rfl (by decide) ?_
    refine ev_iload_n (p' := 13) i_14_12 rfl rfl ?_
    refine ev_ishl (p' := 14) i_14_13 rfl ?_
    refine ev_iconst (p' := 15) (v := 1) i_14_14 rfl (by decide) ?_
    refine ev_isub (p' := 16) i_14_15 rfl ?_
    refine ev_iand (p' := 17) i_14_16 rfl ?_
    refine ev_s1I (p' := 20) i_14_17 rfl cl_2_94_0 (by decide) (Nat.le_of_ble_eq_true rfl) (s_bitCount _ _) ?_
    exact ev_iretI i_14_20 rfl ⟨by rw [nw_eq s hs j hj]; exact congrArg (fun z => some (Value.int z)) ((if_neg (ne_m1 (by omega))).trans (by rw [nI_clamp (by omega)])).symm, rfl⟩
theorem l_tr1 {L : Nat} {π : Nat → Nat → Nat} {mi : Nat → Nat → Int32} {ml : Nat → Nat → Int64} {mr : Nat → Nat → Option Nat} {d : Nat} {E : Option Value → pm_M → Prop} (hw : WR π mr) {A : AV} (hA : okA A) (hc : CR π mi ml A) {i0 : Nat} {x4 : Option Value} (kk : Ev gC (pm_ev gC (d + 3)) E q_13 56 [some (.ref 33), some (.int (nI i0)), some (.int (bset (TP A.1.1.2.2.2 i0) A.1.1.1)), some (.int (nI A.1.1.1)), x4] [] (WW L, mi, ml, mr)) : ∀ k i, i0 + 1 ≤ i → i + k = A.1.1.1 → Ev gC (pm_ev gC (d + 3)) E q_13 8 [some (.ref 33), some (.int (nI i0)), some (.int (bset (TP A.1.1.2.2.2 i0) i)), some (.int (nI i)), x4] [] (WW L, mi, ml, mr) := by
  have h7 := hA.n7
  have hn := hc.hn
  intro k
  induction k with
  | zero =>
    intro i h0 hi
    have hi : i = A.1.1.1 := by omega
    subst hi
    refine ev_iload_n (p' := 9) i_13_8 rfl rfl ?_
    refine ev_aload_n (p' := 10) i_13_9 rfl rfl ?_
    refine ev_geti (p' := 13) i_13_10 rfl fl_2_28 rfl (is_pg pg_33) ?_
    refine ev_icmp_ge (p' := 16) (tg := 56) i_13_13 rfl rfl (fun c13 => ?_) (fun c13 => absurd (by rw [hn]; exact nI_le (by omega) (by omega)) c13)
    exact kk
  | succ k ih =>
    intro i h0 hi
    have hon := (hA.1.1.2.2.2 i (by omega)).2.2.2.2.1
    have hv : mi (33 + 3 + i) 4 = fx A.1.1.2.2.2 4 i := hc.f (by omega) (by decide)
    refine ev_iload_n (p' := 9) i_13_8 rfl rfl ?_
    refine ev_aload_n (p' := 10) i_13_9 rfl rfl ?_
    refine ev_geti (p' := 13) i_13_10 rfl fl_2_28 rfl (is_pg pg_33) ?_
    refine ev_icmp_ge (p' := 16) (tg := 56) i_13_13 rfl rfl (fun c13 => absurd c13 (by rw [hn]; exact nI_ge (by omega) (by omega))) (fun c13 => ?_)
    refine ev_aload_n (p' := 17) i_13_16 rfl rfl ?_
    refine ev_getr (p' := 20) i_13_17 rfl fl_2_11 rfl (is_pg pg_33) (hw.pieces pg_33) ?_
    refine ev_iload_n (p' := 21) i_13_20 rfl rfl ?_
    refine ev_aaldN (p' := 22) 25 i_13_21 rfl (is_pgp pg_33) (by decide) (len_pgp pg_33) (by omega) (by decide) (hw.piece pg_33 (by omega)) ?_
    refine ev_geti (p' := 25) i_13_22 rfl fl_2_56 rfl (is_pc pg_33 (by omega)) ?_
    refine ev_if_lt (p' := 28) (tg := 50) i_13_25 rfl rfl (fun c25 => ?_) (fun c25 => ?_)
    · refine ev_iinc (p' := 53) (ls' := [_, _, _, _, _]) i_13_50 rfl rfl rfl (by decide) (nI_inc _) rfl ?_
      refine ev_goto (tg := 8) i_13_53 rfl ?_
      rw [← bset_f (p := TP A.1.1.2.2.2 i0) (m := i) (by
        rcases hon with h9 | ⟨j, hj, ej⟩
        · exact TP_off (by omega) (by omega) h9
        · rw [hv, show fx A.1.1.2.2.2 4 i = nI j from ej] at c25
          exact absurd c25 (nI_pos (by omega)))]
      exact ih (i + 1) (by omega) (by omega)
    · obtain ⟨j, hj, ej⟩ : ∃ j, j < i ∧ A.1.1.2.2.2 4 i = nI j := by
        rcases hon with h9 | h9
        · rw [hv, show fx A.1.1.2.2.2 4 i = -1 from h9] at c25
          exact absurd (by decide) c25
        · exact h9
      refine ev_iload_n (p' := 29) i_13_28 rfl rfl ?_
      refine ev_aload_n (p' := 30) i_13_29 rfl rfl ?_
      refine ev_getr (p' := 33) i_13_30 rfl fl_2_11 rfl (is_pg pg_33) (hw.pieces pg_33) ?_
      refine ev_iload_n (p' := 34) i_13_33 rfl rfl ?_
      refine ev_aaldN (p' := 35) 25 i_13_34 rfl (is_pgp pg_33) (by decide) (len_pgp pg_33) (by omega) (by decide) (hw.piece pg_33 (by omega)) ?_
      refine ev_geti (p' := 38) i_13_35 rfl fl_2_56 rfl (is_pc pg_33 (by omega)) ?_
      rw [hv, show fx A.1.1.2.2.2 4 i = nI j from ej]
      refine ev_s2I (p' := 41) i_13_38 rfl cl_2_87_0 (by decide) (Nat.le_of_ble_eq_true rfl) (s_has _ _ _) ?_
      refine ev_if_eq (p' := 44) (tg := 50) i_13_41 rfl rfl (fun c41 => ?_) (fun c41 => ?_)
      · replace c41 := B0 c41
        refine ev_iinc (p' := 53) (ls' := [_, _, _, _, _]) i_13_50 rfl rfl rfl (by decide) (nI_inc _) rfl ?_
        refine ev_goto (tg := 8) i_13_53 rfl ?_
        rw [← bset_f (p := TP A.1.1.2.2.2 i0) (m := i) (fun z => c41 ((bset_has (by omega) i (by omega)).mpr ⟨hj, (TP_on (by omega) hj (by omega) ej).mp z⟩))]
        exact ih (i + 1) (by omega) (by omega)
      · replace c41 := B1 c41
        refine ev_iload_n (p' := 45) i_13_44 rfl rfl ?_
        refine ev_iconst (p' := 46) (v := 1) i_13_45 rfl (by decide) ?_
        refine ev_iload_n (p' := 47) i_13_46 rfl rfl ?_
        refine ev_ishl (p' := 48) i_13_47 rfl ?_
        refine ev_ior (p' := 49) i_13_48 rfl ?_
        refine ev_istore_n (p' := 50) (ls' := [_, _, _, _, _]) i_13_49 rfl rfl (by decide) rfl ?_
        refine ev_iinc (p' := 53) (ls' := [_, _, _, _, _]) i_13_50 rfl rfl rfl (by decide) (nI_inc _) rfl ?_
        refine ev_goto (tg := 8) i_13_53 rfl ?_
        rw [← bset_t (p := TP A.1.1.2.2.2 i0) (m := i) ((TP_on (by omega) hj (by omega) ej).mpr ((bset_has (by omega) i (by omega)).mp c41).2)]
        exact ih (i + 1) (by omega) (by omega)
def TI (mi0 mi : Nat → Nat → Int32) (f : Nat → Nat → Int32) (i0 m : Nat) : Prop := (∀ a, a ≠ 33 → (a < 36 ∨ 43 ≤ a) → mi a = mi0 a) ∧ mi 33 5 = nI (nm f i0 m) ∧ (mi 33 3 = mi0 33 3 ∧ mi 33 4 = mi0 33 4) ∧ (∀ i, i < nm f i0 m → ∀ j, j < 8 → mi (33 + 3 + i) j = fx (TF f i0 m) j i) ∧ ∀ i, m ≤ i → i < 7 → ∀ j, j < 8 → mi (33 + 3 + i) j = mi0 (33 + 3 + i) j
theorem TI.t {mi0 mi : Nat → Nat → Int32} {f : Nat → Nat → Int32} {i0 m : Nat} (h : TI mi0 mi f i0 m) (ht : TP f i0 m) : TI mi0 mi f i0 (m + 1) := by
  obtain ⟨h1, h2, h3, h4, h5⟩ := h
  refine ⟨h1, by rw [nm_t ht]; exact h2, h3, by rw [nm_t ht, TF_t ht]; exact h4, fun i hi => h5 i (by omega)⟩
theorem TI.f {mi0 mi : Nat → Nat → Int32} {f : Nat → Nat → Int32} {i0 m : Nat} {x : Int32} (h : TI mi0 mi f i0 m) (ht : ¬ TP f i0 m) (hm : m < 7) (hx : x = tv f (nm f i0) m 4) (hv : ∀ j, j < 8 → mi0 (33 + 3 + m) j = fx f j m) : TI mi0 (pm_u (pm_u (cpc mi (33 + 3 + nm f i0 m) (33 + 3 + m)) (33 + 3 + nm f i0 m) 4 x) 33 5 (nI (nm f i0 m + 1))) f i0 (m + 1) := by
  obtain ⟨h1, h2, h3, h4, h5⟩ := h
  have hle := nm_le (f := f) (i0 := i0) m
  refine ⟨fun a ha hb => ?_, ?_, ?_, fun i hi j hj => ?_, fun i hi hi7 j hj => ?_⟩
  · rw [pm_u_ne ha, pm_u_ne (by omega), cpc_ne (by omega)]
    exact h1 a ha hb
  · rw [pm_u_self, nm_f ht]
  · rw [pm_u_oth (by decide), pm_u_oth (by decide), pm_u_ne (by omega), cpc_ne (by omega)]
    exact h3
  · rw [nm_f ht] at hi
    rw [pm_u_ne (by omega)]
    by_cases hh : i = nm f i0 m
    · subst hh
      have e0 : TF f i0 (m + 1) 0 (nm f i0 m) = f 0 m := by rw [TF_in ht]; exact if_neg (by decide)
      unfold fx
      rw [e0, TF_in ht]
      by_cases hj4 : j = 4
      · subst hj4
        rw [pm_u_self, hx, if_neg (by decide)]
      · rw [pm_u_oth hj4, cpc_Q hj, h5 m (Nat.le_refl _) hm j hj, hv j hj]
        unfold fx tv
        rw [if_neg hj4]
    · rw [pm_u_ne (by omega), cpc_ne (by omega), h4 i (by omega) j hj]
      unfold fx
      rw [TF_out ht hh, TF_out ht hh]
  · rw [pm_u_ne (by omega), pm_u_ne (by omega), cpc_ne (by omega)]
    exact h5 i (by omega) hi7 j hj
theorem l_tr2 {L : Nat} {π : Nat → Nat → Nat} {ml : Nat → Nat → Int64} {mr : Nat → Nat → Option Nat} {mi0 : Nat → Nat → Int32} {d : Nat} {E : Option Value → pm_M → Prop} (hw : WR π mr) {A : AV} (hA : okA A) (hc : CR π mi0 ml A) {i0 s : Nat} (hs : s < 128) (es : nI s = bset (TP A.1.1.2.2.2 i0) A.1.1.1) (hE : ∀ mi, TI mi0 mi A.1.1.2.2.2 i0 A.1.1.1 → E (some (.int (nI A.1.1.1 - nI (nm A.1.1.2.2.2 i0 A.1.1.1)))) (WW L, mi, ml, mr)) : ∀ k i mi, i + k = A.1.1.1 → TI mi0 mi A.1.1.2.2.2 i0 i → Ev gC (pm_ev gC (d + 3)) E q_13 69 [some (.ref 33), some (.int (nI i0)), some (.int (nI s)), some (.int (nI A.1.1.1)), some (.int (nI i))] [] (WW L, mi, ml, mr) := by
  have h7 := hA.n7
  have onx : ∀ i, i < A.1.1.1 → fx A.1.1.2.2.2 4 i = -1 ∨ ∃ j, j < 7 ∧ fx A.1.1.2.2.2 4 i = nI j := fun i hi => by
    rcases (hA.1.1.2.2.2 i hi).2.2.2.2.1 with h | ⟨j, h, e⟩
    · exact Or.inl h
    · exact Or.inr ⟨j, by omega, e⟩
  have nwt : ∀ i, i < A.1.1.1 → nwv s (fx A.1.1.2.2.2 4 i) = tv A.1.1.2.2.2 (nm A.1.1.2.2.2 i0) i 4 := fun i hi => by
    show (if fx A.1.1.2.2.2 4 i = -1 then (-1 : Int32) else nI (hz (nI s) (fx A.1.1.2.2.2 4 i).toNatClampNeg)) = (if A.1.1.2.2.2 4 i = -1 then (-1 : Int32) else nI (nm A.1.1.2.2.2 i0 (A.1.1.2.2.2 4 i).toNatClampNeg))
    rcases (hA.1.1.2.2.2 i hi).2.2.2.2.1 with h | ⟨j, h, e⟩
    · rw [show fx A.1.1.2.2.2 4 i = -1 from h, h]; rfl
    · rw [show fx A.1.1.2.2.2 4 i = A.1.1.2.2.2 4 i from rfl, e, nI_clamp (by omega), hz_nm (by omega) es j (by omega)]
  intro k
  induction k with
  | zero =>
    intro i mi hi hT
    have hle := nm_le (f := A.1.1.2.2.2) (i0 := i0) A.1.1.1
    have hi : i = A.1.1.1 := by omega
    subst hi
    refine ev_iload (p' := 71) i_13_69 rfl rfl ?_
    refine ev_iload_n (p' := 72) i_13_71 rfl rfl ?_
    refine ev_icmp_ge (p' := 75) (tg := 145) i_13_72 rfl rfl (fun c72 => ?_) (fun c72 => absurd (nI_le (by omega) (by omega)) c72)
    refine ev_iload_n (p' := 146) i_13_145 rfl rfl ?_
    refine ev_aload_n (p' := 147) i_13_146 rfl rfl ?_
    refine ev_geti (p' := 150) i_13_147 rfl fl_2_28 rfl (is_pg pg_33) ?_
    rw [hT.2.1]
    refine ev_isub (p' := 151) i_13_150 rfl ?_
    exact ev_iretI i_13_151 rfl (hE _ hT)
  | succ k ih =>
    intro i mi hi hT
    have hle := nm_le (f := A.1.1.2.2.2) (i0 := i0) i
    have hb' : HS (nI s) i ↔ TP A.1.1.2.2.2 i0 i := by
      rw [es, bset_has (by omega) A.1.1.1 (by omega)]
      exact ⟨fun h => h.2, fun h => ⟨by omega, h⟩⟩
    refine ev_iload (p' := 71) i_13_69 rfl rfl ?_
    refine ev_iload_n (p' := 72) i_13_71 rfl rfl ?_
    refine ev_icmp_ge (p' := 75) (tg := 145) i_13_72 rfl rfl (fun c72 => absurd c72 (nI_ge (by omega) (by omega))) (fun c72 => ?_)
    refine ev_iload_n (p' := 76) i_13_75 rfl rfl ?_
    refine ev_iload (p' := 78) i_13_76 rfl rfl ?_
    refine ev_s2I (p' := 81) i_13_78 rfl cl_2_87_0 (by decide) (Nat.le_of_ble_eq_true rfl) (s_has _ _ _) ?_
    refine ev_if_ne (p' := 84) (tg := 139) i_13_81 rfl rfl (fun c81 => ?_) (fun c81 => ?_)
    · replace c81 := B1 c81
      refine ev_iinc (p' := 142) (ls' := [_, _, _, _, _]) i_13_139 rfl rfl rfl (by decide) (nI_inc _) rfl ?_
      refine ev_goto (tg := 69) i_13_142 rfl ?_
      exact ih (i + 1) _ (by omega) (hT.t (hb'.mp c81))
    · replace c81 := B0n c81
      refine ev_aload_n (p' := 85) i_13_84 rfl rfl ?_
      refine ev_getr (p' := 88) i_13_85 rfl fl_2_11 rfl (is_pg pg_33) (hw.pieces pg_33) ?_
      refine ev_aload_n (p' := 89) i_13_88 rfl rfl ?_
      refine ev_geti (p' := 92) i_13_89 rfl fl_2_28 rfl (is_pg pg_33) ?_
      rw [hT.2.1]
      refine ev_aaldN (p' := 93) 25 i_13_92 rfl (is_pgp pg_33) (by decide) (len_pgp pg_33) (show nm A.1.1.2.2.2 i0 i < 7 by omega) (by decide) (hw.piece pg_33 (show nm A.1.1.2.2.2 i0 i < 7 by omega)) ?_
      refine ev_aload_n (p' := 94) i_13_93 rfl rfl ?_
      refine ev_getr (p' := 97) i_13_94 rfl fl_2_11 rfl (is_pg pg_33) (hw.pieces pg_33) ?_
      refine ev_iload (p' := 99) i_13_97 rfl rfl ?_
      refine ev_aaldN (p' := 100) 25 i_13_99 rfl (is_pgp pg_33) (by decide) (len_pgp pg_33) (show i < 7 by omega) (by decide) (hw.piece pg_33 (show i < 7 by omega)) ?_
      refine ev_v1V (p' := 103) i_13_100 rfl cl_2_36_3 (by decide) (is_pc pg_33 (show nm A.1.1.2.2.2 i0 i < 7 by omega)) (Nat.le_of_ble_eq_true rfl) (s_pcopy _ (fun _ => is_pc pg_33 (show nm A.1.1.2.2.2 i0 i < 7 by omega)) (fun _ => is_pc pg_33 (show i < 7 by omega)) (gc_pc pg_33 (show nm A.1.1.2.2.2 i0 i < 7 by omega))) ?_
      refine ev_aload_n (p' := 104) i_13_103 rfl rfl ?_
      refine ev_getr (p' := 107) i_13_104 rfl fl_2_11 rfl (is_pg pg_33) (hw.pieces pg_33) ?_
      refine ev_aload_n (p' := 108) i_13_107 rfl rfl ?_
      refine ev_geti (p' := 111) i_13_108 rfl fl_2_28 rfl (is_pg pg_33) ?_
      rw [cpc_ne (by omega), hT.2.1]
      refine ev_aaldN (p' := 112) 25 i_13_111 rfl (is_pgp pg_33) (by decide) (len_pgp pg_33) (show nm A.1.1.2.2.2 i0 i < 7 by omega) (by decide) (hw.piece pg_33 (show nm A.1.1.2.2.2 i0 i < 7 by omega)) ?_
      refine ev_iload_n (p' := 113) i_13_112 rfl rfl ?_
      refine ev_aload_n (p' := 114) i_13_113 rfl rfl ?_
      refine ev_getr (p' := 117) i_13_114 rfl fl_2_11 rfl (is_pg pg_33) (hw.pieces pg_33) ?_
      refine ev_iload (p' := 119) i_13_117 rfl rfl ?_
      refine ev_aaldN (p' := 120) 25 i_13_119 rfl (is_pgp pg_33) (by decide) (len_pgp pg_33) (show i < 7 by omega) (by decide) (hw.piece pg_33 (show i < 7 by omega)) ?_
      refine ev_geti (p' := 123) i_13_120 rfl fl_2_56 rfl (is_pc pg_33 (show i < 7 by omega)) ?_
      have hv : ∀ j, j < 8 → mi0 (33 + 3 + i) j = fx A.1.1.2.2.2 j i := fun j hj => hc.f (by omega) hj
      rw [cpc_T, hT.2.2.2.2 i (Nat.le_refl _) (by omega) 4 (by decide), hv 4 (by decide)]
      refine ev_s2I (p' := 126) i_13_123 rfl cl_2_91_0 (by decide) (Nat.le_of_ble_eq_true rfl) (s_nw _ (by omega) (onx i (by omega))) ?_
      refine ev_puti (p' := 129) i_13_126 rfl fl_2_56 rfl (is_pc pg_33 (show nm A.1.1.2.2.2 i0 i < 7 by omega)) (gc_pc pg_33 (show nm A.1.1.2.2.2 i0 i < 7 by omega)) rfl ?_
      refine ev_aload_n (p' := 130) i_13_129 rfl rfl ?_
      refine ev_dup (p' := 131) i_13_130 rfl rfl ?_
      refine ev_geti (p' := 134) i_13_131 rfl fl_2_28 rfl (is_pg pg_33) ?_
      rw [pm_u_ne (by omega), cpc_ne (by omega), hT.2.1]
      refine ev_iconst (p' := 135) (v := 1) i_13_134 rfl (by decide) ?_
      refine ev_iadd (p' := 136) i_13_135 rfl ?_
      rw [nI_1]
      refine ev_puti (p' := 139) i_13_136 rfl fl_2_28 rfl (is_pg pg_33) (gc_pg pg_33) rfl ?_
      refine ev_iinc (p' := 142) (ls' := [_, _, _, _, _]) i_13_139 rfl rfl rfl (by decide) (nI_inc _) rfl ?_
      refine ev_goto (tg := 69) i_13_142 rfl ?_
      exact ih (i + 1) _ (by omega) (hT.f (fun z => c81 (hb'.mpr z)) (by omega) (nwt i (by omega)) hv)
theorem bset_lo {p : Nat → Prop} : ∀ m, (∀ k, k < m → ¬ p k) → bset p m = 0 := by
  intro m
  induction m with
  | zero => intro _; rfl
  | succ m ih => intro h; rw [bset_f (h m (by omega)), ih (fun k hk => h k (by omega))]
theorem bset_i0 {f : Nat → Nat → Int32} {i0 : Nat} : 1 <<< (nI i0 &&& 31) = bset (TP f i0) (i0 + 1) := by
  rw [bset_t (TP_iff.mpr (Or.inl rfl)), bset_lo i0 (fun k hk => TP_lo k hk), Int32.zero_or]
theorem TI.cpg {mi0 mi : Nat → Nat → Int32} {v : PV} {i0 : Nat} (h : TI mi0 mi v.2.2.2 i0 v.1) (hc : CPg mi0 33 v) : CPg mi 33 (tearV v i0) :=
  ⟨Nat.le_trans (nm_le _) hc.1, h.2.1, h.2.2.1.1.trans hc.2.2.1, h.2.2.1.2.trans hc.2.2.2.1, fun i hi j hj => h.2.2.2.1 i hi j hj⟩
theorem s_tear {L : Nat} {π : Nat → Nat → Nat} {ml : Nat → Nat → Int64} {mr : Nat → Nat → Option Nat} {mi : Nat → Nat → Int32} (d : Nat) (hw : WR π mr) {A : AV} (hA : okA A) {i0 : Nat} (hi0 : i0 < A.1.1.1) (hc : CR π mi ml A) : ∃ mi', pm_ev gC (d + 4) 13 [.ref 33, .int (nI i0)] (WW L, mi, ml, mr) (some (.int (nI A.1.1.1 - nI (nm A.1.1.2.2.2 i0 A.1.1.1)))) (WW L, mi', ml, mr) ∧ CR π mi' ml ((tearV A.1.1 i0, A.1.2), A.2) := by
  have h7 := hA.n7
  obtain ⟨x, m', ⟨h1, mi1, h2, h3⟩, h5⟩ := ev_some (E := fun x m => x = some (.int (nI A.1.1.1 - nI (nm A.1.1.2.2.2 i0 A.1.1.1))) ∧ ∃ mi', m = (WW L, mi', ml, mr) ∧ CR π mi' ml ((tearV A.1.1 i0, A.1.2), A.2)) (g := gC) (d := d + 3) (M := 13) (args := [.ref 33, .int (nI i0)]) (mem := (WW L, mi, ml, mr)) (q := q_13) rfl (Nat.le_of_ble_eq_true rfl) rfl (by
    refine ev_iconst (p' := 1) (v := 1) i_13_0 rfl (by decide) ?_
    refine ev_iload_n (p' := 2) i_13_1 rfl rfl ?_
    refine ev_ishl (p' := 3) i_13_2 rfl ?_
    obtain ⟨s, hs, es⟩ := bset_nat (TP A.1.1.2.2.2 i0) A.1.1.1 h7
    have hp7 : 2 ^ A.1.1.1 ≤ 128 := Nat.le_trans (Nat.pow_le_pow_right (by decide) h7) (by decide)
    rw [bset_i0 (f := A.1.1.2.2.2)]
    refine ev_istore_n (p' := 4) (ls' := [_, _, _, _, _]) i_13_3 rfl rfl (by decide) rfl ?_
    refine ev_iload_n (p' := 5) i_13_4 rfl rfl ?_
    refine ev_iconst (p' := 6) (v := nI 1) i_13_5 rfl (by decide) ?_
    refine ev_iaddN (p' := 7) i_13_6 rfl ?_
    refine ev_istore_n (p' := 8) (ls' := [_, _, _, _, _]) i_13_7 rfl rfl (by decide) rfl ?_
    refine l_tr1 hw hA hc ?_ (A.1.1.1 - (i0 + 1)) (i0 + 1) (Nat.le_refl _) (by omega)
    rw [es]
    refine ev_aload_n (p' := 57) i_13_56 rfl rfl ?_
    refine ev_geti (p' := 60) i_13_57 rfl fl_2_28 rfl (is_pg pg_33) ?_
    rw [hc.hn]
    refine ev_istore_n (p' := 61) (ls' := [_, _, _, _, _]) i_13_60 rfl rfl (by decide) rfl ?_
    refine ev_aload_n (p' := 62) i_13_61 rfl rfl ?_
    refine ev_iconst (p' := 63) (v := 0) i_13_62 rfl (by decide) ?_
    refine ev_puti (p' := 66) i_13_63 rfl fl_2_28 rfl (is_pg pg_33) (gc_pg pg_33) rfl ?_
    refine ev_iconst (p' := 67) (v := nI 0) i_13_66 rfl (by decide) ?_
    refine ev_istore (p' := 69) (ls' := [_, _, _, _, _]) i_13_67 rfl rfl (by decide) rfl ?_
    refine l_tr2 hw hA hc (s := s) (by omega) es.symm (fun mi1 hT => ⟨rfl, mi1, rfl, ?_⟩) A.1.1.1 0 _ (by omega) ⟨fun a ha _ => pm_u_ne ha, pm_u_self, ⟨pm_u_oth (by decide), pm_u_oth (by decide)⟩, fun i hi => absurd hi (Nat.not_lt_zero i), fun i _ _ j _ => by rw [pm_u_ne (by omega)]⟩
    exact hc.page hw (hT.cpg hc.pg) (fun a ha => hT.1 a (by omega) (by omega)))
  subst h1 h2
  exact ⟨mi1, h5, h3⟩
theorem C_tears_bad (L d : Nat) (A : AV) (hA : okA A) (x : Int32) (hb : ¬ (0 ≤ x ∧ x ≤ nI A.1.1.1 - 1)) : Cst L (d + 24) 78 [.int x] A (.int (-2)) (badA A) := by
  refine C_of (q := q_78) rfl (Nat.le_of_ble_eq_true rfl) rfl (fun π mi ml mr hw hc => ?_)
  have hn := hc.hn
  have h7 := hA.n7
  refine ev_aload_n (p' := 1) i_78_0 rfl rfl ?_
  refine ev_iload_n (p' := 2) i_78_1 rfl rfl ?_
  refine ev_v1I (p' := 5) i_78_2 rfl cl_11_158_11 (by decide) is_1 (Nat.le_of_ble_eq_true rfl) (s_noPiece _ hw hn _) ?_
  refine ev_if_eq (p' := 8) (tg := 13) i_78_5 rfl rfl (fun c5 => ?_) (fun c5 => ?_)
  · replace c5 := B0 c5
    exact absurd (ni c5) hb
  · replace c5 := B1 c5
    refine ev_aload_n (p' := 9) i_78_8 rfl rfl ?_
    refine ev_v0I (p' := 12) i_78_9 rfl cl_11_93_11 (by decide) is_1 (Nat.le_of_ble_eq_true rfl) (s_bad _) ?_
    exact ev_iretI i_78_12 rfl (EC.mk rfl hw (hc.bad hw))
theorem R_tears_bad (L d : Nat) (A : AV) (hA : okA A) (x : Int32) (hb : ¬ (0 ≤ x ∧ x ≤ nI A.1.1.1 - 1)) : Rst L (d + 24) 178 [.int x] A (.int (-2)) (badA A) := by
  refine R_of (q := q_178) rfl (Nat.le_of_ble_eq_true rfl) rfl (fun π mi ml mr hw hc => ?_)
  have hn := hc.hn
  have h7 := hA.n7
  refine ev_aload_n (p' := 1) i_178_0 rfl rfl ?_
  refine ev_iload_n (p' := 2) i_178_1 rfl rfl ?_
  refine ev_v1I (p' := 5) i_178_2 rfl cl_12_240_12 (by decide) is_285 (Nat.le_of_ble_eq_true rfl) (s_isPiece (π := π) _ hn _) ?_
  refine ev_if_ne (p' := 8) (tg := 13) i_178_5 rfl rfl (fun c5 => ?_) (fun c5 => ?_)
  · replace c5 := B1 c5
    exact absurd (c5) hb
  · replace c5 := B0n c5
    refine ev_aload_n (p' := 9) i_178_8 rfl rfl ?_
    refine ev_v0I (p' := 12) i_178_9 rfl cl_12_119_12 (by decide) is_285 (Nat.le_of_ble_eq_true rfl) (s_mbad _ hw) ?_
    exact ev_iretI i_178_12 rfl (ER.mk rfl (hc.bad h7))
theorem okA.rem {A : AV} (hA : okA A) : okA (remV A.1, A.2) := ⟨hA.1.rem, hA.2⟩
theorem rem_n {v : SV} : (remV v).1.1 = v.1.1 := by rw [rem_1]
theorem C_tears (L d : Nat) (A : AV) (hA : okA A) {i : Nat} (hi : i < A.1.1.1) : Cst L (d + 24) 78 [.int (nI i)] A (.int (nI (remV A.1).1.1 - nI (nm (remV A.1).1.2.2.2 i (remV A.1).1.1))) (((tearV (remV A.1).1 i, (fgA1 (fgA0 (remV A.1, A.2))).1.2), A.2)) := by
  refine C_of (q := q_78) rfl (Nat.le_of_ble_eq_true rfl) rfl (fun π mi ml mr hw hc => ?_)
  have hn := hc.hn
  have h7 := hA.n7
  refine ev_aload_n (p' := 1) i_78_0 rfl rfl ?_
  refine ev_iload_n (p' := 2) i_78_1 rfl rfl ?_
  refine ev_v1I (p' := 5) i_78_2 rfl cl_11_158_11 (by decide) is_1 (Nat.le_of_ble_eq_true rfl) (s_noPiece _ hw hn _) ?_
  refine ev_if_eq (p' := 8) (tg := 13) i_78_5 rfl rfl (fun c5 => ?_) (fun c5 => absurd (B_f (nj (inn hi h7))) c5)
  refine ev_aload_n (p' := 14) i_78_13 rfl rfl ?_
  refine ev_getr (p' := 17) i_78_14 rfl fl_11_78 rfl is_1 (rf_1_0 hw) ?_
  obtain ⟨π, mi, mr, e1, hw, hc⟩ := c_rem (L := L) (d + 20) hw hc
  refine ev_v0V (p' := 20) i_78_17 rfl cl_11_148_4 (by decide) (is_sp sp_17) (Nat.le_of_ble_eq_true rfl) (e1) ?_
  refine ev_aload_n (p' := 21) i_78_20 rfl rfl ?_
  refine ev_getr (p' := 24) i_78_21 rfl fl_11_78 rfl is_1 (rf_1_0 hw) ?_
  refine ev_iconst (p' := 25) (v := 0) i_78_24 rfl (by decide) ?_
  refine ev_puti (p' := 28) i_78_25 rfl fl_11_170 rfl (is_sp sp_17) (gc_sp sp_17) rfl ?_
  refine ev_aload_n (p' := 29) i_78_28 rfl rfl ?_
  refine ev_getr (p' := 32) i_78_29 rfl fl_11_78 rfl is_1 (rf_1_0 hw) ?_
  refine ev_iconst (p' := 33) (v := 0) i_78_32 rfl (by decide) ?_
  refine ev_puti (p' := 36) i_78_33 rfl fl_11_173 rfl (is_sp sp_17) (gc_sp sp_17) rfl ?_
  refine ev_aload_n (p' := 37) i_78_36 rfl rfl ?_
  refine ev_getr (p' := 40) i_78_37 rfl fl_11_78 rfl is_1 (rf_1_0 hw) ?_
  refine ev_getr (p' := 43) i_78_40 rfl fl_11_97 rfl (is_sp sp_17) (hw.page sp_17) ?_
  refine ev_iload_n (p' := 44) i_78_43 rfl rfl ?_
  have hc2 := (hc.fg0 hw).fg1 hw
  obtain ⟨mi3, e3, hc3⟩ := s_tear (L := L) (d + 19) hw hA.rem.fg0.fg1 (i0 := i) (by show i < (remV A.1).1.1; rw [rem_n]; exact hi) hc2
  refine ev_v1I (p' := 47) i_78_44 rfl cl_11_176_2 (by decide) (is_pg pg_33) (Nat.le_of_ble_eq_true rfl) (e3) ?_
  exact ev_iretI i_78_47 rfl (EC.mk rfl hw hc3)
def TR (mi0 mi : Nat → Nat → Int32) (f : Nat → Nat → Int32) (i0 m : Nat) : Prop := (∀ a, a ≠ 303 → ¬ (287 ≤ a ∧ a ≤ 293) → mi a = mi0 a) ∧ (∀ k, k < m → (TP f i0 k → mi 303 k = -1) ∧ (¬ TP f i0 k → mi 303 k = nI (nm f i0 k))) ∧ (∀ i, i < nm f i0 m → ∀ j, j < 7 → mi (287 + j) i = TF f i0 m j i) ∧ ∀ i, m ≤ i → ∀ j, j < 7 → mi (287 + j) i = mi0 (287 + j) i
theorem TR.num {mi0 mi : Nat → Nat → Int32} {f : Nat → Nat → Int32} {i0 m : Nat} {x : Int32} (h : TR mi0 mi f i0 m) (h1 : TP f i0 m → x = -1) (h2 : ¬ TP f i0 m → x = nI (nm f i0 m)) : ∀ k, k < m + 1 → (TP f i0 k → pm_u mi 303 m x 303 k = -1) ∧ (¬ TP f i0 k → pm_u mi 303 m x 303 k = nI (nm f i0 k)) := by
  intro k hk
  by_cases hh : k = m
  · subst hh
    rw [pm_u_self]
    exact ⟨h1, h2⟩
  · rw [pm_u_oth hh]
    exact h.2.1 k (by omega)
theorem TR.t {mi0 mi : Nat → Nat → Int32} {f : Nat → Nat → Int32} {i0 m : Nat} (h : TR mi0 mi f i0 m) (ht : TP f i0 m) : TR mi0 (pm_u mi 303 m (-1)) f i0 (m + 1) := by
  refine ⟨fun a ha hb => by rw [pm_u_ne ha]; exact h.1 a ha hb, h.num (fun _ => rfl) (fun z => absurd ht z), ?_, fun i hi j hj => by rw [pm_u_ne (by omega)]; exact h.2.2.2 i (by omega) j hj⟩
  rw [nm_t ht, TF_t ht]
  exact fun i hi j hj => by rw [pm_u_ne (by omega)]; exact h.2.2.1 i hi j hj
theorem TR.f {mi0 mi : Nat → Nat → Int32} {f : Nat → Nat → Int32} {i0 m : Nat} (h : TR mi0 mi f i0 m) (ht : ¬ TP f i0 m) : TR mi0 (d7 (pm_u mi 303 m (nI (nm f i0 m))) (nm f i0 m) (fun j => tv f (nm f i0) m j)) f i0 (m + 1) := by
  have hle := nm_le (f := f) (i0 := i0) m
  refine ⟨fun a ha hb => by rw [d7_ne hb, pm_u_ne ha]; exact h.1 a ha hb, ?_, fun i hi j hj => ?_, fun i hi j hj => by rw [d7_out (by omega), pm_u_ne (by omega)]; exact h.2.2.2 i (by omega) j hj⟩
  · rw [d7_ne (by omega)]
    exact h.num (fun z => absurd z ht) (fun _ => rfl)
  · rw [nm_f ht] at hi
    by_cases hh : i = nm f i0 m
    · subst hh
      rw [d7_in j hj, TF_in ht]
    · rw [d7_out hh, pm_u_ne (by omega), TF_out ht hh]
      exact h.2.2.1 i (by omega) j hj
theorem d7_mk {mi : Nat → Nat → Int32} {i : Nat} {x : Nat → Int32} {x0 x1 x2 x3 x4 x5 x6 : Int32} (h0 : x 0 = x0) (h1 : x 1 = x1) (h2 : x 2 = x2) (h3 : x 3 = x3) (h4 : x 4 = x4) (h5 : x 5 = x5) (h6 : x 6 = x6) : d7 mi i x = pm_u (pm_u (pm_u (pm_u (pm_u (pm_u (pm_u mi 287 i x0) 288 i x1) 289 i x2) 290 i x3) 291 i x4) 292 i x5) 293 i x6 := by
  subst h0 h1 h2 h3 h4 h5 h6
  rfl
theorem tr_d7 {mi0 mi m2 : Nat → Nat → Int32} {f : Nat → Nat → Int32} {i0 m : Nat} (h : TR mi0 mi f i0 m) (e : mi = m2) : TR mi0 m2 f i0 m := e ▸ h
theorem l_mtr {L : Nat} {π : Nat → Nat → Nat} {ml : Nat → Nat → Int64} {mr : Nat → Nat → Option Nat} {mi0 : Nat → Nat → Int32} {C : Nat → List Value → pm_M → Option Value → pm_M → Prop} {E : Option Value → pm_M → Prop} (hw : WR π mr) {A : AV} (hA : okA A) (hc : RR mi0 ml A) {i0 : Nat} (hi0 : i0 < A.1.1.1) (hE : ∀ mi x4, TR mi0 mi A.1.1.2.2.2 i0 A.1.1.1 → Ev gR C E q_178 199 [some (.ref 285), some (.int (nI i0)), some (.int (nI (nm A.1.1.2.2.2 i0 A.1.1.1))), some (.int (nI A.1.1.1)), x4] [] (WW L, mi, ml, mr)) : ∀ k i mi x4, i + k = A.1.1.1 → TR mi0 mi A.1.1.2.2.2 i0 i → Ev gR C E q_178 21 [some (.ref 285), some (.int (nI i0)), some (.int (nI (nm A.1.1.2.2.2 i0 i))), some (.int (nI i)), x4] [] (WW L, mi, ml, mr) := by
  have h7 := hA.n7
  intro k
  induction k with
  | zero =>
    intro i mi x4 hi hT
    have hn0 : mi 285 1 = nI A.1.1.1 := by rw [hT.1 285 (by decide) (by decide)]; exact hc.hn
    have hi : i = A.1.1.1 := by omega
    subst hi
    refine ev_iload_n (p' := 22) i_178_21 rfl rfl ?_
    refine ev_aload_n (p' := 23) i_178_22 rfl rfl ?_
    refine ev_geti (p' := 26) i_178_23 rfl fl_12_96 rfl is_285 ?_
    refine ev_icmp_ge (p' := 29) (tg := 199) i_178_26 rfl rfl (fun c26 => ?_) (fun c26 => absurd (by rw [hn0]; exact nI_le (by omega) (by omega)) c26)
    exact hE _ _ hT
  | succ k ih =>
    intro i mi x4 hi hT
    have hn0 : mi 285 1 = nI A.1.1.1 := by rw [hT.1 285 (by decide) (by decide)]; exact hc.hn
    have hle := nm_le (f := A.1.1.2.2.2) (i0 := i0) i
    have hv : ∀ j, j < 7 → mi (287 + j) i = A.1.1.2.2.2 j i := fun j hj => (hT.2.2.2 i (Nat.le_refl _) j hj).trans (hc.f (by omega) hj)
    by_cases hii : i = i0
    · subst hii
      have ht : TP A.1.1.2.2.2 i i := TP_iff.mpr (Or.inl rfl)
      refine ev_iload_n (p' := 22) i_178_21 rfl rfl ?_
      refine ev_aload_n (p' := 23) i_178_22 rfl rfl ?_
      refine ev_geti (p' := 26) i_178_23 rfl fl_12_96 rfl is_285 ?_
      refine ev_icmp_ge (p' := 29) (tg := 199) i_178_26 rfl rfl (fun c26 => absurd c26 (by rw [hn0]; exact nI_ge (by omega) (by omega))) (fun c26 => ?_)
      refine ev_iload_n (p' := 30) i_178_29 rfl rfl ?_
      refine ev_iload_n (p' := 31) i_178_30 rfl rfl ?_
      refine ev_icmp_eq (p' := 34) (tg := 59) i_178_31 rfl rfl (fun c31 => ?_) (fun c31 => absurd (rfl) c31)
      refine ev_iconst (p' := 60) (v := 1) i_178_59 rfl (by decide) ?_
      refine ev_goto (tg := 64) i_178_60 rfl ?_
      refine ev_istore (p' := 66) (ls' := [_, _, _, _, _]) i_178_64 rfl rfl (by decide) rfl ?_
      refine ev_aload_n (p' := 67) i_178_66 rfl rfl ?_
      refine ev_getr (p' := 70) i_178_67 rfl fl_12_61 rfl is_285 (rf_285_27 hw) ?_
      refine ev_iload_n (p' := 71) i_178_70 rfl rfl ?_
      refine ev_iload (p' := 73) i_178_71 rfl rfl ?_
      refine ev_if_eq (p' := 76) (tg := 80) i_178_73 rfl rfl (fun c73 => absurd c73 (by decide)) (fun c73 => ?_)
      refine ev_iconst (p' := 77) (v := -1) i_178_76 rfl (by decide) ?_
      refine ev_goto (tg := 81) i_178_77 rfl ?_
      refine ev_iastN (p' := 82) i_178_81 rfl is_303 len_303 (by omega) (by decide) (gr (by decide)) ?_
      refine ev_iload (p' := 84) i_178_82 rfl rfl ?_
      refine ev_if_ne (p' := 87) (tg := 193) i_178_84 rfl rfl (fun c84 => ?_) (fun c84 => absurd (by decide) c84)
      refine ev_iinc (p' := 196) (ls' := [_, _, _, _, _]) i_178_193 rfl rfl rfl (by decide) (nI_inc _) rfl ?_
      refine ev_goto (tg := 21) i_178_196 rfl ?_
      refine ev_cast (by rw [nm_t ht]) rfl rfl (ih (i + 1) _ _ (by omega) (hT.t ht))
    rcases (hA.1.1.2.2.2 i (by omega)).2.2.2.2.1 with e1 | ⟨jj, hjj, ejj⟩
    · have ht : ¬ TP A.1.1.2.2.2 i0 i := TP_off hii (by omega) e1
      refine ev_iload_n (p' := 22) i_178_21 rfl rfl ?_
      refine ev_aload_n (p' := 23) i_178_22 rfl rfl ?_
      refine ev_geti (p' := 26) i_178_23 rfl fl_12_96 rfl is_285 ?_
      refine ev_icmp_ge (p' := 29) (tg := 199) i_178_26 rfl rfl (fun c26 => absurd c26 (by rw [hn0]; exact nI_ge (by omega) (by omega))) (fun c26 => ?_)
      refine ev_iload_n (p' := 30) i_178_29 rfl rfl ?_
      refine ev_iload_n (p' := 31) i_178_30 rfl rfl ?_
      refine ev_icmp_eq (p' := 34) (tg := 59) i_178_31 rfl rfl (fun c31 => absurd c31 (fun z => hii ((nI_eq (by omega) (by omega)).mp z))) (fun c31 => ?_)
      refine ev_aload_n (p' := 35) i_178_34 rfl rfl ?_
      refine ev_getr (p' := 38) i_178_35 rfl fl_12_25 rfl is_285 (rf_285_10 hw) ?_
      refine ev_iload_n (p' := 39) i_178_38 rfl rfl ?_
      refine ev_ialdN (p' := 40) i_178_39 rfl is_291 len_291 (by omega) (by decide) ?_
      rw [show mi 291 i = -1 from (hv 4 (by decide)).trans e1]
      refine ev_iconst (p' := 41) (v := -1) i_178_40 rfl (by decide) ?_
      refine ev_icmp_eq (p' := 44) (tg := 63) i_178_41 rfl rfl (fun c41 => ?_) (fun c41 => absurd (rfl) c41)
      refine ev_iconst (p' := 64) (v := 0) i_178_63 rfl (by decide) ?_
      refine ev_istore (p' := 66) (ls' := [_, _, _, _, _]) i_178_64 rfl rfl (by decide) rfl ?_
      refine ev_aload_n (p' := 67) i_178_66 rfl rfl ?_
      refine ev_getr (p' := 70) i_178_67 rfl fl_12_61 rfl is_285 (rf_285_27 hw) ?_
      refine ev_iload_n (p' := 71) i_178_70 rfl rfl ?_
      refine ev_iload (p' := 73) i_178_71 rfl rfl ?_
      refine ev_if_eq (p' := 76) (tg := 80) i_178_73 rfl rfl (fun c73 => ?_) (fun c73 => absurd (rfl) c73)
      refine ev_iload_n (p' := 81) i_178_80 rfl rfl ?_
      refine ev_iastN (p' := 82) i_178_81 rfl is_303 len_303 (by omega) (by decide) (gr (by decide)) ?_
      refine ev_iload (p' := 84) i_178_82 rfl rfl ?_
      refine ev_if_ne (p' := 87) (tg := 193) i_178_84 rfl rfl (fun c84 => absurd c84 (by decide)) (fun c84 => ?_)
      refine ev_aload_n (p' := 88) i_178_87 rfl rfl ?_
      refine ev_getr (p' := 91) i_178_88 rfl fl_12_13 rfl is_285 (rf_285_6 hw) ?_
      refine ev_iload_n (p' := 92) i_178_91 rfl rfl ?_
      refine ev_aload_n (p' := 93) i_178_92 rfl rfl ?_
      refine ev_getr (p' := 96) i_178_93 rfl fl_12_13 rfl is_285 (rf_285_6 hw) ?_
      refine ev_iload_n (p' := 97) i_178_96 rfl rfl ?_
      refine ev_ialdN (p' := 98) i_178_97 rfl is_287 len_287 (by omega) (by decide) ?_
      rw [pm_u_ne (a := 287) (k := 303) (by decide), show mi 287 i = A.1.1.2.2.2 0 i from hv 0 (by decide)]
      refine ev_iastN (p' := 99) i_178_98 rfl is_287 len_287 (by omega) (by decide) (gr (by decide)) ?_
      refine ev_aload_n (p' := 100) i_178_99 rfl rfl ?_
      refine ev_getr (p' := 103) i_178_100 rfl fl_12_16 rfl is_285 (rf_285_7 hw) ?_
      refine ev_iload_n (p' := 104) i_178_103 rfl rfl ?_
      refine ev_aload_n (p' := 105) i_178_104 rfl rfl ?_
      refine ev_getr (p' := 108) i_178_105 rfl fl_12_16 rfl is_285 (rf_285_7 hw) ?_
      refine ev_iload_n (p' := 109) i_178_108 rfl rfl ?_
      refine ev_ialdN (p' := 110) i_178_109 rfl is_288 len_288 (by omega) (by decide) ?_
      rw [pm_u_ne (a := 288) (k := 287) (by decide), pm_u_ne (a := 288) (k := 303) (by decide), show mi 288 i = A.1.1.2.2.2 1 i from hv 1 (by decide)]
      refine ev_iastN (p' := 111) i_178_110 rfl is_288 len_288 (by omega) (by decide) (gr (by decide)) ?_
      refine ev_aload_n (p' := 112) i_178_111 rfl rfl ?_
      refine ev_getr (p' := 115) i_178_112 rfl fl_12_19 rfl is_285 (rf_285_8 hw) ?_
      refine ev_iload_n (p' := 116) i_178_115 rfl rfl ?_
      refine ev_aload_n (p' := 117) i_178_116 rfl rfl ?_
      refine ev_getr (p' := 120) i_178_117 rfl fl_12_19 rfl is_285 (rf_285_8 hw) ?_
      refine ev_iload_n (p' := 121) i_178_120 rfl rfl ?_
      refine ev_ialdN (p' := 122) i_178_121 rfl is_289 len_289 (by omega) (by decide) ?_
      rw [pm_u_ne (a := 289) (k := 288) (by decide), pm_u_ne (a := 289) (k := 287) (by decide), pm_u_ne (a := 289) (k := 303) (by decide), show mi 289 i = A.1.1.2.2.2 2 i from hv 2 (by decide)]
      refine ev_iastN (p' := 123) i_178_122 rfl is_289 len_289 (by omega) (by decide) (gr (by decide)) ?_
      refine ev_aload_n (p' := 124) i_178_123 rfl rfl ?_
      refine ev_getr (p' := 127) i_178_124 rfl fl_12_22 rfl is_285 (rf_285_9 hw) ?_
      refine ev_iload_n (p' := 128) i_178_127 rfl rfl ?_
      refine ev_aload_n (p' := 129) i_178_128 rfl rfl ?_
      refine ev_getr (p' := 132) i_178_129 rfl fl_12_22 rfl is_285 (rf_285_9 hw) ?_
      refine ev_iload_n (p' := 133) i_178_132 rfl rfl ?_
      refine ev_ialdN (p' := 134) i_178_133 rfl is_290 len_290 (by omega) (by decide) ?_
      rw [pm_u_ne (a := 290) (k := 289) (by decide), pm_u_ne (a := 290) (k := 288) (by decide), pm_u_ne (a := 290) (k := 287) (by decide), pm_u_ne (a := 290) (k := 303) (by decide), show mi 290 i = A.1.1.2.2.2 3 i from hv 3 (by decide)]
      refine ev_iastN (p' := 135) i_178_134 rfl is_290 len_290 (by omega) (by decide) (gr (by decide)) ?_
      refine ev_aload_n (p' := 136) i_178_135 rfl rfl ?_
      refine ev_getr (p' := 139) i_178_136 rfl fl_12_25 rfl is_285 (rf_285_10 hw) ?_
      refine ev_iload_n (p' := 140) i_178_139 rfl rfl ?_
      refine ev_aload_n (p' := 141) i_178_140 rfl rfl ?_
      refine ev_getr (p' := 144) i_178_141 rfl fl_12_25 rfl is_285 (rf_285_10 hw) ?_
      refine ev_iload_n (p' := 145) i_178_144 rfl rfl ?_
      refine ev_ialdN (p' := 146) i_178_145 rfl is_291 len_291 (by omega) (by decide) ?_
      rw [pm_u_ne (a := 291) (k := 290) (by decide), pm_u_ne (a := 291) (k := 289) (by decide), pm_u_ne (a := 291) (k := 288) (by decide), pm_u_ne (a := 291) (k := 287) (by decide), pm_u_ne (a := 291) (k := 303) (by decide), show mi 291 i = -1 from (hv 4 (by decide)).trans e1]
      refine ev_iconst (p' := 147) (v := -1) i_178_146 rfl (by decide) ?_
      refine ev_icmp_ne (p' := 150) (tg := 154) i_178_147 rfl rfl (fun c147 => absurd c147 (fun z => z rfl)) (fun c147 => ?_)
      refine ev_iconst (p' := 151) (v := -1) i_178_150 rfl (by decide) ?_
      refine ev_goto (tg := 165) i_178_151 rfl ?_
      refine ev_iastN (p' := 166) i_178_165 rfl is_291 len_291 (by omega) (by decide) (gr (by decide)) ?_
      refine ev_aload_n (p' := 167) i_178_166 rfl rfl ?_
      refine ev_getr (p' := 170) i_178_167 rfl fl_12_28 rfl is_285 (rf_285_11 hw) ?_
      refine ev_iload_n (p' := 171) i_178_170 rfl rfl ?_
      refine ev_aload_n (p' := 172) i_178_171 rfl rfl ?_
      refine ev_getr (p' := 175) i_178_172 rfl fl_12_28 rfl is_285 (rf_285_11 hw) ?_
      refine ev_iload_n (p' := 176) i_178_175 rfl rfl ?_
      refine ev_ialdN (p' := 177) i_178_176 rfl is_292 len_292 (by omega) (by decide) ?_
      rw [pm_u_ne (a := 292) (k := 291) (by decide), pm_u_ne (a := 292) (k := 290) (by decide), pm_u_ne (a := 292) (k := 289) (by decide), pm_u_ne (a := 292) (k := 288) (by decide), pm_u_ne (a := 292) (k := 287) (by decide), pm_u_ne (a := 292) (k := 303) (by decide), show mi 292 i = A.1.1.2.2.2 5 i from hv 5 (by decide)]
      refine ev_iastN (p' := 178) i_178_177 rfl is_292 len_292 (by omega) (by decide) (gr (by decide)) ?_
      refine ev_aload_n (p' := 179) i_178_178 rfl rfl ?_
      refine ev_getr (p' := 182) i_178_179 rfl fl_12_31 rfl is_285 (rf_285_12 hw) ?_
      refine ev_iload_n (p' := 183) i_178_182 rfl rfl ?_
      refine ev_aload_n (p' := 184) i_178_183 rfl rfl ?_
      refine ev_getr (p' := 187) i_178_184 rfl fl_12_31 rfl is_285 (rf_285_12 hw) ?_
      refine ev_iload_n (p' := 188) i_178_187 rfl rfl ?_
      refine ev_ialdN (p' := 189) i_178_188 rfl is_293 len_293 (by omega) (by decide) ?_
      rw [pm_u_ne (a := 293) (k := 292) (by decide), pm_u_ne (a := 293) (k := 291) (by decide), pm_u_ne (a := 293) (k := 290) (by decide), pm_u_ne (a := 293) (k := 289) (by decide), pm_u_ne (a := 293) (k := 288) (by decide), pm_u_ne (a := 293) (k := 287) (by decide), pm_u_ne (a := 293) (k := 303) (by decide), show mi 293 i = A.1.1.2.2.2 6 i from hv 6 (by decide)]
      refine ev_iastN (p' := 190) i_178_189 rfl is_293 len_293 (by omega) (by decide) (gr (by decide)) ?_
      refine ev_iinc (p' := 193) (ls' := [_, _, _, _, _]) i_178_190 rfl rfl rfl (by decide) (nI_inc _) rfl ?_
      refine ev_iinc (p' := 196) (ls' := [_, _, _, _, _]) i_178_193 rfl rfl rfl (by decide) (nI_inc _) rfl ?_
      refine ev_goto (tg := 21) i_178_196 rfl ?_
      have e4 : tv A.1.1.2.2.2 (nm A.1.1.2.2.2 i0) i 4 = (-1 : Int32) := if_pos e1
      refine ev_cast (by rw [nm_f ht]) rfl rfl (ih (i + 1) _ _ (by omega) (tr_d7 (hT.f ht) (d7_mk rfl rfl rfl rfl e4 rfl rfl)))
    · have hlj := nm_le (f := A.1.1.2.2.2) (i0 := i0) jj
      by_cases htj : TP A.1.1.2.2.2 i0 jj
      · have ht : TP A.1.1.2.2.2 i0 i := (TP_on hii hjj (by omega) ejj).mpr htj
        refine ev_iload_n (p' := 22) i_178_21 rfl rfl ?_
        refine ev_aload_n (p' := 23) i_178_22 rfl rfl ?_
        refine ev_geti (p' := 26) i_178_23 rfl fl_12_96 rfl is_285 ?_
        refine ev_icmp_ge (p' := 29) (tg := 199) i_178_26 rfl rfl (fun c26 => absurd c26 (by rw [hn0]; exact nI_ge (by omega) (by omega))) (fun c26 => ?_)
        refine ev_iload_n (p' := 30) i_178_29 rfl rfl ?_
        refine ev_iload_n (p' := 31) i_178_30 rfl rfl ?_
        refine ev_icmp_eq (p' := 34) (tg := 59) i_178_31 rfl rfl (fun c31 => absurd c31 (fun z => hii ((nI_eq (by omega) (by omega)).mp z))) (fun c31 => ?_)
        refine ev_aload_n (p' := 35) i_178_34 rfl rfl ?_
        refine ev_getr (p' := 38) i_178_35 rfl fl_12_25 rfl is_285 (rf_285_10 hw) ?_
        refine ev_iload_n (p' := 39) i_178_38 rfl rfl ?_
        refine ev_ialdN (p' := 40) i_178_39 rfl is_291 len_291 (by omega) (by decide) ?_
        rw [show mi 291 i = nI jj from (hv 4 (by decide)).trans ejj]
        refine ev_iconst (p' := 41) (v := -1) i_178_40 rfl (by decide) ?_
        refine ev_icmp_eq (p' := 44) (tg := 63) i_178_41 rfl rfl (fun c41 => absurd c41 (ne_m1 (by omega))) (fun c41 => ?_)
        refine ev_aload_n (p' := 45) i_178_44 rfl rfl ?_
        refine ev_getr (p' := 48) i_178_45 rfl fl_12_61 rfl is_285 (rf_285_27 hw) ?_
        refine ev_aload_n (p' := 49) i_178_48 rfl rfl ?_
        refine ev_getr (p' := 52) i_178_49 rfl fl_12_25 rfl is_285 (rf_285_10 hw) ?_
        refine ev_iload_n (p' := 53) i_178_52 rfl rfl ?_
        refine ev_ialdN (p' := 54) i_178_53 rfl is_291 len_291 (by omega) (by decide) ?_
        rw [show mi 291 i = nI jj from (hv 4 (by decide)).trans ejj]
        refine ev_ialdN (p' := 55) i_178_54 rfl is_303 len_303 (by omega) (by decide) ?_
        rw [(hT.2.1 jj hjj).1 htj]
        refine ev_iconst (p' := 56) (v := -1) i_178_55 rfl (by decide) ?_
        refine ev_icmp_ne (p' := 59) (tg := 63) i_178_56 rfl rfl (fun c56 => absurd c56 (fun z => z rfl)) (fun c56 => ?_)
        refine ev_iconst (p' := 60) (v := 1) i_178_59 rfl (by decide) ?_
        refine ev_goto (tg := 64) i_178_60 rfl ?_
        refine ev_istore (p' := 66) (ls' := [_, _, _, _, _]) i_178_64 rfl rfl (by decide) rfl ?_
        refine ev_aload_n (p' := 67) i_178_66 rfl rfl ?_
        refine ev_getr (p' := 70) i_178_67 rfl fl_12_61 rfl is_285 (rf_285_27 hw) ?_
        refine ev_iload_n (p' := 71) i_178_70 rfl rfl ?_
        refine ev_iload (p' := 73) i_178_71 rfl rfl ?_
        refine ev_if_eq (p' := 76) (tg := 80) i_178_73 rfl rfl (fun c73 => absurd c73 (by decide)) (fun c73 => ?_)
        refine ev_iconst (p' := 77) (v := -1) i_178_76 rfl (by decide) ?_
        refine ev_goto (tg := 81) i_178_77 rfl ?_
        refine ev_iastN (p' := 82) i_178_81 rfl is_303 len_303 (by omega) (by decide) (gr (by decide)) ?_
        refine ev_iload (p' := 84) i_178_82 rfl rfl ?_
        refine ev_if_ne (p' := 87) (tg := 193) i_178_84 rfl rfl (fun c84 => ?_) (fun c84 => absurd (by decide) c84)
        refine ev_iinc (p' := 196) (ls' := [_, _, _, _, _]) i_178_193 rfl rfl rfl (by decide) (nI_inc _) rfl ?_
        refine ev_goto (tg := 21) i_178_196 rfl ?_
        refine ev_cast (by rw [nm_t ht]) rfl rfl (ih (i + 1) _ _ (by omega) (hT.t ht))
      · have hnj := htj
        have ht : ¬ TP A.1.1.2.2.2 i0 i := fun z => htj ((TP_on hii hjj (by omega) ejj).mp z)
        refine ev_iload_n (p' := 22) i_178_21 rfl rfl ?_
        refine ev_aload_n (p' := 23) i_178_22 rfl rfl ?_
        refine ev_geti (p' := 26) i_178_23 rfl fl_12_96 rfl is_285 ?_
        refine ev_icmp_ge (p' := 29) (tg := 199) i_178_26 rfl rfl (fun c26 => absurd c26 (by rw [hn0]; exact nI_ge (by omega) (by omega))) (fun c26 => ?_)
        refine ev_iload_n (p' := 30) i_178_29 rfl rfl ?_
        refine ev_iload_n (p' := 31) i_178_30 rfl rfl ?_
        refine ev_icmp_eq (p' := 34) (tg := 59) i_178_31 rfl rfl (fun c31 => absurd c31 (fun z => hii ((nI_eq (by omega) (by omega)).mp z))) (fun c31 => ?_)
        refine ev_aload_n (p' := 35) i_178_34 rfl rfl ?_
        refine ev_getr (p' := 38) i_178_35 rfl fl_12_25 rfl is_285 (rf_285_10 hw) ?_
        refine ev_iload_n (p' := 39) i_178_38 rfl rfl ?_
        refine ev_ialdN (p' := 40) i_178_39 rfl is_291 len_291 (by omega) (by decide) ?_
        rw [show mi 291 i = nI jj from (hv 4 (by decide)).trans ejj]
        refine ev_iconst (p' := 41) (v := -1) i_178_40 rfl (by decide) ?_
        refine ev_icmp_eq (p' := 44) (tg := 63) i_178_41 rfl rfl (fun c41 => absurd c41 (ne_m1 (by omega))) (fun c41 => ?_)
        refine ev_aload_n (p' := 45) i_178_44 rfl rfl ?_
        refine ev_getr (p' := 48) i_178_45 rfl fl_12_61 rfl is_285 (rf_285_27 hw) ?_
        refine ev_aload_n (p' := 49) i_178_48 rfl rfl ?_
        refine ev_getr (p' := 52) i_178_49 rfl fl_12_25 rfl is_285 (rf_285_10 hw) ?_
        refine ev_iload_n (p' := 53) i_178_52 rfl rfl ?_
        refine ev_ialdN (p' := 54) i_178_53 rfl is_291 len_291 (by omega) (by decide) ?_
        rw [show mi 291 i = nI jj from (hv 4 (by decide)).trans ejj]
        refine ev_ialdN (p' := 55) i_178_54 rfl is_303 len_303 (by omega) (by decide) ?_
        rw [(hT.2.1 jj hjj).2 hnj]
        refine ev_iconst (p' := 56) (v := -1) i_178_55 rfl (by decide) ?_
        refine ev_icmp_ne (p' := 59) (tg := 63) i_178_56 rfl rfl (fun c56 => ?_) (fun c56 => absurd (ne_m1 (by omega)) c56)
        refine ev_iconst (p' := 64) (v := 0) i_178_63 rfl (by decide) ?_
        refine ev_istore (p' := 66) (ls' := [_, _, _, _, _]) i_178_64 rfl rfl (by decide) rfl ?_
        refine ev_aload_n (p' := 67) i_178_66 rfl rfl ?_
        refine ev_getr (p' := 70) i_178_67 rfl fl_12_61 rfl is_285 (rf_285_27 hw) ?_
        refine ev_iload_n (p' := 71) i_178_70 rfl rfl ?_
        refine ev_iload (p' := 73) i_178_71 rfl rfl ?_
        refine ev_if_eq (p' := 76) (tg := 80) i_178_73 rfl rfl (fun c73 => ?_) (fun c73 => absurd (rfl) c73)
        refine ev_iload_n (p' := 81) i_178_80 rfl rfl ?_
        refine ev_iastN (p' := 82) i_178_81 rfl is_303 len_303 (by omega) (by decide) (gr (by decide)) ?_
        refine ev_iload (p' := 84) i_178_82 rfl rfl ?_
        refine ev_if_ne (p' := 87) (tg := 193) i_178_84 rfl rfl (fun c84 => absurd c84 (by decide)) (fun c84 => ?_)
        refine ev_aload_n (p' := 88) i_178_87 rfl rfl ?_
        refine ev_getr (p' := 91) i_178_88 rfl fl_12_13 rfl is_285 (rf_285_6 hw) ?_
        refine ev_iload_n (p' := 92) i_178_91 rfl rfl ?_
        refine ev_aload_n (p' := 93) i_178_92 rfl rfl ?_
        refine ev_getr (p' := 96) i_178_93 rfl fl_12_13 rfl is_285 (rf_285_6 hw) ?_
        refine ev_iload_n (p' := 97) i_178_96 rfl rfl ?_
        refine ev_ialdN (p' := 98) i_178_97 rfl is_287 len_287 (by omega) (by decide) ?_
        rw [pm_u_ne (a := 287) (k := 303) (by decide), show mi 287 i = A.1.1.2.2.2 0 i from hv 0 (by decide)]
        refine ev_iastN (p' := 99) i_178_98 rfl is_287 len_287 (by omega) (by decide) (gr (by decide)) ?_
        refine ev_aload_n (p' := 100) i_178_99 rfl rfl ?_
        refine ev_getr (p' := 103) i_178_100 rfl fl_12_16 rfl is_285 (rf_285_7 hw) ?_
        refine ev_iload_n (p' := 104) i_178_103 rfl rfl ?_
        refine ev_aload_n (p' := 105) i_178_104 rfl rfl ?_
        refine ev_getr (p' := 108) i_178_105 rfl fl_12_16 rfl is_285 (rf_285_7 hw) ?_
        refine ev_iload_n (p' := 109) i_178_108 rfl rfl ?_
        refine ev_ialdN (p' := 110) i_178_109 rfl is_288 len_288 (by omega) (by decide) ?_
        rw [pm_u_ne (a := 288) (k := 287) (by decide), pm_u_ne (a := 288) (k := 303) (by decide), show mi 288 i = A.1.1.2.2.2 1 i from hv 1 (by decide)]
        refine ev_iastN (p' := 111) i_178_110 rfl is_288 len_288 (by omega) (by decide) (gr (by decide)) ?_
        refine ev_aload_n (p' := 112) i_178_111 rfl rfl ?_
        refine ev_getr (p' := 115) i_178_112 rfl fl_12_19 rfl is_285 (rf_285_8 hw) ?_
        refine ev_iload_n (p' := 116) i_178_115 rfl rfl ?_
        refine ev_aload_n (p' := 117) i_178_116 rfl rfl ?_
        refine ev_getr (p' := 120) i_178_117 rfl fl_12_19 rfl is_285 (rf_285_8 hw) ?_
        refine ev_iload_n (p' := 121) i_178_120 rfl rfl ?_
        refine ev_ialdN (p' := 122) i_178_121 rfl is_289 len_289 (by omega) (by decide) ?_
        rw [pm_u_ne (a := 289) (k := 288) (by decide), pm_u_ne (a := 289) (k := 287) (by decide), pm_u_ne (a := 289) (k := 303) (by decide), show mi 289 i = A.1.1.2.2.2 2 i from hv 2 (by decide)]
        refine ev_iastN (p' := 123) i_178_122 rfl is_289 len_289 (by omega) (by decide) (gr (by decide)) ?_
        refine ev_aload_n (p' := 124) i_178_123 rfl rfl ?_
        refine ev_getr (p' := 127) i_178_124 rfl fl_12_22 rfl is_285 (rf_285_9 hw) ?_
        refine ev_iload_n (p' := 128) i_178_127 rfl rfl ?_
        refine ev_aload_n (p' := 129) i_178_128 rfl rfl ?_
        refine ev_getr (p' := 132) i_178_129 rfl fl_12_22 rfl is_285 (rf_285_9 hw) ?_
        refine ev_iload_n (p' := 133) i_178_132 rfl rfl ?_
        refine ev_ialdN (p' := 134) i_178_133 rfl is_290 len_290 (by omega) (by decide) ?_
        rw [pm_u_ne (a := 290) (k := 289) (by decide), pm_u_ne (a := 290) (k := 288) (by decide), pm_u_ne (a := 290) (k := 287) (by decide), pm_u_ne (a := 290) (k := 303) (by decide), show mi 290 i = A.1.1.2.2.2 3 i from hv 3 (by decide)]
        refine ev_iastN (p' := 135) i_178_134 rfl is_290 len_290 (by omega) (by decide) (gr (by decide)) ?_
        refine ev_aload_n (p' := 136) i_178_135 rfl rfl ?_
        refine ev_getr (p' := 139) i_178_136 rfl fl_12_25 rfl is_285 (rf_285_10 hw) ?_
        refine ev_iload_n (p' := 140) i_178_139 rfl rfl ?_
        refine ev_aload_n (p' := 141) i_178_140 rfl rfl ?_
        refine ev_getr (p' := 144) i_178_141 rfl fl_12_25 rfl is_285 (rf_285_10 hw) ?_
        refine ev_iload_n (p' := 145) i_178_144 rfl rfl ?_
        refine ev_ialdN (p' := 146) i_178_145 rfl is_291 len_291 (by omega) (by decide) ?_
        rw [pm_u_ne (a := 291) (k := 290) (by decide), pm_u_ne (a := 291) (k := 289) (by decide), pm_u_ne (a := 291) (k := 288) (by decide), pm_u_ne (a := 291) (k := 287) (by decide), pm_u_ne (a := 291) (k := 303) (by decide), show mi 291 i = nI jj from (hv 4 (by decide)).trans ejj]
        refine ev_iconst (p' := 147) (v := -1) i_178_146 rfl (by decide) ?_
        refine ev_icmp_ne (p' := 150) (tg := 154) i_178_147 rfl rfl (fun c147 => ?_) (fun c147 => absurd (ne_m1 (by omega)) c147)
        refine ev_aload_n (p' := 155) i_178_154 rfl rfl ?_
        refine ev_getr (p' := 158) i_178_155 rfl fl_12_61 rfl is_285 (rf_285_27 hw) ?_
        refine ev_aload_n (p' := 159) i_178_158 rfl rfl ?_
        refine ev_getr (p' := 162) i_178_159 rfl fl_12_25 rfl is_285 (rf_285_10 hw) ?_
        refine ev_iload_n (p' := 163) i_178_162 rfl rfl ?_
        refine ev_ialdN (p' := 164) i_178_163 rfl is_291 len_291 (by omega) (by decide) ?_
        rw [pm_u_ne (a := 291) (k := 290) (by decide), pm_u_ne (a := 291) (k := 289) (by decide), pm_u_ne (a := 291) (k := 288) (by decide), pm_u_ne (a := 291) (k := 287) (by decide), pm_u_ne (a := 291) (k := 303) (by decide), show mi 291 i = nI jj from (hv 4 (by decide)).trans ejj]
        refine ev_ialdN (p' := 165) i_178_164 rfl is_303 len_303 (by omega) (by decide) ?_
        rw [pm_u_ne (a := 303) (k := 290) (by decide), pm_u_ne (a := 303) (k := 289) (by decide), pm_u_ne (a := 303) (k := 288) (by decide), pm_u_ne (a := 303) (k := 287) (by decide), pm_u_oth (by omega), (hT.2.1 jj hjj).2 hnj]
        refine ev_iastN (p' := 166) i_178_165 rfl is_291 len_291 (by omega) (by decide) (gr (by decide)) ?_
        refine ev_aload_n (p' := 167) i_178_166 rfl rfl ?_
        refine ev_getr (p' := 170) i_178_167 rfl fl_12_28 rfl is_285 (rf_285_11 hw) ?_
        refine ev_iload_n (p' := 171) i_178_170 rfl rfl ?_
        refine ev_aload_n (p' := 172) i_178_171 rfl rfl ?_
        refine ev_getr (p' := 175) i_178_172 rfl fl_12_28 rfl is_285 (rf_285_11 hw) ?_
        refine ev_iload_n (p' := 176) i_178_175 rfl rfl ?_
        refine ev_ialdN (p' := 177) i_178_176 rfl is_292 len_292 (by omega) (by decide) ?_
        rw [pm_u_ne (a := 292) (k := 291) (by decide), pm_u_ne (a := 292) (k := 290) (by decide), pm_u_ne (a := 292) (k := 289) (by decide), pm_u_ne (a := 292) (k := 288) (by decide), pm_u_ne (a := 292) (k := 287) (by decide), pm_u_ne (a := 292) (k := 303) (by decide), show mi 292 i = A.1.1.2.2.2 5 i from hv 5 (by decide)]
        refine ev_iastN (p' := 178) i_178_177 rfl is_292 len_292 (by omega) (by decide) (gr (by decide)) ?_
        refine ev_aload_n (p' := 179) i_178_178 rfl rfl ?_
        refine ev_getr (p' := 182) i_178_179 rfl fl_12_31 rfl is_285 (rf_285_12 hw) ?_
        refine ev_iload_n (p' := 183) i_178_182 rfl rfl ?_
        refine ev_aload_n (p' := 184) i_178_183 rfl rfl ?_
        refine ev_getr (p' := 187) i_178_184 rfl fl_12_31 rfl is_285 (rf_285_12 hw) ?_
        refine ev_iload_n (p' := 188) i_178_187 rfl rfl ?_
        refine ev_ialdN (p' := 189) i_178_188 rfl is_293 len_293 (by omega) (by decide) ?_
        rw [pm_u_ne (a := 293) (k := 292) (by decide), pm_u_ne (a := 293) (k := 291) (by decide), pm_u_ne (a := 293) (k := 290) (by decide), pm_u_ne (a := 293) (k := 289) (by decide), pm_u_ne (a := 293) (k := 288) (by decide), pm_u_ne (a := 293) (k := 287) (by decide), pm_u_ne (a := 293) (k := 303) (by decide), show mi 293 i = A.1.1.2.2.2 6 i from hv 6 (by decide)]
        refine ev_iastN (p' := 190) i_178_189 rfl is_293 len_293 (by omega) (by decide) (gr (by decide)) ?_
        refine ev_iinc (p' := 193) (ls' := [_, _, _, _, _]) i_178_190 rfl rfl rfl (by decide) (nI_inc _) rfl ?_
        refine ev_iinc (p' := 196) (ls' := [_, _, _, _, _]) i_178_193 rfl rfl rfl (by decide) (nI_inc _) rfl ?_
        refine ev_goto (tg := 21) i_178_196 rfl ?_
        have e4 : tv A.1.1.2.2.2 (nm A.1.1.2.2.2 i0) i 4 = nI (nm A.1.1.2.2.2 i0 jj) := by
          show (if A.1.1.2.2.2 4 i = -1 then (-1 : Int32) else nI (nm A.1.1.2.2.2 i0 (A.1.1.2.2.2 4 i).toNatClampNeg)) = _
          rw [if_neg (by rw [ejj]; exact ne_m1 (by omega)), ejj, nI_clamp (by omega)]
        refine ev_cast (by rw [nm_f ht]) rfl rfl (ih (i + 1) _ _ (by omega) (tr_d7 (hT.f ht) (d7_mk rfl rfl rfl rfl e4 rfl rfl)))
theorem RR.torn {mi0 mi : Nat → Nat → Int32} {ml : Nat → Nat → Int64} {A : AV} {i0 : Nat} (h : RR mi0 ml A) (h7 : A.1.1.1 ≤ 7) (hT : TR mi0 mi A.1.1.2.2.2 i0 A.1.1.1) : RR (pm_u (pm_u (pm_u mi 285 1 (nI (nm A.1.1.2.2.2 i0 A.1.1.1))) 285 4 0) 285 5 0) ml ((tearV A.1.1 i0, (fgA1 (fgA0 A)).1.2), A.2) := by
  have hr : RR (pm_u mi 285 1 (nI (nm A.1.1.2.2.2 i0 A.1.1.1))) ml ((tearV A.1.1 i0, A.1.2), A.2) := by
    have h1 : RR (pm_u mi0 303 0 0) ml A := h.scr h7 (k := 303) (by omega) (fun a ha => pm_u_ne ha)
    refine RR.pu h ⟨pm_u_self, ?_, ?_, fun i hi j hj => ?_⟩ ?_ (fun k hk => (h.1.2.1.2 k hk).cong ?_) (fun a ha => ?_) (fun j hj => ?_)
    · rw [pm_u_oth (by decide), hT.1 285 (by decide) (by decide)]; exact h.1.1.2.1
    · rw [pm_u_oth (by decide), hT.1 285 (by decide) (by decide)]; exact h.1.1.2.2.1
    · rw [pm_u_ne (by omega)]; exact hT.2.2.1 i hi j hj
    · rw [pm_u_oth (by decide), hT.1 285 (by decide) (by decide)]; exact h.1.2.1.1
    · rw [pm_u_ne (by decide), hT.1 301 (by decide) (by decide)]
    · rw [pm_u_ne (by omega), hT.1 a (by omega) (by omega)]
    · rw [pm_u_oth (by omega), hT.1 285 (by decide) (by decide)]
  have hn : (tearV A.1.1 i0).1 ≤ 7 := Nat.le_trans (nm_le _) h7
  exact (hr.fg0 hn).fg1 hn
theorem R_tears (L d : Nat) (A : AV) (hA : okA A) {i : Nat} (hi : i < A.1.1.1) : Rst L (d + 24) 178 [.int (nI i)] A (.int (nI (remV A.1).1.1 - nI (nm (remV A.1).1.2.2.2 i (remV A.1).1.1))) (((tearV (remV A.1).1 i, (fgA1 (fgA0 (remV A.1, A.2))).1.2), A.2)) := by
  refine R_of (q := q_178) rfl (Nat.le_of_ble_eq_true rfl) rfl (fun π mi ml mr hw hc => ?_)
  have hn := hc.hn
  have h7 := hA.n7
  refine ev_aload_n (p' := 1) i_178_0 rfl rfl ?_
  refine ev_iload_n (p' := 2) i_178_1 rfl rfl ?_
  refine ev_v1I (p' := 5) i_178_2 rfl cl_12_240_12 (by decide) is_285 (Nat.le_of_ble_eq_true rfl) (s_isPiece (π := π) _ hn _) ?_
  refine ev_if_ne (p' := 8) (tg := 13) i_178_5 rfl rfl (fun c5 => ?_) (fun c5 => absurd (B_tn (inn hi h7)) c5)
  refine ev_aload_n (p' := 14) i_178_13 rfl rfl ?_
  obtain ⟨mi1, e1, hc1⟩ := s_notes (L := L) (d + 21) hw hc hA
  refine ev_v0V (p' := 17) i_178_14 rfl cl_12_234_12 (by decide) is_285 (Nat.le_of_ble_eq_true rfl) (e1) ?_
  refine ev_iconst (p' := 18) (v := nI 0) i_178_17 rfl (by decide) ?_
  refine ev_istore_n (p' := 19) (ls' := [_, _, _, _, _]) i_178_18 rfl rfl (by decide) rfl ?_
  refine ev_iconst (p' := 20) (v := nI 0) i_178_19 rfl (by decide) ?_
  refine ev_istore_n (p' := 21) (ls' := [_, _, _, _, _]) i_178_20 rfl rfl (by decide) rfl ?_
  refine l_mtr hw hA.rem hc1 (i0 := i) (by show i < (remV A.1).1.1; rw [rem_n]; exact hi) (fun mi2 x4 hT => ?_) (remV A.1).1.1 0 mi1 _ (by show 0 + (remV A.1).1.1 = (remV A.1).1.1; omega) ⟨fun _ _ _ => rfl, fun k hk => absurd hk (Nat.not_lt_zero k), fun i hi => absurd hi (Nat.not_lt_zero i), fun _ _ _ _ => rfl⟩
  refine ev_aload_n (p' := 200) i_178_199 rfl rfl ?_
  refine ev_geti (p' := 203) i_178_200 rfl fl_12_96 rfl is_285 ?_
  rw [hT.1 285 (by decide) (by decide), hc1.hn]
  refine ev_iload_n (p' := 204) i_178_203 rfl rfl ?_
  refine ev_isub (p' := 205) i_178_204 rfl ?_
  refine ev_istore_n (p' := 206) (ls' := [_, _, _, _, _]) i_178_205 rfl rfl (by decide) rfl ?_
  refine ev_aload_n (p' := 207) i_178_206 rfl rfl ?_
  refine ev_iload_n (p' := 208) i_178_207 rfl rfl ?_
  refine ev_puti (p' := 211) i_178_208 rfl fl_12_96 rfl is_285 (gr (by decide)) rfl ?_
  refine ev_aload_n (p' := 212) i_178_211 rfl rfl ?_
  refine ev_iconst (p' := 213) (v := 0) i_178_212 rfl (by decide) ?_
  refine ev_puti (p' := 216) i_178_213 rfl fl_12_106 rfl is_285 (gr (by decide)) rfl ?_
  refine ev_aload_n (p' := 217) i_178_216 rfl rfl ?_
  refine ev_iconst (p' := 218) (v := 0) i_178_217 rfl (by decide) ?_
  refine ev_puti (p' := 221) i_178_218 rfl fl_12_109 rfl is_285 (gr (by decide)) rfl ?_
  refine ev_iload_n (p' := 222) i_178_221 rfl rfl ?_
  exact ev_iretI i_178_222 rfl (ER.mk rfl (hc1.torn hA.rem.n7 hT))
theorem Q_tears (L : Nat) (A : AV) (hA : okA A) (x : Int32) : SameI L 78 178 [.int x] A := by
  by_cases h : 0 ≤ x ∧ x ≤ nI A.1.1.1 - 1
  · obtain ⟨i, hi, rfl⟩ := ofn hA.n7 h
    exact ⟨_, ((tearV (remV A.1).1 i, (fgA1 (fgA0 (remV A.1, A.2))).1.2), A.2), hA.rem.fg0.fg1.set hA.rem.1.1.tear, fun d => C_tears L d A hA hi, fun d => R_tears L d A hA hi⟩
  · exact ⟨_, badA A, hA.bad, fun d => C_tears_bad L d A hA x h, fun d => R_tears_bad L d A hA x h⟩
