/-! ===== what a run of the small machine keeps ===== -/
theorem pm_z_ne {α : Type} {f : Nat → Nat → α} {lo hi a : Nat} {v : α} (h : ¬ (lo ≤ a ∧ a < hi)) : pm_z f lo hi v a = f a := by
  funext i
  unfold pm_z
  rw [if_neg h]
theorem pm_z_in {α : Type} {f : Nat → Nat → α} {lo hi a i : Nat} {v : α} (h : lo ≤ a ∧ a < hi) : pm_z f lo hi v a i = v := by
  unfold pm_z
  rw [if_pos h]
theorem pm_zr_ne {f : Nat → Nat → Option Nat} {lo hi o m a : Nat} (h : ¬ (lo ≤ a ∧ a < hi)) (h2 : a ≠ o) : pm_zr f lo hi o m a = f a := by
  funext i
  unfold pm_zr
  rw [if_neg (fun z => h2 z.1), if_neg h]
def pm_P (g : Nat → Prop) (mem mem' : pm_M) : Prop := mem.1.1 ≤ mem'.1.1 ∧ mem.1.2.1 ≤ mem'.1.2.1 ∧ (∀ k, k ≤ mem.1.1 → mem'.1.2.2 k = mem.1.2.2 k) ∧ mem'.2.1 0 = mem.2.1 0 ∧ ∀ k, k ≤ mem.1.1 → ¬ g k → mem'.2.1 k = mem.2.1 k ∧ mem'.2.2.1 k = mem.2.2.1 k ∧ mem'.2.2.2 k = mem.2.2.2 k
theorem pm_P.rf {g : Nat → Prop} {mem : pm_M} : pm_P g mem mem := ⟨Nat.le_refl _, Nat.le_refl _, fun _ _ => rfl, rfl, fun _ _ _ => ⟨rfl, rfl, rfl⟩⟩
theorem pm_P.trans {g : Nat → Prop} {m1 m2 m3 : pm_M} (h : pm_P g m1 m2) (k : pm_P g m2 m3) : pm_P g m1 m3 := by
  obtain ⟨a1, a2, a3, a4, a5⟩ := h
  obtain ⟨b1, b2, b3, b4, b5⟩ := k
  refine ⟨Nat.le_trans a1 b1, Nat.le_trans a2 b2, fun k hk => (b3 k (Nat.le_trans hk a1)).trans (a3 k hk), b4.trans a4, fun k hk hg => ?_⟩
  obtain ⟨x1, x2, x3⟩ := a5 k hk hg
  obtain ⟨y1, y2, y3⟩ := b5 k (Nat.le_trans hk a1) hg
  exact ⟨y1.trans x1, y2.trans x2, y3.trans x3⟩
section PRES
variable {g : Nat → Prop} {C : Nat → List Value → pm_M → Option Value → pm_M → Prop} {E : Option Value → pm_M → Prop} {q : pm_D} {K : Nat → pm_L → List Value → pm_M → Prop} {pc : Nat} {ls : pm_L} {st : List Value} {mem : pm_M}
theorem pm_P.row {k : Nat} {mi : Nat → Nat → Int32} {ml : Nat → Nat → Int64} {mr : Nat → Nat → Option Nat} (hk : 1 ≤ k) (hg : g k) (h1 : ∀ a, a ≠ k → mi a = mem.2.1 a) (h2 : ∀ a, a ≠ k → ml a = mem.2.2.1 a) (h3 : ∀ a, a ≠ k → mr a = mem.2.2.2 a) : pm_P g mem (mem.1, mi, ml, mr) :=
  ⟨Nat.le_refl _, Nat.le_refl _, fun _ _ => rfl, h1 0 (by omega), fun a _ ha => by
    have hne : a ≠ k := fun z => ha (z ▸ hg)
    exact ⟨h1 a hne, h2 a hne, h3 a hne⟩⟩
theorem pm_P.new {t len : Nat} : pm_P g mem (pm_new mem t len) := by
  refine ⟨Nat.le_succ _, Nat.le_add_right _ _, fun k hk => ?_, ?_, fun k hk _ => ⟨?_, ?_, ?_⟩⟩
  · show (if k = mem.1.1 + 1 then (t, len) else mem.1.2.2 k) = _
    rw [if_neg (by omega)]
  · exact pm_z_ne (f := mem.2.1) (lo := mem.1.1 + 1) (hi := mem.1.1 + 2) (a := 0) (v := 0) (by omega)
  · exact pm_z_ne (by omega)
  · exact pm_z_ne (by omega)
  · exact pm_z_ne (by omega)
theorem pm_P.new2 {x y : Nat} : pm_P g mem (pm_new2 mem x y) := by
  refine ⟨Nat.le_add_right _ _, Nat.le_add_right _ _, fun k hk => ?_, ?_, fun k hk _ => ⟨?_, ?_, ?_⟩⟩
  · show (if k = mem.1.1 + 1 then (27, x) else if mem.1.1 + 1 < k ∧ k ≤ mem.1.1 + (1 + x) then (20, y) else mem.1.2.2 k) = _
    rw [if_neg (by omega), if_neg (by omega)]
  · exact pm_z_ne (f := mem.2.1) (lo := mem.1.1 + 1) (hi := mem.1.1 + (2 + x)) (a := 0) (v := 0) (by omega)
  · exact pm_z_ne (by omega)
  · exact pm_z_ne (by omega)
  · exact pm_zr_ne (by omega) (by omega)
theorem pm_next_call {i : Nat} {kinds : List Nat} {stat : Bool} (hC : ∀ M args mem v mem', C M args mem v mem' → pm_P g mem mem') (h : pm_call C q K i kinds stat pc ls st mem) : ∃ pc' ls' st' mem1, K pc' ls' st' mem1 ∧ pm_P g mem mem1 := by
  obtain ⟨kd, tg, M, na, As, r, v, mem', -, -, -, -, hh, hk⟩ := h
  rcases hh with ⟨-, -, hh⟩ | ⟨-, b, -, -, hh⟩
  · exact ⟨_, _, _, _, hk, hC _ _ _ _ _ hh⟩
  · exact ⟨_, _, _, _, hk, hC _ _ _ _ _ hh⟩
set_option maxHeartbeats 2000000 in
theorem pm_next {ins : Instr} (hC : ∀ M args mem v mem', C M args mem v mem' → pm_P g mem mem') (h : pm_ex g C E q K pc ls st mem ins) : (∃ r, E r mem) ∨ ∃ pc' ls' st' mem1, K pc' ls' st' mem1 ∧ pm_P g mem mem1 := by
  cases ins with
  | ireturn =>
    obtain ⟨v, ty, -, -, -, h⟩ := h
    exact Or.inl ⟨_, h⟩
  | lreturn =>
    obtain ⟨v, -, -, h⟩ := h
    exact Or.inl ⟨_, h⟩
  | return_ => exact Or.inl ⟨_, h.2.2⟩
  | invokestatic i =>
    rcases h with h | ⟨a, sp, b, dp, n, r, -, -, -, hb, hg, -, -, -, -, -, -, h⟩ | ⟨x, y, r, -, -, -, h⟩ | ⟨x, y, r, -, -, -, h⟩ | ⟨x, r, -, -, -, h⟩
    · exact Or.inr (pm_next_call hC h)
    · refine Or.inr ⟨_, _, _, _, h, pm_P.row hb.1 hg (fun a' ha => ?_) (fun _ _ => rfl) (fun _ _ => rfl)⟩
      funext i
      exact if_neg (fun z => ha z.1)
    all_goals exact Or.inr ⟨_, _, _, _, h, pm_P.rf⟩
  | invokevirtual i => exact Or.inr (pm_next_call hC h)
  | invokespecial i =>
    rcases h with h | ⟨b, r, -, -, -, h⟩
    · exact Or.inr (pm_next_call hC h)
    · exact Or.inr ⟨_, _, _, _, h, pm_P.rf⟩
  | putfield i =>
    obtain ⟨v, k, r, t, j, -, -, hi, hg, -, h⟩ := h
    rcases h with ⟨x, -, -, h⟩ | ⟨x, -, -, h⟩ | ⟨x, -, -, h⟩
    · exact Or.inr ⟨_, _, _, _, h, pm_P.row hi.1 hg (fun a ha => pm_u_ne ha) (fun _ _ => rfl) (fun _ _ => rfl)⟩
    · exact Or.inr ⟨_, _, _, _, h, pm_P.row hi.1 hg (fun _ _ => rfl) (fun a ha => pm_u_ne ha) (fun _ _ => rfl)⟩
    · exact Or.inr ⟨_, _, _, _, h, pm_P.row hi.1 hg (fun _ _ => rfl) (fun _ _ => rfl) (fun a ha => pm_u_ne ha)⟩
  | iastore =>
    obtain ⟨x, i, k, r, -, -, hi, hg, h⟩ := h
    exact Or.inr ⟨_, _, _, _, h, pm_P.row hi.1 hg (fun a ha => pm_u_ne ha) (fun _ _ => rfl) (fun _ _ => rfl)⟩
  | bastore =>
    obtain ⟨x, i, k, r, -, -, hg, ⟨hi, h⟩ | ⟨hi, h⟩⟩ := h
    · exact Or.inr ⟨_, _, _, _, h, pm_P.row hi.1 hg (fun a ha => pm_u_ne ha) (fun _ _ => rfl) (fun _ _ => rfl)⟩
    · exact Or.inr ⟨_, _, _, _, h, pm_P.row hi.1 hg (fun a ha => pm_u_ne ha) (fun _ _ => rfl) (fun _ _ => rfl)⟩
  | aastore =>
    obtain ⟨a, i, k, r, t, c, -, -, hi, -, -, hg, h⟩ := h
    exact Or.inr ⟨_, _, _, _, h, pm_P.row hi.1 hg (fun _ _ => rfl) (fun _ _ => rfl) (fun a ha => pm_u_ne ha)⟩
  | new i =>
    obtain ⟨c, -, -, -, h⟩ := h
    exact Or.inr ⟨_, _, _, _, h, pm_P.new⟩
  | newarray i =>
    obtain ⟨x, r, tg, -, -, -, -, -, h⟩ := h
    exact Or.inr ⟨_, _, _, _, h, pm_P.new⟩
  | anewarray i =>
    obtain ⟨x, r, tg, -, -, -, -, -, -, -, h⟩ := h
    exact Or.inr ⟨_, _, _, _, h, pm_P.new⟩
  | multianewarray i dd =>
    obtain ⟨x, y, r, -, -, -, -, -, -, -, -, h⟩ := h
    exact Or.inr ⟨_, _, _, _, h, pm_P.new2⟩
  | ldc i =>
    rcases h with ⟨v, -, h⟩ | ⟨k, -, h⟩
    · exact Or.inr ⟨_, _, _, _, h, pm_P.rf⟩
    · exact Or.inr ⟨_, _, _, _, h, pm_P.rf⟩
  | ifCond cnd off =>
    obtain ⟨x, r, tg, -, -, h1, h2⟩ := h
    by_cases hc : pm_cmp cnd x 0
    · exact Or.inr ⟨_, _, _, _, h1 hc, pm_P.rf⟩
    · exact Or.inr ⟨_, _, _, _, h2 hc, pm_P.rf⟩
  | if_icmp cnd off =>
    obtain ⟨x, y, r, tg, -, -, h1, h2⟩ := h
    by_cases hc : pm_cmp cnd x y
    · exact Or.inr ⟨_, _, _, _, h1 hc, pm_P.rf⟩
    · exact Or.inr ⟨_, _, _, _, h2 hc, pm_P.rf⟩
  | tableswitch dflt lo hi offs =>
    obtain ⟨x, r, -, ⟨tg, -, -, h⟩ | ⟨off, tg, -, -, -, -, h⟩⟩ := h
    · exact Or.inr ⟨_, _, _, _, h, pm_P.rf⟩
    · exact Or.inr ⟨_, _, _, _, h, pm_P.rf⟩
  | _ => first
    | exact absurd h id
    | exact Or.inr ⟨_, _, _, _, h, pm_P.rf⟩
    | (obtain ⟨_, _, h⟩ := h; exact Or.inr ⟨_, _, _, _, h, pm_P.rf⟩)
    | (obtain ⟨_, _, _, h⟩ := h; exact Or.inr ⟨_, _, _, _, h, pm_P.rf⟩)
    | (obtain ⟨_, _, _, _, h⟩ := h; exact Or.inr ⟨_, _, _, _, h, pm_P.rf⟩)
    | (obtain ⟨_, _, _, _, _, h⟩ := h; exact Or.inr ⟨_, _, _, _, h, pm_P.rf⟩)
    | (obtain ⟨_, _, _, _, _, _, h⟩ := h; exact Or.inr ⟨_, _, _, _, h, pm_P.rf⟩)
    | (obtain ⟨_, _, _, _, _, _, _, h⟩ := h; exact Or.inr ⟨_, _, _, _, h, pm_P.rf⟩)
    | (obtain ⟨_, _, _, _, _, _, _, _, h⟩ := h; exact Or.inr ⟨_, _, _, _, h, pm_P.rf⟩)
    | (obtain ⟨_, _, _, _, _, _, _, _, _, h⟩ := h; exact Or.inr ⟨_, _, _, _, h, pm_P.rf⟩)
theorem pm_run_pres (hC : ∀ M args mem v mem', C M args mem v mem' → pm_P g mem mem') {memE : pm_M} (hE : ∀ r m1, E r m1 → m1 = memE) : ∀ (f pc : Nat) (ls : pm_L) (st : List Value) (mem : pm_M), pm_run g C E q f pc ls st mem → pm_P g mem memE := by
  intro f
  induction f with
  | zero => intro pc ls st mem h; exact h.elim
  | succ f ih =>
    intro pc ls st mem h
    obtain ⟨ins, len, -, -, h⟩ := h
    rcases pm_next hC h with ⟨r, h⟩ | ⟨pc', ls', st', mem1, h, hP⟩
    · rw [hE _ _ h]
      exact pm_P.rf
    · exact hP.trans (ih _ _ _ _ h)
end PRES
theorem pm_ev_pres {g : Nat → Prop} : ∀ (d M : Nat) (args : List Value) (mem : pm_M) (v : Option Value) (mem' : pm_M), pm_ev g d M args mem v mem' → pm_P g mem mem' := by
  intro d
  induction d with
  | zero => intro M args mem v mem' h; exact h.elim
  | succ d ih =>
    intro M args mem v mem' h
    rcases h with ⟨-, h⟩ | ⟨q, -, -, f, h⟩
    · obtain ⟨-, t, bb, k, -, -, -, -, -, -, rfl, -⟩ := h
      exact pm_P.rf
    · exact pm_run_pres ih (fun r m1 h => h.2) f _ _ _ _ h
