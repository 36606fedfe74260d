/-! ===== a run with an end that is only described has an end ===== -/
section SPLIT
variable {g : Nat → Prop} {C : Nat → List Value → pm_M → Option Value → pm_M → Prop} {E : Option Value → pm_M → Prop} {q : pm_D} {K : Nat → pm_L → List Value → pm_M → Prop} {pc : Nat} {ls : pm_L} {st : List Value} {mem : pm_M}
theorem pm_split_call {i : Nat} {kinds : List Nat} {stat : Bool} (h : pm_call C q K i kinds stat pc ls st mem) : ∃ pc' ls' st' mem1, K pc' ls' st' mem1 ∧ ∀ K' : Nat → pm_L → List Value → pm_M → Prop, K' pc' ls' st' mem1 → pm_call C q K' i kinds stat pc ls st mem := by
  obtain ⟨kd, tg, M, na, As, r, v, mem', h1, h2, h3, h4, h5, hk⟩ := h
  exact ⟨_, _, _, _, hk, fun K' hk => ⟨kd, tg, M, na, As, r, v, mem', h1, h2, h3, h4, h5, hk⟩⟩
set_option maxHeartbeats 4000000 in
theorem pm_split {ins : Instr} (h : pm_ex g C E q K pc ls st mem ins) : (∃ r, E r mem ∧ ∀ (E' : Option Value → pm_M → Prop) (K' : Nat → pm_L → List Value → pm_M → Prop), E' r mem → pm_ex g C E' q K' pc ls st mem ins) ∨ ∃ pc' ls' st' mem1, K pc' ls' st' mem1 ∧ ∀ (E' : Option Value → pm_M → Prop) (K' : Nat → pm_L → List Value → pm_M → Prop), K' pc' ls' st' mem1 → pm_ex g C E' q K' pc ls st mem ins := by
  cases ins with
  | ireturn =>
    obtain ⟨v, ty, h1, h2, h3, h⟩ := h
    exact Or.inl ⟨_, h, fun E' K' hk => ⟨v, ty, h1, h2, h3, hk⟩⟩
  | lreturn =>
    obtain ⟨v, h1, h2, h⟩ := h
    exact Or.inl ⟨_, h, fun E' K' hk => ⟨v, h1, h2, hk⟩⟩
  | return_ => exact Or.inl ⟨_, h.2.2, fun E' K' hk => ⟨h.1, h.2.1, hk⟩⟩
  | invokestatic i =>
    rcases h with h | ⟨a, sp, b, dp, n, r, h1, h2, h3, h4, h5, h6, h7, h8, h9, h10, h11, h⟩ | ⟨x, y, r, h1, h2, h3, h⟩ | ⟨x, y, r, h1, h2, h3, h⟩ | ⟨x, r, h1, h2, h3, h⟩
    · obtain ⟨_, _, _, _, h, k⟩ := pm_split_call h
      exact Or.inr ⟨_, _, _, _, h, fun E' K' hk => Or.inl (k K' hk)⟩
    · exact Or.inr ⟨_, _, _, _, h, fun E' K' hk => Or.inr (Or.inl ⟨a, sp, b, dp, n, r, h1, h2, h3, h4, h5, h6, h7, h8, h9, h10, h11, hk⟩)⟩
    · exact Or.inr ⟨_, _, _, _, h, fun E' K' hk => Or.inr (Or.inr (Or.inl ⟨x, y, r, h1, h2, h3, hk⟩))⟩
    · exact Or.inr ⟨_, _, _, _, h, fun E' K' hk => Or.inr (Or.inr (Or.inr (Or.inl ⟨x, y, r, h1, h2, h3, hk⟩)))⟩
    · exact Or.inr ⟨_, _, _, _, h, fun E' K' hk => Or.inr (Or.inr (Or.inr (Or.inr ⟨x, r, h1, h2, h3, hk⟩)))⟩
  | invokevirtual i =>
    obtain ⟨_, _, _, _, h, k⟩ := pm_split_call h
    exact Or.inr ⟨_, _, _, _, h, fun E' K' hk => k K' hk⟩
  | invokespecial i =>
    rcases h with h | ⟨b, r, h1, h2, h3, h⟩
    · obtain ⟨_, _, _, _, h, k⟩ := pm_split_call h
      exact Or.inr ⟨_, _, _, _, h, fun E' K' hk => Or.inl (k K' hk)⟩
    · exact Or.inr ⟨_, _, _, _, h, fun E' K' hk => Or.inr ⟨b, r, h1, h2, h3, hk⟩⟩
  | putfield i =>
    obtain ⟨v, k, r, t, j, h1, h2, h3, h4, h5, h⟩ := h
    rcases h with ⟨x, h6, h7, h⟩ | ⟨x, h6, h7, h⟩ | ⟨x, h6, h7, h⟩
    · exact Or.inr ⟨_, _, _, _, h, fun E' K' hk => ⟨v, k, r, t, j, h1, h2, h3, h4, h5, Or.inl ⟨x, h6, h7, hk⟩⟩⟩
    · exact Or.inr ⟨_, _, _, _, h, fun E' K' hk => ⟨v, k, r, t, j, h1, h2, h3, h4, h5, Or.inr (Or.inl ⟨x, h6, h7, hk⟩)⟩⟩
    · exact Or.inr ⟨_, _, _, _, h, fun E' K' hk => ⟨v, k, r, t, j, h1, h2, h3, h4, h5, Or.inr (Or.inr ⟨x, h6, h7, hk⟩)⟩⟩
  | bastore =>
    obtain ⟨x, i, k, r, h1, h2, h3, ⟨hi, h⟩ | ⟨hi, h⟩⟩ := h
    · exact Or.inr ⟨_, _, _, _, h, fun E' K' hk => ⟨x, i, k, r, h1, h2, h3, Or.inl ⟨hi, hk⟩⟩⟩
    · exact Or.inr ⟨_, _, _, _, h, fun E' K' hk => ⟨x, i, k, r, h1, h2, h3, Or.inr ⟨hi, hk⟩⟩⟩
  | ldc i =>
    rcases h with ⟨v, h1, h⟩ | ⟨k, h1, h⟩
    · exact Or.inr ⟨_, _, _, _, h, fun E' K' hk => Or.inl ⟨v, h1, hk⟩⟩
    · exact Or.inr ⟨_, _, _, _, h, fun E' K' hk => Or.inr ⟨k, h1, hk⟩⟩
  | ifCond cnd off =>
    obtain ⟨x, r, tg, h3, h4, h1, h2⟩ := h
    by_cases hc : pm_cmp cnd x 0
    · exact Or.inr ⟨_, _, _, _, h1 hc, fun E' K' hk => ⟨x, r, tg, h3, h4, fun _ => hk, fun z => absurd hc z⟩⟩
    · exact Or.inr ⟨_, _, _, _, h2 hc, fun E' K' hk => ⟨x, r, tg, h3, h4, fun z => absurd z hc, fun _ => hk⟩⟩
  | if_icmp cnd off =>
    obtain ⟨x, y, r, tg, h3, h4, h1, h2⟩ := h
    by_cases hc : pm_cmp cnd x y
    · exact Or.inr ⟨_, _, _, _, h1 hc, fun E' K' hk => ⟨x, y, r, tg, h3, h4, fun _ => hk, fun z => absurd hc z⟩⟩
    · exact Or.inr ⟨_, _, _, _, h2 hc, fun E' K' hk => ⟨x, y, r, tg, h3, h4, fun z => absurd z hc, fun _ => hk⟩⟩
  | tableswitch dflt lo hi offs =>
    obtain ⟨x, r, h1, ⟨tg, h2, h3, h⟩ | ⟨off, tg, h2, h3, h4, h5, h⟩⟩ := h
    · exact Or.inr ⟨_, _, _, _, h, fun E' K' hk => ⟨x, r, h1, Or.inl ⟨tg, h2, h3, hk⟩⟩⟩
    · exact Or.inr ⟨_, _, _, _, h, fun E' K' hk => ⟨x, r, h1, Or.inr ⟨off, tg, h2, h3, h4, h5, hk⟩⟩⟩
  | _ => first
    | exact absurd h id
    | exact Or.inr ⟨_, _, _, _, h, fun E' K' hk => hk⟩
    | (obtain ⟨y0, y1, h⟩ := h; exact Or.inr ⟨_, _, _, _, h, fun E' K' hk => ⟨y0, y1, hk⟩⟩)
    | (obtain ⟨y0, y1, y2, h⟩ := h; exact Or.inr ⟨_, _, _, _, h, fun E' K' hk => ⟨y0, y1, y2, hk⟩⟩)
    | (obtain ⟨y0, y1, y2, y3, h⟩ := h; exact Or.inr ⟨_, _, _, _, h, fun E' K' hk => ⟨y0, y1, y2, y3, hk⟩⟩)
    | (obtain ⟨y0, y1, y2, y3, y4, h⟩ := h; exact Or.inr ⟨_, _, _, _, h, fun E' K' hk => ⟨y0, y1, y2, y3, y4, hk⟩⟩)
    | (obtain ⟨y0, y1, y2, y3, y4, y5, h⟩ := h; exact Or.inr ⟨_, _, _, _, h, fun E' K' hk => ⟨y0, y1, y2, y3, y4, y5, hk⟩⟩)
    | (obtain ⟨y0, y1, y2, y3, y4, y5, y6, h⟩ := h; exact Or.inr ⟨_, _, _, _, h, fun E' K' hk => ⟨y0, y1, y2, y3, y4, y5, y6, hk⟩⟩)
    | (obtain ⟨y0, y1, y2, y3, y4, y5, y6, y7, h⟩ := h; exact Or.inr ⟨_, _, _, _, h, fun E' K' hk => ⟨y0, y1, y2, y3, y4, y5, y6, y7, hk⟩⟩)
    | (obtain ⟨y0, y1, y2, y3, y4, y5, y6, y7, y8, h⟩ := h; exact Or.inr ⟨_, _, _, _, h, fun E' K' hk => ⟨y0, y1, y2, y3, y4, y5, y6, y7, y8, hk⟩⟩)
    | (obtain ⟨y0, y1, y2, y3, y4, y5, y6, y7, y8, y9, h⟩ := h; exact Or.inr ⟨_, _, _, _, h, fun E' K' hk => ⟨y0, y1, y2, y3, y4, y5, y6, y7, y8, y9, hk⟩⟩)
    | (obtain ⟨y0, y1, y2, y3, y4, y5, y6, y7, y8, y9, y10, h⟩ := h; exact Or.inr ⟨_, _, _, _, h, fun E' K' hk => ⟨y0, y1, y2, y3, y4, y5, y6, y7, y8, y9, y10, hk⟩⟩)
    | (obtain ⟨y0, y1, y2, y3, y4, y5, y6, y7, y8, y9, y10, y11, h⟩ := h; exact Or.inr ⟨_, _, _, _, h, fun E' K' hk => ⟨y0, y1, y2, y3, y4, y5, y6, y7, y8, y9, y10, y11, hk⟩⟩)
    | (obtain ⟨y0, y1, y2, y3, y4, y5, y6, y7, y8, y9, y10, y11, y12, h⟩ := h; exact Or.inr ⟨_, _, _, _, h, fun E' K' hk => ⟨y0, y1, y2, y3, y4, y5, y6, y7, y8, y9, y10, y11, y12, hk⟩⟩)
theorem pm_exact : ∀ (f pc : Nat) (ls : pm_L) (st : List Value) (mem : pm_M), pm_run g C E q f pc ls st mem → ∃ r m, E r m ∧ pm_run g C (fun r1 m1 => r1 = r ∧ m1 = m) q f pc ls st mem := by
  intro f
  induction f with
  | zero => intro pc ls st mem h; exact h.elim
  | succ f ih =>
    intro pc ls st mem h
    obtain ⟨ins, len, h1, h2, h⟩ := h
    rcases pm_split h with ⟨r, h3, h4⟩ | ⟨pc', ls', st', mem1, h3, h4⟩
    · exact ⟨r, mem, h3, ins, len, h1, h2, h4 _ _ ⟨rfl, rfl⟩⟩
    · obtain ⟨r, m, h5, h6⟩ := ih _ _ _ _ h3
      exact ⟨r, m, h5, ins, len, h1, h2, h4 _ _ h6⟩
end SPLIT
/-- a method by what is said of its end -/
theorem ev_some {g : Nat → Prop} {d M : Nat} {args : List Value} {mem : pm_M} {E : Option Value → pm_M → Prop} {q : pm_D} {ls : pm_L} (hq : pm_all[M]? = some q) (ha : (pm_sl args).length ≤ q.2.2.2.1) (hl : pm_en args q.2.2.2.1 = ls)
    (k : Ev g (pm_ev g d) E q 0 ls [] mem) : ∃ r m, E r m ∧ pm_ev g (d + 1) M args mem r m := by
  obtain ⟨f, k⟩ := k
  obtain ⟨r, m, h1, h2⟩ := pm_exact f _ _ _ _ k
  subst hl
  exact ⟨r, m, h1, Or.inr ⟨q, hq, ha, f, h2⟩⟩
