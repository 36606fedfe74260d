/-! ===== small methods ===== -/
def B (p : Prop) [Decidable p] : Int32 := if p then 1 else 0
theorem B_t {p : Prop} [Decidable p] (h : p) : B p = 1 := if_pos h
theorem B_f {p : Prop} [Decidable p] (h : ¬ p) : B p = 0 := if_neg h
theorem B_nar {p : Prop} [Decidable p] : narrow .boolean (.int (B p)) = .int (B p) := by unfold B; split <;> rfl
theorem B1 {p : Prop} [Decidable p] (h : ¬ B p = 0) : p := by
  by_cases hp : p
  · exact hp
  · exact absurd (B_f hp) h
theorem B0 {p : Prop} [Decidable p] (h : B p = 0) : ¬ p := fun hp => by rw [B_t hp] at h; exact absurd h (by decide)
theorem B0n {p : Prop} [Decidable p] (h : ¬ ¬ B p = 0) : ¬ p := B0 (Classical.not_not.mp h)
theorem nI_inc (j : Nat) : nI j + Int32.ofInt 1 = nI (j + 1) := nI_1 j
section EVN
variable {g : Nat → Prop} {C : Nat → List Value → pm_M → Option Value → pm_M → Prop} {E : Option Value → pm_M → Prop} {q : pm_D} {pc p' : Nat} {ls : pm_L} {r : List Value} {mem : pm_M}
theorem ev_iaddN {x y : Nat} (h : pm_at q pc = some (.iadd, 1)) (hp : pc + 1 = p') (k : Ev g C E q p' ls (.int (nI (x + y)) :: r) mem) : Ev g C E q pc ls (.int (nI y) :: .int (nI x) :: r) mem := ev_iadd h hp (by rw [nI_add]; exact k)
end EVN
theorem s_outside {g : Nat → Prop} (d : Nat) {mem : pm_M} (v lo hi : Int32) : pm_ev g (d + 1) 113 [.int v, .int lo, .int hi] mem (some (.int (B (v < lo ∨ ¬ v ≤ hi)))) mem := by
  refine ev_enter (q := q_113) rfl (Nat.le_of_ble_eq_true rfl) rfl ?_
  refine ev_iload_n (p' := 1) i_113_0 rfl rfl ?_
  refine ev_iload_n (p' := 2) i_113_1 rfl rfl ?_
  refine ev_icmp_lt (p' := 5) (tg := 10) i_113_2 rfl rfl (fun c2 => ?_) (fun c2 => ?_)
  · refine ev_iconst (p' := 11) (v := 1) i_113_10 rfl (by decide) ?_
    refine ev_goto (tg := 15) i_113_11 rfl ?_
    exact ev_iret i_113_15 rfl rfl ⟨by simp [B, c2, Int32.not_le.mpr c2], rfl⟩
  · refine ev_iload_n (p' := 6) i_113_5 rfl rfl ?_
    refine ev_iload_n (p' := 7) i_113_6 rfl rfl ?_
    refine ev_icmp_le (p' := 10) (tg := 14) i_113_7 rfl rfl (fun c7 => ?_) (fun c7 => ?_)
    · refine ev_iconst (p' := 15) (v := 0) i_113_14 rfl (by decide) ?_
      exact ev_iret i_113_15 rfl rfl ⟨by simp [B, c2, Int32.not_lt.mp c2, c7, Int32.not_lt.mpr c7], rfl⟩
    · refine ev_iconst (p' := 11) (v := 1) i_113_10 rfl (by decide) ?_
      refine ev_goto (tg := 15) i_113_11 rfl ?_
      exact ev_iret i_113_15 rfl rfl ⟨by simp [B, c2, Int32.not_lt.mp c2, c7, Int32.not_le.mp c7], rfl⟩
theorem s_isNoOpening {g : Nat → Prop} (d : Nat) {mem : pm_M} (v : Int32) : pm_ev g (d + 2) 112 [.int v] mem (some (.int (B (v < 0 ∨ ¬ v ≤ 12)))) mem := by
  refine ev_enter (q := q_112) rfl (Nat.le_of_ble_eq_true rfl) rfl ?_
  refine ev_iload_n (p' := 1) i_112_0 rfl rfl ?_
  refine ev_iconst (p' := 2) (v := 0) i_112_1 rfl (by decide) ?_
  refine ev_bipush (p' := 4) (v := 12) i_112_2 rfl (by decide) ?_
  refine ev_s3I (p' := 7) i_112_4 rfl cl_11_89_0 (by decide) (Nat.le_of_ble_eq_true rfl) (s_outside _ _ _ _) ?_
  exact ev_iret i_112_7 rfl B_nar ⟨rfl, rfl⟩
theorem s_has {g : Nat → Prop} (d : Nat) {mem : pm_M} (v i : Int32) : pm_ev g (d + 1) 114 [.int v, .int i] mem (some (.int (B (¬ (v >>> (i &&& 31)) &&& 1 = 0)))) mem := by
  refine ev_enter (q := q_114) rfl (Nat.le_of_ble_eq_true rfl) rfl ?_
  refine ev_iload_n (p' := 1) i_114_0 rfl rfl ?_
  refine ev_iload_n (p' := 2) i_114_1 rfl rfl ?_
  refine ev_ishr (p' := 3) i_114_2 rfl ?_
  refine ev_iconst (p' := 4) (v := 1) i_114_3 rfl (by decide) ?_
  refine ev_iand (p' := 5) i_114_4 rfl ?_
  refine ev_if_eq (p' := 8) (tg := 12) i_114_5 rfl rfl (fun c5 => ?_) (fun c5 => ?_)
  · refine ev_iconst (p' := 13) (v := 0) i_114_12 rfl (by decide) ?_
    exact ev_iret i_114_13 rfl rfl ⟨by simp [B, c5], rfl⟩
  · refine ev_iconst (p' := 9) (v := 1) i_114_8 rfl (by decide) ?_
    refine ev_goto (tg := 13) i_114_9 rfl ?_
    exact ev_iret i_114_13 rfl rfl ⟨by simp [B, c5], rfl⟩
theorem s_mixed {g : Nat → Prop} (d : Nat) {mem : pm_M} (h v : Int64) : pm_ev g (d + 1) 128 [.long h, .long v] mem (some (.long (31 * h + v))) mem := by
  refine ev_enter (q := q_128) rfl (Nat.le_of_ble_eq_true rfl) rfl ?_
  refine ev_ldc2_w (p' := 3) (v := 31) i_128_0 rfl (by decide +kernel) ?_
  refine ev_lload_n (p' := 4) i_128_3 rfl rfl ?_
  refine ev_lmul (p' := 5) i_128_4 rfl ?_
  refine ev_lload_n (p' := 6) i_128_5 rfl rfl ?_
  refine ev_ladd (p' := 7) i_128_6 rfl ?_
  exact ev_lret i_128_7 rfl ⟨rfl, rfl⟩
def vee (t o : Int32) : Int32 := t * o / 12
def tent (t o : Int32) : Int32 := if 6 ≤ o then vee t o + 1 else vee t o
def box (t o : Int32) : Int32 := vee t (if o ≤ 6 then 2 * o else 2 * (12 - o))
def flap (t o : Int32) : Int32 := if o < 4 then 0 else vee t o
def stage (t o : Int32) : Int32 := (box t o + 1) / 2
def wheel (t o p : Int32) : Int32 := if 1 ≤ flap t o then flap t o + p else flap t o
theorem s_vee_8 {g : Nat → Prop} (d : Nat) {mem : pm_M} {b : Nat} (t o p : Int32) (hb : pm_is mem b 8) : pm_ev g (d + 1) 59 [.ref b, .int t, .int o, .int p] mem (some (.int (vee t o))) mem := by
  refine ev_enter (q := q_59) rfl (Nat.le_of_ble_eq_true rfl) rfl ?_
  refine ev_iload_n (p' := 1) i_59_0 rfl rfl ?_
  refine ev_iload_n (p' := 2) i_59_1 rfl rfl ?_
  refine ev_imul (p' := 3) i_59_2 rfl ?_
  refine ev_bipush (p' := 5) (v := 12) i_59_3 rfl (by decide) ?_
  refine ev_idiv (p' := 6) i_59_5 rfl (by decide) ?_
  exact ev_iretI i_59_6 rfl ⟨rfl, rfl⟩
theorem s_veeR_8 {g : Nat → Prop} (d : Nat) {mem : pm_M} {b : Nat} (a t : Int32) (hb : pm_is mem b 8) : pm_ev g (d + 1) 60 [.ref b, .int a, .int t] mem (some (.int (t + a))) mem := by
  refine ev_enter (q := q_60) rfl (Nat.le_of_ble_eq_true rfl) rfl ?_
  refine ev_iload_n (p' := 1) i_60_0 rfl rfl ?_
  refine ev_iload_n (p' := 2) i_60_1 rfl rfl ?_
  refine ev_iadd (p' := 3) i_60_2 rfl ?_
  exact ev_iretI i_60_3 rfl ⟨rfl, rfl⟩
theorem s_veeB_8 {g : Nat → Prop} (d : Nat) {mem : pm_M} {b : Nat} (hb : pm_is mem b 8) : pm_ev g (d + 1) 61 [.ref b] mem (some (.int (150))) mem := by
  refine ev_enter (q := q_61) rfl (Nat.le_of_ble_eq_true rfl) rfl ?_
  refine ev_sipush (p' := 3) (v := 150) i_61_0 rfl (by decide) ?_
  exact ev_iretI i_61_3 rfl ⟨rfl, rfl⟩
theorem s_vee_6 {g : Nat → Prop} (d : Nat) {mem : pm_M} {b : Nat} (t o p : Int32) (hb : pm_is mem b 6) : pm_ev g (d + 1) 59 [.ref b, .int t, .int o, .int p] mem (some (.int (vee t o))) mem := by
  refine ev_enter (q := q_59) rfl (Nat.le_of_ble_eq_true rfl) rfl ?_
  refine ev_iload_n (p' := 1) i_59_0 rfl rfl ?_
  refine ev_iload_n (p' := 2) i_59_1 rfl rfl ?_
  refine ev_imul (p' := 3) i_59_2 rfl ?_
  refine ev_bipush (p' := 5) (v := 12) i_59_3 rfl (by decide) ?_
  refine ev_idiv (p' := 6) i_59_5 rfl (by decide) ?_
  exact ev_iretI i_59_6 rfl ⟨rfl, rfl⟩
theorem s_veeR_6 {g : Nat → Prop} (d : Nat) {mem : pm_M} {b : Nat} (a t : Int32) (hb : pm_is mem b 6) : pm_ev g (d + 1) 60 [.ref b, .int a, .int t] mem (some (.int (t + a))) mem := by
  refine ev_enter (q := q_60) rfl (Nat.le_of_ble_eq_true rfl) rfl ?_
  refine ev_iload_n (p' := 1) i_60_0 rfl rfl ?_
  refine ev_iload_n (p' := 2) i_60_1 rfl rfl ?_
  refine ev_iadd (p' := 3) i_60_2 rfl ?_
  exact ev_iretI i_60_3 rfl ⟨rfl, rfl⟩
theorem s_veeB_6 {g : Nat → Prop} (d : Nat) {mem : pm_M} {b : Nat} (hb : pm_is mem b 6) : pm_ev g (d + 1) 61 [.ref b] mem (some (.int (150))) mem := by
  refine ev_enter (q := q_61) rfl (Nat.le_of_ble_eq_true rfl) rfl ?_
  refine ev_sipush (p' := 3) (v := 150) i_61_0 rfl (by decide) ?_
  exact ev_iretI i_61_3 rfl ⟨rfl, rfl⟩
theorem s_vee_0 {g : Nat → Prop} (d : Nat) {mem : pm_M} {b : Nat} (t o p : Int32) (hb : pm_is mem b 0) : pm_ev g (d + 1) 59 [.ref b, .int t, .int o, .int p] mem (some (.int (vee t o))) mem := by
  refine ev_enter (q := q_59) rfl (Nat.le_of_ble_eq_true rfl) rfl ?_
  refine ev_iload_n (p' := 1) i_59_0 rfl rfl ?_
  refine ev_iload_n (p' := 2) i_59_1 rfl rfl ?_
  refine ev_imul (p' := 3) i_59_2 rfl ?_
  refine ev_bipush (p' := 5) (v := 12) i_59_3 rfl (by decide) ?_
  refine ev_idiv (p' := 6) i_59_5 rfl (by decide) ?_
  exact ev_iretI i_59_6 rfl ⟨rfl, rfl⟩
theorem s_veeR_0 {g : Nat → Prop} (d : Nat) {mem : pm_M} {b : Nat} (a t : Int32) (hb : pm_is mem b 0) : pm_ev g (d + 1) 60 [.ref b, .int a, .int t] mem (some (.int (t + a))) mem := by
  refine ev_enter (q := q_60) rfl (Nat.le_of_ble_eq_true rfl) rfl ?_
  refine ev_iload_n (p' := 1) i_60_0 rfl rfl ?_
  refine ev_iload_n (p' := 2) i_60_1 rfl rfl ?_
  refine ev_iadd (p' := 3) i_60_2 rfl ?_
  exact ev_iretI i_60_3 rfl ⟨rfl, rfl⟩
theorem s_veeB_0 {g : Nat → Prop} (d : Nat) {mem : pm_M} {b : Nat} (hb : pm_is mem b 0) : pm_ev g (d + 1) 61 [.ref b] mem (some (.int (150))) mem := by
  refine ev_enter (q := q_61) rfl (Nat.le_of_ble_eq_true rfl) rfl ?_
  refine ev_sipush (p' := 3) (v := 150) i_61_0 rfl (by decide) ?_
  exact ev_iretI i_61_3 rfl ⟨rfl, rfl⟩
theorem s_vee_1 {g : Nat → Prop} (d : Nat) {mem : pm_M} {b : Nat} (t o p : Int32) (hb : pm_is mem b 1) : pm_ev g (d + 1) 59 [.ref b, .int t, .int o, .int p] mem (some (.int (vee t o))) mem := by
  refine ev_enter (q := q_59) rfl (Nat.le_of_ble_eq_true rfl) rfl ?_
  refine ev_iload_n (p' := 1) i_59_0 rfl rfl ?_
  refine ev_iload_n (p' := 2) i_59_1 rfl rfl ?_
  refine ev_imul (p' := 3) i_59_2 rfl ?_
  refine ev_bipush (p' := 5) (v := 12) i_59_3 rfl (by decide) ?_
  refine ev_idiv (p' := 6) i_59_5 rfl (by decide) ?_
  exact ev_iretI i_59_6 rfl ⟨rfl, rfl⟩
theorem s_veeR_1 {g : Nat → Prop} (d : Nat) {mem : pm_M} {b : Nat} (a t : Int32) (hb : pm_is mem b 1) : pm_ev g (d + 1) 60 [.ref b, .int a, .int t] mem (some (.int (t + a))) mem := by
  refine ev_enter (q := q_60) rfl (Nat.le_of_ble_eq_true rfl) rfl ?_
  refine ev_iload_n (p' := 1) i_60_0 rfl rfl ?_
  refine ev_iload_n (p' := 2) i_60_1 rfl rfl ?_
  refine ev_iadd (p' := 3) i_60_2 rfl ?_
  exact ev_iretI i_60_3 rfl ⟨rfl, rfl⟩
theorem s_veeB_1 {g : Nat → Prop} (d : Nat) {mem : pm_M} {b : Nat} (hb : pm_is mem b 1) : pm_ev g (d + 1) 61 [.ref b] mem (some (.int (150))) mem := by
  refine ev_enter (q := q_61) rfl (Nat.le_of_ble_eq_true rfl) rfl ?_
  refine ev_sipush (p' := 3) (v := 150) i_61_0 rfl (by decide) ?_
  exact ev_iretI i_61_3 rfl ⟨rfl, rfl⟩
theorem s_vee_5 {g : Nat → Prop} (d : Nat) {mem : pm_M} {b : Nat} (t o p : Int32) (hb : pm_is mem b 5) : pm_ev g (d + 1) 59 [.ref b, .int t, .int o, .int p] mem (some (.int (vee t o))) mem := by
  refine ev_enter (q := q_59) rfl (Nat.le_of_ble_eq_true rfl) rfl ?_
  refine ev_iload_n (p' := 1) i_59_0 rfl rfl ?_
  refine ev_iload_n (p' := 2) i_59_1 rfl rfl ?_
  refine ev_imul (p' := 3) i_59_2 rfl ?_
  refine ev_bipush (p' := 5) (v := 12) i_59_3 rfl (by decide) ?_
  refine ev_idiv (p' := 6) i_59_5 rfl (by decide) ?_
  exact ev_iretI i_59_6 rfl ⟨rfl, rfl⟩
theorem s_veeR_5 {g : Nat → Prop} (d : Nat) {mem : pm_M} {b : Nat} (a t : Int32) (hb : pm_is mem b 5) : pm_ev g (d + 1) 60 [.ref b, .int a, .int t] mem (some (.int (t + a))) mem := by
  refine ev_enter (q := q_60) rfl (Nat.le_of_ble_eq_true rfl) rfl ?_
  refine ev_iload_n (p' := 1) i_60_0 rfl rfl ?_
  refine ev_iload_n (p' := 2) i_60_1 rfl rfl ?_
  refine ev_iadd (p' := 3) i_60_2 rfl ?_
  exact ev_iretI i_60_3 rfl ⟨rfl, rfl⟩
theorem s_veeB_5 {g : Nat → Prop} (d : Nat) {mem : pm_M} {b : Nat} (hb : pm_is mem b 5) : pm_ev g (d + 1) 61 [.ref b] mem (some (.int (150))) mem := by
  refine ev_enter (q := q_61) rfl (Nat.le_of_ble_eq_true rfl) rfl ?_
  refine ev_sipush (p' := 3) (v := 150) i_61_0 rfl (by decide) ?_
  exact ev_iretI i_61_3 rfl ⟨rfl, rfl⟩
theorem s_vee_10 {g : Nat → Prop} (d : Nat) {mem : pm_M} {b : Nat} (t o p : Int32) (hb : pm_is mem b 10) : pm_ev g (d + 1) 59 [.ref b, .int t, .int o, .int p] mem (some (.int (vee t o))) mem := by
  refine ev_enter (q := q_59) rfl (Nat.le_of_ble_eq_true rfl) rfl ?_
  refine ev_iload_n (p' := 1) i_59_0 rfl rfl ?_
  refine ev_iload_n (p' := 2) i_59_1 rfl rfl ?_
  refine ev_imul (p' := 3) i_59_2 rfl ?_
  refine ev_bipush (p' := 5) (v := 12) i_59_3 rfl (by decide) ?_
  refine ev_idiv (p' := 6) i_59_5 rfl (by decide) ?_
  exact ev_iretI i_59_6 rfl ⟨rfl, rfl⟩
theorem s_veeR_10 {g : Nat → Prop} (d : Nat) {mem : pm_M} {b : Nat} (a t : Int32) (hb : pm_is mem b 10) : pm_ev g (d + 1) 60 [.ref b, .int a, .int t] mem (some (.int (t + a))) mem := by
  refine ev_enter (q := q_60) rfl (Nat.le_of_ble_eq_true rfl) rfl ?_
  refine ev_iload_n (p' := 1) i_60_0 rfl rfl ?_
  refine ev_iload_n (p' := 2) i_60_1 rfl rfl ?_
  refine ev_iadd (p' := 3) i_60_2 rfl ?_
  exact ev_iretI i_60_3 rfl ⟨rfl, rfl⟩
theorem s_veeB_10 {g : Nat → Prop} (d : Nat) {mem : pm_M} {b : Nat} (hb : pm_is mem b 10) : pm_ev g (d + 1) 61 [.ref b] mem (some (.int (150))) mem := by
  refine ev_enter (q := q_61) rfl (Nat.le_of_ble_eq_true rfl) rfl ?_
  refine ev_sipush (p' := 3) (v := 150) i_61_0 rfl (by decide) ?_
  exact ev_iretI i_61_3 rfl ⟨rfl, rfl⟩
theorem s_tent_6 {g : Nat → Prop} (d : Nat) {mem : pm_M} {b : Nat} (t o p : Int32) (hb : pm_is mem b 6) : pm_ev g (d + 2) 43 [.ref b, .int t, .int o, .int p] mem (some (.int (tent t o))) mem := by
  refine ev_enter (q := q_43) rfl (Nat.le_of_ble_eq_true rfl) rfl ?_
  refine ev_aload_n (p' := 1) i_43_0 rfl rfl ?_
  refine ev_iload_n (p' := 2) i_43_1 rfl rfl ?_
  refine ev_iload_n (p' := 3) i_43_2 rfl rfl ?_
  refine ev_iload_n (p' := 4) i_43_3 rfl rfl ?_
  refine ev_p3I (p' := 7) i_43_4 rfl cl_6_9_6 (by decide) hb (Nat.le_of_ble_eq_true rfl) (s_vee_6 _ _ _ _ hb) ?_
  refine ev_istore (p' := 9) (ls' := [_, _, _, _, _]) i_43_7 rfl rfl (by decide) rfl ?_
  refine ev_iload_n (p' := 10) i_43_9 rfl rfl ?_
  refine ev_bipush (p' := 12) (v := 6) i_43_10 rfl (by decide) ?_
  refine ev_icmp_lt (p' := 15) (tg := 22) i_43_12 rfl rfl (fun c12 => ?_) (fun c12 => ?_)
  · refine ev_iload (p' := 24) i_43_22 rfl rfl ?_
    exact ev_iretI i_43_24 rfl ⟨by simp [tent, c12, Int32.not_le.mpr c12], rfl⟩
  · refine ev_iload (p' := 17) i_43_15 rfl rfl ?_
    refine ev_iconst (p' := 18) (v := 1) i_43_17 rfl (by decide) ?_
    refine ev_iadd (p' := 19) i_43_18 rfl ?_
    refine ev_goto (tg := 24) i_43_19 rfl ?_
    exact ev_iretI i_43_24 rfl ⟨by simp [tent, c12, Int32.not_lt.mp c12], rfl⟩
theorem s_box_0 {g : Nat → Prop} (d : Nat) {mem : pm_M} {b : Nat} (t o p : Int32) (hb : pm_is mem b 0) : pm_ev g (d + 2) 1 [.ref b, .int t, .int o, .int p] mem (some (.int (box t o))) mem := by
  refine ev_enter (q := q_1) rfl (Nat.le_of_ble_eq_true rfl) rfl ?_
  refine ev_aload_n (p' := 1) i_1_0 rfl rfl ?_
  refine ev_iload_n (p' := 2) i_1_1 rfl rfl ?_
  refine ev_iload_n (p' := 3) i_1_2 rfl rfl ?_
  refine ev_bipush (p' := 5) (v := 6) i_1_3 rfl (by decide) ?_
  refine ev_icmp_gt (p' := 8) (tg := 14) i_1_5 rfl rfl (fun c5 => ?_) (fun c5 => ?_)
  · refine ev_iconst (p' := 15) (v := 2) i_1_14 rfl (by decide) ?_
    refine ev_bipush (p' := 17) (v := 12) i_1_15 rfl (by decide) ?_
    refine ev_iload_n (p' := 18) i_1_17 rfl rfl ?_
    refine ev_isub (p' := 19) i_1_18 rfl ?_
    refine ev_imul (p' := 20) i_1_19 rfl ?_
    refine ev_iload_n (p' := 21) i_1_20 rfl rfl ?_
    refine ev_p3I (p' := 24) i_1_21 rfl cl_0_9_0 (by decide) hb (Nat.le_of_ble_eq_true rfl) (s_vee_0 _ _ _ _ hb) ?_
    exact ev_iretI i_1_24 rfl ⟨by simp [box, c5, Int32.not_le.mpr c5], rfl⟩
  · refine ev_iconst (p' := 9) (v := 2) i_1_8 rfl (by decide) ?_
    refine ev_iload_n (p' := 10) i_1_9 rfl rfl ?_
    refine ev_imul (p' := 11) i_1_10 rfl ?_
    refine ev_goto (tg := 20) i_1_11 rfl ?_
    refine ev_iload_n (p' := 21) i_1_20 rfl rfl ?_
    refine ev_p3I (p' := 24) i_1_21 rfl cl_0_9_0 (by decide) hb (Nat.le_of_ble_eq_true rfl) (s_vee_0 _ _ _ _ hb) ?_
    exact ev_iretI i_1_24 rfl ⟨by simp [box, c5, Int32.not_lt.mp c5], rfl⟩
theorem s_boxR_0 {g : Nat → Prop} (d : Nat) {mem : pm_M} {b : Nat} (a t : Int32) (hb : pm_is mem b 0) : pm_ev g (d + 2) 2 [.ref b, .int a, .int t] mem (some (.int (t + a + 2 * a))) mem := by
  refine ev_enter (q := q_2) rfl (Nat.le_of_ble_eq_true rfl) rfl ?_
  refine ev_aload_n (p' := 1) i_2_0 rfl rfl ?_
  refine ev_iload_n (p' := 2) i_2_1 rfl rfl ?_
  refine ev_iload_n (p' := 3) i_2_2 rfl rfl ?_
  refine ev_p2I (p' := 6) i_2_3 rfl cl_0_13_0 (by decide) hb (Nat.le_of_ble_eq_true rfl) (s_veeR_0 _ _ _ hb) ?_
  refine ev_iconst (p' := 7) (v := 2) i_2_6 rfl (by decide) ?_
  refine ev_iload_n (p' := 8) i_2_7 rfl rfl ?_
  refine ev_imul (p' := 9) i_2_8 rfl ?_
  refine ev_iadd (p' := 10) i_2_9 rfl ?_
  exact ev_iretI i_2_10 rfl ⟨rfl, rfl⟩
theorem s_boxB_0 {g : Nat → Prop} (d : Nat) {mem : pm_M} {b : Nat} (hb : pm_is mem b 0) : pm_ev g (d + 2) 3 [.ref b] mem (some (.int (200))) mem := by
  refine ev_enter (q := q_3) rfl (Nat.le_of_ble_eq_true rfl) rfl ?_
  refine ev_aload_n (p' := 1) i_3_0 rfl rfl ?_
  refine ev_p0I (p' := 4) i_3_1 rfl cl_0_17_0 (by decide) hb (Nat.le_of_ble_eq_true rfl) (s_veeB_0 _ hb) ?_
  refine ev_bipush (p' := 6) (v := 50) i_3_4 rfl (by decide) ?_
  refine ev_iadd (p' := 7) i_3_6 rfl ?_
  exact ev_iretI i_3_7 rfl ⟨by decide, rfl⟩
theorem s_box_5 {g : Nat → Prop} (d : Nat) {mem : pm_M} {b : Nat} (t o p : Int32) (hb : pm_is mem b 5) : pm_ev g (d + 2) 1 [.ref b, .int t, .int o, .int p] mem (some (.int (box t o))) mem := by
  refine ev_enter (q := q_1) rfl (Nat.le_of_ble_eq_true rfl) rfl ?_
  refine ev_aload_n (p' := 1) i_1_0 rfl rfl ?_
  refine ev_iload_n (p' := 2) i_1_1 rfl rfl ?_
  refine ev_iload_n (p' := 3) i_1_2 rfl rfl ?_
  refine ev_bipush (p' := 5) (v := 6) i_1_3 rfl (by decide) ?_
  refine ev_icmp_gt (p' := 8) (tg := 14) i_1_5 rfl rfl (fun c5 => ?_) (fun c5 => ?_)
  · refine ev_iconst (p' := 15) (v := 2) i_1_14 rfl (by decide) ?_
    refine ev_bipush (p' := 17) (v := 12) i_1_15 rfl (by decide) ?_
    refine ev_iload_n (p' := 18) i_1_17 rfl rfl ?_
    refine ev_isub (p' := 19) i_1_18 rfl ?_
    refine ev_imul (p' := 20) i_1_19 rfl ?_
    refine ev_iload_n (p' := 21) i_1_20 rfl rfl ?_
    refine ev_p3I (p' := 24) i_1_21 rfl cl_0_9_5 (by decide) hb (Nat.le_of_ble_eq_true rfl) (s_vee_5 _ _ _ _ hb) ?_
    exact ev_iretI i_1_24 rfl ⟨by simp [box, c5, Int32.not_le.mpr c5], rfl⟩
  · refine ev_iconst (p' := 9) (v := 2) i_1_8 rfl (by decide) ?_
    refine ev_iload_n (p' := 10) i_1_9 rfl rfl ?_
    refine ev_imul (p' := 11) i_1_10 rfl ?_
    refine ev_goto (tg := 20) i_1_11 rfl ?_
    refine ev_iload_n (p' := 21) i_1_20 rfl rfl ?_
    refine ev_p3I (p' := 24) i_1_21 rfl cl_0_9_5 (by decide) hb (Nat.le_of_ble_eq_true rfl) (s_vee_5 _ _ _ _ hb) ?_
    exact ev_iretI i_1_24 rfl ⟨by simp [box, c5, Int32.not_lt.mp c5], rfl⟩
theorem s_boxR_5 {g : Nat → Prop} (d : Nat) {mem : pm_M} {b : Nat} (a t : Int32) (hb : pm_is mem b 5) : pm_ev g (d + 2) 2 [.ref b, .int a, .int t] mem (some (.int (t + a + 2 * a))) mem := by
  refine ev_enter (q := q_2) rfl (Nat.le_of_ble_eq_true rfl) rfl ?_
  refine ev_aload_n (p' := 1) i_2_0 rfl rfl ?_
  refine ev_iload_n (p' := 2) i_2_1 rfl rfl ?_
  refine ev_iload_n (p' := 3) i_2_2 rfl rfl ?_
  refine ev_p2I (p' := 6) i_2_3 rfl cl_0_13_5 (by decide) hb (Nat.le_of_ble_eq_true rfl) (s_veeR_5 _ _ _ hb) ?_
  refine ev_iconst (p' := 7) (v := 2) i_2_6 rfl (by decide) ?_
  refine ev_iload_n (p' := 8) i_2_7 rfl rfl ?_
  refine ev_imul (p' := 9) i_2_8 rfl ?_
  refine ev_iadd (p' := 10) i_2_9 rfl ?_
  exact ev_iretI i_2_10 rfl ⟨rfl, rfl⟩
theorem s_boxB_5 {g : Nat → Prop} (d : Nat) {mem : pm_M} {b : Nat} (hb : pm_is mem b 5) : pm_ev g (d + 2) 3 [.ref b] mem (some (.int (200))) mem := by
  refine ev_enter (q := q_3) rfl (Nat.le_of_ble_eq_true rfl) rfl ?_
  refine ev_aload_n (p' := 1) i_3_0 rfl rfl ?_
  refine ev_p0I (p' := 4) i_3_1 rfl cl_0_17_5 (by decide) hb (Nat.le_of_ble_eq_true rfl) (s_veeB_5 _ hb) ?_
  refine ev_bipush (p' := 6) (v := 50) i_3_4 rfl (by decide) ?_
  refine ev_iadd (p' := 7) i_3_6 rfl ?_
  exact ev_iretI i_3_7 rfl ⟨by decide, rfl⟩
theorem s_flap_1 {g : Nat → Prop} (d : Nat) {mem : pm_M} {b : Nat} (t o p : Int32) (hb : pm_is mem b 1) : pm_ev g (d + 2) 5 [.ref b, .int t, .int o, .int p] mem (some (.int (flap t o))) mem := by
  refine ev_enter (q := q_5) rfl (Nat.le_of_ble_eq_true rfl) rfl ?_
  refine ev_iload_n (p' := 1) i_5_0 rfl rfl ?_
  refine ev_iconst (p' := 2) (v := 4) i_5_1 rfl (by decide) ?_
  refine ev_icmp_ge (p' := 5) (tg := 9) i_5_2 rfl rfl (fun c2 => ?_) (fun c2 => ?_)
  · refine ev_aload_n (p' := 10) i_5_9 rfl rfl ?_
    refine ev_iload_n (p' := 11) i_5_10 rfl rfl ?_
    refine ev_iload_n (p' := 12) i_5_11 rfl rfl ?_
    refine ev_iload_n (p' := 13) i_5_12 rfl rfl ?_
    refine ev_p3I (p' := 16) i_5_13 rfl cl_1_7_1 (by decide) hb (Nat.le_of_ble_eq_true rfl) (s_vee_1 _ _ _ _ hb) ?_
    exact ev_iretI i_5_16 rfl ⟨by simp [flap, c2, Int32.not_lt.mpr c2], rfl⟩
  · refine ev_iconst (p' := 6) (v := 0) i_5_5 rfl (by decide) ?_
    refine ev_goto (tg := 16) i_5_6 rfl ?_
    exact ev_iretI i_5_16 rfl ⟨by simp [flap, c2, Int32.not_le.mp c2], rfl⟩
theorem s_flapR_1 {g : Nat → Prop} (d : Nat) {mem : pm_M} {b : Nat} (a t : Int32) (hb : pm_is mem b 1) : pm_ev g (d + 2) 6 [.ref b, .int a, .int t] mem (some (.int (t + a - a))) mem := by
  refine ev_enter (q := q_6) rfl (Nat.le_of_ble_eq_true rfl) rfl ?_
  refine ev_aload_n (p' := 1) i_6_0 rfl rfl ?_
  refine ev_iload_n (p' := 2) i_6_1 rfl rfl ?_
  refine ev_iload_n (p' := 3) i_6_2 rfl rfl ?_
  refine ev_p2I (p' := 6) i_6_3 rfl cl_1_11_1 (by decide) hb (Nat.le_of_ble_eq_true rfl) (s_veeR_1 _ _ _ hb) ?_
  refine ev_iload_n (p' := 7) i_6_6 rfl rfl ?_
  refine ev_isub (p' := 8) i_6_7 rfl ?_
  exact ev_iretI i_6_8 rfl ⟨rfl, rfl⟩
theorem s_flap_10 {g : Nat → Prop} (d : Nat) {mem : pm_M} {b : Nat} (t o p : Int32) (hb : pm_is mem b 10) : pm_ev g (d + 2) 5 [.ref b, .int t, .int o, .int p] mem (some (.int (flap t o))) mem := by
  refine ev_enter (q := q_5) rfl (Nat.le_of_ble_eq_true rfl) rfl ?_
  refine ev_iload_n (p' := 1) i_5_0 rfl rfl ?_
  refine ev_iconst (p' := 2) (v := 4) i_5_1 rfl (by decide) ?_
  refine ev_icmp_ge (p' := 5) (tg := 9) i_5_2 rfl rfl (fun c2 => ?_) (fun c2 => ?_)
  · refine ev_aload_n (p' := 10) i_5_9 rfl rfl ?_
    refine ev_iload_n (p' := 11) i_5_10 rfl rfl ?_
    refine ev_iload_n (p' := 12) i_5_11 rfl rfl ?_
    refine ev_iload_n (p' := 13) i_5_12 rfl rfl ?_
    refine ev_p3I (p' := 16) i_5_13 rfl cl_1_7_10 (by decide) hb (Nat.le_of_ble_eq_true rfl) (s_vee_10 _ _ _ _ hb) ?_
    exact ev_iretI i_5_16 rfl ⟨by simp [flap, c2, Int32.not_lt.mpr c2], rfl⟩
  · refine ev_iconst (p' := 6) (v := 0) i_5_5 rfl (by decide) ?_
    refine ev_goto (tg := 16) i_5_6 rfl ?_
    exact ev_iretI i_5_16 rfl ⟨by simp [flap, c2, Int32.not_le.mp c2], rfl⟩
theorem s_flapR_10 {g : Nat → Prop} (d : Nat) {mem : pm_M} {b : Nat} (a t : Int32) (hb : pm_is mem b 10) : pm_ev g (d + 2) 6 [.ref b, .int a, .int t] mem (some (.int (t + a - a))) mem := by
  refine ev_enter (q := q_6) rfl (Nat.le_of_ble_eq_true rfl) rfl ?_
  refine ev_aload_n (p' := 1) i_6_0 rfl rfl ?_
  refine ev_iload_n (p' := 2) i_6_1 rfl rfl ?_
  refine ev_iload_n (p' := 3) i_6_2 rfl rfl ?_
  refine ev_p2I (p' := 6) i_6_3 rfl cl_1_11_10 (by decide) hb (Nat.le_of_ble_eq_true rfl) (s_veeR_10 _ _ _ hb) ?_
  refine ev_iload_n (p' := 7) i_6_6 rfl rfl ?_
  refine ev_isub (p' := 8) i_6_7 rfl ?_
  exact ev_iretI i_6_8 rfl ⟨rfl, rfl⟩
theorem s_stage_5 {g : Nat → Prop} (d : Nat) {mem : pm_M} {b : Nat} (t o p : Int32) (hb : pm_is mem b 5) : pm_ev g (d + 3) 40 [.ref b, .int t, .int o, .int p] mem (some (.int (stage t o))) mem := by
  refine ev_enter (q := q_40) rfl (Nat.le_of_ble_eq_true rfl) rfl ?_
  refine ev_aload_n (p' := 1) i_40_0 rfl rfl ?_
  refine ev_iload_n (p' := 2) i_40_1 rfl rfl ?_
  refine ev_iload_n (p' := 3) i_40_2 rfl rfl ?_
  refine ev_iload_n (p' := 4) i_40_3 rfl rfl ?_
  refine ev_p3I (p' := 7) i_40_4 rfl cl_5_7_5 (by decide) hb (Nat.le_of_ble_eq_true rfl) (s_box_5 _ _ _ _ hb) ?_
  refine ev_iconst (p' := 8) (v := 1) i_40_7 rfl (by decide) ?_
  refine ev_iadd (p' := 9) i_40_8 rfl ?_
  refine ev_iconst (p' := 10) (v := 2) i_40_9 rfl (by decide) ?_
  refine ev_idiv (p' := 11) i_40_10 rfl (by decide) ?_
  exact ev_iretI i_40_11 rfl ⟨rfl, rfl⟩
theorem s_stageB_5 {g : Nat → Prop} (d : Nat) {mem : pm_M} {b : Nat} (hb : pm_is mem b 5) : pm_ev g (d + 3) 41 [.ref b] mem (some (.int (400))) mem := by
  refine ev_enter (q := q_41) rfl (Nat.le_of_ble_eq_true rfl) rfl ?_
  refine ev_iconst (p' := 1) (v := 2) i_41_0 rfl (by decide) ?_
  refine ev_aload_n (p' := 2) i_41_1 rfl rfl ?_
  refine ev_p0I (p' := 5) i_41_2 rfl cl_5_11_5 (by decide) hb (Nat.le_of_ble_eq_true rfl) (s_boxB_5 _ hb) ?_
  refine ev_imul (p' := 6) i_41_5 rfl ?_
  exact ev_iretI i_41_6 rfl ⟨by decide, rfl⟩
theorem s_wheel_10 {g : Nat → Prop} (d : Nat) {mem : pm_M} {b : Nat} (t o p : Int32) (hb : pm_is mem b 10) : pm_ev g (d + 3) 67 [.ref b, .int t, .int o, .int p] mem (some (.int (wheel t o p))) mem := by
  refine ev_enter (q := q_67) rfl (Nat.le_of_ble_eq_true rfl) rfl ?_
  refine ev_aload_n (p' := 1) i_67_0 rfl rfl ?_
  refine ev_iload_n (p' := 2) i_67_1 rfl rfl ?_
  refine ev_iload_n (p' := 3) i_67_2 rfl rfl ?_
  refine ev_iload_n (p' := 4) i_67_3 rfl rfl ?_
  refine ev_p3I (p' := 7) i_67_4 rfl cl_10_7_10 (by decide) hb (Nat.le_of_ble_eq_true rfl) (s_flap_10 _ _ _ _ hb) ?_
  refine ev_istore (p' := 9) (ls' := [_, _, _, _, _]) i_67_7 rfl rfl (by decide) rfl ?_
  refine ev_iload (p' := 11) i_67_9 rfl rfl ?_
  refine ev_iconst (p' := 12) (v := 1) i_67_11 rfl (by decide) ?_
  refine ev_icmp_lt (p' := 15) (tg := 22) i_67_12 rfl rfl (fun c12 => ?_) (fun c12 => ?_)
  · refine ev_iload (p' := 24) i_67_22 rfl rfl ?_
    exact ev_iretI i_67_24 rfl ⟨by simp [wheel, c12, Int32.not_le.mpr c12], rfl⟩
  · refine ev_iload (p' := 17) i_67_15 rfl rfl ?_
    refine ev_iload_n (p' := 18) i_67_17 rfl rfl ?_
    refine ev_iadd (p' := 19) i_67_18 rfl ?_
    refine ev_goto (tg := 24) i_67_19 rfl ?_
    exact ev_iretI i_67_24 rfl ⟨by simp [wheel, c12, Int32.not_lt.mp c12], rfl⟩
theorem s_wheelR_10 {g : Nat → Prop} (d : Nat) {mem : pm_M} {b : Nat} (a t : Int32) (hb : pm_is mem b 10) : pm_ev g (d + 3) 68 [.ref b, .int a, .int t] mem (some (.int (t + a - a + 3))) mem := by
  refine ev_enter (q := q_68) rfl (Nat.le_of_ble_eq_true rfl) rfl ?_
  refine ev_aload_n (p' := 1) i_68_0 rfl rfl ?_
  refine ev_iload_n (p' := 2) i_68_1 rfl rfl ?_
  refine ev_iload_n (p' := 3) i_68_2 rfl rfl ?_
  refine ev_p2I (p' := 6) i_68_3 rfl cl_10_11_10 (by decide) hb (Nat.le_of_ble_eq_true rfl) (s_flapR_10 _ _ _ hb) ?_
  refine ev_iconst (p' := 7) (v := 3) i_68_6 rfl (by decide) ?_
  refine ev_iadd (p' := 8) i_68_7 rfl ?_
  exact ev_iretI i_68_8 rfl ⟨rfl, rfl⟩
theorem s_wheelB_10 {g : Nat → Prop} (d : Nat) {mem : pm_M} {b : Nat} (hb : pm_is mem b 10) : pm_ev g (d + 2) 69 [.ref b] mem (some (.int (75))) mem := by
  refine ev_enter (q := q_69) rfl (Nat.le_of_ble_eq_true rfl) rfl ?_
  refine ev_aload_n (p' := 1) i_69_0 rfl rfl ?_
  refine ev_p0I (p' := 4) i_69_1 rfl cl_10_15_10 (by decide) hb (Nat.le_of_ble_eq_true rfl) (s_veeB_10 _ hb) ?_
  refine ev_iconst (p' := 5) (v := 2) i_69_4 rfl (by decide) ?_
  refine ev_idiv (p' := 6) i_69_5 rfl (by decide) ?_
  exact ev_iretI i_69_6 rfl ⟨by decide, rfl⟩
theorem s_in {g : Nat → Prop} (d : Nat) {mem : pm_M} (v lo hi : Int32) : pm_ev g (d + 1) 134 [.int v, .int lo, .int hi] mem (some (.int (B (lo ≤ v ∧ v ≤ hi)))) mem := by
  refine ev_enter (q := q_134) rfl (Nat.le_of_ble_eq_true rfl) rfl ?_
  refine ev_iload_n (p' := 1) i_134_0 rfl rfl ?_
  refine ev_iload_n (p' := 2) i_134_1 rfl rfl ?_
  refine ev_icmp_lt (p' := 5) (tg := 14) i_134_2 rfl rfl (fun c2 => ?_) (fun c2 => ?_)
  · refine ev_iconst (p' := 15) (v := 0) i_134_14 rfl (by decide) ?_
    exact ev_iret i_134_15 rfl rfl ⟨by simp [B, c2, Int32.not_le.mpr c2], rfl⟩
  · refine ev_iload_n (p' := 6) i_134_5 rfl rfl ?_
    refine ev_iload_n (p' := 7) i_134_6 rfl rfl ?_
    refine ev_icmp_gt (p' := 10) (tg := 14) i_134_7 rfl rfl (fun c7 => ?_) (fun c7 => ?_)
    · refine ev_iconst (p' := 15) (v := 0) i_134_14 rfl (by decide) ?_
      exact ev_iret i_134_15 rfl rfl ⟨by simp [B, c2, Int32.not_lt.mp c2, c7, Int32.not_le.mpr c7], rfl⟩
    · refine ev_iconst (p' := 11) (v := 1) i_134_10 rfl (by decide) ?_
      refine ev_goto (tg := 15) i_134_11 rfl ?_
      exact ev_iret i_134_15 rfl rfl ⟨by simp [B, c2, Int32.not_lt.mp c2, c7, Int32.not_lt.mp c7], rfl⟩
theorem s_mhas {g : Nat → Prop} (d : Nat) {mem : pm_M} (v i : Int32) : pm_ev g (d + 1) 135 [.int v, .int i] mem (some (.int (B ((v >>> (i &&& 31)) &&& 1 = 1)))) mem := by
  refine ev_enter (q := q_135) rfl (Nat.le_of_ble_eq_true rfl) rfl ?_
  refine ev_iload_n (p' := 1) i_135_0 rfl rfl ?_
  refine ev_iload_n (p' := 2) i_135_1 rfl rfl ?_
  refine ev_ishr (p' := 3) i_135_2 rfl ?_
  refine ev_iconst (p' := 4) (v := 1) i_135_3 rfl (by decide) ?_
  refine ev_iand (p' := 5) i_135_4 rfl ?_
  refine ev_iconst (p' := 6) (v := 1) i_135_5 rfl (by decide) ?_
  refine ev_icmp_ne (p' := 9) (tg := 13) i_135_6 rfl rfl (fun c6 => ?_) (fun c6 => ?_)
  · refine ev_iconst (p' := 14) (v := 0) i_135_13 rfl (by decide) ?_
    exact ev_iret i_135_14 rfl rfl ⟨by simp [B, c6], rfl⟩
  · refine ev_iconst (p' := 10) (v := 1) i_135_9 rfl (by decide) ?_
    refine ev_goto (tg := 14) i_135_10 rfl ?_
    exact ev_iret i_135_14 rfl rfl ⟨by simp [B, c6], rfl⟩
theorem s_lesser {g : Nat → Prop} (d : Nat) {mem : pm_M} (x y : Int32) : pm_ev g (d + 1) 136 [.int x, .int y] mem (some (.int (if x < y then x else y))) mem := by
  refine ev_enter (q := q_136) rfl (Nat.le_of_ble_eq_true rfl) rfl ?_
  refine ev_iload_n (p' := 1) i_136_0 rfl rfl ?_
  refine ev_iload_n (p' := 2) i_136_1 rfl rfl ?_
  refine ev_icmp_ge (p' := 5) (tg := 9) i_136_2 rfl rfl (fun c2 => ?_) (fun c2 => ?_)
  · refine ev_iload_n (p' := 10) i_136_9 rfl rfl ?_
    exact ev_iretI i_136_10 rfl ⟨by simp [c2, Int32.not_lt.mpr c2], rfl⟩
  · refine ev_iload_n (p' := 6) i_136_5 rfl rfl ?_
    refine ev_goto (tg := 10) i_136_6 rfl ?_
    exact ev_iretI i_136_10 rfl ⟨by simp [c2, Int32.not_le.mp c2], rfl⟩
theorem s_greater {g : Nat → Prop} (d : Nat) {mem : pm_M} (x y : Int32) : pm_ev g (d + 1) 137 [.int x, .int y] mem (some (.int (if y < x then x else y))) mem := by
  refine ev_enter (q := q_137) rfl (Nat.le_of_ble_eq_true rfl) rfl ?_
  refine ev_iload_n (p' := 1) i_137_0 rfl rfl ?_
  refine ev_iload_n (p' := 2) i_137_1 rfl rfl ?_
  refine ev_icmp_le (p' := 5) (tg := 9) i_137_2 rfl rfl (fun c2 => ?_) (fun c2 => ?_)
  · refine ev_iload_n (p' := 10) i_137_9 rfl rfl ?_
    exact ev_iretI i_137_10 rfl ⟨by simp [c2, Int32.not_lt.mpr c2], rfl⟩
  · refine ev_iload_n (p' := 6) i_137_5 rfl rfl ?_
    refine ev_goto (tg := 10) i_137_6 rfl ?_
    exact ev_iretI i_137_10 rfl ⟨by simp [c2, Int32.not_le.mp c2], rfl⟩
theorem s_isOpening {g : Nat → Prop} (d : Nat) {mem : pm_M} (v : Int32) : pm_ev g (d + 2) 142 [.int v] mem (some (.int (B (0 ≤ v ∧ v ≤ 12)))) mem := by
  refine ev_enter (q := q_142) rfl (Nat.le_of_ble_eq_true rfl) rfl ?_
  refine ev_iload_n (p' := 1) i_142_0 rfl rfl ?_
  refine ev_iconst (p' := 2) (v := 0) i_142_1 rfl (by decide) ?_
  refine ev_bipush (p' := 4) (v := 12) i_142_2 rfl (by decide) ?_
  refine ev_s3I (p' := 7) i_142_4 rfl cl_12_115_0 (by decide) (Nat.le_of_ble_eq_true rfl) (s_in _ _ _ _) ?_
  exact ev_iret i_142_7 rfl B_nar ⟨rfl, rfl⟩
theorem s_mLetter {g : Nat → Prop} (d : Nat) {mem : pm_M} (v : Int32) : pm_ev g (d + 2) 151 [.int v] mem (some (.int (B (97 ≤ v ∧ v ≤ 122)))) mem := by
  refine ev_enter (q := q_151) rfl (Nat.le_of_ble_eq_true rfl) rfl ?_
  refine ev_iload_n (p' := 1) i_151_0 rfl rfl ?_
  refine ev_bipush (p' := 3) (v := 97) i_151_1 rfl (by decide) ?_
  refine ev_bipush (p' := 5) (v := 122) i_151_3 rfl (by decide) ?_
  refine ev_s3I (p' := 8) i_151_5 rfl cl_12_115_0 (by decide) (Nat.le_of_ble_eq_true rfl) (s_in _ _ _ _) ?_
  exact ev_iret i_151_8 rfl B_nar ⟨rfl, rfl⟩
theorem s_mFigure {g : Nat → Prop} (d : Nat) {mem : pm_M} (v : Int32) : pm_ev g (d + 2) 152 [.int v] mem (some (.int (B (48 ≤ v ∧ v ≤ 57)))) mem := by
  refine ev_enter (q := q_152) rfl (Nat.le_of_ble_eq_true rfl) rfl ?_
  refine ev_iload_n (p' := 1) i_152_0 rfl rfl ?_
  refine ev_bipush (p' := 3) (v := 48) i_152_1 rfl (by decide) ?_
  refine ev_bipush (p' := 5) (v := 57) i_152_3 rfl (by decide) ?_
  refine ev_s3I (p' := 8) i_152_5 rfl cl_12_115_0 (by decide) (Nat.le_of_ble_eq_true rfl) (s_in _ _ _ _) ?_
  exact ev_iret i_152_8 rfl B_nar ⟨rfl, rfl⟩
