/-! ===== the reference: how high ===== -/
def gR : Nat → Prop := fun k => 285 ≤ k
theorem gr {k : Nat} (h : 285 ≤ k) : gR k := h
theorem and1 (x : Int32) : x &&& 1 = 0 ∨ x &&& 1 = 1 := by
  have h : (x &&& 1).toBitVec = x.toBitVec &&& 1#32 := rfl
  have h2 : x.toBitVec &&& 1#32 = 0#32 ∨ x.toBitVec &&& 1#32 = 1#32 := by
    rw [BitVec.and_one_eq_setWidth_ofBool_getLsbD]
    cases x.toBitVec.getLsbD 0
    · left; rfl
    · right; rfl
  rcases h2 with h2 | h2
  · left; exact Int32.toBitVec_inj.mp (h.trans h2)
  · right; exact Int32.toBitVec_inj.mp (h.trans h2)
theorem and1_iff (x : Int32) : x &&& 1 = 1 ↔ ¬ x &&& 1 = 0 := by
  rcases and1 x with h | h
  · rw [h]; decide
  · rw [h]; decide
def mb (t o : Int32) : Int32 := t * 2 * (if o ≤ 6 then o else 12 - o) / 12
def mrN (k : Nat) (t o p : Int32) : Int32 := match k with
  | 1 => if o < 6 then vee t o else vee t o + 1
  | 2 => mb t o
  | 3 => flap t o
  | 4 => (mb t o + 1) / 2
  | 5 => if flap t o ≤ 0 then 0 else flap t o + p
  | _ => vee t o
theorem mrN_eq : ∀ k, k < 6 → ∀ t, t < 10 → ∀ o, o < 13 → ∀ p, p < 4 → mrN k (nI t) (nI o) (nI p) = rsN k (nI t) (nI o) (nI p) := by decide +kernel
theorem s_risesBy {g : Nat → Prop} (d : Nat) {mem : pm_M} {k : Nat} (hk6 : k < 6) (o t p : Int32) : pm_ev g (d + 1) 165 [.int (nI k), .int o, .int t, .int p] mem (some (.int (mrN k t o p))) mem := by
  refine ev_enter (q := q_165) rfl (Nat.le_of_ble_eq_true rfl) rfl ?_
  match k, hk6 with
  | 0, _ =>
    refine ev_iload_n (p' := 1) i_165_0 rfl rfl ?_
    refine ev_iload_n (p' := 2) i_165_1 rfl rfl ?_
    refine ev_imul (p' := 3) i_165_2 rfl ?_
    refine ev_bipush (p' := 5) (v := 12) i_165_3 rfl (by decide) ?_
    refine ev_idiv (p' := 6) i_165_5 rfl (by decide) ?_
    refine ev_istore (p' := 8) (ls' := [_, _, _, _, _, _, _]) i_165_6 rfl rfl (by decide) rfl ?_
    refine ev_iload_n (p' := 9) i_165_8 rfl rfl ?_
    refine ev_iconst (p' := 10) (v := 2) i_165_9 rfl (by decide) ?_
    refine ev_imul (p' := 11) i_165_10 rfl ?_
    refine ev_iload_n (p' := 12) i_165_11 rfl rfl ?_
    refine ev_bipush (p' := 14) (v := 6) i_165_12 rfl (by decide) ?_
    refine ev_icmp_gt (p' := 17) (tg := 21) i_165_14 rfl rfl (fun c14 => ?_) (fun c14 => ?_)
    · refine ev_bipush (p' := 23) (v := 12) i_165_21 rfl (by decide) ?_
      refine ev_iload_n (p' := 24) i_165_23 rfl rfl ?_
      refine ev_isub (p' := 25) i_165_24 rfl ?_
      refine ev_imul (p' := 26) i_165_25 rfl ?_
      refine ev_bipush (p' := 28) (v := 12) i_165_26 rfl (by decide) ?_
      refine ev_idiv (p' := 29) i_165_28 rfl (by decide) ?_
      refine ev_istore (p' := 31) (ls' := [_, _, _, _, _, _, _]) i_165_29 rfl rfl (by decide) rfl ?_
      refine ev_iload_n (p' := 32) i_165_31 rfl rfl ?_
      refine ev_iconst (p' := 33) (v := 4) i_165_32 rfl (by decide) ?_
      refine ev_icmp_ge (p' := 36) (tg := 40) i_165_33 rfl rfl (fun c33 => ?_) (fun c33 => ?_)
      · refine ev_iload (p' := 42) i_165_40 rfl rfl ?_
        refine ev_istore (p' := 44) (ls' := [_, _, _, _, _, _, _]) i_165_42 rfl rfl (by decide) rfl ?_
        refine ev_iload_n (p' := 45) i_165_44 rfl rfl ?_
        refine ev_tsOut (tg := 123) i_165_45 (by decide) (by decide) ?_
        refine ev_iload (p' := 125) i_165_123 rfl rfl ?_
        exact ev_iretI i_165_125 rfl ⟨by simp [mrN, mb, flap, vee, c14, Int32.not_le.mpr c14, c33, Int32.not_lt.mpr c33], rfl⟩
      · refine ev_iconst (p' := 37) (v := 0) i_165_36 rfl (by decide) ?_
        refine ev_goto (tg := 42) i_165_37 rfl ?_
        refine ev_istore (p' := 44) (ls' := [_, _, _, _, _, _, _]) i_165_42 rfl rfl (by decide) rfl ?_
        refine ev_iload_n (p' := 45) i_165_44 rfl rfl ?_
        refine ev_tsOut (tg := 123) i_165_45 (by decide) (by decide) ?_
        refine ev_iload (p' := 125) i_165_123 rfl rfl ?_
        exact ev_iretI i_165_125 rfl ⟨by simp [mrN, mb, flap, vee, c14, Int32.not_le.mpr c14, c33, Int32.not_le.mp c33], rfl⟩
    · refine ev_iload_n (p' := 18) i_165_17 rfl rfl ?_
      refine ev_goto (tg := 25) i_165_18 rfl ?_
      refine ev_imul (p' := 26) i_165_25 rfl ?_
      refine ev_bipush (p' := 28) (v := 12) i_165_26 rfl (by decide) ?_
      refine ev_idiv (p' := 29) i_165_28 rfl (by decide) ?_
      refine ev_istore (p' := 31) (ls' := [_, _, _, _, _, _, _]) i_165_29 rfl rfl (by decide) rfl ?_
      refine ev_iload_n (p' := 32) i_165_31 rfl rfl ?_
      refine ev_iconst (p' := 33) (v := 4) i_165_32 rfl (by decide) ?_
      refine ev_icmp_ge (p' := 36) (tg := 40) i_165_33 rfl rfl (fun c33 => ?_) (fun c33 => ?_)
      · refine ev_iload (p' := 42) i_165_40 rfl rfl ?_
        refine ev_istore (p' := 44) (ls' := [_, _, _, _, _, _, _]) i_165_42 rfl rfl (by decide) rfl ?_
        refine ev_iload_n (p' := 45) i_165_44 rfl rfl ?_
        refine ev_tsOut (tg := 123) i_165_45 (by decide) (by decide) ?_
        refine ev_iload (p' := 125) i_165_123 rfl rfl ?_
        exact ev_iretI i_165_125 rfl ⟨by simp [mrN, mb, flap, vee, c14, Int32.not_lt.mp c14, c33, Int32.not_lt.mpr c33], rfl⟩
      · refine ev_iconst (p' := 37) (v := 0) i_165_36 rfl (by decide) ?_
        refine ev_goto (tg := 42) i_165_37 rfl ?_
        refine ev_istore (p' := 44) (ls' := [_, _, _, _, _, _, _]) i_165_42 rfl rfl (by decide) rfl ?_
        refine ev_iload_n (p' := 45) i_165_44 rfl rfl ?_
        refine ev_tsOut (tg := 123) i_165_45 (by decide) (by decide) ?_
        refine ev_iload (p' := 125) i_165_123 rfl rfl ?_
        exact ev_iretI i_165_125 rfl ⟨by simp [mrN, mb, flap, vee, c14, Int32.not_lt.mp c14, c33, Int32.not_le.mp c33], rfl⟩
  | 1, _ =>
    refine ev_iload_n (p' := 1) i_165_0 rfl rfl ?_
    refine ev_iload_n (p' := 2) i_165_1 rfl rfl ?_
    refine ev_imul (p' := 3) i_165_2 rfl ?_
    refine ev_bipush (p' := 5) (v := 12) i_165_3 rfl (by decide) ?_
    refine ev_idiv (p' := 6) i_165_5 rfl (by decide) ?_
    refine ev_istore (p' := 8) (ls' := [_, _, _, _, _, _, _]) i_165_6 rfl rfl (by decide) rfl ?_
    refine ev_iload_n (p' := 9) i_165_8 rfl rfl ?_
    refine ev_iconst (p' := 10) (v := 2) i_165_9 rfl (by decide) ?_
    refine ev_imul (p' := 11) i_165_10 rfl ?_
    refine ev_iload_n (p' := 12) i_165_11 rfl rfl ?_
    refine ev_bipush (p' := 14) (v := 6) i_165_12 rfl (by decide) ?_
    refine ev_icmp_gt (p' := 17) (tg := 21) i_165_14 rfl rfl (fun c14 => ?_) (fun c14 => ?_)
    · refine ev_bipush (p' := 23) (v := 12) i_165_21 rfl (by decide) ?_
      refine ev_iload_n (p' := 24) i_165_23 rfl rfl ?_
      refine ev_isub (p' := 25) i_165_24 rfl ?_
      refine ev_imul (p' := 26) i_165_25 rfl ?_
      refine ev_bipush (p' := 28) (v := 12) i_165_26 rfl (by decide) ?_
      refine ev_idiv (p' := 29) i_165_28 rfl (by decide) ?_
      refine ev_istore (p' := 31) (ls' := [_, _, _, _, _, _, _]) i_165_29 rfl rfl (by decide) rfl ?_
      refine ev_iload_n (p' := 32) i_165_31 rfl rfl ?_
      refine ev_iconst (p' := 33) (v := 4) i_165_32 rfl (by decide) ?_
      refine ev_icmp_ge (p' := 36) (tg := 40) i_165_33 rfl rfl (fun c33 => ?_) (fun c33 => ?_)
      · refine ev_iload (p' := 42) i_165_40 rfl rfl ?_
        refine ev_istore (p' := 44) (ls' := [_, _, _, _, _, _, _]) i_165_42 rfl rfl (by decide) rfl ?_
        refine ev_iload_n (p' := 45) i_165_44 rfl rfl ?_
        refine ev_tsIn (tg := 80) (off := 35) i_165_45 (by decide) (by decide) (by decide) (by decide) ?_
        refine ev_iload_n (p' := 81) i_165_80 rfl rfl ?_
        refine ev_bipush (p' := 83) (v := 6) i_165_81 rfl (by decide) ?_
        refine ev_icmp_lt (p' := 86) (tg := 93) i_165_83 rfl rfl (fun c83 => ?_) (fun c83 => ?_)
        · refine ev_iload (p' := 95) i_165_93 rfl rfl ?_
          exact ev_iretI i_165_95 rfl ⟨by simp [mrN, mb, flap, vee, c14, Int32.not_le.mpr c14, c33, Int32.not_lt.mpr c33, c83, Int32.not_le.mpr c83], rfl⟩
        · refine ev_iload (p' := 88) i_165_86 rfl rfl ?_
          refine ev_iconst (p' := 89) (v := 1) i_165_88 rfl (by decide) ?_
          refine ev_iadd (p' := 90) i_165_89 rfl ?_
          refine ev_goto (tg := 95) i_165_90 rfl ?_
          exact ev_iretI i_165_95 rfl ⟨by simp [mrN, mb, flap, vee, c14, Int32.not_le.mpr c14, c33, Int32.not_lt.mpr c33, c83, Int32.not_lt.mp c83], rfl⟩
      · refine ev_iconst (p' := 37) (v := 0) i_165_36 rfl (by decide) ?_
        refine ev_goto (tg := 42) i_165_37 rfl ?_
        refine ev_istore (p' := 44) (ls' := [_, _, _, _, _, _, _]) i_165_42 rfl rfl (by decide) rfl ?_
        refine ev_iload_n (p' := 45) i_165_44 rfl rfl ?_
        refine ev_tsIn (tg := 80) (off := 35) i_165_45 (by decide) (by decide) (by decide) (by decide) ?_
        refine ev_iload_n (p' := 81) i_165_80 rfl rfl ?_
        refine ev_bipush (p' := 83) (v := 6) i_165_81 rfl (by decide) ?_
        refine ev_icmp_lt (p' := 86) (tg := 93) i_165_83 rfl rfl (fun c83 => ?_) (fun c83 => ?_)
        · refine ev_iload (p' := 95) i_165_93 rfl rfl ?_
          exact ev_iretI i_165_95 rfl ⟨by simp [mrN, mb, flap, vee, c14, Int32.not_le.mpr c14, c33, Int32.not_le.mp c33, c83, Int32.not_le.mpr c83], rfl⟩
        · refine ev_iload (p' := 88) i_165_86 rfl rfl ?_
          refine ev_iconst (p' := 89) (v := 1) i_165_88 rfl (by decide) ?_
          refine ev_iadd (p' := 90) i_165_89 rfl ?_
          refine ev_goto (tg := 95) i_165_90 rfl ?_
          exact ev_iretI i_165_95 rfl ⟨by simp [mrN, mb, flap, vee, c14, Int32.not_le.mpr c14, c33, Int32.not_le.mp c33, c83, Int32.not_lt.mp c83], rfl⟩
    · refine ev_iload_n (p' := 18) i_165_17 rfl rfl ?_
      refine ev_goto (tg := 25) i_165_18 rfl ?_
      refine ev_imul (p' := 26) i_165_25 rfl ?_
      refine ev_bipush (p' := 28) (v := 12) i_165_26 rfl (by decide) ?_
      refine ev_idiv (p' := 29) i_165_28 rfl (by decide) ?_
      refine ev_istore (p' := 31) (ls' := [_, _, _, _, _, _, _]) i_165_29 rfl rfl (by decide) rfl ?_
      refine ev_iload_n (p' := 32) i_165_31 rfl rfl ?_
      refine ev_iconst (p' := 33) (v := 4) i_165_32 rfl (by decide) ?_
      refine ev_icmp_ge (p' := 36) (tg := 40) i_165_33 rfl rfl (fun c33 => ?_) (fun c33 => ?_)
      · refine ev_iload (p' := 42) i_165_40 rfl rfl ?_
        refine ev_istore (p' := 44) (ls' := [_, _, _, _, _, _, _]) i_165_42 rfl rfl (by decide) rfl ?_
        refine ev_iload_n (p' := 45) i_165_44 rfl rfl ?_
        refine ev_tsIn (tg := 80) (off := 35) i_165_45 (by decide) (by decide) (by decide) (by decide) ?_
        refine ev_iload_n (p' := 81) i_165_80 rfl rfl ?_
        refine ev_bipush (p' := 83) (v := 6) i_165_81 rfl (by decide) ?_
        refine ev_icmp_lt (p' := 86) (tg := 93) i_165_83 rfl rfl (fun c83 => ?_) (fun c83 => ?_)
        · refine ev_iload (p' := 95) i_165_93 rfl rfl ?_
          exact ev_iretI i_165_95 rfl ⟨by simp [mrN, mb, flap, vee, c14, Int32.not_lt.mp c14, c33, Int32.not_lt.mpr c33, c83, Int32.not_le.mpr c83], rfl⟩
        · refine ev_iload (p' := 88) i_165_86 rfl rfl ?_
          refine ev_iconst (p' := 89) (v := 1) i_165_88 rfl (by decide) ?_
          refine ev_iadd (p' := 90) i_165_89 rfl ?_
          refine ev_goto (tg := 95) i_165_90 rfl ?_
          exact ev_iretI i_165_95 rfl ⟨by simp [mrN, mb, flap, vee, c14, Int32.not_lt.mp c14, c33, Int32.not_lt.mpr c33, c83, Int32.not_lt.mp c83], rfl⟩
      · refine ev_iconst (p' := 37) (v := 0) i_165_36 rfl (by decide) ?_
        refine ev_goto (tg := 42) i_165_37 rfl ?_
        refine ev_istore (p' := 44) (ls' := [_, _, _, _, _, _, _]) i_165_42 rfl rfl (by decide) rfl ?_
        refine ev_iload_n (p' := 45) i_165_44 rfl rfl ?_
        refine ev_tsIn (tg := 80) (off := 35) i_165_45 (by decide) (by decide) (by decide) (by decide) ?_
        refine ev_iload_n (p' := 81) i_165_80 rfl rfl ?_
        refine ev_bipush (p' := 83) (v := 6) i_165_81 rfl (by decide) ?_
        refine ev_icmp_lt (p' := 86) (tg := 93) i_165_83 rfl rfl (fun c83 => ?_) (fun c83 => ?_)
        · refine ev_iload (p' := 95) i_165_93 rfl rfl ?_
          exact ev_iretI i_165_95 rfl ⟨by simp [mrN, mb, flap, vee, c14, Int32.not_lt.mp c14, c33, Int32.not_le.mp c33, c83, Int32.not_le.mpr c83], rfl⟩
        · refine ev_iload (p' := 88) i_165_86 rfl rfl ?_
          refine ev_iconst (p' := 89) (v := 1) i_165_88 rfl (by decide) ?_
          refine ev_iadd (p' := 90) i_165_89 rfl ?_
          refine ev_goto (tg := 95) i_165_90 rfl ?_
          exact ev_iretI i_165_95 rfl ⟨by simp [mrN, mb, flap, vee, c14, Int32.not_lt.mp c14, c33, Int32.not_le.mp c33, c83, Int32.not_lt.mp c83], rfl⟩
  | 2, _ =>
    refine ev_iload_n (p' := 1) i_165_0 rfl rfl ?_
    refine ev_iload_n (p' := 2) i_165_1 rfl rfl ?_
    refine ev_imul (p' := 3) i_165_2 rfl ?_
    refine ev_bipush (p' := 5) (v := 12) i_165_3 rfl (by decide) ?_
    refine ev_idiv (p' := 6) i_165_5 rfl (by decide) ?_
    refine ev_istore (p' := 8) (ls' := [_, _, _, _, _, _, _]) i_165_6 rfl rfl (by decide) rfl ?_
    refine ev_iload_n (p' := 9) i_165_8 rfl rfl ?_
    refine ev_iconst (p' := 10) (v := 2) i_165_9 rfl (by decide) ?_
    refine ev_imul (p' := 11) i_165_10 rfl ?_
    refine ev_iload_n (p' := 12) i_165_11 rfl rfl ?_
    refine ev_bipush (p' := 14) (v := 6) i_165_12 rfl (by decide) ?_
    refine ev_icmp_gt (p' := 17) (tg := 21) i_165_14 rfl rfl (fun c14 => ?_) (fun c14 => ?_)
    · refine ev_bipush (p' := 23) (v := 12) i_165_21 rfl (by decide) ?_
      refine ev_iload_n (p' := 24) i_165_23 rfl rfl ?_
      refine ev_isub (p' := 25) i_165_24 rfl ?_
      refine ev_imul (p' := 26) i_165_25 rfl ?_
      refine ev_bipush (p' := 28) (v := 12) i_165_26 rfl (by decide) ?_
      refine ev_idiv (p' := 29) i_165_28 rfl (by decide) ?_
      refine ev_istore (p' := 31) (ls' := [_, _, _, _, _, _, _]) i_165_29 rfl rfl (by decide) rfl ?_
      refine ev_iload_n (p' := 32) i_165_31 rfl rfl ?_
      refine ev_iconst (p' := 33) (v := 4) i_165_32 rfl (by decide) ?_
      refine ev_icmp_ge (p' := 36) (tg := 40) i_165_33 rfl rfl (fun c33 => ?_) (fun c33 => ?_)
      · refine ev_iload (p' := 42) i_165_40 rfl rfl ?_
        refine ev_istore (p' := 44) (ls' := [_, _, _, _, _, _, _]) i_165_42 rfl rfl (by decide) rfl ?_
        refine ev_iload_n (p' := 45) i_165_44 rfl rfl ?_
        refine ev_tsIn (tg := 96) (off := 51) i_165_45 (by decide) (by decide) (by decide) (by decide) ?_
        refine ev_iload (p' := 98) i_165_96 rfl rfl ?_
        exact ev_iretI i_165_98 rfl ⟨by simp [mrN, mb, flap, vee, c14, Int32.not_le.mpr c14, c33, Int32.not_lt.mpr c33], rfl⟩
      · refine ev_iconst (p' := 37) (v := 0) i_165_36 rfl (by decide) ?_
        refine ev_goto (tg := 42) i_165_37 rfl ?_
        refine ev_istore (p' := 44) (ls' := [_, _, _, _, _, _, _]) i_165_42 rfl rfl (by decide) rfl ?_
        refine ev_iload_n (p' := 45) i_165_44 rfl rfl ?_
        refine ev_tsIn (tg := 96) (off := 51) i_165_45 (by decide) (by decide) (by decide) (by decide) ?_
        refine ev_iload (p' := 98) i_165_96 rfl rfl ?_
        exact ev_iretI i_165_98 rfl ⟨by simp [mrN, mb, flap, vee, c14, Int32.not_le.mpr c14, c33, Int32.not_le.mp c33], rfl⟩
    · refine ev_iload_n (p' := 18) i_165_17 rfl rfl ?_
      refine ev_goto (tg := 25) i_165_18 rfl ?_
      refine ev_imul (p' := 26) i_165_25 rfl ?_
      refine ev_bipush (p' := 28) (v := 12) i_165_26 rfl (by decide) ?_
      refine ev_idiv (p' := 29) i_165_28 rfl (by decide) ?_
      refine ev_istore (p' := 31) (ls' := [_, _, _, _, _, _, _]) i_165_29 rfl rfl (by decide) rfl ?_
      refine ev_iload_n (p' := 32) i_165_31 rfl rfl ?_
      refine ev_iconst (p' := 33) (v := 4) i_165_32 rfl (by decide) ?_
      refine ev_icmp_ge (p' := 36) (tg := 40) i_165_33 rfl rfl (fun c33 => ?_) (fun c33 => ?_)
      · refine ev_iload (p' := 42) i_165_40 rfl rfl ?_
        refine ev_istore (p' := 44) (ls' := [_, _, _, _, _, _, _]) i_165_42 rfl rfl (by decide) rfl ?_
        refine ev_iload_n (p' := 45) i_165_44 rfl rfl ?_
        refine ev_tsIn (tg := 96) (off := 51) i_165_45 (by decide) (by decide) (by decide) (by decide) ?_
        refine ev_iload (p' := 98) i_165_96 rfl rfl ?_
        exact ev_iretI i_165_98 rfl ⟨by simp [mrN, mb, flap, vee, c14, Int32.not_lt.mp c14, c33, Int32.not_lt.mpr c33], rfl⟩
      · refine ev_iconst (p' := 37) (v := 0) i_165_36 rfl (by decide) ?_
        refine ev_goto (tg := 42) i_165_37 rfl ?_
        refine ev_istore (p' := 44) (ls' := [_, _, _, _, _, _, _]) i_165_42 rfl rfl (by decide) rfl ?_
        refine ev_iload_n (p' := 45) i_165_44 rfl rfl ?_
        refine ev_tsIn (tg := 96) (off := 51) i_165_45 (by decide) (by decide) (by decide) (by decide) ?_
        refine ev_iload (p' := 98) i_165_96 rfl rfl ?_
        exact ev_iretI i_165_98 rfl ⟨by simp [mrN, mb, flap, vee, c14, Int32.not_lt.mp c14, c33, Int32.not_le.mp c33], rfl⟩
  | 3, _ =>
    refine ev_iload_n (p' := 1) i_165_0 rfl rfl ?_
    refine ev_iload_n (p' := 2) i_165_1 rfl rfl ?_
    refine ev_imul (p' := 3) i_165_2 rfl ?_
    refine ev_bipush (p' := 5) (v := 12) i_165_3 rfl (by decide) ?_
    refine ev_idiv (p' := 6) i_165_5 rfl (by decide) ?_
    refine ev_istore (p' := 8) (ls' := [_, _, _, _, _, _, _]) i_165_6 rfl rfl (by decide) rfl ?_
    refine ev_iload_n (p' := 9) i_165_8 rfl rfl ?_
    refine ev_iconst (p' := 10) (v := 2) i_165_9 rfl (by decide) ?_
    refine ev_imul (p' := 11) i_165_10 rfl ?_
    refine ev_iload_n (p' := 12) i_165_11 rfl rfl ?_
    refine ev_bipush (p' := 14) (v := 6) i_165_12 rfl (by decide) ?_
    refine ev_icmp_gt (p' := 17) (tg := 21) i_165_14 rfl rfl (fun c14 => ?_) (fun c14 => ?_)
    · refine ev_bipush (p' := 23) (v := 12) i_165_21 rfl (by decide) ?_
      refine ev_iload_n (p' := 24) i_165_23 rfl rfl ?_
      refine ev_isub (p' := 25) i_165_24 rfl ?_
      refine ev_imul (p' := 26) i_165_25 rfl ?_
      refine ev_bipush (p' := 28) (v := 12) i_165_26 rfl (by decide) ?_
      refine ev_idiv (p' := 29) i_165_28 rfl (by decide) ?_
      refine ev_istore (p' := 31) (ls' := [_, _, _, _, _, _, _]) i_165_29 rfl rfl (by decide) rfl ?_
      refine ev_iload_n (p' := 32) i_165_31 rfl rfl ?_
      refine ev_iconst (p' := 33) (v := 4) i_165_32 rfl (by decide) ?_
      refine ev_icmp_ge (p' := 36) (tg := 40) i_165_33 rfl rfl (fun c33 => ?_) (fun c33 => ?_)
      · refine ev_iload (p' := 42) i_165_40 rfl rfl ?_
        refine ev_istore (p' := 44) (ls' := [_, _, _, _, _, _, _]) i_165_42 rfl rfl (by decide) rfl ?_
        refine ev_iload_n (p' := 45) i_165_44 rfl rfl ?_
        refine ev_tsIn (tg := 99) (off := 54) i_165_45 (by decide) (by decide) (by decide) (by decide) ?_
        refine ev_iload (p' := 101) i_165_99 rfl rfl ?_
        exact ev_iretI i_165_101 rfl ⟨by simp [mrN, mb, flap, vee, c14, Int32.not_le.mpr c14, c33, Int32.not_lt.mpr c33], rfl⟩
      · refine ev_iconst (p' := 37) (v := 0) i_165_36 rfl (by decide) ?_
        refine ev_goto (tg := 42) i_165_37 rfl ?_
        refine ev_istore (p' := 44) (ls' := [_, _, _, _, _, _, _]) i_165_42 rfl rfl (by decide) rfl ?_
        refine ev_iload_n (p' := 45) i_165_44 rfl rfl ?_
        refine ev_tsIn (tg := 99) (off := 54) i_165_45 (by decide) (by decide) (by decide) (by decide) ?_
        refine ev_iload (p' := 101) i_165_99 rfl rfl ?_
        exact ev_iretI i_165_101 rfl ⟨by simp [mrN, mb, flap, vee, c14, Int32.not_le.mpr c14, c33, Int32.not_le.mp c33], rfl⟩
    · refine ev_iload_n (p' := 18) i_165_17 rfl rfl ?_
      refine ev_goto (tg := 25) i_165_18 rfl ?_
      refine ev_imul (p' := 26) i_165_25 rfl ?_
      refine ev_bipush (p' := 28) (v := 12) i_165_26 rfl (by decide) ?_
      refine ev_idiv (p' := 29) i_165_28 rfl (by decide) ?_
      refine ev_istore (p' := 31) (ls' := [_, _, _, _, _, _, _]) i_165_29 rfl rfl (by decide) rfl ?_
      refine ev_iload_n (p' := 32) i_165_31 rfl rfl ?_
      refine ev_iconst (p' := 33) (v := 4) i_165_32 rfl (by decide) ?_
      refine ev_icmp_ge (p' := 36) (tg := 40) i_165_33 rfl rfl (fun c33 => ?_) (fun c33 => ?_)
      · refine ev_iload (p' := 42) i_165_40 rfl rfl ?_
        refine ev_istore (p' := 44) (ls' := [_, _, _, _, _, _, _]) i_165_42 rfl rfl (by decide) rfl ?_
        refine ev_iload_n (p' := 45) i_165_44 rfl rfl ?_
        refine ev_tsIn (tg := 99) (off := 54) i_165_45 (by decide) (by decide) (by decide) (by decide) ?_
        refine ev_iload (p' := 101) i_165_99 rfl rfl ?_
        exact ev_iretI i_165_101 rfl ⟨by simp [mrN, mb, flap, vee, c14, Int32.not_lt.mp c14, c33, Int32.not_lt.mpr c33], rfl⟩
      · refine ev_iconst (p' := 37) (v := 0) i_165_36 rfl (by decide) ?_
        refine ev_goto (tg := 42) i_165_37 rfl ?_
        refine ev_istore (p' := 44) (ls' := [_, _, _, _, _, _, _]) i_165_42 rfl rfl (by decide) rfl ?_
        refine ev_iload_n (p' := 45) i_165_44 rfl rfl ?_
        refine ev_tsIn (tg := 99) (off := 54) i_165_45 (by decide) (by decide) (by decide) (by decide) ?_
        refine ev_iload (p' := 101) i_165_99 rfl rfl ?_
        exact ev_iretI i_165_101 rfl ⟨by simp [mrN, mb, flap, vee, c14, Int32.not_lt.mp c14, c33, Int32.not_le.mp c33], rfl⟩
  | 4, _ =>
    refine ev_iload_n (p' := 1) i_165_0 rfl rfl ?_
    refine ev_iload_n (p' := 2) i_165_1 rfl rfl ?_
    refine ev_imul (p' := 3) i_165_2 rfl ?_
    refine ev_bipush (p' := 5) (v := 12) i_165_3 rfl (by decide) ?_
    refine ev_idiv (p' := 6) i_165_5 rfl (by decide) ?_
    refine ev_istore (p' := 8) (ls' := [_, _, _, _, _, _, _]) i_165_6 rfl rfl (by decide) rfl ?_
    refine ev_iload_n (p' := 9) i_165_8 rfl rfl ?_
    refine ev_iconst (p' := 10) (v := 2) i_165_9 rfl (by decide) ?_
    refine ev_imul (p' := 11) i_165_10 rfl ?_
    refine ev_iload_n (p' := 12) i_165_11 rfl rfl ?_
    refine ev_bipush (p' := 14) (v := 6) i_165_12 rfl (by decide) ?_
    refine ev_icmp_gt (p' := 17) (tg := 21) i_165_14 rfl rfl (fun c14 => ?_) (fun c14 => ?_)
    · refine ev_bipush (p' := 23) (v := 12) i_165_21 rfl (by decide) ?_
      refine ev_iload_n (p' := 24) i_165_23 rfl rfl ?_
      refine ev_isub (p' := 25) i_165_24 rfl ?_
      refine ev_imul (p' := 26) i_165_25 rfl ?_
      refine ev_bipush (p' := 28) (v := 12) i_165_26 rfl (by decide) ?_
      refine ev_idiv (p' := 29) i_165_28 rfl (by decide) ?_
      refine ev_istore (p' := 31) (ls' := [_, _, _, _, _, _, _]) i_165_29 rfl rfl (by decide) rfl ?_
      refine ev_iload_n (p' := 32) i_165_31 rfl rfl ?_
      refine ev_iconst (p' := 33) (v := 4) i_165_32 rfl (by decide) ?_
      refine ev_icmp_ge (p' := 36) (tg := 40) i_165_33 rfl rfl (fun c33 => ?_) (fun c33 => ?_)
      · refine ev_iload (p' := 42) i_165_40 rfl rfl ?_
        refine ev_istore (p' := 44) (ls' := [_, _, _, _, _, _, _]) i_165_42 rfl rfl (by decide) rfl ?_
        refine ev_iload_n (p' := 45) i_165_44 rfl rfl ?_
        refine ev_tsIn (tg := 102) (off := 57) i_165_45 (by decide) (by decide) (by decide) (by decide) ?_
        refine ev_iload (p' := 104) i_165_102 rfl rfl ?_
        refine ev_iconst (p' := 105) (v := 1) i_165_104 rfl (by decide) ?_
        refine ev_iadd (p' := 106) i_165_105 rfl ?_
        refine ev_iconst (p' := 107) (v := 2) i_165_106 rfl (by decide) ?_
        refine ev_idiv (p' := 108) i_165_107 rfl (by decide) ?_
        exact ev_iretI i_165_108 rfl ⟨by simp [mrN, mb, flap, vee, c14, Int32.not_le.mpr c14, c33, Int32.not_lt.mpr c33], rfl⟩
      · refine ev_iconst (p' := 37) (v := 0) i_165_36 rfl (by decide) ?_
        refine ev_goto (tg := 42) i_165_37 rfl ?_
        refine ev_istore (p' := 44) (ls' := [_, _, _, _, _, _, _]) i_165_42 rfl rfl (by decide) rfl ?_
        refine ev_iload_n (p' := 45) i_165_44 rfl rfl ?_
        refine ev_tsIn (tg := 102) (off := 57) i_165_45 (by decide) (by decide) (by decide) (by decide) ?_
        refine ev_iload (p' := 104) i_165_102 rfl rfl ?_
        refine ev_iconst (p' := 105) (v := 1) i_165_104 rfl (by decide) ?_
        refine ev_iadd (p' := 106) i_165_105 rfl ?_
        refine ev_iconst (p' := 107) (v := 2) i_165_106 rfl (by decide) ?_
        refine ev_idiv (p' := 108) i_165_107 rfl (by decide) ?_
        exact ev_iretI i_165_108 rfl ⟨by simp [mrN, mb, flap, vee, c14, Int32.not_le.mpr c14, c33, Int32.not_le.mp c33], rfl⟩
    · refine ev_iload_n (p' := 18) i_165_17 rfl rfl ?_
      refine ev_goto (tg := 25) i_165_18 rfl ?_
      refine ev_imul (p' := 26) i_165_25 rfl ?_
      refine ev_bipush (p' := 28) (v := 12) i_165_26 rfl (by decide) ?_
      refine ev_idiv (p' := 29) i_165_28 rfl (by decide) ?_
      refine ev_istore (p' := 31) (ls' := [_, _, _, _, _, _, _]) i_165_29 rfl rfl (by decide) rfl ?_
      refine ev_iload_n (p' := 32) i_165_31 rfl rfl ?_
      refine ev_iconst (p' := 33) (v := 4) i_165_32 rfl (by decide) ?_
      refine ev_icmp_ge (p' := 36) (tg := 40) i_165_33 rfl rfl (fun c33 => ?_) (fun c33 => ?_)
      · refine ev_iload (p' := 42) i_165_40 rfl rfl ?_
        refine ev_istore (p' := 44) (ls' := [_, _, _, _, _, _, _]) i_165_42 rfl rfl (by decide) rfl ?_
        refine ev_iload_n (p' := 45) i_165_44 rfl rfl ?_
        refine ev_tsIn (tg := 102) (off := 57) i_165_45 (by decide) (by decide) (by decide) (by decide) ?_
        refine ev_iload (p' := 104) i_165_102 rfl rfl ?_
        refine ev_iconst (p' := 105) (v := 1) i_165_104 rfl (by decide) ?_
        refine ev_iadd (p' := 106) i_165_105 rfl ?_
        refine ev_iconst (p' := 107) (v := 2) i_165_106 rfl (by decide) ?_
        refine ev_idiv (p' := 108) i_165_107 rfl (by decide) ?_
        exact ev_iretI i_165_108 rfl ⟨by simp [mrN, mb, flap, vee, c14, Int32.not_lt.mp c14, c33, Int32.not_lt.mpr c33], rfl⟩
      · refine ev_iconst (p' := 37) (v := 0) i_165_36 rfl (by decide) ?_
        refine ev_goto (tg := 42) i_165_37 rfl ?_
        refine ev_istore (p' := 44) (ls' := [_, _, _, _, _, _, _]) i_165_42 rfl rfl (by decide) rfl ?_
        refine ev_iload_n (p' := 45) i_165_44 rfl rfl ?_
        refine ev_tsIn (tg := 102) (off := 57) i_165_45 (by decide) (by decide) (by decide) (by decide) ?_
        refine ev_iload (p' := 104) i_165_102 rfl rfl ?_
        refine ev_iconst (p' := 105) (v := 1) i_165_104 rfl (by decide) ?_
        refine ev_iadd (p' := 106) i_165_105 rfl ?_
        refine ev_iconst (p' := 107) (v := 2) i_165_106 rfl (by decide) ?_
        refine ev_idiv (p' := 108) i_165_107 rfl (by decide) ?_
        exact ev_iretI i_165_108 rfl ⟨by simp [mrN, mb, flap, vee, c14, Int32.not_lt.mp c14, c33, Int32.not_le.mp c33], rfl⟩
  | 5, _ =>
    refine ev_iload_n (p' := 1) i_165_0 rfl rfl ?_
    refine ev_iload_n (p' := 2) i_165_1 rfl rfl ?_
    refine ev_imul (p' := 3) i_165_2 rfl ?_
    refine ev_bipush (p' := 5) (v := 12) i_165_3 rfl (by decide) ?_
    refine ev_idiv (p' := 6) i_165_5 rfl (by decide) ?_
    refine ev_istore (p' := 8) (ls' := [_, _, _, _, _, _, _]) i_165_6 rfl rfl (by decide) rfl ?_
    refine ev_iload_n (p' := 9) i_165_8 rfl rfl ?_
    refine ev_iconst (p' := 10) (v := 2) i_165_9 rfl (by decide) ?_
    refine ev_imul (p' := 11) i_165_10 rfl ?_
    refine ev_iload_n (p' := 12) i_165_11 rfl rfl ?_
    refine ev_bipush (p' := 14) (v := 6) i_165_12 rfl (by decide) ?_
    refine ev_icmp_gt (p' := 17) (tg := 21) i_165_14 rfl rfl (fun c14 => ?_) (fun c14 => ?_)
    · refine ev_bipush (p' := 23) (v := 12) i_165_21 rfl (by decide) ?_
      refine ev_iload_n (p' := 24) i_165_23 rfl rfl ?_
      refine ev_isub (p' := 25) i_165_24 rfl ?_
      refine ev_imul (p' := 26) i_165_25 rfl ?_
      refine ev_bipush (p' := 28) (v := 12) i_165_26 rfl (by decide) ?_
      refine ev_idiv (p' := 29) i_165_28 rfl (by decide) ?_
      refine ev_istore (p' := 31) (ls' := [_, _, _, _, _, _, _]) i_165_29 rfl rfl (by decide) rfl ?_
      refine ev_iload_n (p' := 32) i_165_31 rfl rfl ?_
      refine ev_iconst (p' := 33) (v := 4) i_165_32 rfl (by decide) ?_
      refine ev_icmp_ge (p' := 36) (tg := 40) i_165_33 rfl rfl (fun c33 => ?_) (fun c33 => ?_)
      · refine ev_iload (p' := 42) i_165_40 rfl rfl ?_
        refine ev_istore (p' := 44) (ls' := [_, _, _, _, _, _, _]) i_165_42 rfl rfl (by decide) rfl ?_
        refine ev_iload_n (p' := 45) i_165_44 rfl rfl ?_
        refine ev_tsIn (tg := 109) (off := 64) i_165_45 (by decide) (by decide) (by decide) (by decide) ?_
        refine ev_iload (p' := 111) i_165_109 rfl rfl ?_
        refine ev_if_le (p' := 114) (tg := 121) i_165_111 rfl rfl (fun c111 => ?_) (fun c111 => ?_)
        · refine ev_iconst (p' := 122) (v := 0) i_165_121 rfl (by decide) ?_
          exact ev_iretI i_165_122 rfl ⟨by first | (simp [mrN, mb, flap, vee, c14, Int32.not_le.mpr c14, c33, Int32.not_lt.mpr c33, c111, Int32.not_lt.mpr c111]; done) | (exfalso; exact c111 (Int32.le_refl _)), rfl⟩
        · refine ev_iload (p' := 116) i_165_114 rfl rfl ?_
          refine ev_iload_n (p' := 117) i_165_116 rfl rfl ?_
          refine ev_iadd (p' := 118) i_165_117 rfl ?_
          refine ev_goto (tg := 122) i_165_118 rfl ?_
          exact ev_iretI i_165_122 rfl ⟨by first | (simp [mrN, mb, flap, vee, c14, Int32.not_le.mpr c14, c33, Int32.not_lt.mpr c33, c111, Int32.not_le.mp c111]; done) | (exfalso; exact c111 (Int32.le_refl _)), rfl⟩
      · refine ev_iconst (p' := 37) (v := 0) i_165_36 rfl (by decide) ?_
        refine ev_goto (tg := 42) i_165_37 rfl ?_
        refine ev_istore (p' := 44) (ls' := [_, _, _, _, _, _, _]) i_165_42 rfl rfl (by decide) rfl ?_
        refine ev_iload_n (p' := 45) i_165_44 rfl rfl ?_
        refine ev_tsIn (tg := 109) (off := 64) i_165_45 (by decide) (by decide) (by decide) (by decide) ?_
        refine ev_iload (p' := 111) i_165_109 rfl rfl ?_
        refine ev_if_le (p' := 114) (tg := 121) i_165_111 rfl rfl (fun c111 => ?_) (fun c111 => ?_)
        · refine ev_iconst (p' := 122) (v := 0) i_165_121 rfl (by decide) ?_
          exact ev_iretI i_165_122 rfl ⟨by first | (simp [mrN, mb, flap, vee, c14, Int32.not_le.mpr c14, c33, Int32.not_le.mp c33, c111, Int32.not_lt.mpr c111]; done) | (exfalso; exact c111 (Int32.le_refl _)), rfl⟩
        · refine ev_iload (p' := 116) i_165_114 rfl rfl ?_
          refine ev_iload_n (p' := 117) i_165_116 rfl rfl ?_
          refine ev_iadd (p' := 118) i_165_117 rfl ?_
          refine ev_goto (tg := 122) i_165_118 rfl ?_
          exact ev_iretI i_165_122 rfl ⟨by first | (simp [mrN, mb, flap, vee, c14, Int32.not_le.mpr c14, c33, Int32.not_le.mp c33, c111, Int32.not_le.mp c111]; done) | (exfalso; exact c111 (Int32.le_refl _)), rfl⟩
    · refine ev_iload_n (p' := 18) i_165_17 rfl rfl ?_
      refine ev_goto (tg := 25) i_165_18 rfl ?_
      refine ev_imul (p' := 26) i_165_25 rfl ?_
      refine ev_bipush (p' := 28) (v := 12) i_165_26 rfl (by decide) ?_
      refine ev_idiv (p' := 29) i_165_28 rfl (by decide) ?_
      refine ev_istore (p' := 31) (ls' := [_, _, _, _, _, _, _]) i_165_29 rfl rfl (by decide) rfl ?_
      refine ev_iload_n (p' := 32) i_165_31 rfl rfl ?_
      refine ev_iconst (p' := 33) (v := 4) i_165_32 rfl (by decide) ?_
      refine ev_icmp_ge (p' := 36) (tg := 40) i_165_33 rfl rfl (fun c33 => ?_) (fun c33 => ?_)
      · refine ev_iload (p' := 42) i_165_40 rfl rfl ?_
        refine ev_istore (p' := 44) (ls' := [_, _, _, _, _, _, _]) i_165_42 rfl rfl (by decide) rfl ?_
        refine ev_iload_n (p' := 45) i_165_44 rfl rfl ?_
        refine ev_tsIn (tg := 109) (off := 64) i_165_45 (by decide) (by decide) (by decide) (by decide) ?_
        refine ev_iload (p' := 111) i_165_109 rfl rfl ?_
        refine ev_if_le (p' := 114) (tg := 121) i_165_111 rfl rfl (fun c111 => ?_) (fun c111 => ?_)
        · refine ev_iconst (p' := 122) (v := 0) i_165_121 rfl (by decide) ?_
          exact ev_iretI i_165_122 rfl ⟨by first | (simp [mrN, mb, flap, vee, c14, Int32.not_lt.mp c14, c33, Int32.not_lt.mpr c33, c111, Int32.not_lt.mpr c111]; done) | (exfalso; exact c111 (Int32.le_refl _)), rfl⟩
        · refine ev_iload (p' := 116) i_165_114 rfl rfl ?_
          refine ev_iload_n (p' := 117) i_165_116 rfl rfl ?_
          refine ev_iadd (p' := 118) i_165_117 rfl ?_
          refine ev_goto (tg := 122) i_165_118 rfl ?_
          exact ev_iretI i_165_122 rfl ⟨by first | (simp [mrN, mb, flap, vee, c14, Int32.not_lt.mp c14, c33, Int32.not_lt.mpr c33, c111, Int32.not_le.mp c111]; done) | (exfalso; exact c111 (Int32.le_refl _)), rfl⟩
      · refine ev_iconst (p' := 37) (v := 0) i_165_36 rfl (by decide) ?_
        refine ev_goto (tg := 42) i_165_37 rfl ?_
        refine ev_istore (p' := 44) (ls' := [_, _, _, _, _, _, _]) i_165_42 rfl rfl (by decide) rfl ?_
        refine ev_iload_n (p' := 45) i_165_44 rfl rfl ?_
        refine ev_tsIn (tg := 109) (off := 64) i_165_45 (by decide) (by decide) (by decide) (by decide) ?_
        refine ev_iload (p' := 111) i_165_109 rfl rfl ?_
        refine ev_if_le (p' := 114) (tg := 121) i_165_111 rfl rfl (fun c111 => ?_) (fun c111 => ?_)
        · refine ev_iconst (p' := 122) (v := 0) i_165_121 rfl (by decide) ?_
          exact ev_iretI i_165_122 rfl ⟨by first | (simp [mrN, mb, flap, vee, c14, Int32.not_lt.mp c14, c33, Int32.not_le.mp c33, c111, Int32.not_lt.mpr c111]; done) | (exfalso; exact c111 (Int32.le_refl _)), rfl⟩
        · refine ev_iload (p' := 116) i_165_114 rfl rfl ?_
          refine ev_iload_n (p' := 117) i_165_116 rfl rfl ?_
          refine ev_iadd (p' := 118) i_165_117 rfl ?_
          refine ev_goto (tg := 122) i_165_118 rfl ?_
          exact ev_iretI i_165_122 rfl ⟨by first | (simp [mrN, mb, flap, vee, c14, Int32.not_lt.mp c14, c33, Int32.not_le.mp c33, c111, Int32.not_le.mp c111]; done) | (exfalso; exact c111 (Int32.le_refl _)), rfl⟩
  | k + 6, h => exact absurd h (by omega)
theorem s_bearsBy {g : Nat → Prop} (d : Nat) {mem : pm_M} {k : Nat} (hk6 : k < 6) : pm_ev g (d + 1) 167 [.int (nI k)] mem (some (.int (brN k))) mem := by
  refine ev_enter (q := q_167) rfl (Nat.le_of_ble_eq_true rfl) rfl ?_
  match k, hk6 with
  | 0, _ =>
    refine ev_iload_n (p' := 1) i_167_0 rfl rfl ?_
    refine ev_tsOut (tg := 43) i_167_1 (by decide) (by decide) ?_
    refine ev_sipush (p' := 46) (v := 150) i_167_43 rfl (by decide) ?_
    exact ev_iretI i_167_46 rfl ⟨rfl, rfl⟩
  | 1, _ =>
    refine ev_iload_n (p' := 1) i_167_0 rfl rfl ?_
    refine ev_tsOut (tg := 43) i_167_1 (by decide) (by decide) ?_
    refine ev_sipush (p' := 46) (v := 150) i_167_43 rfl (by decide) ?_
    exact ev_iretI i_167_46 rfl ⟨rfl, rfl⟩
  | 2, _ =>
    refine ev_iload_n (p' := 1) i_167_0 rfl rfl ?_
    refine ev_tsIn (tg := 32) (off := 31) i_167_1 (by decide) (by decide) (by decide) (by decide) ?_
    refine ev_sipush (p' := 35) (v := 200) i_167_32 rfl (by decide) ?_
    exact ev_iretI i_167_35 rfl ⟨rfl, rfl⟩
  | 3, _ =>
    refine ev_iload_n (p' := 1) i_167_0 rfl rfl ?_
    refine ev_tsIn (tg := 43) (off := 42) i_167_1 (by decide) (by decide) (by decide) (by decide) ?_
    refine ev_sipush (p' := 46) (v := 150) i_167_43 rfl (by decide) ?_
    exact ev_iretI i_167_46 rfl ⟨rfl, rfl⟩
  | 4, _ =>
    refine ev_iload_n (p' := 1) i_167_0 rfl rfl ?_
    refine ev_tsIn (tg := 36) (off := 35) i_167_1 (by decide) (by decide) (by decide) (by decide) ?_
    refine ev_sipush (p' := 39) (v := 400) i_167_36 rfl (by decide) ?_
    exact ev_iretI i_167_39 rfl ⟨rfl, rfl⟩
  | 5, _ =>
    refine ev_iload_n (p' := 1) i_167_0 rfl rfl ?_
    refine ev_tsIn (tg := 40) (off := 39) i_167_1 (by decide) (by decide) (by decide) (by decide) ?_
    refine ev_bipush (p' := 42) (v := 75) i_167_40 rfl (by decide) ?_
    exact ev_iretI i_167_42 rfl ⟨rfl, rfl⟩
  | k + 6, h => exact absurd h (by omega)
/-- the reference's pieces -/
def rf (mi : Nat → Nat → Int32) : Nat → Nat → Int32 := fx (fun j i => mi (287 + j) i)
theorem rf_k {mi : Nat → Nat → Int32} {i k : Nat} (hk6 : k < 6) (h : mi 287 i = nI k) : rf mi 7 i = brN k := by
  show brN (mi 287 i).toNatClampNeg = brN k
  rw [h, nI_clamp (by omega)]
/-- a piece's numbers are as told -/
def okp (f : Nat → Nat → Int32) (i : Nat) : Prop := (∃ k, k < 6 ∧ f 0 i = nI k) ∧ (∃ a, 1 ≤ a ∧ a < 10 ∧ f 1 i = nI a) ∧ (∃ t, 1 ≤ t ∧ t < 10 ∧ f 2 i = nI t) ∧ (∃ r, r < 10 ∧ f 3 i = nI r) ∧ (f 4 i = -1 ∨ ∃ j, j < i ∧ f 4 i = nI j) ∧ (∃ p, p < 4 ∧ f 5 i = nI p) ∧ ∃ w, w < 1000 ∧ f 6 i = nI w
def RFv (mi : Nat → Nat → Int32) : Nat → Nat → Int32 := fun j i => mi (287 + j) i
theorem s_mStuck {L : Nat} {π : Nat → Nat → Nat} {mi : Nat → Nat → Int32} {ml : Nat → Nat → Int64} {mr : Nat → Nat → Option Nat} (d : Nat) (hw : WR π mr) {i : Nat} (hi : i < 7) (hoi : okp (RFv mi) i) : pm_ev gR (d + 2) 168 [.ref 285, .int (nI i)] (WW L, mi, ml, mr) (some (.int (B (rf mi 7 i ≤ rf mi 6 i)))) (WW L, mi, ml, mr) := by
  obtain ⟨⟨k, hk6, hk⟩, ⟨a_, ha1, ha2, ha⟩, ⟨t, ht1, ht2, ht⟩, ⟨r_, hr1, hr⟩, hon, ⟨p, hp1, hp⟩, ⟨w, hw1, hww⟩⟩ := id hoi
  have hk : mi 287 i = nI k := hk
  have ht : mi 289 i = nI t := ht
  have hp : mi 292 i = nI p := hp
  refine ev_enter (q := q_168) rfl (Nat.le_of_ble_eq_true rfl) rfl ?_
  refine ev_aload_n (p' := 1) i_168_0 rfl rfl ?_
  refine ev_getr (p' := 4) i_168_1 rfl fl_12_31 rfl is_285 (rf_285_12 hw) ?_
  refine ev_iload_n (p' := 5) i_168_4 rfl rfl ?_
  refine ev_ialdN (p' := 6) i_168_5 rfl is_293 len_293 (by omega) (by decide) ?_
  refine ev_aload_n (p' := 7) i_168_6 rfl rfl ?_
  refine ev_getr (p' := 10) i_168_7 rfl fl_12_13 rfl is_285 (rf_285_6 hw) ?_
  refine ev_iload_n (p' := 11) i_168_10 rfl rfl ?_
  refine ev_ialdN (p' := 12) i_168_11 rfl is_287 len_287 (by omega) (by decide) ?_
  rw [hk]
  refine ev_s1I (p' := 15) i_168_12 rfl cl_12_199_0 (by decide) (Nat.le_of_ble_eq_true rfl) (s_bearsBy _ hk6) ?_
  refine ev_icmp_lt (p' := 18) (tg := 22) i_168_15 rfl rfl (fun c15 => ?_) (fun c15 => ?_)
  · refine ev_iconst (p' := 23) (v := 0) i_168_22 rfl (by decide) ?_
    exact ev_iret i_168_23 rfl rfl ⟨by rw [B_f (by rw [rf_k hk6 hk]; exact Int32.not_le.mpr c15)], rfl⟩
  · refine ev_iconst (p' := 19) (v := 1) i_168_18 rfl (by decide) ?_
    refine ev_goto (tg := 23) i_168_19 rfl ?_
    exact ev_iret i_168_23 rfl rfl ⟨by rw [B_t (by rw [rf_k hk6 hk]; exact Int32.not_lt.mp c15)], rfl⟩
theorem s_mRise {L : Nat} {π : Nat → Nat → Nat} {mi : Nat → Nat → Int32} {ml : Nat → Nat → Int64} {mr : Nat → Nat → Option Nat} (d : Nat) (hw : WR π mr) {i : Nat} (hi : i < 7) (hoi : okp (RFv mi) i) {oo : Nat} (ho : oo < 13) : pm_ev gR (d + 3) 169 [.ref 285, .int (nI i), .int (nI oo)] (WW L, mi, ml, mr) (some (.int (rise (rf mi) (nI oo) (mi 285 22) i))) (WW L, mi, ml, mr) := by
  obtain ⟨⟨k, hk6, hk⟩, ⟨a_, ha1, ha2, ha⟩, ⟨t, ht1, ht2, ht⟩, ⟨r_, hr1, hr⟩, hon, ⟨p, hp1, hp⟩, ⟨w, hw1, hww⟩⟩ := id hoi
  have hk : mi 287 i = nI k := hk
  have ht : mi 289 i = nI t := ht
  have hp : mi 292 i = nI p := hp
  refine ev_enter (q := q_169) rfl (Nat.le_of_ble_eq_true rfl) rfl ?_
  refine ev_aload_n (p' := 1) i_169_0 rfl rfl ?_
  refine ev_iload_n (p' := 2) i_169_1 rfl rfl ?_
  refine ev_v1I (p' := 5) i_169_2 rfl cl_12_202_12 (by decide) is_285 (Nat.le_of_ble_eq_true rfl) (s_mStuck _ hw hi hoi) ?_
  refine ev_if_ne (p' := 8) (tg := 19) i_169_5 rfl rfl (fun c5 => ?_) (fun c5 => ?_)
  · replace c5 := B1 c5
    refine ev_iconst (p' := 20) (v := 0) i_169_19 rfl (by decide) ?_
    refine ev_goto (tg := 45) i_169_20 rfl ?_
    exact ev_iretI i_169_45 rfl ⟨by unfold rise; rw [if_pos (Or.inr c5)], rfl⟩
  · replace c5 := B0n c5
    refine ev_aload_n (p' := 9) i_169_8 rfl rfl ?_
    refine ev_geti (p' := 12) i_169_9 rfl fl_12_205 rfl is_285 ?_
    refine ev_iload_n (p' := 13) i_169_12 rfl rfl ?_
    refine ev_s2I (p' := 16) i_169_13 rfl cl_12_208_0 (by decide) (Nat.le_of_ble_eq_true rfl) (s_mhas _ _ _) ?_
    refine ev_if_eq (p' := 19) (tg := 23) i_169_16 rfl rfl (fun c16 => ?_) (fun c16 => ?_)
    · replace c16 := B0 c16
      refine ev_aload_n (p' := 24) i_169_23 rfl rfl ?_
      refine ev_getr (p' := 27) i_169_24 rfl fl_12_13 rfl is_285 (rf_285_6 hw) ?_
      refine ev_iload_n (p' := 28) i_169_27 rfl rfl ?_
      refine ev_ialdN (p' := 29) i_169_28 rfl is_287 len_287 (by omega) (by decide) ?_
      refine ev_iload_n (p' := 30) i_169_29 rfl rfl ?_
      refine ev_aload_n (p' := 31) i_169_30 rfl rfl ?_
      refine ev_getr (p' := 34) i_169_31 rfl fl_12_19 rfl is_285 (rf_285_8 hw) ?_
      refine ev_iload_n (p' := 35) i_169_34 rfl rfl ?_
      refine ev_ialdN (p' := 36) i_169_35 rfl is_289 len_289 (by omega) (by decide) ?_
      refine ev_aload_n (p' := 37) i_169_36 rfl rfl ?_
      refine ev_getr (p' := 40) i_169_37 rfl fl_12_28 rfl is_285 (rf_285_11 hw) ?_
      refine ev_iload_n (p' := 41) i_169_40 rfl rfl ?_
      refine ev_ialdN (p' := 42) i_169_41 rfl is_292 len_292 (by omega) (by decide) ?_
      rw [hk, ht, hp]
      refine ev_s4I (p' := 45) i_169_42 rfl cl_12_211_0 (by decide) (Nat.le_of_ble_eq_true rfl) (s_risesBy _ hk6 _ _ _) ?_
      exact ev_iretI i_169_45 rfl ⟨by unfold rise; rw [if_neg (fun z => z.elim (fun y => c16 ((and1_iff _).mpr y)) c5), mrN_eq k hk6 t ht2 oo ho p hp1, ← ht, ← hp]; show _ = some (Value.int (rsN (mi 287 i).toNatClampNeg _ _ _)); rw [hk, nI_clamp (by omega)]; rfl, rfl⟩
    · replace c16 := B1 c16
      refine ev_iconst (p' := 20) (v := 0) i_169_19 rfl (by decide) ?_
      refine ev_goto (tg := 45) i_169_20 rfl ?_
      exact ev_iretI i_169_45 rfl ⟨by unfold rise; rw [if_pos (Or.inl ((and1_iff _).mp c16))], rfl⟩
theorem hgt_add {f : Nat → Nat → Int32} {o h acc : Int32} {i j : Nat} (hj : j < i) (hi : i < 2 ^ 31) (he : f 4 i = nI j) : acc + rise f o h i + hgt f o h j = acc + hgt f o h i := by
  rw [hgt_on hj hi he, Int32.add_assoc, Int32.add_comm (rise f o h i)]
theorem rf_on {mi : Nat → Nat → Int32} {i : Nat} : rf mi 4 i = mi 291 i := rfl
theorem ne_m1 {a : Nat} (h : a < 2 ^ 31) : ¬ nI a = -1 := fun z => by
  have h1 := nI_pos (n := a) h
  rw [z] at h1
  exact h1 (by decide)
theorem e_mH5 {L : Nat} {mi : Nat → Nat → Int32} {ml : Nat → Nat → Int64} {mr : Nat → Nat → Option Nat} {C : Nat → List Value → pm_M → Option Value → pm_M → Prop} {E : Option Value → pm_M → Prop} {x acc : Int32} {oo : Nat} (hE : E (some (.int acc)) (WW L, mi, ml, mr)) : Ev gR C E q_170 5 [some (.ref 285), some (.int x), some (.int (nI oo)), some (.int acc), some (.int (-1))] [] (WW L, mi, ml, mr) := by
  refine ev_iload (p' := 7) i_170_5 rfl rfl ?_
  refine ev_iconst (p' := 8) (v := -1) i_170_7 rfl (by decide) ?_
  refine ev_icmp_eq (p' := 11) (tg := 33) i_170_8 rfl rfl (fun c8 => ?_) (fun c8 => absurd (rfl) c8)
  refine ev_iload_n (p' := 34) i_170_33 rfl rfl ?_
  exact ev_iretI i_170_34 rfl hE
theorem l_mH {L : Nat} {π : Nat → Nat → Nat} {mi : Nat → Nat → Int32} {ml : Nat → Nat → Int64} {mr : Nat → Nat → Option Nat} (hw : WR π mr) {n : Nat} (hn7 : n ≤ 7) (hn : mi 285 1 = nI n) (hok : ∀ i, i < n → okp (RFv mi) i) {oo : Nat} (ho : oo < 13) {d : Nat} {E : Option Value → pm_M → Prop} {x : Int32} : ∀ a, a < n → ∀ acc, E (some (.int (acc + hgt (rf mi) (nI oo) (mi 285 22) a))) (WW L, mi, ml, mr) → Ev gR (pm_ev gR (d + 3)) E q_170 5 [some (.ref 285), some (.int x), some (.int (nI oo)), some (.int acc), some (.int (nI a))] [] (WW L, mi, ml, mr) := by
  intro a
  induction a using Nat.strongRecOn with
  | _ a ih =>
  intro ha acc hE
  refine ev_iload (p' := 7) i_170_5 rfl rfl ?_
  refine ev_iconst (p' := 8) (v := -1) i_170_7 rfl (by decide) ?_
  refine ev_icmp_eq (p' := 11) (tg := 33) i_170_8 rfl rfl (fun c8 => absurd c8 (ne_m1 (by omega))) (fun c8 => ?_)
  refine ev_iload_n (p' := 12) i_170_11 rfl rfl ?_
  refine ev_aload_n (p' := 13) i_170_12 rfl rfl ?_
  refine ev_iload (p' := 15) i_170_13 rfl rfl ?_
  refine ev_iload_n (p' := 16) i_170_15 rfl rfl ?_
  refine ev_v2I (p' := 19) i_170_16 rfl cl_12_215_12 (by decide) is_285 (Nat.le_of_ble_eq_true rfl) (s_mRise _ hw (by omega) (hok a ha) ho) ?_
  refine ev_iadd (p' := 20) i_170_19 rfl ?_
  refine ev_istore_n (p' := 21) (ls' := [_, _, _, _, _]) i_170_20 rfl rfl (by decide) rfl ?_
  refine ev_aload_n (p' := 22) i_170_21 rfl rfl ?_
  refine ev_getr (p' := 25) i_170_22 rfl fl_12_25 rfl is_285 (rf_285_10 hw) ?_
  refine ev_iload (p' := 27) i_170_25 rfl rfl ?_
  refine ev_ialdN (p' := 28) i_170_27 rfl is_291 len_291 (by omega) (by decide) ?_
  refine ev_istore (p' := 30) (ls' := [_, _, _, _, _]) i_170_28 rfl rfl (by decide) rfl ?_
  refine ev_goto (tg := 5) i_170_30 rfl ?_
  have hoa := (hok a ha).2.2.2.2.1
  rcases hoa with h9 | ⟨j, hj, ej⟩
  · have h9 : mi 291 a = -1 := h9
    rw [h9]
    refine e_mH5 ?_
    rw [hgt_off (f := rf mi) (Or.inl (by rw [rf_on, h9]; decide)), Int32.zero_add] at hE
    exact hE
  · have ej : mi 291 a = nI j := ej
    rw [ej]
    refine ih j hj (by omega) _ ?_
    rw [hgt_add (f := rf mi) hj (by omega) ej]
    exact hE
theorem s_mHeight {L : Nat} {π : Nat → Nat → Nat} {mi : Nat → Nat → Int32} {ml : Nat → Nat → Int64} {mr : Nat → Nat → Option Nat} (d : Nat) (hw : WR π mr) {n : Nat} (hn7 : n ≤ 7) (hn : mi 285 1 = nI n) (hok : ∀ i, i < n → okp (RFv mi) i) {oo : Nat} (ho : oo < 13) {i : Nat} (hi : i < n) : pm_ev gR (d + 4) 170 [.ref 285, .int (nI i), .int (nI oo)] (WW L, mi, ml, mr) (some (.int (hgt (rf mi) (nI oo) (mi 285 22) i))) (WW L, mi, ml, mr) := by
  refine ev_enter (q := q_170) rfl (Nat.le_of_ble_eq_true rfl) rfl ?_
  refine ev_iconst (p' := 1) (v := 0) i_170_0 rfl (by decide) ?_
  refine ev_istore_n (p' := 2) (ls' := [_, _, _, _, _]) i_170_1 rfl rfl (by decide) rfl ?_
  refine ev_iload_n (p' := 3) i_170_2 rfl rfl ?_
  refine ev_istore (p' := 5) (ls' := [_, _, _, _, _]) i_170_3 rfl rfl (by decide) rfl ?_
  refine l_mH hw hn7 hn hok ho i hi 0 ⟨?_, rfl⟩
  rw [Int32.zero_add]
