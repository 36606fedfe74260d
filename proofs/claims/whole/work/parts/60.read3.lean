/-! ===== read: both sides ===== -/
theorem wd_vals {T : Nat → Int32} {n s : Nat} : wd T n s = -1 ∨ wd T n s = nI 0 ∨ wd T n s = nI 1 ∨ wd T n s = nI 2 ∨ wd T n s = nI 3 ∨ wd T n s = nI 4 := by
  unfold wd
  repeat' split
  all_goals first | exact Or.inl rfl | exact Or.inr (Or.inl rfl) | exact Or.inr (Or.inr (Or.inl rfl)) | exact Or.inr (Or.inr (Or.inr (Or.inl rfl))) | exact Or.inr (Or.inr (Or.inr (Or.inr (Or.inl rfl)))) | exact Or.inr (Or.inr (Or.inr (Or.inr (Or.inr rfl))))
theorem s_mItemn {L : Nat} {π : Nat → Nat → Nat} {ml : Nat → Nat → Int64} {mr : Nat → Nat → Option Nat} {mi : Nat → Nat → Int32} (d : Nat) (hw : WR π mr) {T : Nat → Int32} {n : Nat} (hM : MT mi T n) {s : Nat} (hs : s ≤ n) (hat : mi 285 18 = nI s) {v : PV} (hp : RP0 mi v) (hv : okPV v) (hwd : wd T n s = -1) : ∃ mi', pm_ev gR (d + 5) 161 [.ref 285] (WW L, mi, ml, mr) (some (.int (B ((iS T n v.1 s).1 = true)))) (WW L, mi', ml, mr) ∧ (RIt mi mi' ∧ mi' 285 18 = nI (iS T n v.1 s).2 ∧ ((iS T n v.1 s).1 = true → RP0 mi' (iV T n v s))) := by
  obtain ⟨_x, m', ⟨h1, mi1, h2, h3⟩, h5⟩ := ev_some (E := fun _x m => _x = some (.int (B ((iS T n v.1 s).1 = true))) ∧ ∃ mi', m = (WW L, mi', ml, mr) ∧ (RIt mi mi' ∧ mi' 285 18 = nI (iS T n v.1 s).2 ∧ ((iS T n v.1 s).1 = true → RP0 mi' (iV T n v s)))) (g := gR) (d := d + 4) (M := 161) (args := [.ref 285]) (mem := (WW L, mi, ml, mr)) (q := q_161) rfl (Nat.le_of_ble_eq_true rfl) rfl (by
    refine ev_aload_n (p' := 1) i_161_0 rfl rfl ?_
    refine ev_v0I (p' := 4) i_161_1 rfl cl_12_170_12 (by decide) is_285 (Nat.le_of_ble_eq_true rfl) (s_mwh _ hw hM hs hat) ?_
    rw [hwd]
    refine ev_istore_n (p' := 5) (ls' := [_, _]) i_161_4 rfl rfl (by decide) rfl ?_
    refine ev_iload_n (p' := 6) i_161_5 rfl rfl ?_
    refine ev_iconst (p' := 7) (v := 1) i_161_6 rfl (by decide) ?_
    refine ev_icmp_lt (p' := 10) (tg := 24) i_161_7 rfl rfl (fun c7 => ?_) (fun c7 => absurd (by decide) c7)
    refine ev_iconst (p' := 25) (v := 0) i_161_24 rfl (by decide) ?_
    exact ev_iret i_161_25 rfl rfl ⟨by unfold iS; rw [if_neg (fun z => absurd (hwd.symm.trans z.1) (by decide)), if_neg (fun z => absurd (hwd.symm.trans z.1) (by decide)), if_neg (fun z => absurd (hwd.symm.trans z) (by decide)), if_neg (fun z => absurd (hwd.symm.trans z) (by decide)), B_f Bool.false_ne_true], mi, rfl, RIt.refl, by unfold iS; rw [if_neg (fun z => absurd (hwd.symm.trans z.1) (by decide)), if_neg (fun z => absurd (hwd.symm.trans z.1) (by decide)), if_neg (fun z => absurd (hwd.symm.trans z) (by decide)), if_neg (fun z => absurd (hwd.symm.trans z) (by decide))]; exact hat, fun z => by unfold iS at z; rw [if_neg (fun z => absurd (hwd.symm.trans z.1) (by decide)), if_neg (fun z => absurd (hwd.symm.trans z.1) (by decide)), if_neg (fun z => absurd (hwd.symm.trans z) (by decide)), if_neg (fun z => absurd (hwd.symm.trans z) (by decide))] at z; exact absurd z Bool.false_ne_true⟩)
  subst h1 h2
  exact ⟨mi1, h5, h3⟩
theorem s_mItem0 {L : Nat} {π : Nat → Nat → Nat} {ml : Nat → Nat → Int64} {mr : Nat → Nat → Option Nat} {mi : Nat → Nat → Int32} (d : Nat) (hw : WR π mr) {T : Nat → Int32} {n : Nat} (hM : MT mi T n) {s : Nat} (hs : s ≤ n) (hat : mi 285 18 = nI s) {v : PV} (hp : RP0 mi v) (hv : okPV v) (hwd : wd T n s = nI 0) : ∃ mi', pm_ev gR (d + 5) 161 [.ref 285] (WW L, mi, ml, mr) (some (.int (B ((iS T n v.1 s).1 = true)))) (WW L, mi', ml, mr) ∧ (RIt mi mi' ∧ mi' 285 18 = nI (iS T n v.1 s).2 ∧ ((iS T n v.1 s).1 = true → RP0 mi' (iV T n v s))) := by
  obtain ⟨_x, m', ⟨h1, mi1, h2, h3⟩, h5⟩ := ev_some (E := fun _x m => _x = some (.int (B ((iS T n v.1 s).1 = true))) ∧ ∃ mi', m = (WW L, mi', ml, mr) ∧ (RIt mi mi' ∧ mi' 285 18 = nI (iS T n v.1 s).2 ∧ ((iS T n v.1 s).1 = true → RP0 mi' (iV T n v s)))) (g := gR) (d := d + 4) (M := 161) (args := [.ref 285]) (mem := (WW L, mi, ml, mr)) (q := q_161) rfl (Nat.le_of_ble_eq_true rfl) rfl (by
    refine ev_aload_n (p' := 1) i_161_0 rfl rfl ?_
    refine ev_v0I (p' := 4) i_161_1 rfl cl_12_170_12 (by decide) is_285 (Nat.le_of_ble_eq_true rfl) (s_mwh _ hw hM hs hat) ?_
    rw [hwd]
    refine ev_istore_n (p' := 5) (ls' := [_, _]) i_161_4 rfl rfl (by decide) rfl ?_
    refine ev_iload_n (p' := 6) i_161_5 rfl rfl ?_
    refine ev_iconst (p' := 7) (v := 1) i_161_6 rfl (by decide) ?_
    refine ev_icmp_lt (p' := 10) (tg := 24) i_161_7 rfl rfl (fun c7 => ?_) (fun c7 => absurd (by decide) c7)
    refine ev_iconst (p' := 25) (v := 0) i_161_24 rfl (by decide) ?_
    exact ev_iret i_161_25 rfl rfl ⟨by unfold iS; rw [if_neg (fun z => absurd (hwd.symm.trans z.1) (by decide)), if_neg (fun z => absurd (hwd.symm.trans z.1) (by decide)), if_neg (fun z => absurd (hwd.symm.trans z) (by decide)), if_neg (fun z => absurd (hwd.symm.trans z) (by decide)), B_f Bool.false_ne_true], mi, rfl, RIt.refl, by unfold iS; rw [if_neg (fun z => absurd (hwd.symm.trans z.1) (by decide)), if_neg (fun z => absurd (hwd.symm.trans z.1) (by decide)), if_neg (fun z => absurd (hwd.symm.trans z) (by decide)), if_neg (fun z => absurd (hwd.symm.trans z) (by decide))]; exact hat, fun z => by unfold iS at z; rw [if_neg (fun z => absurd (hwd.symm.trans z.1) (by decide)), if_neg (fun z => absurd (hwd.symm.trans z.1) (by decide)), if_neg (fun z => absurd (hwd.symm.trans z) (by decide)), if_neg (fun z => absurd (hwd.symm.trans z) (by decide))] at z; exact absurd z Bool.false_ne_true⟩)
  subst h1 h2
  exact ⟨mi1, h5, h3⟩
theorem s_mItem1 {L : Nat} {π : Nat → Nat → Nat} {ml : Nat → Nat → Int64} {mr : Nat → Nat → Option Nat} {mi : Nat → Nat → Int32} (d : Nat) (hw : WR π mr) {T : Nat → Int32} {n : Nat} (hM : MT mi T n) {s : Nat} (hs : s ≤ n) (hat : mi 285 18 = nI s) {v : PV} (hp : RP0 mi v) (hv : okPV v) (hwd : wd T n s = nI 1) : ∃ mi', pm_ev gR (d + 5) 161 [.ref 285] (WW L, mi, ml, mr) (some (.int (B ((iS T n v.1 s).1 = true)))) (WW L, mi', ml, mr) ∧ (RIt mi mi' ∧ mi' 285 18 = nI (iS T n v.1 s).2 ∧ ((iS T n v.1 s).1 = true → RP0 mi' (iV T n v s))) := by
  have hlen : lE T n s = s + 5 := by have q := wd_len (by decide) hwd; rw [pmw_1] at q; exact q
  obtain ⟨_x, m', ⟨h1, mi1, h2, h3⟩, h5⟩ := ev_some (E := fun _x m => _x = some (.int (B ((iS T n v.1 s).1 = true))) ∧ ∃ mi', m = (WW L, mi', ml, mr) ∧ (RIt mi mi' ∧ mi' 285 18 = nI (iS T n v.1 s).2 ∧ ((iS T n v.1 s).1 = true → RP0 mi' (iV T n v s)))) (g := gR) (d := d + 4) (M := 161) (args := [.ref 285]) (mem := (WW L, mi, ml, mr)) (q := q_161) rfl (Nat.le_of_ble_eq_true rfl) rfl (by
    refine ev_aload_n (p' := 1) i_161_0 rfl rfl ?_
    refine ev_v0I (p' := 4) i_161_1 rfl cl_12_170_12 (by decide) is_285 (Nat.le_of_ble_eq_true rfl) (s_mwh _ hw hM hs hat) ?_
    rw [hwd]
    refine ev_istore_n (p' := 5) (ls' := [_, _]) i_161_4 rfl rfl (by decide) rfl ?_
    refine ev_iload_n (p' := 6) i_161_5 rfl rfl ?_
    refine ev_iconst (p' := 7) (v := 1) i_161_6 rfl (by decide) ?_
    refine ev_icmp_lt (p' := 10) (tg := 24) i_161_7 rfl rfl (fun c7 => absurd c7 (by decide)) (fun c7 => ?_)
    refine ev_iload_n (p' := 11) i_161_10 rfl rfl ?_
    refine ev_iconst (p' := 12) (v := 3) i_161_11 rfl (by decide) ?_
    refine ev_icmp_ge (p' := 15) (tg := 26) i_161_12 rfl rfl (fun c12 => absurd c12 (by decide)) (fun c12 => ?_)
    refine ev_aload_n (p' := 16) i_161_15 rfl rfl ?_
    refine ev_geti (p' := 19) i_161_16 rfl fl_12_96 rfl is_285 ?_
    rw [hp.1]
    refine ev_bipush (p' := 21) (v := 7) i_161_19 rfl (by decide) ?_
    refine ev_icmp_ne (p' := 24) (tg := 26) i_161_21 rfl rfl (fun c21 => ?_) (fun c21 => ?_)
    · have h7 : v.1 < 7 := by
        have q := hv.1
        have q2 : v.1 ≠ 7 := fun z => c21 (by rw [z]; rfl)
        omega
      refine ev_aload_n (p' := 27) i_161_26 rfl rfl ?_
      refine ev_dup (p' := 28) i_161_27 rfl rfl ?_
      refine ev_geti (p' := 31) i_161_28 rfl fl_12_133 rfl is_285 ?_
      rw [hat]
      refine ev_iload_n (p' := 32) i_161_31 rfl rfl ?_
      refine ev_iconst (p' := 33) (v := 1) i_161_32 rfl (by decide) ?_
      refine ev_icmp_ne (p' := 36) (tg := 40) i_161_33 rfl rfl (fun c33 => absurd c33 (fun z => z rfl)) (fun c33 => ?_)
      refine ev_iconst (p' := 37) (v := nI 5) i_161_36 rfl (by decide) ?_
      refine ev_goto (tg := 50) i_161_37 rfl ?_
      refine ev_iaddN (p' := 51) i_161_50 rfl ?_
      refine ev_puti (p' := 54) i_161_51 rfl fl_12_133 rfl is_285 (gr (by decide)) rfl ?_
      refine ev_iload_n (p' := 55) i_161_54 rfl rfl ?_
      refine ev_iconst (p' := 56) (v := 3) i_161_55 rfl (by decide) ?_
      refine ev_icmp_ne (p' := 59) (tg := 66) i_161_56 rfl rfl (fun c56 => ?_) (fun c56 => absurd (by decide) c56)
      refine ev_iload_n (p' := 67) i_161_66 rfl rfl ?_
      refine ev_iconst (p' := 68) (v := 4) i_161_67 rfl (by decide) ?_
      refine ev_icmp_ne (p' := 71) (tg := 78) i_161_68 rfl rfl (fun c68 => ?_) (fun c68 => absurd (by decide) c68)
      refine ev_aload_n (p' := 79) i_161_78 rfl rfl ?_
      refine ev_iload_n (p' := 80) i_161_79 rfl rfl ?_
      refine ev_iconst (p' := 81) (v := 2) i_161_80 rfl (by decide) ?_
      refine ev_icmp_ne (p' := 84) (tg := 88) i_161_81 rfl rfl (fun c81 => ?_) (fun c81 => absurd (by decide) c81)
      refine ev_iconst (p' := 89) (v := 0) i_161_88 rfl (by decide) ?_
      obtain ⟨mi1, e1, r1, at1, p1⟩ := s_mPiece0 (L := L) (ml := ml) d hw (mi := (pm_u mi 285 18 (nI (s + 5)))) (MT.fr hM (pm_u_oth (by decide)) (pm_u_ne (by decide))) (e := lE T n s) (lE_le (T := T) hs).2 (by rw [pm_u_self, hlen]) (hp.cong (pm_u_oth (by decide)) (pm_u_oth (by decide)) (pm_u_oth (by decide)) (fun a h1 h2 => pm_u_ne (by omega))) hv h7
      refine ev_v1I (p' := 92) i_161_89 rfl cl_12_179_12 (by decide) is_285 (Nat.le_of_ble_eq_true rfl) (e1) ?_
      exact ev_iret i_161_92 rfl B_nar ⟨by unfold iS; rw [if_pos ⟨hwd, h7⟩], mi1, rfl, RIt.trans ⟨fun a z1 _ _ => pm_u_ne z1, fun j _ _ y3 _ _ => pm_u_oth y3⟩ r1, by unfold iS; rw [if_pos ⟨hwd, h7⟩]; exact at1, fun z => by unfold iS at z; rw [if_pos ⟨hwd, h7⟩] at z; unfold iV; rw [if_pos ⟨hwd, h7⟩]; exact p1 z⟩
    · refine ev_iconst (p' := 25) (v := 0) i_161_24 rfl (by decide) ?_
      exact ev_iret i_161_25 rfl rfl ⟨by unfold iS; rw [if_neg (fun z => absurd z.2 (by have q := (nI_eq (b := 7) (by have := hv.1; omega) (by decide)).mp (Classical.not_not.mp c21); omega)), if_neg (fun z => absurd (hwd.symm.trans z.1) (by decide)), if_neg (fun z => absurd (hwd.symm.trans z) (by decide)), if_neg (fun z => absurd (hwd.symm.trans z) (by decide)), B_f Bool.false_ne_true], mi, rfl, RIt.refl, by unfold iS; rw [if_neg (fun z => absurd z.2 (by have q := (nI_eq (b := 7) (by have := hv.1; omega) (by decide)).mp (Classical.not_not.mp c21); omega)), if_neg (fun z => absurd (hwd.symm.trans z.1) (by decide)), if_neg (fun z => absurd (hwd.symm.trans z) (by decide)), if_neg (fun z => absurd (hwd.symm.trans z) (by decide))]; exact hat, fun z => by unfold iS at z; rw [if_neg (fun z => absurd z.2 (by have q := (nI_eq (b := 7) (by have := hv.1; omega) (by decide)).mp (Classical.not_not.mp c21); omega)), if_neg (fun z => absurd (hwd.symm.trans z.1) (by decide)), if_neg (fun z => absurd (hwd.symm.trans z) (by decide)), if_neg (fun z => absurd (hwd.symm.trans z) (by decide))] at z; exact absurd z Bool.false_ne_true⟩)
  subst h1 h2
  exact ⟨mi1, h5, h3⟩
theorem s_mItem2 {L : Nat} {π : Nat → Nat → Nat} {ml : Nat → Nat → Int64} {mr : Nat → Nat → Option Nat} {mi : Nat → Nat → Int32} (d : Nat) (hw : WR π mr) {T : Nat → Int32} {n : Nat} (hM : MT mi T n) {s : Nat} (hs : s ≤ n) (hat : mi 285 18 = nI s) {v : PV} (hp : RP0 mi v) (hv : okPV v) (hwd : wd T n s = nI 2) : ∃ mi', pm_ev gR (d + 5) 161 [.ref 285] (WW L, mi, ml, mr) (some (.int (B ((iS T n v.1 s).1 = true)))) (WW L, mi', ml, mr) ∧ (RIt mi mi' ∧ mi' 285 18 = nI (iS T n v.1 s).2 ∧ ((iS T n v.1 s).1 = true → RP0 mi' (iV T n v s))) := by
  have hlen : lE T n s = s + 2 := by have q := wd_len (by decide) hwd; rw [pmw_2] at q; exact q
  obtain ⟨_x, m', ⟨h1, mi1, h2, h3⟩, h5⟩ := ev_some (E := fun _x m => _x = some (.int (B ((iS T n v.1 s).1 = true))) ∧ ∃ mi', m = (WW L, mi', ml, mr) ∧ (RIt mi mi' ∧ mi' 285 18 = nI (iS T n v.1 s).2 ∧ ((iS T n v.1 s).1 = true → RP0 mi' (iV T n v s)))) (g := gR) (d := d + 4) (M := 161) (args := [.ref 285]) (mem := (WW L, mi, ml, mr)) (q := q_161) rfl (Nat.le_of_ble_eq_true rfl) rfl (by
    refine ev_aload_n (p' := 1) i_161_0 rfl rfl ?_
    refine ev_v0I (p' := 4) i_161_1 rfl cl_12_170_12 (by decide) is_285 (Nat.le_of_ble_eq_true rfl) (s_mwh _ hw hM hs hat) ?_
    rw [hwd]
    refine ev_istore_n (p' := 5) (ls' := [_, _]) i_161_4 rfl rfl (by decide) rfl ?_
    refine ev_iload_n (p' := 6) i_161_5 rfl rfl ?_
    refine ev_iconst (p' := 7) (v := 1) i_161_6 rfl (by decide) ?_
    refine ev_icmp_lt (p' := 10) (tg := 24) i_161_7 rfl rfl (fun c7 => absurd c7 (by decide)) (fun c7 => ?_)
    refine ev_iload_n (p' := 11) i_161_10 rfl rfl ?_
    refine ev_iconst (p' := 12) (v := 3) i_161_11 rfl (by decide) ?_
    refine ev_icmp_ge (p' := 15) (tg := 26) i_161_12 rfl rfl (fun c12 => absurd c12 (by decide)) (fun c12 => ?_)
    refine ev_aload_n (p' := 16) i_161_15 rfl rfl ?_
    refine ev_geti (p' := 19) i_161_16 rfl fl_12_96 rfl is_285 ?_
    rw [hp.1]
    refine ev_bipush (p' := 21) (v := 7) i_161_19 rfl (by decide) ?_
    refine ev_icmp_ne (p' := 24) (tg := 26) i_161_21 rfl rfl (fun c21 => ?_) (fun c21 => ?_)
    · have h7 : v.1 < 7 := by
        have q := hv.1
        have q2 : v.1 ≠ 7 := fun z => c21 (by rw [z]; rfl)
        omega
      refine ev_aload_n (p' := 27) i_161_26 rfl rfl ?_
      refine ev_dup (p' := 28) i_161_27 rfl rfl ?_
      refine ev_geti (p' := 31) i_161_28 rfl fl_12_133 rfl is_285 ?_
      rw [hat]
      refine ev_iload_n (p' := 32) i_161_31 rfl rfl ?_
      refine ev_iconst (p' := 33) (v := 1) i_161_32 rfl (by decide) ?_
      refine ev_icmp_ne (p' := 36) (tg := 40) i_161_33 rfl rfl (fun c33 => ?_) (fun c33 => absurd (by decide) c33)
      refine ev_iload_n (p' := 41) i_161_40 rfl rfl ?_
      refine ev_iconst (p' := 42) (v := 2) i_161_41 rfl (by decide) ?_
      refine ev_icmp_ne (p' := 45) (tg := 49) i_161_42 rfl rfl (fun c42 => absurd c42 (fun z => z rfl)) (fun c42 => ?_)
      refine ev_iconst (p' := 46) (v := nI 2) i_161_45 rfl (by decide) ?_
      refine ev_goto (tg := 50) i_161_46 rfl ?_
      refine ev_iaddN (p' := 51) i_161_50 rfl ?_
      refine ev_puti (p' := 54) i_161_51 rfl fl_12_133 rfl is_285 (gr (by decide)) rfl ?_
      refine ev_iload_n (p' := 55) i_161_54 rfl rfl ?_
      refine ev_iconst (p' := 56) (v := 3) i_161_55 rfl (by decide) ?_
      refine ev_icmp_ne (p' := 59) (tg := 66) i_161_56 rfl rfl (fun c56 => ?_) (fun c56 => absurd (by decide) c56)
      refine ev_iload_n (p' := 67) i_161_66 rfl rfl ?_
      refine ev_iconst (p' := 68) (v := 4) i_161_67 rfl (by decide) ?_
      refine ev_icmp_ne (p' := 71) (tg := 78) i_161_68 rfl rfl (fun c68 => ?_) (fun c68 => absurd (by decide) c68)
      refine ev_aload_n (p' := 79) i_161_78 rfl rfl ?_
      refine ev_iload_n (p' := 80) i_161_79 rfl rfl ?_
      refine ev_iconst (p' := 81) (v := 2) i_161_80 rfl (by decide) ?_
      refine ev_icmp_ne (p' := 84) (tg := 88) i_161_81 rfl rfl (fun c81 => absurd c81 (fun z => z rfl)) (fun c81 => ?_)
      refine ev_iconst (p' := 85) (v := 1) i_161_84 rfl (by decide) ?_
      refine ev_goto (tg := 89) i_161_85 rfl ?_
      obtain ⟨mi1, e1, r1, at1, p1⟩ := s_mPiece1 (L := L) (ml := ml) d hw (mi := (pm_u mi 285 18 (nI (s + 2)))) (MT.fr hM (pm_u_oth (by decide)) (pm_u_ne (by decide))) (e := lE T n s) (lE_le (T := T) hs).2 (by rw [pm_u_self, hlen]) (hp.cong (pm_u_oth (by decide)) (pm_u_oth (by decide)) (pm_u_oth (by decide)) (fun a h1 h2 => pm_u_ne (by omega))) hv h7
      refine ev_v1I (p' := 92) i_161_89 rfl cl_12_179_12 (by decide) is_285 (Nat.le_of_ble_eq_true rfl) (e1) ?_
      exact ev_iret i_161_92 rfl B_nar ⟨by unfold iS; rw [if_neg (fun z => absurd (hwd.symm.trans z.1) (by decide)), if_pos ⟨hwd, h7⟩], mi1, rfl, RIt.trans ⟨fun a z1 _ _ => pm_u_ne z1, fun j _ _ y3 _ _ => pm_u_oth y3⟩ r1, by unfold iS; rw [if_neg (fun z => absurd (hwd.symm.trans z.1) (by decide)), if_pos ⟨hwd, h7⟩]; exact at1, fun z => by unfold iS at z; rw [if_neg (fun z => absurd (hwd.symm.trans z.1) (by decide)), if_pos ⟨hwd, h7⟩] at z; unfold iV; rw [if_neg (fun z => absurd (hwd.symm.trans z.1) (by decide)), if_pos ⟨hwd, h7⟩]; exact p1 z⟩
    · refine ev_iconst (p' := 25) (v := 0) i_161_24 rfl (by decide) ?_
      exact ev_iret i_161_25 rfl rfl ⟨by unfold iS; rw [if_neg (fun z => absurd (hwd.symm.trans z.1) (by decide)), if_neg (fun z => absurd z.2 (by have q := (nI_eq (b := 7) (by have := hv.1; omega) (by decide)).mp (Classical.not_not.mp c21); omega)), if_neg (fun z => absurd (hwd.symm.trans z) (by decide)), if_neg (fun z => absurd (hwd.symm.trans z) (by decide)), B_f Bool.false_ne_true], mi, rfl, RIt.refl, by unfold iS; rw [if_neg (fun z => absurd (hwd.symm.trans z.1) (by decide)), if_neg (fun z => absurd z.2 (by have q := (nI_eq (b := 7) (by have := hv.1; omega) (by decide)).mp (Classical.not_not.mp c21); omega)), if_neg (fun z => absurd (hwd.symm.trans z) (by decide)), if_neg (fun z => absurd (hwd.symm.trans z) (by decide))]; exact hat, fun z => by unfold iS at z; rw [if_neg (fun z => absurd (hwd.symm.trans z.1) (by decide)), if_neg (fun z => absurd z.2 (by have q := (nI_eq (b := 7) (by have := hv.1; omega) (by decide)).mp (Classical.not_not.mp c21); omega)), if_neg (fun z => absurd (hwd.symm.trans z) (by decide)), if_neg (fun z => absurd (hwd.symm.trans z) (by decide))] at z; exact absurd z Bool.false_ne_true⟩)
  subst h1 h2
  exact ⟨mi1, h5, h3⟩
theorem s_mItem3 {L : Nat} {π : Nat → Nat → Nat} {ml : Nat → Nat → Int64} {mr : Nat → Nat → Option Nat} {mi : Nat → Nat → Int32} (d : Nat) (hw : WR π mr) {T : Nat → Int32} {n : Nat} (hM : MT mi T n) {s : Nat} (hs : s ≤ n) (hat : mi 285 18 = nI s) {v : PV} (hp : RP0 mi v) (hv : okPV v) (hwd : wd T n s = nI 3) : ∃ mi', pm_ev gR (d + 5) 161 [.ref 285] (WW L, mi, ml, mr) (some (.int (B ((iS T n v.1 s).1 = true)))) (WW L, mi', ml, mr) ∧ (RIt mi mi' ∧ mi' 285 18 = nI (iS T n v.1 s).2 ∧ ((iS T n v.1 s).1 = true → RP0 mi' (iV T n v s))) := by
  have hlen : lE T n s = s + 4 := by have q := wd_len (by decide) hwd; rw [pmw_3] at q; exact q
  obtain ⟨_x, m', ⟨h1, mi1, h2, h3⟩, h5⟩ := ev_some (E := fun _x m => _x = some (.int (B ((iS T n v.1 s).1 = true))) ∧ ∃ mi', m = (WW L, mi', ml, mr) ∧ (RIt mi mi' ∧ mi' 285 18 = nI (iS T n v.1 s).2 ∧ ((iS T n v.1 s).1 = true → RP0 mi' (iV T n v s)))) (g := gR) (d := d + 4) (M := 161) (args := [.ref 285]) (mem := (WW L, mi, ml, mr)) (q := q_161) rfl (Nat.le_of_ble_eq_true rfl) rfl (by
    refine ev_aload_n (p' := 1) i_161_0 rfl rfl ?_
    refine ev_v0I (p' := 4) i_161_1 rfl cl_12_170_12 (by decide) is_285 (Nat.le_of_ble_eq_true rfl) (s_mwh _ hw hM hs hat) ?_
    rw [hwd]
    refine ev_istore_n (p' := 5) (ls' := [_, _]) i_161_4 rfl rfl (by decide) rfl ?_
    refine ev_iload_n (p' := 6) i_161_5 rfl rfl ?_
    refine ev_iconst (p' := 7) (v := 1) i_161_6 rfl (by decide) ?_
    refine ev_icmp_lt (p' := 10) (tg := 24) i_161_7 rfl rfl (fun c7 => absurd c7 (by decide)) (fun c7 => ?_)
    refine ev_iload_n (p' := 11) i_161_10 rfl rfl ?_
    refine ev_iconst (p' := 12) (v := 3) i_161_11 rfl (by decide) ?_
    refine ev_icmp_ge (p' := 15) (tg := 26) i_161_12 rfl rfl (fun c12 => ?_) (fun c12 => absurd (by decide) c12)
    refine ev_aload_n (p' := 27) i_161_26 rfl rfl ?_
    refine ev_dup (p' := 28) i_161_27 rfl rfl ?_
    refine ev_geti (p' := 31) i_161_28 rfl fl_12_133 rfl is_285 ?_
    rw [hat]
    refine ev_iload_n (p' := 32) i_161_31 rfl rfl ?_
    refine ev_iconst (p' := 33) (v := 1) i_161_32 rfl (by decide) ?_
    refine ev_icmp_ne (p' := 36) (tg := 40) i_161_33 rfl rfl (fun c33 => ?_) (fun c33 => absurd (by decide) c33)
    refine ev_iload_n (p' := 41) i_161_40 rfl rfl ?_
    refine ev_iconst (p' := 42) (v := 2) i_161_41 rfl (by decide) ?_
    refine ev_icmp_ne (p' := 45) (tg := 49) i_161_42 rfl rfl (fun c42 => ?_) (fun c42 => absurd (by decide) c42)
    refine ev_iconst (p' := 50) (v := nI 4) i_161_49 rfl (by decide) ?_
    refine ev_iaddN (p' := 51) i_161_50 rfl ?_
    refine ev_puti (p' := 54) i_161_51 rfl fl_12_133 rfl is_285 (gr (by decide)) rfl ?_
    refine ev_iload_n (p' := 55) i_161_54 rfl rfl ?_
    refine ev_iconst (p' := 56) (v := 3) i_161_55 rfl (by decide) ?_
    refine ev_icmp_ne (p' := 59) (tg := 66) i_161_56 rfl rfl (fun c56 => absurd c56 (fun z => z rfl)) (fun c56 => ?_)
    refine ev_aload_n (p' := 60) i_161_59 rfl rfl ?_
    obtain ⟨mi1, e1, r1, at1, p1⟩ := s_mOpen (L := L) (ml := ml) d hw (mi := (pm_u mi 285 18 (nI (s + 4)))) (MT.fr hM (pm_u_oth (by decide)) (pm_u_ne (by decide))) (e := lE T n s) (lE_le (T := T) hs).2 (by rw [pm_u_self, hlen]) (hp.cong (pm_u_oth (by decide)) (pm_u_oth (by decide)) (pm_u_oth (by decide)) (fun a h1 h2 => pm_u_ne (by omega))) hv
    refine ev_v0I (p' := 63) i_161_60 rfl cl_12_173_12 (by decide) is_285 (Nat.le_of_ble_eq_true rfl) (e1) ?_
    refine ev_goto (tg := 92) i_161_63 rfl ?_
    exact ev_iret i_161_92 rfl B_nar ⟨by unfold iS; rw [if_neg (fun z => absurd (hwd.symm.trans z.1) (by decide)), if_neg (fun z => absurd (hwd.symm.trans z.1) (by decide)), if_pos hwd], mi1, rfl, RIt.trans ⟨fun a z1 _ _ => pm_u_ne z1, fun j _ _ y3 _ _ => pm_u_oth y3⟩ r1, by unfold iS; rw [if_neg (fun z => absurd (hwd.symm.trans z.1) (by decide)), if_neg (fun z => absurd (hwd.symm.trans z.1) (by decide)), if_pos hwd]; exact at1, fun z => by unfold iS at z; rw [if_neg (fun z => absurd (hwd.symm.trans z.1) (by decide)), if_neg (fun z => absurd (hwd.symm.trans z.1) (by decide)), if_pos hwd] at z; unfold iV; rw [if_neg (fun z => absurd (hwd.symm.trans z.1) (by decide)), if_neg (fun z => absurd (hwd.symm.trans z.1) (by decide)), if_pos hwd]; exact p1 z⟩)
  subst h1 h2
  exact ⟨mi1, h5, h3⟩
theorem s_mItem4 {L : Nat} {π : Nat → Nat → Nat} {ml : Nat → Nat → Int64} {mr : Nat → Nat → Option Nat} {mi : Nat → Nat → Int32} (d : Nat) (hw : WR π mr) {T : Nat → Int32} {n : Nat} (hM : MT mi T n) {s : Nat} (hs : s ≤ n) (hat : mi 285 18 = nI s) {v : PV} (hp : RP0 mi v) (hv : okPV v) (hwd : wd T n s = nI 4) : ∃ mi', pm_ev gR (d + 5) 161 [.ref 285] (WW L, mi, ml, mr) (some (.int (B ((iS T n v.1 s).1 = true)))) (WW L, mi', ml, mr) ∧ (RIt mi mi' ∧ mi' 285 18 = nI (iS T n v.1 s).2 ∧ ((iS T n v.1 s).1 = true → RP0 mi' (iV T n v s))) := by
  have hlen : lE T n s = s + 4 := by have q := wd_len (by decide) hwd; rw [pmw_4] at q; exact q
  obtain ⟨_x, m', ⟨h1, mi1, h2, h3⟩, h5⟩ := ev_some (E := fun _x m => _x = some (.int (B ((iS T n v.1 s).1 = true))) ∧ ∃ mi', m = (WW L, mi', ml, mr) ∧ (RIt mi mi' ∧ mi' 285 18 = nI (iS T n v.1 s).2 ∧ ((iS T n v.1 s).1 = true → RP0 mi' (iV T n v s)))) (g := gR) (d := d + 4) (M := 161) (args := [.ref 285]) (mem := (WW L, mi, ml, mr)) (q := q_161) rfl (Nat.le_of_ble_eq_true rfl) rfl (by
    refine ev_aload_n (p' := 1) i_161_0 rfl rfl ?_
    refine ev_v0I (p' := 4) i_161_1 rfl cl_12_170_12 (by decide) is_285 (Nat.le_of_ble_eq_true rfl) (s_mwh _ hw hM hs hat) ?_
    rw [hwd]
    refine ev_istore_n (p' := 5) (ls' := [_, _]) i_161_4 rfl rfl (by decide) rfl ?_
    refine ev_iload_n (p' := 6) i_161_5 rfl rfl ?_
    refine ev_iconst (p' := 7) (v := 1) i_161_6 rfl (by decide) ?_
    refine ev_icmp_lt (p' := 10) (tg := 24) i_161_7 rfl rfl (fun c7 => absurd c7 (by decide)) (fun c7 => ?_)
    refine ev_iload_n (p' := 11) i_161_10 rfl rfl ?_
    refine ev_iconst (p' := 12) (v := 3) i_161_11 rfl (by decide) ?_
    refine ev_icmp_ge (p' := 15) (tg := 26) i_161_12 rfl rfl (fun c12 => ?_) (fun c12 => absurd (by decide) c12)
    refine ev_aload_n (p' := 27) i_161_26 rfl rfl ?_
    refine ev_dup (p' := 28) i_161_27 rfl rfl ?_
    refine ev_geti (p' := 31) i_161_28 rfl fl_12_133 rfl is_285 ?_
    rw [hat]
    refine ev_iload_n (p' := 32) i_161_31 rfl rfl ?_
    refine ev_iconst (p' := 33) (v := 1) i_161_32 rfl (by decide) ?_
    refine ev_icmp_ne (p' := 36) (tg := 40) i_161_33 rfl rfl (fun c33 => ?_) (fun c33 => absurd (by decide) c33)
    refine ev_iload_n (p' := 41) i_161_40 rfl rfl ?_
    refine ev_iconst (p' := 42) (v := 2) i_161_41 rfl (by decide) ?_
    refine ev_icmp_ne (p' := 45) (tg := 49) i_161_42 rfl rfl (fun c42 => ?_) (fun c42 => absurd (by decide) c42)
    refine ev_iconst (p' := 50) (v := nI 4) i_161_49 rfl (by decide) ?_
    refine ev_iaddN (p' := 51) i_161_50 rfl ?_
    refine ev_puti (p' := 54) i_161_51 rfl fl_12_133 rfl is_285 (gr (by decide)) rfl ?_
    refine ev_iload_n (p' := 55) i_161_54 rfl rfl ?_
    refine ev_iconst (p' := 56) (v := 3) i_161_55 rfl (by decide) ?_
    refine ev_icmp_ne (p' := 59) (tg := 66) i_161_56 rfl rfl (fun c56 => ?_) (fun c56 => absurd (by decide) c56)
    refine ev_iload_n (p' := 67) i_161_66 rfl rfl ?_
    refine ev_iconst (p' := 68) (v := 4) i_161_67 rfl (by decide) ?_
    refine ev_icmp_ne (p' := 71) (tg := 78) i_161_68 rfl rfl (fun c68 => absurd c68 (fun z => z rfl)) (fun c68 => ?_)
    refine ev_aload_n (p' := 72) i_161_71 rfl rfl ?_
    obtain ⟨mi1, e1, r1, at1, p1⟩ := s_mPull (L := L) (ml := ml) d hw (mi := (pm_u mi 285 18 (nI (s + 4)))) (MT.fr hM (pm_u_oth (by decide)) (pm_u_ne (by decide))) (e := lE T n s) (lE_le (T := T) hs).2 (by rw [pm_u_self, hlen]) (hp.cong (pm_u_oth (by decide)) (pm_u_oth (by decide)) (pm_u_oth (by decide)) (fun a h1 h2 => pm_u_ne (by omega))) hv
    refine ev_v0I (p' := 75) i_161_72 rfl cl_12_176_12 (by decide) is_285 (Nat.le_of_ble_eq_true rfl) (e1) ?_
    refine ev_goto (tg := 92) i_161_75 rfl ?_
    exact ev_iret i_161_92 rfl B_nar ⟨by unfold iS; rw [if_neg (fun z => absurd (hwd.symm.trans z.1) (by decide)), if_neg (fun z => absurd (hwd.symm.trans z.1) (by decide)), if_neg (fun z => absurd (hwd.symm.trans z) (by decide)), if_pos hwd], mi1, rfl, RIt.trans ⟨fun a z1 _ _ => pm_u_ne z1, fun j _ _ y3 _ _ => pm_u_oth y3⟩ r1, by unfold iS; rw [if_neg (fun z => absurd (hwd.symm.trans z.1) (by decide)), if_neg (fun z => absurd (hwd.symm.trans z.1) (by decide)), if_neg (fun z => absurd (hwd.symm.trans z) (by decide)), if_pos hwd]; exact at1, fun z => by unfold iS at z; rw [if_neg (fun z => absurd (hwd.symm.trans z.1) (by decide)), if_neg (fun z => absurd (hwd.symm.trans z.1) (by decide)), if_neg (fun z => absurd (hwd.symm.trans z) (by decide)), if_pos hwd] at z; unfold iV; rw [if_neg (fun z => absurd (hwd.symm.trans z.1) (by decide)), if_neg (fun z => absurd (hwd.symm.trans z.1) (by decide)), if_neg (fun z => absurd (hwd.symm.trans z) (by decide)), if_pos hwd]; exact p1 z⟩)
  subst h1 h2
  exact ⟨mi1, h5, h3⟩
theorem s_mItem {L : Nat} {π : Nat → Nat → Nat} {ml : Nat → Nat → Int64} {mr : Nat → Nat → Option Nat} {mi : Nat → Nat → Int32} (d : Nat) (hw : WR π mr) {T : Nat → Int32} {n : Nat} (hM : MT mi T n) {s : Nat} (hs : s ≤ n) (hat : mi 285 18 = nI s) {v : PV} (hp : RP0 mi v) (hv : okPV v) : ∃ mi', pm_ev gR (d + 5) 161 [.ref 285] (WW L, mi, ml, mr) (some (.int (B ((iS T n v.1 s).1 = true)))) (WW L, mi', ml, mr) ∧ (RIt mi mi' ∧ mi' 285 18 = nI (iS T n v.1 s).2 ∧ ((iS T n v.1 s).1 = true → RP0 mi' (iV T n v s))) := by
  rcases wd_vals (T := T) (n := n) (s := s) with h | h | h | h | h | h
  · exact s_mItemn d hw hM hs hat hp hv h
  · exact s_mItem0 d hw hM hs hat hp hv h
  · exact s_mItem1 d hw hM hs hat hp hv h
  · exact s_mItem2 d hw hM hs hat hp hv h
  · exact s_mItem3 d hw hM hs hat hp hv h
  · exact s_mItem4 d hw hM hs hat hp hv h
def RJ (mi mi' : Nat → Nat → Int32) : Prop := (∀ a, a ≠ 285 → a < 287 ∨ 293 < a → a ≠ 298 → mi' a = mi a) ∧ mi' 285 17 = mi 285 17 ∧ mi' 285 22 = mi 285 22
theorem RIt.j {a b : Nat → Nat → Int32} (h : RIt a b) : RJ a b := ⟨h.1, h.2 17 (by decide) (by decide) (by decide) (by decide) (by decide), h.2 22 (by decide) (by decide) (by decide) (by decide) (by decide)⟩
theorem RJ.trans {a b c : Nat → Nat → Int32} (h1 : RJ a b) (h2 : RJ b c) : RJ a c := ⟨fun x z1 z2 z3 => by rw [h2.1 x z1 z2 z3, h1.1 x z1 z2 z3], by rw [h2.2.1, h1.2.1], by rw [h2.2.2, h1.2.2]⟩
theorem RJ.m {mi mi' : Nat → Nat → Int32} {T : Nat → Int32} {n : Nat} (h : RJ mi mi') (hM : MT mi T n) : MT mi' T n := hM.fr h.2.1 (h.1 297 (by decide) (by decide) (by decide))
theorem rn6_j {mi : Nat → Nat → Int32} {w : Int32} : RJ mi (rn6 mi w) := by
  unfold rn6
  exact ⟨fun a z1 _ _ => by rw [pm_u_ne z1, pm_u_ne z1, pm_u_ne z1, pm_u_ne z1, pm_u_ne z1, pm_u_ne z1], by rw [pm_u_oth (by decide), pm_u_oth (by decide), pm_u_oth (by decide), pm_u_oth (by decide), pm_u_oth (by decide), pm_u_oth (by decide)], by rw [pm_u_oth (by decide), pm_u_oth (by decide), pm_u_oth (by decide), pm_u_oth (by decide), pm_u_oth (by decide), pm_u_oth (by decide)]⟩
theorem rn6_18 {mi : Nat → Nat → Int32} {w : Int32} : rn6 mi w 285 18 = mi 285 18 := by unfold rn6; rw [pm_u_oth (by decide), pm_u_oth (by decide), pm_u_oth (by decide), pm_u_oth (by decide), pm_u_oth (by decide), pm_u_oth (by decide)]
theorem rn6_p {mi : Nat → Nat → Int32} {w : Int32} : RP0 (rn6 mi w) (0, w, 0, fun _ _ => 0) ∧ rn6 mi w 285 4 = 0 ∧ rn6 mi w 285 5 = 0 := by
  refine ⟨⟨by simp [rn6, pm_u]; rfl, by simp [rn6, pm_u], by simp [rn6, pm_u], fun i hi => absurd hi (Nat.not_lt_zero i)⟩, by simp [rn6, pm_u], by simp [rn6, pm_u]⟩
theorem s_mFirst {L : Nat} {π : Nat → Nat → Nat} {ml : Nat → Nat → Int64} {mr : Nat → Nat → Option Nat} {mi : Nat → Nat → Int32} (d : Nat) (hw : WR π mr) {T : Nat → Int32} {n : Nat} (hM : MT mi T n) (hat : mi 285 18 = nI 0) : ∃ mi', pm_ev gR (d + 5) 162 [.ref 285] (WW L, mi, ml, mr) (some (.int (B ((b0S T n).1 = true)))) (WW L, mi', ml, mr) ∧ (RJ mi mi' ∧ mi' 285 18 = nI (b0S T n).2 ∧ ((b0S T n).1 = true → RP0 mi' (b0V T n) ∧ mi' 285 4 = 0 ∧ mi' 285 5 = 0)) := by
  obtain ⟨_x, m', ⟨h1, mi1, h2, h3⟩, h5⟩ := ev_some (E := fun _x m => _x = some (.int (B ((b0S T n).1 = true))) ∧ ∃ mi', m = (WW L, mi', ml, mr) ∧ (RJ mi mi' ∧ mi' 285 18 = nI (b0S T n).2 ∧ ((b0S T n).1 = true → RP0 mi' (b0V T n) ∧ mi' 285 4 = 0 ∧ mi' 285 5 = 0))) (g := gR) (d := d + 4) (M := 162) (args := [.ref 285]) (mem := (WW L, mi, ml, mr)) (q := q_162) rfl (Nat.le_of_ble_eq_true rfl) rfl (by
    refine ev_aload_n (p' := 1) i_162_0 rfl rfl ?_
    obtain ⟨mi1, e1, hR1, hat1⟩ := s_skip (L := L) (ml := ml) (d + 2) hw hM (Nat.zero_le n) hat
    have hM1 := hR1.m hM
    have hsk := skp_le (T := T) (Nat.zero_le n)
    refine ev_v0V (p' := 4) i_162_1 rfl cl_12_150_12 (by decide) is_285 (Nat.le_of_ble_eq_true rfl) (e1) ?_
    refine ev_aload_n (p' := 5) i_162_4 rfl rfl ?_
    refine ev_v0I (p' := 8) i_162_5 rfl cl_12_170_12 (by decide) is_285 (Nat.le_of_ble_eq_true rfl) (s_mwh _ hw hM1 hsk.2 hat1) ?_
    refine ev_if_eq (p' := 11) (tg := 13) i_162_8 rfl rfl (fun c8 => ?_) (fun c8 => ?_)
    · refine ev_aload_n (p' := 14) i_162_13 rfl rfl ?_
      refine ev_dup (p' := 15) i_162_14 rfl rfl ?_
      refine ev_geti (p' := 18) i_162_15 rfl fl_12_133 rfl is_285 ?_
      rw [hat1]
      refine ev_iconst (p' := 19) (v := nI 4) i_162_18 rfl (by decide) ?_
      refine ev_iaddN (p' := 20) i_162_19 rfl ?_
      refine ev_puti (p' := 23) i_162_20 rfl fl_12_133 rfl is_285 (gr (by decide)) rfl ?_
      refine ev_aload_n (p' := 24) i_162_23 rfl rfl ?_
      refine ev_bipush (p' := 26) (v := 6) i_162_24 rfl (by decide) ?_
      refine ev_bipush (p' := 28) (v := 40) i_162_26 rfl (by decide) ?_
      have hlen : lE T n (skp T n 0) = skp T n 0 + 4 := by have q := wd_len (by decide) (show wd T n (skp T n 0) = nI 0 from c8); rw [pmw_0] at q; exact q
      have hle := (lE_le (T := T) hsk.2).2
      obtain ⟨mi2, e2, x2, at2, vl2⟩ := s_mnum (L := L) (ml := ml) (d + 1) hw (mi := (pm_u mi1 285 18 (nI (skp T n 0 + 4)))) (hM1.fr (pm_u_oth (by decide)) (pm_u_ne (by decide))) (st := (true, lE T n (skp T n 0))) rfl hle (by rw [pm_u_self, hlen]) 6 40
      have r2 : RJ mi mi2 := hR1.i.j.trans (RJ.trans ⟨fun a z1 _ _ => pm_u_ne z1, pm_u_oth (by decide), pm_u_oth (by decide)⟩ x2.i.j)
      refine ev_v2I (p' := 31) i_162_28 rfl cl_12_159_12 (by decide) is_285 (Nat.le_of_ble_eq_true rfl) (e2) ?_
      refine ev_if_ne (p' := 34) (tg := 36) i_162_31 rfl rfl (fun c31 => ?_) (fun c31 => ?_)
      · replace c31 := B1 c31
        refine ev_aload_n (p' := 37) i_162_36 rfl rfl ?_
        refine ev_aload_n (p' := 38) i_162_37 rfl rfl ?_
        refine ev_geti (p' := 41) i_162_38 rfl fl_12_156 rfl is_285 ?_
        rw [vl2 c31]
        refine ev_v1V (p' := 44) i_162_41 rfl cl_12_92_12 (by decide) is_285 (Nat.le_of_ble_eq_true rfl) (s_begin _ _) ?_
        refine ev_aload_n (p' := 45) i_162_44 rfl rfl ?_
        obtain ⟨mi3, e3, y3, at3⟩ := s_mend (L := L) (ml := ml) (d + 1) hw (rn6_j.m (r2.m hM)) (st := nmS T n 6 40 (true, lE T n (skp T n 0))) c31 (nmS_le hle).1 (rn6_18.trans at2)
        refine ev_v0I (p' := 48) i_162_45 rfl cl_12_163_12 (by decide) is_285 (Nat.le_of_ble_eq_true rfl) (e3) ?_
        exact ev_iret i_162_48 rfl B_nar ⟨by unfold b0S; rw [if_pos (show wd T n (skp T n 0) = nI 0 from c8)], mi3, rfl, (r2.trans rn6_j).trans y3.i.j, by unfold b0S; rw [if_pos (show wd T n (skp T n 0) = nI 0 from c8)]; exact at3, fun _ => ⟨y3.x.p rn6_p.1, (y3.2 4 (by decide)).trans rn6_p.2.1, (y3.2 5 (by decide)).trans rn6_p.2.2⟩⟩
      · replace c31 := B0n c31
        refine ev_iconst (p' := 35) (v := 0) i_162_34 rfl (by decide) ?_
        exact ev_iret i_162_35 rfl rfl ⟨by unfold b0S; rw [if_pos (show wd T n (skp T n 0) = nI 0 from c8), nf_end c31, B_f c31], mi2, rfl, r2, by unfold b0S; rw [if_pos (show wd T n (skp T n 0) = nI 0 from c8), nf_end c31]; exact at2, fun z => by unfold b0S at z; rw [if_pos (show wd T n (skp T n 0) = nI 0 from c8), nf_end c31] at z; exact absurd z c31⟩
    · refine ev_iconst (p' := 12) (v := 0) i_162_11 rfl (by decide) ?_
      exact ev_iret i_162_12 rfl rfl ⟨by unfold b0S; rw [if_neg (show ¬ wd T n (skp T n 0) = nI 0 from c8), B_f Bool.false_ne_true], mi1, rfl, hR1.i.j, by unfold b0S; rw [if_neg (show ¬ wd T n (skp T n 0) = nI 0 from c8)]; exact hat1, fun z => by unfold b0S at z; rw [if_neg (show ¬ wd T n (skp T n 0) = nI 0 from c8)] at z; exact absurd z Bool.false_ne_true⟩)
  subst h1 h2
  exact ⟨mi1, h5, h3⟩
theorem iS_le {T : Nat → Int32} {n m s : Nat} (hs : s ≤ n) : (iS T n m s).2 ≤ n := by
  have hl := (lE_le (T := T) hs).2
  unfold iS
  split
  · exact (enS_le (nmS_le (nmS_le (nmS_le (nmS_le (st := (true, lE T n s)) hl).1).1).1).1).1
  · split
    · exact (enS_le (nmS_le (nmS_le (nmS_le (nmS_le (nmS_le (st := (true, lE T n s)) hl).1).1).1).1).1).1
    · split
      · exact (enS_le (nmS_le (st := (true, lE T n s)) hl).1).1
      · split
        · exact (enS_le (nmS_le (nmS_le (st := (true, lE T n s)) hl).1).1).1
        · exact hs
theorem wd_up {T : Nat → Int32} {n s k : Nat} (hk : k < 5) (h : wd T n s = nI k) : s + 1 ≤ lE T n s := by
  have h1 := wd_len hk h
  have h2 := pmw_len hk
  omega
theorem iS_up {T : Nat → Int32} {n m s : Nat} (hs : s ≤ n) (h : (iS T n m s).1 = true) : s + 1 ≤ (iS T n m s).2 := by
  have hl := (lE_le (T := T) hs).2
  have g1 : ∀ lo hi, lE T n s ≤ (nmS T n lo hi (true, lE T n s)).2 ∧ (nmS T n lo hi (true, lE T n s)).2 ≤ n := fun lo hi => ⟨(nmS_le (st := (true, lE T n s)) hl).2, (nmS_le (st := (true, lE T n s)) hl).1⟩
  have g2 : ∀ lo hi (st : Bool × Nat), lE T n s ≤ st.2 ∧ st.2 ≤ n → lE T n s ≤ (nmS T n lo hi st).2 ∧ (nmS T n lo hi st).2 ≤ n := fun lo hi st z => ⟨Nat.le_trans z.1 (nmS_le z.2).2, (nmS_le z.2).1⟩
  have g3 : ∀ (st : Bool × Nat), lE T n s ≤ st.2 ∧ st.2 ≤ n → lE T n s ≤ (enS T n st).2 := fun st z => Nat.le_trans z.1 (enS_le z.2).2
  unfold iS at h ⊢
  by_cases c1 : wd T n s = nI 1 ∧ m < 7
  · rw [if_pos c1]
    exact Nat.le_trans (wd_up (by decide) c1.1) (g3 _ (g2 _ _ _ (g2 _ _ _ (g2 _ _ _ (g1 _ _)))))
  · rw [if_neg c1] at h ⊢
    by_cases c2 : wd T n s = nI 2 ∧ m < 7
    · rw [if_pos c2]
      exact Nat.le_trans (wd_up (by decide) c2.1) (g3 _ (g2 _ _ _ (g2 _ _ _ (g2 _ _ _ (g2 _ _ _ (g1 _ _))))))
    · rw [if_neg c2] at h ⊢
      by_cases c3 : wd T n s = nI 3
      · rw [if_pos c3]
        exact Nat.le_trans (wd_up (by decide) c3) (g3 _ (g1 _ _))
      · rw [if_neg c3] at h ⊢
        by_cases c4 : wd T n s = nI 4
        · rw [if_pos c4]
          exact Nat.le_trans (wd_up (by decide) c4) (g3 _ (g2 _ _ _ (g1 _ _)))
        · rw [if_neg c4] at h
          exact absurd h Bool.false_ne_true
theorem iV_ok {T : Nat → Int32} {n s : Nat} {v : PV} (hs : s ≤ n) (hv : okPV v) (h : (iS T n v.1 s).1 = true) : okPV (iV T n v s) := by
  have hl := (lE_le (T := T) hs).2
  unfold iS at h
  unfold iV
  by_cases c1 : wd T n s = nI 1 ∧ v.1 < 7
  · rw [if_pos c1] at h ⊢
    have z4 := (enS_ok h).1
    have z3 := (nmS_ok z4).1
    have z2 := (nmS_ok z3).1
    have z1 := (nmS_ok z2).1
    have l1 := (nmS_le (T := T) (n := n) (lo := 0) (hi := 5) (st := (true, lE T n s)) hl).1
    have l2 := (nmS_le (T := T) (n := n) (lo := 1) (hi := 9) l1).1
    have l3 := (nmS_le (T := T) (n := n) (lo := 1) (hi := 9) l2).1
    obtain ⟨k, -, k2, e1⟩ := nmV_le (a := 0) (b := 5) (st := (true, lE T n s)) hl z1 rfl rfl (by decide) (by decide)
    obtain ⟨a, a1, a2, e2⟩ := nmV_le (a := 1) (b := 9) l1 z2 rfl rfl (by decide) (by decide)
    obtain ⟨t, t1, t2, e3⟩ := nmV_le (a := 1) (b := 9) l2 z3 rfl rfl (by decide) (by decide)
    obtain ⟨r, -, r2, e4⟩ := nmV_le (a := 0) (b := 9) l3 z4 rfl rfl (by decide) (by decide)
    rw [e1, e2, e3, e4]
    exact okp.glue hv c1.2 k2 a1 a2 t1 t2 r2 (Or.inl rfl)
  · rw [if_neg c1] at h ⊢
    by_cases c2 : wd T n s = nI 2 ∧ v.1 < 7
    · rw [if_pos c2] at h ⊢
      have z5 := (enS_ok h).1
      have z4 := (nmS_ok z5).1
      have z3 := (nmS_ok z4).1
      have z2 := (nmS_ok z3).1
      have z1 := (nmS_ok z2).1
      have l1 := (nmS_le (T := T) (n := n) (lo := 0) (hi := 5) (st := (true, lE T n s)) hl).1
      have l2 := (nmS_le (T := T) (n := n) (lo := 1) (hi := 9) l1).1
      have l3 := (nmS_le (T := T) (n := n) (lo := 1) (hi := 9) l2).1
      have l4 := (nmS_le (T := T) (n := n) (lo := 0) (hi := 9) l3).1
      obtain ⟨k, -, k2, e1⟩ := nmV_le (a := 0) (b := 5) (st := (true, lE T n s)) hl z1 rfl rfl (by decide) (by decide)
      obtain ⟨a, a1, a2, e2⟩ := nmV_le (a := 1) (b := 9) l1 z2 rfl rfl (by decide) (by decide)
      obtain ⟨t, t1, t2, e3⟩ := nmV_le (a := 1) (b := 9) l2 z3 rfl rfl (by decide) (by decide)
      obtain ⟨r, -, r2, e4⟩ := nmV_le (a := 0) (b := 9) l3 z4 rfl rfl (by decide) (by decide)
      obtain ⟨j, j1, e5⟩ := nm_pc l4 hv.1 z5
      rw [e1, e2, e3, e4, e5]
      exact okp.glue hv c2.2 k2 a1 a2 t1 t2 r2 (Or.inr ⟨j, j1, rfl⟩)
    · rw [if_neg c2] at h ⊢
      by_cases c3 : wd T n s = nI 3
      · rw [if_pos c3] at h ⊢
        obtain ⟨k, -, k2, e1⟩ := nmV_le (a := 0) (b := 12) (st := (true, lE T n s)) hl (enS_ok h).1 rfl rfl (by decide) (by decide)
        rw [e1]
        exact hv.op (by omega)
      · rw [if_neg c3] at h ⊢
        by_cases c4 : wd T n s = nI 4
        · rw [if_pos c4] at h ⊢
          have l1 := (nmS_le (T := T) (n := n) (lo := 0) (hi := nI v.1 - 1) (st := (true, lE T n s)) hl).1
          obtain ⟨k, -, k2, e1⟩ := nmV_le (a := 0) (b := 3) l1 (enS_ok h).1 rfl rfl (by decide) (by decide)
          rw [e1]
          exact hv.set5 (by omega)
        · rw [if_neg c4]
          exact hv
theorem bk_ok {T : Nat → Int32} {n : Nat} : ∀ k st v i, st.2 ≤ n → (st.1 = true → okPV v) → (bk T n k st v i).1.2 ≤ n ∧ (bk T n k st v i).2.2 ≤ i + k ∧ ((bk T n k st v i).1.1 = true → okPV (bk T n k st v i).2.1) := by
  intro k
  induction k with
  | zero => intro st v i h1 h2; exact ⟨h1, Nat.le_refl _, h2⟩
  | succ k ih =>
    intro st v i h1 h2
    obtain ⟨b, e⟩ := st
    cases b with
    | false => rw [bk_n]; exact ⟨h1, Nat.le_add_right i (k + 1), fun z => absurd z Bool.false_ne_true⟩
    | true =>
      by_cases hs : skp T n e < n
      · rw [bk_t hs]
        obtain ⟨g1, g2, g3⟩ := ih (iS T n v.1 (skp T n e)) (iV T n v (skp T n e)) (i + 1) (iS_le (by omega)) (fun z => iV_ok (by omega) (h2 rfl) z)
        exact ⟨g1, by omega, g3⟩
      · rw [bk_f hs]; exact ⟨h1, Nat.le_add_right i (k + 1), h2⟩
theorem b0S_le {T : Nat → Int32} {n : Nat} : (b0S T n).2 ≤ n := by
  have hsk := skp_le (T := T) (Nat.zero_le n)
  unfold b0S
  split
  · exact (enS_le (nmS_le (st := (true, lE T n (skp T n 0))) (lE_le (T := T) hsk.2).2).1).1
  · exact hsk.2
theorem b0V_ok {T : Nat → Int32} {n : Nat} (h : (b0S T n).1 = true) : okPV (b0V T n) := by
  have hsk := skp_le (T := T) (Nat.zero_le n)
  unfold b0S at h
  by_cases c : wd T n (skp T n 0) = nI 0
  · rw [if_pos c] at h
    obtain ⟨w, w1, w2, e⟩ := nmV_le (a := 6) (b := 40) (st := (true, lE T n (skp T n 0))) (lE_le (T := T) hsk.2).2 (enS_ok h).1 rfl rfl (by decide) (by decide)
    exact ⟨Nat.zero_le _, ⟨w, w1, w2, e⟩, ⟨0, by decide, rfl⟩, fun i hi => absurd hi (Nat.not_lt_zero i)⟩
  · rw [if_neg c] at h
    exact absurd h Bool.false_ne_true
theorem BOOK_ok {T : Nat → Int32} {n : Nat} : (BOOK T n).1.2 ≤ n ∧ (BOOK T n).2.2 ≤ 1 + n ∧ ((BOOK T n).1.1 = true → okPV (BOOK T n).2.1) := bk_ok n _ _ 1 b0S_le (fun z => b0V_ok z)
theorem l_mbook {L : Nat} {π : Nat → Nat → Nat} {ml : Nat → Nat → Int64} {mr : Nat → Nat → Option Nat} {d : Nat} {E : Option Value → pm_M → Prop} (hw : WR π mr) {mi0 : Nat → Nat → Int32} {T : Nat → Int32} {n : Nat} : ∀ k e v i mi, MT mi T n → e ≤ n → n ≤ skp T n e + k → mi 285 18 = nI (skp T n e) → RP0 mi v → okPV v → mi 285 4 = 0 → mi 285 5 = 0 → RJ mi0 mi → (∀ mi, RJ mi0 mi → ((bk T n k (true, e) v i).1.1 = true → RP0 mi (bk T n k (true, e) v i).2.1 ∧ mi 285 4 = 0 ∧ mi 285 5 = 0) → (¬ (bk T n k (true, e) v i).1.1 = true → mi 285 18 = nI (bk T n k (true, e) v i).1.2) → E (some (.int (if (bk T n k (true, e) v i).1.1 = true then nI (bk T n k (true, e) v i).2.2 else -1))) (WW L, mi, ml, mr)) → Ev gR (pm_ev gR (d + 5)) E q_163 20 [some (.ref 285), some (.int (nI i))] [] (WW L, mi, ml, mr) := by
  intro k
  induction k with
  | zero =>
    intro e v i mi hM he hk hat hp hv h4 h5 hJ hE
    have h150 := hM.1
    have hsk := skp_le (T := T) he
    refine ev_aload_n (p' := 21) i_163_20 rfl rfl ?_
    refine ev_geti (p' := 24) i_163_21 rfl fl_12_133 rfl is_285 ?_
    rw [hat]
    refine ev_aload_n (p' := 25) i_163_24 rfl rfl ?_
    refine ev_geti (p' := 28) i_163_25 rfl fl_12_130 rfl is_285 ?_
    rw [hM.2.1]
    refine ev_icmp_ge (p' := 31) (tg := 50) i_163_28 rfl rfl (fun c28 => ?_) (fun c28 => absurd (nI_le (by omega) (by omega)) c28)
    refine ev_iload_n (p' := 51) i_163_50 rfl rfl ?_
    exact ev_iretI i_163_51 rfl (by have z := hE mi hJ; rw [bk_0, if_pos rfl] at z; exact z (fun _ => ⟨hp, h4, h5⟩) (fun y => absurd rfl y))
  | succ k ih =>
    intro e v i mi hM he hk hat hp hv h4 h5 hJ hE
    have h150 := hM.1
    have hsk := skp_le (T := T) he
    by_cases hsn : skp T n e < n
    · refine ev_aload_n (p' := 21) i_163_20 rfl rfl ?_
      refine ev_geti (p' := 24) i_163_21 rfl fl_12_133 rfl is_285 ?_
      rw [hat]
      refine ev_aload_n (p' := 25) i_163_24 rfl rfl ?_
      refine ev_geti (p' := 28) i_163_25 rfl fl_12_130 rfl is_285 ?_
      rw [hM.2.1]
      refine ev_icmp_ge (p' := 31) (tg := 50) i_163_28 rfl rfl (fun c28 => absurd c28 (nI_ge (by omega) (by omega))) (fun c28 => ?_)
      refine ev_aload_n (p' := 32) i_163_31 rfl rfl ?_
      obtain ⟨mi1, e1, r1, at1, p1⟩ := s_mItem (L := L) (ml := ml) d hw hM (Nat.le_of_lt hsn) hat hp hv
      refine ev_v0I (p' := 35) i_163_32 rfl cl_12_186_12 (by decide) is_285 (Nat.le_of_ble_eq_true rfl) (e1) ?_
      refine ev_if_ne (p' := 38) (tg := 40) i_163_35 rfl rfl (fun c35 => ?_) (fun c35 => ?_)
      · replace c35 := B1 c35
        refine ev_iinc (p' := 43) (ls' := [_, _]) i_163_40 rfl rfl rfl (by decide) (nI_inc _) rfl ?_
        refine ev_aload_n (p' := 44) i_163_43 rfl rfl ?_
        have hl1 := iS_le (T := T) (m := v.1) (Nat.le_of_lt hsn)
        obtain ⟨mi2, e2, y2, at2⟩ := s_skip (L := L) (ml := ml) (d + 3) hw (r1.m hM) hl1 at1
        refine ev_v0V (p' := 47) i_163_44 rfl cl_12_150_12 (by decide) is_285 (Nat.le_of_ble_eq_true rfl) (e2) ?_
        refine ev_goto (tg := 20) i_163_47 rfl ?_
        have hup := iS_up (Nat.le_of_lt hsn) c35
        have hsk2 := skp_le (T := T) hl1
        rw [bk_t hsn, show iS T n v.1 (skp T n e) = (true, (iS T n v.1 (skp T n e)).2) from Prod.ext c35 rfl] at hE
        exact ih _ _ (i + 1) mi2 (y2.m (r1.m hM)) hl1 (by omega) at2 (y2.x.p (p1 c35)) (iV_ok (Nat.le_of_lt hsn) hv c35) ((y2.2 4 (by decide)).trans ((r1.2 4 (by decide) (by decide) (by decide) (by decide) (by decide)).trans h4)) ((y2.2 5 (by decide)).trans ((r1.2 5 (by decide) (by decide) (by decide) (by decide) (by decide)).trans h5)) ((hJ.trans r1.j).trans y2.i.j) hE
      · replace c35 := B0n c35
        refine ev_iconst (p' := 39) (v := -1) i_163_38 rfl (by decide) ?_
        exact ev_iretI i_163_39 rfl (by have z := hE mi1 (hJ.trans r1.j); rw [bk_t hsn, show iS T n v.1 (skp T n e) = (false, (iS T n v.1 (skp T n e)).2) from Prod.ext (Bool.not_eq_true _ ▸ c35) rfl, bk_n, if_neg Bool.false_ne_true] at z; exact z (fun y => absurd y Bool.false_ne_true) (fun _ => at1))
    · refine ev_aload_n (p' := 21) i_163_20 rfl rfl ?_
      refine ev_geti (p' := 24) i_163_21 rfl fl_12_133 rfl is_285 ?_
      rw [hat]
      refine ev_aload_n (p' := 25) i_163_24 rfl rfl ?_
      refine ev_geti (p' := 28) i_163_25 rfl fl_12_130 rfl is_285 ?_
      rw [hM.2.1]
      refine ev_icmp_ge (p' := 31) (tg := 50) i_163_28 rfl rfl (fun c28 => ?_) (fun c28 => absurd (nI_le (by omega) (by omega)) c28)
      refine ev_iload_n (p' := 51) i_163_50 rfl rfl ?_
      exact ev_iretI i_163_51 rfl (by have z := hE mi hJ; rw [bk_f hsn, if_pos rfl] at z; exact z (fun _ => ⟨hp, h4, h5⟩) (fun y => absurd rfl y))
theorem s_mBook {L : Nat} {π : Nat → Nat → Nat} {ml : Nat → Nat → Int64} {mr : Nat → Nat → Option Nat} {mi : Nat → Nat → Int32} (d : Nat) (hw : WR π mr) {T : Nat → Int32} {n : Nat} (hM : MT mi T n) : ∃ mi', pm_ev gR (d + 6) 163 [.ref 285] (WW L, mi, ml, mr) (some (.int (if (BOOK T n).1.1 = true then nI (BOOK T n).2.2 else -1))) (WW L, mi', ml, mr) ∧ (RJ mi mi' ∧ ((BOOK T n).1.1 = true → RP0 mi' (BOOK T n).2.1 ∧ mi' 285 4 = 0 ∧ mi' 285 5 = 0) ∧ (¬ (BOOK T n).1.1 = true → mi' 285 18 = nI (BOOK T n).1.2)) := by
  obtain ⟨_x, m', ⟨h1, mi1, h2, h3⟩, h5⟩ := ev_some (E := fun _x m => _x = some (.int (if (BOOK T n).1.1 = true then nI (BOOK T n).2.2 else -1)) ∧ ∃ mi', m = (WW L, mi', ml, mr) ∧ (RJ mi mi' ∧ ((BOOK T n).1.1 = true → RP0 mi' (BOOK T n).2.1 ∧ mi' 285 4 = 0 ∧ mi' 285 5 = 0) ∧ (¬ (BOOK T n).1.1 = true → mi' 285 18 = nI (BOOK T n).1.2))) (g := gR) (d := d + 5) (M := 163) (args := [.ref 285]) (mem := (WW L, mi, ml, mr)) (q := q_163) rfl (Nat.le_of_ble_eq_true rfl) rfl (by
    refine ev_aload_n (p' := 1) i_163_0 rfl rfl ?_
    refine ev_iconst (p' := 2) (v := nI 0) i_163_1 rfl (by decide) ?_
    refine ev_puti (p' := 5) i_163_2 rfl fl_12_133 rfl is_285 (gr (by decide)) rfl ?_
    refine ev_aload_n (p' := 6) i_163_5 rfl rfl ?_
    have hM0 : MT (pm_u mi 285 18 (nI 0)) T n := hM.fr (pm_u_oth (by decide)) (pm_u_ne (by decide))
    obtain ⟨mi1, e1, j1, at1, p1⟩ := s_mFirst (L := L) (ml := ml) d hw hM0 pm_u_self
    have j0 : RJ mi mi1 := RJ.trans ⟨fun a z1 _ _ => pm_u_ne z1, pm_u_oth (by decide), pm_u_oth (by decide)⟩ j1
    refine ev_v0I (p' := 9) i_163_6 rfl cl_12_183_12 (by decide) is_285 (Nat.le_of_ble_eq_true rfl) (e1) ?_
    refine ev_if_ne (p' := 12) (tg := 14) i_163_9 rfl rfl (fun c9 => ?_) (fun c9 => ?_)
    · replace c9 := B1 c9
      refine ev_iconst (p' := 15) (v := nI 1) i_163_14 rfl (by decide) ?_
      refine ev_istore_n (p' := 16) (ls' := [_, _]) i_163_15 rfl rfl (by decide) rfl ?_
      refine ev_aload_n (p' := 17) i_163_16 rfl rfl ?_
      obtain ⟨mi2, e2, y2, at2⟩ := s_skip (L := L) (ml := ml) (d + 3) hw (j0.m hM) b0S_le at1
      refine ev_v0V (p' := 20) i_163_17 rfl cl_12_150_12 (by decide) is_285 (Nat.le_of_ble_eq_true rfl) (e2) ?_
      obtain ⟨q1, q2, q3⟩ := p1 c9
      have hB0 : b0S T n = (true, (b0S T n).2) := Prod.ext c9 rfl
      unfold BOOK
      rw [hB0]
      exact l_mbook (mi0 := mi) hw n (b0S T n).2 (b0V T n) 1 mi2 (y2.m (j0.m hM)) b0S_le (by omega) at2 (y2.x.p q1) (b0V_ok c9) ((y2.2 4 (by decide)).trans q2) ((y2.2 5 (by decide)).trans q3) (j0.trans y2.i.j) (fun mi3 h1 h2 h3 => ⟨rfl, mi3, rfl, h1, h2, h3⟩)
    · replace c9 := B0n c9
      refine ev_iconst (p' := 13) (v := -1) i_163_12 rfl (by decide) ?_
      exact ev_iretI i_163_13 rfl (by unfold BOOK; rw [show b0S T n = (false, (b0S T n).2) from Prod.ext (Bool.not_eq_true _ ▸ c9) rfl, bk_n]; exact ⟨rfl, mi1, rfl, j0, fun y => absurd y Bool.false_ne_true, fun _ => at1⟩))
  subst h1 h2
  exact ⟨mi1, h5, h3⟩
