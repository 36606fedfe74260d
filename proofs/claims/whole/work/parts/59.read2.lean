/-! ===== read: items, the book ===== -/
def RIt (mi mi' : Nat → Nat → Int32) : Prop := (∀ a, a ≠ 285 → a < 287 ∨ 293 < a → a ≠ 298 → mi' a = mi a) ∧ ∀ j, j ≠ 1 → j ≠ 2 → j ≠ 18 → j ≠ 19 → j ≠ 25 → mi' 285 j = mi 285 j
theorem RX.i {mi mi' : Nat → Nat → Int32} (h : RX mi mi') : RIt mi mi' := ⟨fun a h1 _ _ => h.1 a h1, fun j _ _ h1 h2 _ => h.2 j h1 h2⟩
theorem RY.i {mi mi' : Nat → Nat → Int32} (h : RY mi mi') : RIt mi mi' := h.x.i
theorem RIt.trans {a b c : Nat → Nat → Int32} (h1 : RIt a b) (h2 : RIt b c) : RIt a c := ⟨fun x z1 z2 z3 => by rw [h2.1 x z1 z2 z3, h1.1 x z1 z2 z3], fun j y1 y2 y3 y4 y5 => by rw [h2.2 j y1 y2 y3 y4 y5, h1.2 j y1 y2 y3 y4 y5]⟩
theorem RIt.m {mi mi' : Nat → Nat → Int32} {T : Nat → Int32} {n : Nat} (h : RIt mi mi') (hM : MT mi T n) : MT mi' T n := hM.fr (h.2 17 (by decide) (by decide) (by decide) (by decide) (by decide)) (h.1 297 (by decide) (by decide) (by decide))
theorem RIt.refl {mi : Nat → Nat → Int32} : RIt mi mi := ⟨fun _ _ _ _ => rfl, fun _ _ _ _ _ _ => rfl⟩
theorem RIt.u298 {mi mi' : Nat → Nat → Int32} {j : Nat} {x : Int32} (h : RIt mi mi') : RIt mi (pm_u mi' 298 j x) := ⟨fun a z1 z2 z3 => by rw [pm_u_ne z3]; exact h.1 a z1 z2 z3, fun j' y1 y2 y3 y4 y5 => by rw [pm_u_ne (by decide)]; exact h.2 j' y1 y2 y3 y4 y5⟩
theorem RP0.u298 {mi : Nat → Nat → Int32} {v : PV} {j : Nat} {x : Int32} (h : RP0 mi v) : RP0 (pm_u mi 298 j x) v := h.cong (by rw [pm_u_ne (by decide)]) (by rw [pm_u_ne (by decide)]) (by rw [pm_u_ne (by decide)]) (fun a h1 h2 => pm_u_ne (by omega))
theorem MT.u298 {mi : Nat → Nat → Int32} {T : Nat → Int32} {n j : Nat} {x : Int32} (h : MT mi T n) : MT (pm_u mi 298 j x) T n := h.fr (by rw [pm_u_ne (by decide)]) (pm_u_ne (by decide))
theorem nf_end {T : Nat → Int32} {n : Nat} {st : Bool × Nat} (h : ¬ st.1 = true) : enS T n st = st := enS_off h
theorem s_mOpen {L : Nat} {π : Nat → Nat → Nat} {ml : Nat → Nat → Int64} {mr : Nat → Nat → Option Nat} {mi : Nat → Nat → Int32} (d : Nat) (hw : WR π mr) {T : Nat → Int32} {n : Nat} (hM : MT mi T n) {e : Nat} (he : e ≤ n) (hat : mi 285 18 = nI e) {v : PV} (hp : RP0 mi v) (hv : okPV v) : ∃ mi', pm_ev gR (d + 4) 159 [.ref 285] (WW L, mi, ml, mr) (some (.int (B ((enS T n (nmS T n 0 12 (true, e))).1 = true)))) (WW L, mi', ml, mr) ∧ (RIt mi mi' ∧ mi' 285 18 = nI (enS T n (nmS T n 0 12 (true, e))).2 ∧ ((enS T n (nmS T n 0 12 (true, e))).1 = true → RP0 mi' (opV v (nmV T n 0 12 (true, e))))) := by
  obtain ⟨_x, m', ⟨h1, mi1, h2, h3⟩, h5⟩ := ev_some (E := fun _x m => _x = some (.int (B ((enS T n (nmS T n 0 12 (true, e))).1 = true))) ∧ ∃ mi', m = (WW L, mi', ml, mr) ∧ (RIt mi mi' ∧ mi' 285 18 = nI (enS T n (nmS T n 0 12 (true, e))).2 ∧ ((enS T n (nmS T n 0 12 (true, e))).1 = true → RP0 mi' (opV v (nmV T n 0 12 (true, e)))))) (g := gR) (d := d + 3) (M := 159) (args := [.ref 285]) (mem := (WW L, mi, ml, mr)) (q := q_159) rfl (Nat.le_of_ble_eq_true rfl) rfl (by
    refine ev_aload_n (p' := 1) i_159_0 rfl rfl ?_
    refine ev_iconst (p' := 2) (v := 0) i_159_1 rfl (by decide) ?_
    refine ev_bipush (p' := 4) (v := 12) i_159_2 rfl (by decide) ?_
    obtain ⟨mi1, e1, x1, at1, vl1⟩ := s_mnum (L := L) (ml := ml) d hw (mi := mi) hM (st := (true, e)) rfl he hat (0) (12)
    refine ev_v2I (p' := 7) i_159_4 rfl cl_12_159_12 (by decide) is_285 (Nat.le_of_ble_eq_true rfl) (e1) ?_
    refine ev_if_ne (p' := 10) (tg := 12) i_159_7 rfl rfl (fun c7 => ?_) (fun c7 => ?_)
    · replace c7 := B1 c7
      refine ev_aload_n (p' := 13) i_159_12 rfl rfl ?_
      refine ev_aload_n (p' := 14) i_159_13 rfl rfl ?_
      refine ev_geti (p' := 17) i_159_14 rfl fl_12_156 rfl is_285 ?_
      obtain ⟨k, -, hk, ek⟩ := nmV_le (a := 0) (b := 12) (T := T) (n := n) (lo := 0) (hi := 12) (st := (true, e)) he c7 rfl rfl (by decide) (by decide)
      rw [vl1 c7, ek]
      obtain ⟨mi2, e2, hp2, f2, g2⟩ := s_goes (L := L) (ml := ml) d hw (x1.p hp) hv (oo := k) (by omega)
      have r2 : RIt mi mi2 := x1.i.trans ⟨fun a z1 z2 _ => f2 a z1 (by omega), fun j _ y2 _ _ _ => g2 j y2⟩
      refine ev_v1V (p' := 20) i_159_17 rfl cl_12_167_12 (by decide) is_285 (Nat.le_of_ble_eq_true rfl) (e2) ?_
      refine ev_aload_n (p' := 21) i_159_20 rfl rfl ?_
      obtain ⟨mi3, e3, y3, at3⟩ := s_mend (L := L) (ml := ml) d hw (r2.m hM) (st := nmS T n 0 12 (true, e)) c7 (nmS_le (st := (true, e)) he).1 ((g2 18 (by decide)).trans at1)
      refine ev_v0I (p' := 24) i_159_21 rfl cl_12_163_12 (by decide) is_285 (Nat.le_of_ble_eq_true rfl) (e3) ?_
      exact ev_iret i_159_24 rfl B_nar ⟨rfl, mi3, rfl, r2.trans y3.i, at3, fun _ => y3.x.p hp2⟩
    · replace c7 := B0n c7
      refine ev_iconst (p' := 11) (v := 0) i_159_10 rfl (by decide) ?_
      exact ev_iret i_159_11 rfl rfl ⟨by rw [nf_end c7, B_f c7], mi1, rfl, x1.i, by rw [nf_end c7]; exact at1, fun z => by rw [nf_end c7] at z; exact absurd z c7⟩)
  subst h1 h2
  exact ⟨mi1, h5, h3⟩
theorem s_mPull {L : Nat} {π : Nat → Nat → Nat} {ml : Nat → Nat → Int64} {mr : Nat → Nat → Option Nat} {mi : Nat → Nat → Int32} (d : Nat) (hw : WR π mr) {T : Nat → Int32} {n : Nat} (hM : MT mi T n) {e : Nat} (he : e ≤ n) (hat : mi 285 18 = nI e) {v : PV} (hp : RP0 mi v) (hv : okPV v) : ∃ mi', pm_ev gR (d + 4) 160 [.ref 285] (WW L, mi, ml, mr) (some (.int (B ((enS T n (nmS T n 0 3 (nmS T n 0 (nI v.1 - 1) (true, e)))).1 = true)))) (WW L, mi', ml, mr) ∧ (RIt mi mi' ∧ mi' 285 18 = nI (enS T n (nmS T n 0 3 (nmS T n 0 (nI v.1 - 1) (true, e)))).2 ∧ ((enS T n (nmS T n 0 3 (nmS T n 0 (nI v.1 - 1) (true, e)))).1 = true → RP0 mi' (setV v 5 (nmV T n 0 (nI v.1 - 1) (true, e)).toNatClampNeg (nmV T n 0 3 (nmS T n 0 (nI v.1 - 1) (true, e)))))) := by
  obtain ⟨_x, m', ⟨h1, mi1, h2, h3⟩, h5⟩ := ev_some (E := fun _x m => _x = some (.int (B ((enS T n (nmS T n 0 3 (nmS T n 0 (nI v.1 - 1) (true, e)))).1 = true))) ∧ ∃ mi', m = (WW L, mi', ml, mr) ∧ (RIt mi mi' ∧ mi' 285 18 = nI (enS T n (nmS T n 0 3 (nmS T n 0 (nI v.1 - 1) (true, e)))).2 ∧ ((enS T n (nmS T n 0 3 (nmS T n 0 (nI v.1 - 1) (true, e)))).1 = true → RP0 mi' (setV v 5 (nmV T n 0 (nI v.1 - 1) (true, e)).toNatClampNeg (nmV T n 0 3 (nmS T n 0 (nI v.1 - 1) (true, e))))))) (g := gR) (d := d + 3) (M := 160) (args := [.ref 285]) (mem := (WW L, mi, ml, mr)) (q := q_160) rfl (Nat.le_of_ble_eq_true rfl) rfl (by
    refine ev_aload_n (p' := 1) i_160_0 rfl rfl ?_
    refine ev_iconst (p' := 2) (v := 0) i_160_1 rfl (by decide) ?_
    refine ev_aload_n (p' := 3) i_160_2 rfl rfl ?_
    refine ev_geti (p' := 6) i_160_3 rfl fl_12_96 rfl is_285 ?_
    rw [hp.1]
    refine ev_iconst (p' := 7) (v := 1) i_160_6 rfl (by decide) ?_
    refine ev_isub (p' := 8) i_160_7 rfl ?_
    obtain ⟨mi1, e1, x1, at1, vl1⟩ := s_mnum (L := L) (ml := ml) d hw (mi := mi) hM (st := (true, e)) rfl he hat (0) (nI v.1 - 1)
    refine ev_v2I (p' := 11) i_160_8 rfl cl_12_159_12 (by decide) is_285 (Nat.le_of_ble_eq_true rfl) (e1) ?_
    refine ev_if_ne (p' := 14) (tg := 16) i_160_11 rfl rfl (fun c11 => ?_) (fun c11 => ?_)
    · replace c11 := B1 c11
      refine ev_aload_n (p' := 17) i_160_16 rfl rfl ?_
      refine ev_geti (p' := 20) i_160_17 rfl fl_12_156 rfl is_285 ?_
      obtain ⟨k, hk, ek⟩ := nm_pc (T := T) (n := n) (st := (true, e)) he hv.1 c11
      have h7 := hv.1
      rw [vl1 c11, ek]
      refine ev_istore_n (p' := 21) (ls' := [_, _]) i_160_20 rfl rfl (by decide) rfl ?_
      refine ev_aload_n (p' := 22) i_160_21 rfl rfl ?_
      refine ev_iconst (p' := 23) (v := 0) i_160_22 rfl (by decide) ?_
      refine ev_iconst (p' := 24) (v := 3) i_160_23 rfl (by decide) ?_
      obtain ⟨mi2, e2, x2, at2, vl2⟩ := s_mnum (L := L) (ml := ml) d hw (mi := mi1) (x1.m hM) (st := (nmS T n 0 (nI v.1 - 1) (true, e))) c11 (nmS_le (st := (true, e)) he).1 at1 (0) (3)
      refine ev_v2I (p' := 27) i_160_24 rfl cl_12_159_12 (by decide) is_285 (Nat.le_of_ble_eq_true rfl) (e2) ?_
      refine ev_if_ne (p' := 30) (tg := 32) i_160_27 rfl rfl (fun c27 => ?_) (fun c27 => ?_)
      · replace c27 := B1 c27
        refine ev_aload_n (p' := 33) i_160_32 rfl rfl ?_
        refine ev_getr (p' := 36) i_160_33 rfl fl_12_28 rfl is_285 (rf_285_11 hw) ?_
        refine ev_iload_n (p' := 37) i_160_36 rfl rfl ?_
        refine ev_aload_n (p' := 38) i_160_37 rfl rfl ?_
        refine ev_geti (p' := 41) i_160_38 rfl fl_12_156 rfl is_285 ?_
        rw [vl2 c27]
        have hp3 := (x2.p (x1.p hp)).set (j0 := 5) (i0 := k) (x := nmV T n 0 3 (nmS T n 0 (nI v.1 - 1) (true, e)))
        have r3 : RIt mi (pm_u mi2 292 k (nmV T n 0 3 (nmS T n 0 (nI v.1 - 1) (true, e)))) := (x1.trans x2).i.trans ⟨fun a z1 z2 _ => pm_u_ne (by omega), fun j _ _ _ _ _ => by rw [pm_u_ne (by decide)]⟩
        refine ev_iastN (p' := 42) i_160_41 rfl is_292 len_292 (show k < 7 by omega) (by decide) (gr (by decide)) ?_
        refine ev_aload_n (p' := 43) i_160_42 rfl rfl ?_
        obtain ⟨mi4, e4, y4, at4⟩ := s_mend (L := L) (ml := ml) d hw (r3.m hM) (st := nmS T n 0 3 (nmS T n 0 (nI v.1 - 1) (true, e))) c27 (nmS_le (nmS_le (st := (true, e)) he).1).1 (by rw [pm_u_ne (by decide)]; exact at2)
        refine ev_v0I (p' := 46) i_160_43 rfl cl_12_163_12 (by decide) is_285 (Nat.le_of_ble_eq_true rfl) (e4) ?_
        exact ev_iret i_160_46 rfl B_nar ⟨rfl, mi4, rfl, r3.trans y4.i, at4, fun _ => by rw [nI_clamp (by omega)]; exact y4.x.p hp3⟩
      · replace c27 := B0n c27
        refine ev_iconst (p' := 31) (v := 0) i_160_30 rfl (by decide) ?_
        exact ev_iret i_160_31 rfl rfl ⟨by rw [nf_end c27, B_f c27], mi2, rfl, (x1.trans x2).i, by rw [nf_end c27]; exact at2, fun z => by rw [nf_end c27] at z; exact absurd z c27⟩
    · replace c11 := B0n c11
      refine ev_iconst (p' := 15) (v := 0) i_160_14 rfl (by decide) ?_
      exact ev_iret i_160_15 rfl rfl ⟨by rw [nmS_off (T := T) (n := n) (lo := 0) (hi := 3) c11, nf_end c11, B_f c11], mi1, rfl, x1.i, by rw [nmS_off (T := T) (n := n) (lo := 0) (hi := 3) c11, nf_end c11]; exact at1, fun z => by rw [nmS_off (T := T) (n := n) (lo := 0) (hi := 3) c11, nf_end c11] at z; exact absurd z c11⟩)
  subst h1 h2
  exact ⟨mi1, h5, h3⟩
theorem s_mPiece0 {L : Nat} {π : Nat → Nat → Nat} {ml : Nat → Nat → Int64} {mr : Nat → Nat → Option Nat} {mi : Nat → Nat → Int32} (d : Nat) (hw : WR π mr) {T : Nat → Int32} {n : Nat} (hM : MT mi T n) {e : Nat} (he : e ≤ n) (hat : mi 285 18 = nI e) {v : PV} (hp : RP0 mi v) (hv : okPV v) (h6p : v.1 < 7) : ∃ mi', pm_ev gR (d + 4) 158 [.ref 285, .int 0] (WW L, mi, ml, mr) (some (.int (B ((enS T n (nmS T n 0 9 (nmS T n 1 9 (nmS T n 1 9 (nmS T n 0 5 ((true, e))))))).1 = true)))) (WW L, mi', ml, mr) ∧ (RIt mi mi' ∧ mi' 285 18 = nI (enS T n (nmS T n 0 9 (nmS T n 1 9 (nmS T n 1 9 (nmS T n 0 5 ((true, e))))))).2 ∧ ((enS T n (nmS T n 0 9 (nmS T n 1 9 (nmS T n 1 9 (nmS T n 0 5 ((true, e))))))).1 = true → RP0 mi' (glueV v (nmV T n 0 5 ((true, e))) (nmV T n 1 9 (nmS T n 0 5 ((true, e)))) (nmV T n 1 9 (nmS T n 1 9 (nmS T n 0 5 ((true, e))))) (nmV T n 0 9 (nmS T n 1 9 (nmS T n 1 9 (nmS T n 0 5 ((true, e)))))) (-1)))) := by
  obtain ⟨_x, m', ⟨h1, mi1, h2, h3⟩, h5⟩ := ev_some (E := fun _x m => _x = some (.int (B ((enS T n (nmS T n 0 9 (nmS T n 1 9 (nmS T n 1 9 (nmS T n 0 5 ((true, e))))))).1 = true))) ∧ ∃ mi', m = (WW L, mi', ml, mr) ∧ (RIt mi mi' ∧ mi' 285 18 = nI (enS T n (nmS T n 0 9 (nmS T n 1 9 (nmS T n 1 9 (nmS T n 0 5 ((true, e))))))).2 ∧ ((enS T n (nmS T n 0 9 (nmS T n 1 9 (nmS T n 1 9 (nmS T n 0 5 ((true, e))))))).1 = true → RP0 mi' (glueV v (nmV T n 0 5 ((true, e))) (nmV T n 1 9 (nmS T n 0 5 ((true, e)))) (nmV T n 1 9 (nmS T n 1 9 (nmS T n 0 5 ((true, e))))) (nmV T n 0 9 (nmS T n 1 9 (nmS T n 1 9 (nmS T n 0 5 ((true, e)))))) (-1))))) (g := gR) (d := d + 3) (M := 158) (args := [.ref 285, .int 0]) (mem := (WW L, mi, ml, mr)) (q := q_158) rfl (Nat.le_of_ble_eq_true rfl) rfl (by
    refine ev_iconst (p' := 1) (v := nI 0) i_158_0 rfl (by decide) ?_
    refine ev_istore_n (p' := 2) (ls' := [_, _, _, _, _]) i_158_1 rfl rfl (by decide) rfl ?_
    have hm0 := hM
    have hq0 := hp
    have hr0 : RIt mi mi := RIt.refl
    refine ev_iload_n (p' := 3) i_158_2 rfl rfl ?_
    refine ev_iload_n (p' := 4) i_158_3 rfl rfl ?_
    refine ev_if_eq (p' := 7) (tg := 11) i_158_4 rfl rfl (fun c4 => ?_) (fun c4 => absurd (rfl) c4)
    refine ev_iconst (p' := 12) (v := 4) i_158_11 rfl (by decide) ?_
    refine ev_icmp_ge (p' := 15) (tg := 85) i_158_12 rfl rfl (fun c12 => absurd c12 (by decide)) (fun c12 => ?_)
    refine ev_iload_n (p' := 16) i_158_15 rfl rfl ?_
    refine ev_iconst (p' := 17) (v := 1) i_158_16 rfl (by decide) ?_
    refine ev_icmp_eq (p' := 20) (tg := 25) i_158_17 rfl rfl (fun c17 => absurd c17 (by decide)) (fun c17 => ?_)
    refine ev_iload_n (p' := 21) i_158_20 rfl rfl ?_
    refine ev_iconst (p' := 22) (v := 2) i_158_21 rfl (by decide) ?_
    refine ev_icmp_ne (p' := 25) (tg := 29) i_158_22 rfl rfl (fun c22 => ?_) (fun c22 => absurd (by decide) c22)
    refine ev_iconst (p' := 30) (v := 0) i_158_29 rfl (by decide) ?_
    refine ev_istore_n (p' := 31) (ls' := [_, _, _, _, _]) i_158_30 rfl rfl (by decide) rfl ?_
    refine ev_iload_n (p' := 32) i_158_31 rfl rfl ?_
    refine ev_if_ne (p' := 35) (tg := 39) i_158_32 rfl rfl (fun c32 => absurd c32 (by decide)) (fun c32 => ?_)
    refine ev_iconst (p' := 36) (v := 5) i_158_35 rfl (by decide) ?_
    refine ev_goto (tg := 55) i_158_36 rfl ?_
    refine ev_istore (p' := 57) (ls' := [_, _, _, _, _]) i_158_55 rfl rfl (by decide) rfl ?_
    refine ev_aload_n (p' := 58) i_158_57 rfl rfl ?_
    refine ev_iload_n (p' := 59) i_158_58 rfl rfl ?_
    refine ev_iload (p' := 61) i_158_59 rfl rfl ?_
    obtain ⟨mi1, e1, x1, at1, vl1⟩ := s_mnum (L := L) (ml := ml) d hw (mi := mi) hm0 (st := (true, e)) rfl he hat (0) (5)
    refine ev_v2I (p' := 64) i_158_61 rfl cl_12_159_12 (by decide) is_285 (Nat.le_of_ble_eq_true rfl) (e1) ?_
    refine ev_if_ne (p' := 67) (tg := 69) i_158_64 rfl rfl (fun c64 => ?_) (fun c64 => ?_)
    · replace c64 := B1 c64
      have cc0 := c64
      refine ev_aload_n (p' := 70) i_158_69 rfl rfl ?_
      refine ev_getr (p' := 73) i_158_70 rfl fl_12_46 rfl is_285 (rf_285_20 hw) ?_
      refine ev_iload_n (p' := 74) i_158_73 rfl rfl ?_
      refine ev_aload_n (p' := 75) i_158_74 rfl rfl ?_
      refine ev_geti (p' := 78) i_158_75 rfl fl_12_156 rfl is_285 ?_
      rw [vl1 c64]
      have hm1 : MT (pm_u mi1 298 0 (nmV T n 0 5 ((true, e)))) T n := (x1.m hm0).u298
      have hq1 : RP0 (pm_u mi1 298 0 (nmV T n 0 5 ((true, e)))) v := (x1.p hq0).u298
      have hr1 : RIt mi (pm_u mi1 298 0 (nmV T n 0 5 ((true, e)))) := (hr0.trans x1.i).u298
      refine ev_iastN (p' := 79) i_158_78 rfl is_298 len_298 (by decide) (by decide) (gr (by decide)) ?_
      refine ev_iinc (p' := 82) (ls' := [_, _, _, _, _]) i_158_79 rfl rfl rfl (by decide) (nI_inc _) rfl ?_
      refine ev_goto (tg := 2) i_158_82 rfl ?_
      refine ev_iload_n (p' := 3) i_158_2 rfl rfl ?_
      refine ev_iload_n (p' := 4) i_158_3 rfl rfl ?_
      refine ev_if_eq (p' := 7) (tg := 11) i_158_4 rfl rfl (fun c4 => ?_) (fun c4 => absurd (rfl) c4)
      refine ev_iconst (p' := 12) (v := 4) i_158_11 rfl (by decide) ?_
      refine ev_icmp_ge (p' := 15) (tg := 85) i_158_12 rfl rfl (fun c12 => absurd c12 (by decide)) (fun c12 => ?_)
      refine ev_iload_n (p' := 16) i_158_15 rfl rfl ?_
      refine ev_iconst (p' := 17) (v := 1) i_158_16 rfl (by decide) ?_
      refine ev_icmp_eq (p' := 20) (tg := 25) i_158_17 rfl rfl (fun c17 => ?_) (fun c17 => absurd (by decide) c17)
      refine ev_iconst (p' := 26) (v := 1) i_158_25 rfl (by decide) ?_
      refine ev_goto (tg := 30) i_158_26 rfl ?_
      refine ev_istore_n (p' := 31) (ls' := [_, _, _, _, _]) i_158_30 rfl rfl (by decide) rfl ?_
      refine ev_iload_n (p' := 32) i_158_31 rfl rfl ?_
      refine ev_if_ne (p' := 35) (tg := 39) i_158_32 rfl rfl (fun c32 => ?_) (fun c32 => absurd (by decide) c32)
      refine ev_iload_n (p' := 40) i_158_39 rfl rfl ?_
      refine ev_iconst (p' := 41) (v := 4) i_158_40 rfl (by decide) ?_
      refine ev_icmp_ne (p' := 44) (tg := 53) i_158_41 rfl rfl (fun c41 => ?_) (fun c41 => absurd (by decide) c41)
      refine ev_bipush (p' := 55) (v := 9) i_158_53 rfl (by decide) ?_
      refine ev_istore (p' := 57) (ls' := [_, _, _, _, _]) i_158_55 rfl rfl (by decide) rfl ?_
      refine ev_aload_n (p' := 58) i_158_57 rfl rfl ?_
      refine ev_iload_n (p' := 59) i_158_58 rfl rfl ?_
      refine ev_iload (p' := 61) i_158_59 rfl rfl ?_
      obtain ⟨mi2, e2, x2, at2, vl2⟩ := s_mnum (L := L) (ml := ml) d hw (mi := (pm_u mi1 298 0 (nmV T n 0 5 ((true, e))))) hm1 (st := nmS T n 0 5 ((true, e))) cc0 (nmS_le (st := (true, e)) he).1 (by rw [pm_u_ne (by decide)]; exact at1) (1) (9)
      refine ev_v2I (p' := 64) i_158_61 rfl cl_12_159_12 (by decide) is_285 (Nat.le_of_ble_eq_true rfl) (e2) ?_
      refine ev_if_ne (p' := 67) (tg := 69) i_158_64 rfl rfl (fun c64 => ?_) (fun c64 => ?_)
      · replace c64 := B1 c64
        have cc1 := c64
        refine ev_aload_n (p' := 70) i_158_69 rfl rfl ?_
        refine ev_getr (p' := 73) i_158_70 rfl fl_12_46 rfl is_285 (rf_285_20 hw) ?_
        refine ev_iload_n (p' := 74) i_158_73 rfl rfl ?_
        refine ev_aload_n (p' := 75) i_158_74 rfl rfl ?_
        refine ev_geti (p' := 78) i_158_75 rfl fl_12_156 rfl is_285 ?_
        rw [vl2 c64]
        have hm2 : MT (pm_u mi2 298 1 (nmV T n 1 9 (nmS T n 0 5 ((true, e))))) T n := (x2.m hm1).u298
        have hq2 : RP0 (pm_u mi2 298 1 (nmV T n 1 9 (nmS T n 0 5 ((true, e))))) v := (x2.p hq1).u298
        have hr2 : RIt mi (pm_u mi2 298 1 (nmV T n 1 9 (nmS T n 0 5 ((true, e))))) := (hr1.trans x2.i).u298
        refine ev_iastN (p' := 79) i_158_78 rfl is_298 len_298 (by decide) (by decide) (gr (by decide)) ?_
        refine ev_iinc (p' := 82) (ls' := [_, _, _, _, _]) i_158_79 rfl rfl rfl (by decide) (nI_inc _) rfl ?_
        refine ev_goto (tg := 2) i_158_82 rfl ?_
        refine ev_iload_n (p' := 3) i_158_2 rfl rfl ?_
        refine ev_iload_n (p' := 4) i_158_3 rfl rfl ?_
        refine ev_if_eq (p' := 7) (tg := 11) i_158_4 rfl rfl (fun c4 => ?_) (fun c4 => absurd (rfl) c4)
        refine ev_iconst (p' := 12) (v := 4) i_158_11 rfl (by decide) ?_
        refine ev_icmp_ge (p' := 15) (tg := 85) i_158_12 rfl rfl (fun c12 => absurd c12 (by decide)) (fun c12 => ?_)
        refine ev_iload_n (p' := 16) i_158_15 rfl rfl ?_
        refine ev_iconst (p' := 17) (v := 1) i_158_16 rfl (by decide) ?_
        refine ev_icmp_eq (p' := 20) (tg := 25) i_158_17 rfl rfl (fun c17 => absurd c17 (by decide)) (fun c17 => ?_)
        refine ev_iload_n (p' := 21) i_158_20 rfl rfl ?_
        refine ev_iconst (p' := 22) (v := 2) i_158_21 rfl (by decide) ?_
        refine ev_icmp_ne (p' := 25) (tg := 29) i_158_22 rfl rfl (fun c22 => absurd c22 (by decide)) (fun c22 => ?_)
        refine ev_iconst (p' := 26) (v := 1) i_158_25 rfl (by decide) ?_
        refine ev_goto (tg := 30) i_158_26 rfl ?_
        refine ev_istore_n (p' := 31) (ls' := [_, _, _, _, _]) i_158_30 rfl rfl (by decide) rfl ?_
        refine ev_iload_n (p' := 32) i_158_31 rfl rfl ?_
        refine ev_if_ne (p' := 35) (tg := 39) i_158_32 rfl rfl (fun c32 => ?_) (fun c32 => absurd (by decide) c32)
        refine ev_iload_n (p' := 40) i_158_39 rfl rfl ?_
        refine ev_iconst (p' := 41) (v := 4) i_158_40 rfl (by decide) ?_
        refine ev_icmp_ne (p' := 44) (tg := 53) i_158_41 rfl rfl (fun c41 => ?_) (fun c41 => absurd (by decide) c41)
        refine ev_bipush (p' := 55) (v := 9) i_158_53 rfl (by decide) ?_
        refine ev_istore (p' := 57) (ls' := [_, _, _, _, _]) i_158_55 rfl rfl (by decide) rfl ?_
        refine ev_aload_n (p' := 58) i_158_57 rfl rfl ?_
        refine ev_iload_n (p' := 59) i_158_58 rfl rfl ?_
        refine ev_iload (p' := 61) i_158_59 rfl rfl ?_
        obtain ⟨mi3, e3, x3, at3, vl3⟩ := s_mnum (L := L) (ml := ml) d hw (mi := (pm_u mi2 298 1 (nmV T n 1 9 (nmS T n 0 5 ((true, e)))))) hm2 (st := nmS T n 1 9 (nmS T n 0 5 ((true, e)))) cc1 (nmS_le (st := (nmS T n 0 5 ((true, e)))) (nmS_le (st := (true, e)) he).1).1 (by rw [pm_u_ne (by decide)]; exact at2) (1) (9)
        refine ev_v2I (p' := 64) i_158_61 rfl cl_12_159_12 (by decide) is_285 (Nat.le_of_ble_eq_true rfl) (e3) ?_
        refine ev_if_ne (p' := 67) (tg := 69) i_158_64 rfl rfl (fun c64 => ?_) (fun c64 => ?_)
        · replace c64 := B1 c64
          have cc2 := c64
          refine ev_aload_n (p' := 70) i_158_69 rfl rfl ?_
          refine ev_getr (p' := 73) i_158_70 rfl fl_12_46 rfl is_285 (rf_285_20 hw) ?_
          refine ev_iload_n (p' := 74) i_158_73 rfl rfl ?_
          refine ev_aload_n (p' := 75) i_158_74 rfl rfl ?_
          refine ev_geti (p' := 78) i_158_75 rfl fl_12_156 rfl is_285 ?_
          rw [vl3 c64]
          have hm3 : MT (pm_u mi3 298 2 (nmV T n 1 9 (nmS T n 1 9 (nmS T n 0 5 ((true, e)))))) T n := (x3.m hm2).u298
          have hq3 : RP0 (pm_u mi3 298 2 (nmV T n 1 9 (nmS T n 1 9 (nmS T n 0 5 ((true, e)))))) v := (x3.p hq2).u298
          have hr3 : RIt mi (pm_u mi3 298 2 (nmV T n 1 9 (nmS T n 1 9 (nmS T n 0 5 ((true, e)))))) := (hr2.trans x3.i).u298
          refine ev_iastN (p' := 79) i_158_78 rfl is_298 len_298 (by decide) (by decide) (gr (by decide)) ?_
          refine ev_iinc (p' := 82) (ls' := [_, _, _, _, _]) i_158_79 rfl rfl rfl (by decide) (nI_inc _) rfl ?_
          refine ev_goto (tg := 2) i_158_82 rfl ?_
          refine ev_iload_n (p' := 3) i_158_2 rfl rfl ?_
          refine ev_iload_n (p' := 4) i_158_3 rfl rfl ?_
          refine ev_if_eq (p' := 7) (tg := 11) i_158_4 rfl rfl (fun c4 => ?_) (fun c4 => absurd (rfl) c4)
          refine ev_iconst (p' := 12) (v := 4) i_158_11 rfl (by decide) ?_
          refine ev_icmp_ge (p' := 15) (tg := 85) i_158_12 rfl rfl (fun c12 => absurd c12 (by decide)) (fun c12 => ?_)
          refine ev_iload_n (p' := 16) i_158_15 rfl rfl ?_
          refine ev_iconst (p' := 17) (v := 1) i_158_16 rfl (by decide) ?_
          refine ev_icmp_eq (p' := 20) (tg := 25) i_158_17 rfl rfl (fun c17 => absurd c17 (by decide)) (fun c17 => ?_)
          refine ev_iload_n (p' := 21) i_158_20 rfl rfl ?_
          refine ev_iconst (p' := 22) (v := 2) i_158_21 rfl (by decide) ?_
          refine ev_icmp_ne (p' := 25) (tg := 29) i_158_22 rfl rfl (fun c22 => ?_) (fun c22 => absurd (by decide) c22)
          refine ev_iconst (p' := 30) (v := 0) i_158_29 rfl (by decide) ?_
          refine ev_istore_n (p' := 31) (ls' := [_, _, _, _, _]) i_158_30 rfl rfl (by decide) rfl ?_
          refine ev_iload_n (p' := 32) i_158_31 rfl rfl ?_
          refine ev_if_ne (p' := 35) (tg := 39) i_158_32 rfl rfl (fun c32 => ?_) (fun c32 => absurd (by decide) c32)
          refine ev_iload_n (p' := 40) i_158_39 rfl rfl ?_
          refine ev_iconst (p' := 41) (v := 4) i_158_40 rfl (by decide) ?_
          refine ev_icmp_ne (p' := 44) (tg := 53) i_158_41 rfl rfl (fun c41 => ?_) (fun c41 => absurd (by decide) c41)
          refine ev_bipush (p' := 55) (v := 9) i_158_53 rfl (by decide) ?_
          refine ev_istore (p' := 57) (ls' := [_, _, _, _, _]) i_158_55 rfl rfl (by decide) rfl ?_
          refine ev_aload_n (p' := 58) i_158_57 rfl rfl ?_
          refine ev_iload_n (p' := 59) i_158_58 rfl rfl ?_
          refine ev_iload (p' := 61) i_158_59 rfl rfl ?_
          obtain ⟨mi4, e4, x4, at4, vl4⟩ := s_mnum (L := L) (ml := ml) d hw (mi := (pm_u mi3 298 2 (nmV T n 1 9 (nmS T n 1 9 (nmS T n 0 5 ((true, e))))))) hm3 (st := nmS T n 1 9 (nmS T n 1 9 (nmS T n 0 5 ((true, e))))) cc2 (nmS_le (st := (nmS T n 1 9 (nmS T n 0 5 ((true, e))))) (nmS_le (st := (nmS T n 0 5 ((true, e)))) (nmS_le (st := (true, e)) he).1).1).1 (by rw [pm_u_ne (by decide)]; exact at3) (0) (9)
          refine ev_v2I (p' := 64) i_158_61 rfl cl_12_159_12 (by decide) is_285 (Nat.le_of_ble_eq_true rfl) (e4) ?_
          refine ev_if_ne (p' := 67) (tg := 69) i_158_64 rfl rfl (fun c64 => ?_) (fun c64 => ?_)
          · replace c64 := B1 c64
            have cc3 := c64
            refine ev_aload_n (p' := 70) i_158_69 rfl rfl ?_
            refine ev_getr (p' := 73) i_158_70 rfl fl_12_46 rfl is_285 (rf_285_20 hw) ?_
            refine ev_iload_n (p' := 74) i_158_73 rfl rfl ?_
            refine ev_aload_n (p' := 75) i_158_74 rfl rfl ?_
            refine ev_geti (p' := 78) i_158_75 rfl fl_12_156 rfl is_285 ?_
            rw [vl4 c64]
            have hm4 : MT (pm_u mi4 298 3 (nmV T n 0 9 (nmS T n 1 9 (nmS T n 1 9 (nmS T n 0 5 ((true, e))))))) T n := (x4.m hm3).u298
            have hq4 : RP0 (pm_u mi4 298 3 (nmV T n 0 9 (nmS T n 1 9 (nmS T n 1 9 (nmS T n 0 5 ((true, e))))))) v := (x4.p hq3).u298
            have hr4 : RIt mi (pm_u mi4 298 3 (nmV T n 0 9 (nmS T n 1 9 (nmS T n 1 9 (nmS T n 0 5 ((true, e))))))) := (hr3.trans x4.i).u298
            refine ev_iastN (p' := 79) i_158_78 rfl is_298 len_298 (by decide) (by decide) (gr (by decide)) ?_
            refine ev_iinc (p' := 82) (ls' := [_, _, _, _, _]) i_158_79 rfl rfl rfl (by decide) (nI_inc _) rfl ?_
            refine ev_goto (tg := 2) i_158_82 rfl ?_
            refine ev_iload_n (p' := 3) i_158_2 rfl rfl ?_
            refine ev_iload_n (p' := 4) i_158_3 rfl rfl ?_
            refine ev_if_eq (p' := 7) (tg := 11) i_158_4 rfl rfl (fun c4 => ?_) (fun c4 => absurd (rfl) c4)
            refine ev_iconst (p' := 12) (v := 4) i_158_11 rfl (by decide) ?_
            refine ev_icmp_ge (p' := 15) (tg := 85) i_158_12 rfl rfl (fun c12 => ?_) (fun c12 => absurd (by decide) c12)
            refine ev_aload_n (p' := 86) i_158_85 rfl rfl ?_
            obtain ⟨mi5, e5, y5, at5⟩ := s_mend (L := L) (ml := ml) d hw hm4 (st := nmS T n 0 9 (nmS T n 1 9 (nmS T n 1 9 (nmS T n 0 5 ((true, e)))))) cc3 (nmS_le (st := (nmS T n 1 9 (nmS T n 1 9 (nmS T n 0 5 ((true, e)))))) (nmS_le (st := (nmS T n 1 9 (nmS T n 0 5 ((true, e))))) (nmS_le (st := (nmS T n 0 5 ((true, e)))) (nmS_le (st := (true, e)) he).1).1).1).1 (by rw [pm_u_ne (by decide)]; exact at4)
            refine ev_v0I (p' := 89) i_158_86 rfl cl_12_163_12 (by decide) is_285 (Nat.le_of_ble_eq_true rfl) (e5) ?_
            refine ev_if_ne (p' := 92) (tg := 94) i_158_89 rfl rfl (fun c89 => ?_) (fun c89 => ?_)
            · replace c89 := B1 c89
              refine ev_aload_n (p' := 95) i_158_94 rfl rfl ?_
              refine ev_aload_n (p' := 96) i_158_95 rfl rfl ?_
              refine ev_getr (p' := 99) i_158_96 rfl fl_12_46 rfl is_285 (rf_285_20 hw) ?_
              refine ev_iconst (p' := 100) (v := nI 0) i_158_99 rfl (by decide) ?_
              refine ev_ialdN (p' := 101) i_158_100 rfl is_298 len_298 (by omega) (by decide) ?_
              rw [show mi5 298 0 = nmV T n 0 5 ((true, e)) from by rw [y5.1 298 (by decide), pm_u_oth (by decide), x4.1 298 (by decide), pm_u_oth (by decide), x3.1 298 (by decide), pm_u_oth (by decide), x2.1 298 (by decide), pm_u_self]]
              refine ev_aload_n (p' := 102) i_158_101 rfl rfl ?_
              refine ev_getr (p' := 105) i_158_102 rfl fl_12_46 rfl is_285 (rf_285_20 hw) ?_
              refine ev_iconst (p' := 106) (v := nI 1) i_158_105 rfl (by decide) ?_
              refine ev_ialdN (p' := 107) i_158_106 rfl is_298 len_298 (by omega) (by decide) ?_
              rw [show mi5 298 1 = nmV T n 1 9 (nmS T n 0 5 ((true, e))) from by rw [y5.1 298 (by decide), pm_u_oth (by decide), x4.1 298 (by decide), pm_u_oth (by decide), x3.1 298 (by decide), pm_u_self]]
              refine ev_aload_n (p' := 108) i_158_107 rfl rfl ?_
              refine ev_getr (p' := 111) i_158_108 rfl fl_12_46 rfl is_285 (rf_285_20 hw) ?_
              refine ev_iconst (p' := 112) (v := nI 2) i_158_111 rfl (by decide) ?_
              refine ev_ialdN (p' := 113) i_158_112 rfl is_298 len_298 (by omega) (by decide) ?_
              rw [show mi5 298 2 = nmV T n 1 9 (nmS T n 1 9 (nmS T n 0 5 ((true, e)))) from by rw [y5.1 298 (by decide), pm_u_oth (by decide), x4.1 298 (by decide), pm_u_self]]
              refine ev_aload_n (p' := 114) i_158_113 rfl rfl ?_
              refine ev_getr (p' := 117) i_158_114 rfl fl_12_46 rfl is_285 (rf_285_20 hw) ?_
              refine ev_iconst (p' := 118) (v := nI 3) i_158_117 rfl (by decide) ?_
              refine ev_ialdN (p' := 119) i_158_118 rfl is_298 len_298 (by omega) (by decide) ?_
              rw [show mi5 298 3 = nmV T n 0 9 (nmS T n 1 9 (nmS T n 1 9 (nmS T n 0 5 ((true, e))))) from by rw [y5.1 298 (by decide), pm_u_self]]
              refine ev_iload_n (p' := 120) i_158_119 rfl rfl ?_
              refine ev_if_eq (p' := 123) (tg := 132) i_158_120 rfl rfl (fun c120 => ?_) (fun c120 => absurd (rfl) c120)
              refine ev_iconst (p' := 133) (v := -1) i_158_132 rfl (by decide) ?_
              have hpe := y5.x.p hq4
              refine ev_v5I (p' := 136) i_158_133 rfl cl_12_126_12 (by decide) is_285 (Nat.le_of_ble_eq_true rfl) (s_addPiece _ hw hpe.1 h6p _ _ _ _ _) ?_
              refine ev_pop (p' := 137) i_158_136 rfl rfl ?_
              refine ev_iconst (p' := 138) (v := 1) i_158_137 rfl (by decide) ?_
              exact ev_iret i_158_138 rfl rfl ⟨by rw [B_t c89], _, rfl, (hr4.trans y5.i).trans ⟨fun a z1 z2 z3 => by rw [pm_u_ne z1, pm_u_ne z1, r9_ne z2], fun j w1 _ _ _ w5 => by rw [pm_u_oth w5, pm_u_oth w1, r9_ne (by omega)]⟩, by rw [pm_u_oth (by decide), pm_u_oth (by decide), r9_ne (by omega)]; exact at5, fun _ => hpe.glue (by rw [pm_u_oth (by decide), pm_u_self]) (by rw [pm_u_oth (by decide), pm_u_oth (by decide), r9_ne (by omega)]) (by rw [pm_u_oth (by decide), pm_u_oth (by decide), r9_ne (by omega)]) (fun j hj => by rw [pm_u_ne (by omega), pm_u_ne (by omega)])⟩
            · replace c89 := B0n c89
              refine ev_iconst (p' := 93) (v := 0) i_158_92 rfl (by decide) ?_
              exact ev_iret i_158_93 rfl rfl ⟨by rw [B_f c89], mi5, rfl, hr4.trans y5.i, at5, fun z => absurd z c89⟩
          · replace c64 := B0n c64
            refine ev_iconst (p' := 68) (v := 0) i_158_67 rfl (by decide) ?_
            exact ev_iret i_158_68 rfl rfl ⟨by rw [nf_end c64, B_f c64], mi4, rfl, (hr3.trans x4.i), by rw [nf_end c64]; exact at4, fun z => by rw [nf_end c64] at z; exact absurd z c64⟩
        · replace c64 := B0n c64
          refine ev_iconst (p' := 68) (v := 0) i_158_67 rfl (by decide) ?_
          exact ev_iret i_158_68 rfl rfl ⟨by rw [nmS_off (T := T) (n := n) (lo := 0) (hi := 9) c64, nf_end c64, B_f c64], mi3, rfl, (hr2.trans x3.i), by rw [nmS_off (T := T) (n := n) (lo := 0) (hi := 9) c64, nf_end c64]; exact at3, fun z => by rw [nmS_off (T := T) (n := n) (lo := 0) (hi := 9) c64, nf_end c64] at z; exact absurd z c64⟩
      · replace c64 := B0n c64
        refine ev_iconst (p' := 68) (v := 0) i_158_67 rfl (by decide) ?_
        exact ev_iret i_158_68 rfl rfl ⟨by rw [nmS_off (T := T) (n := n) (lo := 1) (hi := 9) c64, nmS_off (T := T) (n := n) (lo := 0) (hi := 9) c64, nf_end c64, B_f c64], mi2, rfl, (hr1.trans x2.i), by rw [nmS_off (T := T) (n := n) (lo := 1) (hi := 9) c64, nmS_off (T := T) (n := n) (lo := 0) (hi := 9) c64, nf_end c64]; exact at2, fun z => by rw [nmS_off (T := T) (n := n) (lo := 1) (hi := 9) c64, nmS_off (T := T) (n := n) (lo := 0) (hi := 9) c64, nf_end c64] at z; exact absurd z c64⟩
    · replace c64 := B0n c64
      refine ev_iconst (p' := 68) (v := 0) i_158_67 rfl (by decide) ?_
      exact ev_iret i_158_68 rfl rfl ⟨by rw [nmS_off (T := T) (n := n) (lo := 1) (hi := 9) c64, nmS_off (T := T) (n := n) (lo := 1) (hi := 9) c64, nmS_off (T := T) (n := n) (lo := 0) (hi := 9) c64, nf_end c64, B_f c64], mi1, rfl, (hr0.trans x1.i), by rw [nmS_off (T := T) (n := n) (lo := 1) (hi := 9) c64, nmS_off (T := T) (n := n) (lo := 1) (hi := 9) c64, nmS_off (T := T) (n := n) (lo := 0) (hi := 9) c64, nf_end c64]; exact at1, fun z => by rw [nmS_off (T := T) (n := n) (lo := 1) (hi := 9) c64, nmS_off (T := T) (n := n) (lo := 1) (hi := 9) c64, nmS_off (T := T) (n := n) (lo := 0) (hi := 9) c64, nf_end c64] at z; exact absurd z c64⟩)
  subst h1 h2
  exact ⟨mi1, h5, h3⟩
theorem s_mPiece1 {L : Nat} {π : Nat → Nat → Nat} {ml : Nat → Nat → Int64} {mr : Nat → Nat → Option Nat} {mi : Nat → Nat → Int32} (d : Nat) (hw : WR π mr) {T : Nat → Int32} {n : Nat} (hM : MT mi T n) {e : Nat} (he : e ≤ n) (hat : mi 285 18 = nI e) {v : PV} (hp : RP0 mi v) (hv : okPV v) (h6p : v.1 < 7) : ∃ mi', pm_ev gR (d + 4) 158 [.ref 285, .int 1] (WW L, mi, ml, mr) (some (.int (B ((enS T n (nmS T n (0) (nI v.1 - 1) (nmS T n 0 9 (nmS T n 1 9 (nmS T n 1 9 (nmS T n 0 5 ((true, e)))))))).1 = true)))) (WW L, mi', ml, mr) ∧ (RIt mi mi' ∧ mi' 285 18 = nI (enS T n (nmS T n (0) (nI v.1 - 1) (nmS T n 0 9 (nmS T n 1 9 (nmS T n 1 9 (nmS T n 0 5 ((true, e)))))))).2 ∧ ((enS T n (nmS T n (0) (nI v.1 - 1) (nmS T n 0 9 (nmS T n 1 9 (nmS T n 1 9 (nmS T n 0 5 ((true, e)))))))).1 = true → RP0 mi' (glueV v (nmV T n 0 5 ((true, e))) (nmV T n 1 9 (nmS T n 0 5 ((true, e)))) (nmV T n 1 9 (nmS T n 1 9 (nmS T n 0 5 ((true, e))))) (nmV T n 0 9 (nmS T n 1 9 (nmS T n 1 9 (nmS T n 0 5 ((true, e)))))) (nmV T n (0) (nI v.1 - 1) (nmS T n 0 9 (nmS T n 1 9 (nmS T n 1 9 (nmS T n 0 5 ((true, e)))))))))) := by
  obtain ⟨_x, m', ⟨h1, mi1, h2, h3⟩, h5⟩ := ev_some (E := fun _x m => _x = some (.int (B ((enS T n (nmS T n (0) (nI v.1 - 1) (nmS T n 0 9 (nmS T n 1 9 (nmS T n 1 9 (nmS T n 0 5 ((true, e)))))))).1 = true))) ∧ ∃ mi', m = (WW L, mi', ml, mr) ∧ (RIt mi mi' ∧ mi' 285 18 = nI (enS T n (nmS T n (0) (nI v.1 - 1) (nmS T n 0 9 (nmS T n 1 9 (nmS T n 1 9 (nmS T n 0 5 ((true, e)))))))).2 ∧ ((enS T n (nmS T n (0) (nI v.1 - 1) (nmS T n 0 9 (nmS T n 1 9 (nmS T n 1 9 (nmS T n 0 5 ((true, e)))))))).1 = true → RP0 mi' (glueV v (nmV T n 0 5 ((true, e))) (nmV T n 1 9 (nmS T n 0 5 ((true, e)))) (nmV T n 1 9 (nmS T n 1 9 (nmS T n 0 5 ((true, e))))) (nmV T n 0 9 (nmS T n 1 9 (nmS T n 1 9 (nmS T n 0 5 ((true, e)))))) (nmV T n (0) (nI v.1 - 1) (nmS T n 0 9 (nmS T n 1 9 (nmS T n 1 9 (nmS T n 0 5 ((true, e))))))))))) (g := gR) (d := d + 3) (M := 158) (args := [.ref 285, .int 1]) (mem := (WW L, mi, ml, mr)) (q := q_158) rfl (Nat.le_of_ble_eq_true rfl) rfl (by
    refine ev_iconst (p' := 1) (v := nI 0) i_158_0 rfl (by decide) ?_
    refine ev_istore_n (p' := 2) (ls' := [_, _, _, _, _]) i_158_1 rfl rfl (by decide) rfl ?_
    have hm0 := hM
    have hq0 := hp
    have hr0 : RIt mi mi := RIt.refl
    refine ev_iload_n (p' := 3) i_158_2 rfl rfl ?_
    refine ev_iload_n (p' := 4) i_158_3 rfl rfl ?_
    refine ev_if_eq (p' := 7) (tg := 11) i_158_4 rfl rfl (fun c4 => absurd c4 (by decide)) (fun c4 => ?_)
    refine ev_iconst (p' := 8) (v := 5) i_158_7 rfl (by decide) ?_
    refine ev_goto (tg := 12) i_158_8 rfl ?_
    refine ev_icmp_ge (p' := 15) (tg := 85) i_158_12 rfl rfl (fun c12 => absurd c12 (by decide)) (fun c12 => ?_)
    refine ev_iload_n (p' := 16) i_158_15 rfl rfl ?_
    refine ev_iconst (p' := 17) (v := 1) i_158_16 rfl (by decide) ?_
    refine ev_icmp_eq (p' := 20) (tg := 25) i_158_17 rfl rfl (fun c17 => absurd c17 (by decide)) (fun c17 => ?_)
    refine ev_iload_n (p' := 21) i_158_20 rfl rfl ?_
    refine ev_iconst (p' := 22) (v := 2) i_158_21 rfl (by decide) ?_
    refine ev_icmp_ne (p' := 25) (tg := 29) i_158_22 rfl rfl (fun c22 => ?_) (fun c22 => absurd (by decide) c22)
    refine ev_iconst (p' := 30) (v := 0) i_158_29 rfl (by decide) ?_
    refine ev_istore_n (p' := 31) (ls' := [_, _, _, _, _]) i_158_30 rfl rfl (by decide) rfl ?_
    refine ev_iload_n (p' := 32) i_158_31 rfl rfl ?_
    refine ev_if_ne (p' := 35) (tg := 39) i_158_32 rfl rfl (fun c32 => absurd c32 (by decide)) (fun c32 => ?_)
    refine ev_iconst (p' := 36) (v := 5) i_158_35 rfl (by decide) ?_
    refine ev_goto (tg := 55) i_158_36 rfl ?_
    refine ev_istore (p' := 57) (ls' := [_, _, _, _, _]) i_158_55 rfl rfl (by decide) rfl ?_
    refine ev_aload_n (p' := 58) i_158_57 rfl rfl ?_
    refine ev_iload_n (p' := 59) i_158_58 rfl rfl ?_
    refine ev_iload (p' := 61) i_158_59 rfl rfl ?_
    obtain ⟨mi1, e1, x1, at1, vl1⟩ := s_mnum (L := L) (ml := ml) d hw (mi := mi) hm0 (st := (true, e)) rfl he hat (0) (5)
    refine ev_v2I (p' := 64) i_158_61 rfl cl_12_159_12 (by decide) is_285 (Nat.le_of_ble_eq_true rfl) (e1) ?_
    refine ev_if_ne (p' := 67) (tg := 69) i_158_64 rfl rfl (fun c64 => ?_) (fun c64 => ?_)
    · replace c64 := B1 c64
      have cc0 := c64
      refine ev_aload_n (p' := 70) i_158_69 rfl rfl ?_
      refine ev_getr (p' := 73) i_158_70 rfl fl_12_46 rfl is_285 (rf_285_20 hw) ?_
      refine ev_iload_n (p' := 74) i_158_73 rfl rfl ?_
      refine ev_aload_n (p' := 75) i_158_74 rfl rfl ?_
      refine ev_geti (p' := 78) i_158_75 rfl fl_12_156 rfl is_285 ?_
      rw [vl1 c64]
      have hm1 : MT (pm_u mi1 298 0 (nmV T n 0 5 ((true, e)))) T n := (x1.m hm0).u298
      have hq1 : RP0 (pm_u mi1 298 0 (nmV T n 0 5 ((true, e)))) v := (x1.p hq0).u298
      have hr1 : RIt mi (pm_u mi1 298 0 (nmV T n 0 5 ((true, e)))) := (hr0.trans x1.i).u298
      refine ev_iastN (p' := 79) i_158_78 rfl is_298 len_298 (by decide) (by decide) (gr (by decide)) ?_
      refine ev_iinc (p' := 82) (ls' := [_, _, _, _, _]) i_158_79 rfl rfl rfl (by decide) (nI_inc _) rfl ?_
      refine ev_goto (tg := 2) i_158_82 rfl ?_
      refine ev_iload_n (p' := 3) i_158_2 rfl rfl ?_
      refine ev_iload_n (p' := 4) i_158_3 rfl rfl ?_
      refine ev_if_eq (p' := 7) (tg := 11) i_158_4 rfl rfl (fun c4 => absurd c4 (by decide)) (fun c4 => ?_)
      refine ev_iconst (p' := 8) (v := 5) i_158_7 rfl (by decide) ?_
      refine ev_goto (tg := 12) i_158_8 rfl ?_
      refine ev_icmp_ge (p' := 15) (tg := 85) i_158_12 rfl rfl (fun c12 => absurd c12 (by decide)) (fun c12 => ?_)
      refine ev_iload_n (p' := 16) i_158_15 rfl rfl ?_
      refine ev_iconst (p' := 17) (v := 1) i_158_16 rfl (by decide) ?_
      refine ev_icmp_eq (p' := 20) (tg := 25) i_158_17 rfl rfl (fun c17 => ?_) (fun c17 => absurd (by decide) c17)
      refine ev_iconst (p' := 26) (v := 1) i_158_25 rfl (by decide) ?_
      refine ev_goto (tg := 30) i_158_26 rfl ?_
      refine ev_istore_n (p' := 31) (ls' := [_, _, _, _, _]) i_158_30 rfl rfl (by decide) rfl ?_
      refine ev_iload_n (p' := 32) i_158_31 rfl rfl ?_
      refine ev_if_ne (p' := 35) (tg := 39) i_158_32 rfl rfl (fun c32 => ?_) (fun c32 => absurd (by decide) c32)
      refine ev_iload_n (p' := 40) i_158_39 rfl rfl ?_
      refine ev_iconst (p' := 41) (v := 4) i_158_40 rfl (by decide) ?_
      refine ev_icmp_ne (p' := 44) (tg := 53) i_158_41 rfl rfl (fun c41 => ?_) (fun c41 => absurd (by decide) c41)
      refine ev_bipush (p' := 55) (v := 9) i_158_53 rfl (by decide) ?_
      refine ev_istore (p' := 57) (ls' := [_, _, _, _, _]) i_158_55 rfl rfl (by decide) rfl ?_
      refine ev_aload_n (p' := 58) i_158_57 rfl rfl ?_
      refine ev_iload_n (p' := 59) i_158_58 rfl rfl ?_
      refine ev_iload (p' := 61) i_158_59 rfl rfl ?_
      obtain ⟨mi2, e2, x2, at2, vl2⟩ := s_mnum (L := L) (ml := ml) d hw (mi := (pm_u mi1 298 0 (nmV T n 0 5 ((true, e))))) hm1 (st := nmS T n 0 5 ((true, e))) cc0 (nmS_le (st := (true, e)) he).1 (by rw [pm_u_ne (by decide)]; exact at1) (1) (9)
      refine ev_v2I (p' := 64) i_158_61 rfl cl_12_159_12 (by decide) is_285 (Nat.le_of_ble_eq_true rfl) (e2) ?_
      refine ev_if_ne (p' := 67) (tg := 69) i_158_64 rfl rfl (fun c64 => ?_) (fun c64 => ?_)
      · replace c64 := B1 c64
        have cc1 := c64
        refine ev_aload_n (p' := 70) i_158_69 rfl rfl ?_
        refine ev_getr (p' := 73) i_158_70 rfl fl_12_46 rfl is_285 (rf_285_20 hw) ?_
        refine ev_iload_n (p' := 74) i_158_73 rfl rfl ?_
        refine ev_aload_n (p' := 75) i_158_74 rfl rfl ?_
        refine ev_geti (p' := 78) i_158_75 rfl fl_12_156 rfl is_285 ?_
        rw [vl2 c64]
        have hm2 : MT (pm_u mi2 298 1 (nmV T n 1 9 (nmS T n 0 5 ((true, e))))) T n := (x2.m hm1).u298
        have hq2 : RP0 (pm_u mi2 298 1 (nmV T n 1 9 (nmS T n 0 5 ((true, e))))) v := (x2.p hq1).u298
        have hr2 : RIt mi (pm_u mi2 298 1 (nmV T n 1 9 (nmS T n 0 5 ((true, e))))) := (hr1.trans x2.i).u298
        refine ev_iastN (p' := 79) i_158_78 rfl is_298 len_298 (by decide) (by decide) (gr (by decide)) ?_
        refine ev_iinc (p' := 82) (ls' := [_, _, _, _, _]) i_158_79 rfl rfl rfl (by decide) (nI_inc _) rfl ?_
        refine ev_goto (tg := 2) i_158_82 rfl ?_
        refine ev_iload_n (p' := 3) i_158_2 rfl rfl ?_
        refine ev_iload_n (p' := 4) i_158_3 rfl rfl ?_
        refine ev_if_eq (p' := 7) (tg := 11) i_158_4 rfl rfl (fun c4 => absurd c4 (by decide)) (fun c4 => ?_)
        refine ev_iconst (p' := 8) (v := 5) i_158_7 rfl (by decide) ?_
        refine ev_goto (tg := 12) i_158_8 rfl ?_
        refine ev_icmp_ge (p' := 15) (tg := 85) i_158_12 rfl rfl (fun c12 => absurd c12 (by decide)) (fun c12 => ?_)
        refine ev_iload_n (p' := 16) i_158_15 rfl rfl ?_
        refine ev_iconst (p' := 17) (v := 1) i_158_16 rfl (by decide) ?_
        refine ev_icmp_eq (p' := 20) (tg := 25) i_158_17 rfl rfl (fun c17 => absurd c17 (by decide)) (fun c17 => ?_)
        refine ev_iload_n (p' := 21) i_158_20 rfl rfl ?_
        refine ev_iconst (p' := 22) (v := 2) i_158_21 rfl (by decide) ?_
        refine ev_icmp_ne (p' := 25) (tg := 29) i_158_22 rfl rfl (fun c22 => absurd c22 (by decide)) (fun c22 => ?_)
        refine ev_iconst (p' := 26) (v := 1) i_158_25 rfl (by decide) ?_
        refine ev_goto (tg := 30) i_158_26 rfl ?_
        refine ev_istore_n (p' := 31) (ls' := [_, _, _, _, _]) i_158_30 rfl rfl (by decide) rfl ?_
        refine ev_iload_n (p' := 32) i_158_31 rfl rfl ?_
        refine ev_if_ne (p' := 35) (tg := 39) i_158_32 rfl rfl (fun c32 => ?_) (fun c32 => absurd (by decide) c32)
        refine ev_iload_n (p' := 40) i_158_39 rfl rfl ?_
        refine ev_iconst (p' := 41) (v := 4) i_158_40 rfl (by decide) ?_
        refine ev_icmp_ne (p' := 44) (tg := 53) i_158_41 rfl rfl (fun c41 => ?_) (fun c41 => absurd (by decide) c41)
        refine ev_bipush (p' := 55) (v := 9) i_158_53 rfl (by decide) ?_
        refine ev_istore (p' := 57) (ls' := [_, _, _, _, _]) i_158_55 rfl rfl (by decide) rfl ?_
        refine ev_aload_n (p' := 58) i_158_57 rfl rfl ?_
        refine ev_iload_n (p' := 59) i_158_58 rfl rfl ?_
        refine ev_iload (p' := 61) i_158_59 rfl rfl ?_
        obtain ⟨mi3, e3, x3, at3, vl3⟩ := s_mnum (L := L) (ml := ml) d hw (mi := (pm_u mi2 298 1 (nmV T n 1 9 (nmS T n 0 5 ((true, e)))))) hm2 (st := nmS T n 1 9 (nmS T n 0 5 ((true, e)))) cc1 (nmS_le (st := (nmS T n 0 5 ((true, e)))) (nmS_le (st := (true, e)) he).1).1 (by rw [pm_u_ne (by decide)]; exact at2) (1) (9)
        refine ev_v2I (p' := 64) i_158_61 rfl cl_12_159_12 (by decide) is_285 (Nat.le_of_ble_eq_true rfl) (e3) ?_
        refine ev_if_ne (p' := 67) (tg := 69) i_158_64 rfl rfl (fun c64 => ?_) (fun c64 => ?_)
        · replace c64 := B1 c64
          have cc2 := c64
          refine ev_aload_n (p' := 70) i_158_69 rfl rfl ?_
          refine ev_getr (p' := 73) i_158_70 rfl fl_12_46 rfl is_285 (rf_285_20 hw) ?_
          refine ev_iload_n (p' := 74) i_158_73 rfl rfl ?_
          refine ev_aload_n (p' := 75) i_158_74 rfl rfl ?_
          refine ev_geti (p' := 78) i_158_75 rfl fl_12_156 rfl is_285 ?_
          rw [vl3 c64]
          have hm3 : MT (pm_u mi3 298 2 (nmV T n 1 9 (nmS T n 1 9 (nmS T n 0 5 ((true, e)))))) T n := (x3.m hm2).u298
          have hq3 : RP0 (pm_u mi3 298 2 (nmV T n 1 9 (nmS T n 1 9 (nmS T n 0 5 ((true, e)))))) v := (x3.p hq2).u298
          have hr3 : RIt mi (pm_u mi3 298 2 (nmV T n 1 9 (nmS T n 1 9 (nmS T n 0 5 ((true, e)))))) := (hr2.trans x3.i).u298
          refine ev_iastN (p' := 79) i_158_78 rfl is_298 len_298 (by decide) (by decide) (gr (by decide)) ?_
          refine ev_iinc (p' := 82) (ls' := [_, _, _, _, _]) i_158_79 rfl rfl rfl (by decide) (nI_inc _) rfl ?_
          refine ev_goto (tg := 2) i_158_82 rfl ?_
          refine ev_iload_n (p' := 3) i_158_2 rfl rfl ?_
          refine ev_iload_n (p' := 4) i_158_3 rfl rfl ?_
          refine ev_if_eq (p' := 7) (tg := 11) i_158_4 rfl rfl (fun c4 => absurd c4 (by decide)) (fun c4 => ?_)
          refine ev_iconst (p' := 8) (v := 5) i_158_7 rfl (by decide) ?_
          refine ev_goto (tg := 12) i_158_8 rfl ?_
          refine ev_icmp_ge (p' := 15) (tg := 85) i_158_12 rfl rfl (fun c12 => absurd c12 (by decide)) (fun c12 => ?_)
          refine ev_iload_n (p' := 16) i_158_15 rfl rfl ?_
          refine ev_iconst (p' := 17) (v := 1) i_158_16 rfl (by decide) ?_
          refine ev_icmp_eq (p' := 20) (tg := 25) i_158_17 rfl rfl (fun c17 => absurd c17 (by decide)) (fun c17 => ?_)
          refine ev_iload_n (p' := 21) i_158_20 rfl rfl ?_
          refine ev_iconst (p' := 22) (v := 2) i_158_21 rfl (by decide) ?_
          refine ev_icmp_ne (p' := 25) (tg := 29) i_158_22 rfl rfl (fun c22 => ?_) (fun c22 => absurd (by decide) c22)
          refine ev_iconst (p' := 30) (v := 0) i_158_29 rfl (by decide) ?_
          refine ev_istore_n (p' := 31) (ls' := [_, _, _, _, _]) i_158_30 rfl rfl (by decide) rfl ?_
          refine ev_iload_n (p' := 32) i_158_31 rfl rfl ?_
          refine ev_if_ne (p' := 35) (tg := 39) i_158_32 rfl rfl (fun c32 => ?_) (fun c32 => absurd (by decide) c32)
          refine ev_iload_n (p' := 40) i_158_39 rfl rfl ?_
          refine ev_iconst (p' := 41) (v := 4) i_158_40 rfl (by decide) ?_
          refine ev_icmp_ne (p' := 44) (tg := 53) i_158_41 rfl rfl (fun c41 => ?_) (fun c41 => absurd (by decide) c41)
          refine ev_bipush (p' := 55) (v := 9) i_158_53 rfl (by decide) ?_
          refine ev_istore (p' := 57) (ls' := [_, _, _, _, _]) i_158_55 rfl rfl (by decide) rfl ?_
          refine ev_aload_n (p' := 58) i_158_57 rfl rfl ?_
          refine ev_iload_n (p' := 59) i_158_58 rfl rfl ?_
          refine ev_iload (p' := 61) i_158_59 rfl rfl ?_
          obtain ⟨mi4, e4, x4, at4, vl4⟩ := s_mnum (L := L) (ml := ml) d hw (mi := (pm_u mi3 298 2 (nmV T n 1 9 (nmS T n 1 9 (nmS T n 0 5 ((true, e))))))) hm3 (st := nmS T n 1 9 (nmS T n 1 9 (nmS T n 0 5 ((true, e))))) cc2 (nmS_le (st := (nmS T n 1 9 (nmS T n 0 5 ((true, e))))) (nmS_le (st := (nmS T n 0 5 ((true, e)))) (nmS_le (st := (true, e)) he).1).1).1 (by rw [pm_u_ne (by decide)]; exact at3) (0) (9)
          refine ev_v2I (p' := 64) i_158_61 rfl cl_12_159_12 (by decide) is_285 (Nat.le_of_ble_eq_true rfl) (e4) ?_
          refine ev_if_ne (p' := 67) (tg := 69) i_158_64 rfl rfl (fun c64 => ?_) (fun c64 => ?_)
          · replace c64 := B1 c64
            have cc3 := c64
            refine ev_aload_n (p' := 70) i_158_69 rfl rfl ?_
            refine ev_getr (p' := 73) i_158_70 rfl fl_12_46 rfl is_285 (rf_285_20 hw) ?_
            refine ev_iload_n (p' := 74) i_158_73 rfl rfl ?_
            refine ev_aload_n (p' := 75) i_158_74 rfl rfl ?_
            refine ev_geti (p' := 78) i_158_75 rfl fl_12_156 rfl is_285 ?_
            rw [vl4 c64]
            have hm4 : MT (pm_u mi4 298 3 (nmV T n 0 9 (nmS T n 1 9 (nmS T n 1 9 (nmS T n 0 5 ((true, e))))))) T n := (x4.m hm3).u298
            have hq4 : RP0 (pm_u mi4 298 3 (nmV T n 0 9 (nmS T n 1 9 (nmS T n 1 9 (nmS T n 0 5 ((true, e))))))) v := (x4.p hq3).u298
            have hr4 : RIt mi (pm_u mi4 298 3 (nmV T n 0 9 (nmS T n 1 9 (nmS T n 1 9 (nmS T n 0 5 ((true, e))))))) := (hr3.trans x4.i).u298
            refine ev_iastN (p' := 79) i_158_78 rfl is_298 len_298 (by decide) (by decide) (gr (by decide)) ?_
            refine ev_iinc (p' := 82) (ls' := [_, _, _, _, _]) i_158_79 rfl rfl rfl (by decide) (nI_inc _) rfl ?_
            refine ev_goto (tg := 2) i_158_82 rfl ?_
            refine ev_iload_n (p' := 3) i_158_2 rfl rfl ?_
            refine ev_iload_n (p' := 4) i_158_3 rfl rfl ?_
            refine ev_if_eq (p' := 7) (tg := 11) i_158_4 rfl rfl (fun c4 => absurd c4 (by decide)) (fun c4 => ?_)
            refine ev_iconst (p' := 8) (v := 5) i_158_7 rfl (by decide) ?_
            refine ev_goto (tg := 12) i_158_8 rfl ?_
            refine ev_icmp_ge (p' := 15) (tg := 85) i_158_12 rfl rfl (fun c12 => absurd c12 (by decide)) (fun c12 => ?_)
            refine ev_iload_n (p' := 16) i_158_15 rfl rfl ?_
            refine ev_iconst (p' := 17) (v := 1) i_158_16 rfl (by decide) ?_
            refine ev_icmp_eq (p' := 20) (tg := 25) i_158_17 rfl rfl (fun c17 => absurd c17 (by decide)) (fun c17 => ?_)
            refine ev_iload_n (p' := 21) i_158_20 rfl rfl ?_
            refine ev_iconst (p' := 22) (v := 2) i_158_21 rfl (by decide) ?_
            refine ev_icmp_ne (p' := 25) (tg := 29) i_158_22 rfl rfl (fun c22 => ?_) (fun c22 => absurd (by decide) c22)
            refine ev_iconst (p' := 30) (v := 0) i_158_29 rfl (by decide) ?_
            refine ev_istore_n (p' := 31) (ls' := [_, _, _, _, _]) i_158_30 rfl rfl (by decide) rfl ?_
            refine ev_iload_n (p' := 32) i_158_31 rfl rfl ?_
            refine ev_if_ne (p' := 35) (tg := 39) i_158_32 rfl rfl (fun c32 => ?_) (fun c32 => absurd (by decide) c32)
            refine ev_iload_n (p' := 40) i_158_39 rfl rfl ?_
            refine ev_iconst (p' := 41) (v := 4) i_158_40 rfl (by decide) ?_
            refine ev_icmp_ne (p' := 44) (tg := 53) i_158_41 rfl rfl (fun c41 => absurd c41 (by decide)) (fun c41 => ?_)
            refine ev_aload_n (p' := 45) i_158_44 rfl rfl ?_
            refine ev_geti (p' := 48) i_158_45 rfl fl_12_96 rfl is_285 ?_
            rw [hq4.1]
            refine ev_iconst (p' := 49) (v := 1) i_158_48 rfl (by decide) ?_
            refine ev_isub (p' := 50) i_158_49 rfl ?_
            refine ev_goto (tg := 55) i_158_50 rfl ?_
            refine ev_istore (p' := 57) (ls' := [_, _, _, _, _]) i_158_55 rfl rfl (by decide) rfl ?_
            refine ev_aload_n (p' := 58) i_158_57 rfl rfl ?_
            refine ev_iload_n (p' := 59) i_158_58 rfl rfl ?_
            refine ev_iload (p' := 61) i_158_59 rfl rfl ?_
            obtain ⟨mi5, e5, x5, at5, vl5⟩ := s_mnum (L := L) (ml := ml) d hw (mi := (pm_u mi4 298 3 (nmV T n 0 9 (nmS T n 1 9 (nmS T n 1 9 (nmS T n 0 5 ((true, e)))))))) hm4 (st := nmS T n 0 9 (nmS T n 1 9 (nmS T n 1 9 (nmS T n 0 5 ((true, e)))))) cc3 (nmS_le (st := (nmS T n 1 9 (nmS T n 1 9 (nmS T n 0 5 ((true, e)))))) (nmS_le (st := (nmS T n 1 9 (nmS T n 0 5 ((true, e))))) (nmS_le (st := (nmS T n 0 5 ((true, e)))) (nmS_le (st := (true, e)) he).1).1).1).1 (by rw [pm_u_ne (by decide)]; exact at4) (0) (nI v.1 - 1)
            refine ev_v2I (p' := 64) i_158_61 rfl cl_12_159_12 (by decide) is_285 (Nat.le_of_ble_eq_true rfl) (e5) ?_
            refine ev_if_ne (p' := 67) (tg := 69) i_158_64 rfl rfl (fun c64 => ?_) (fun c64 => ?_)
            · replace c64 := B1 c64
              have cc4 := c64
              refine ev_aload_n (p' := 70) i_158_69 rfl rfl ?_
              refine ev_getr (p' := 73) i_158_70 rfl fl_12_46 rfl is_285 (rf_285_20 hw) ?_
              refine ev_iload_n (p' := 74) i_158_73 rfl rfl ?_
              refine ev_aload_n (p' := 75) i_158_74 rfl rfl ?_
              refine ev_geti (p' := 78) i_158_75 rfl fl_12_156 rfl is_285 ?_
              rw [vl5 c64]
              have hm5 : MT (pm_u mi5 298 4 (nmV T n (0) (nI v.1 - 1) (nmS T n 0 9 (nmS T n 1 9 (nmS T n 1 9 (nmS T n 0 5 ((true, e)))))))) T n := (x5.m hm4).u298
              have hq5 : RP0 (pm_u mi5 298 4 (nmV T n (0) (nI v.1 - 1) (nmS T n 0 9 (nmS T n 1 9 (nmS T n 1 9 (nmS T n 0 5 ((true, e)))))))) v := (x5.p hq4).u298
              have hr5 : RIt mi (pm_u mi5 298 4 (nmV T n (0) (nI v.1 - 1) (nmS T n 0 9 (nmS T n 1 9 (nmS T n 1 9 (nmS T n 0 5 ((true, e)))))))) := (hr4.trans x5.i).u298
              refine ev_iastN (p' := 79) i_158_78 rfl is_298 len_298 (by decide) (by decide) (gr (by decide)) ?_
              refine ev_iinc (p' := 82) (ls' := [_, _, _, _, _]) i_158_79 rfl rfl rfl (by decide) (nI_inc _) rfl ?_
              refine ev_goto (tg := 2) i_158_82 rfl ?_
              refine ev_iload_n (p' := 3) i_158_2 rfl rfl ?_
              refine ev_iload_n (p' := 4) i_158_3 rfl rfl ?_
              refine ev_if_eq (p' := 7) (tg := 11) i_158_4 rfl rfl (fun c4 => absurd c4 (by decide)) (fun c4 => ?_)
              refine ev_iconst (p' := 8) (v := 5) i_158_7 rfl (by decide) ?_
              refine ev_goto (tg := 12) i_158_8 rfl ?_
              refine ev_icmp_ge (p' := 15) (tg := 85) i_158_12 rfl rfl (fun c12 => ?_) (fun c12 => absurd (by decide) c12)
              refine ev_aload_n (p' := 86) i_158_85 rfl rfl ?_
              obtain ⟨mi6, e6, y6, at6⟩ := s_mend (L := L) (ml := ml) d hw hm5 (st := nmS T n (0) (nI v.1 - 1) (nmS T n 0 9 (nmS T n 1 9 (nmS T n 1 9 (nmS T n 0 5 ((true, e))))))) cc4 (nmS_le (st := (nmS T n 0 9 (nmS T n 1 9 (nmS T n 1 9 (nmS T n 0 5 ((true, e))))))) (nmS_le (st := (nmS T n 1 9 (nmS T n 1 9 (nmS T n 0 5 ((true, e)))))) (nmS_le (st := (nmS T n 1 9 (nmS T n 0 5 ((true, e))))) (nmS_le (st := (nmS T n 0 5 ((true, e)))) (nmS_le (st := (true, e)) he).1).1).1).1).1 (by rw [pm_u_ne (by decide)]; exact at5)
              refine ev_v0I (p' := 89) i_158_86 rfl cl_12_163_12 (by decide) is_285 (Nat.le_of_ble_eq_true rfl) (e6) ?_
              refine ev_if_ne (p' := 92) (tg := 94) i_158_89 rfl rfl (fun c89 => ?_) (fun c89 => ?_)
              · replace c89 := B1 c89
                refine ev_aload_n (p' := 95) i_158_94 rfl rfl ?_
                refine ev_aload_n (p' := 96) i_158_95 rfl rfl ?_
                refine ev_getr (p' := 99) i_158_96 rfl fl_12_46 rfl is_285 (rf_285_20 hw) ?_
                refine ev_iconst (p' := 100) (v := nI 0) i_158_99 rfl (by decide) ?_
                refine ev_ialdN (p' := 101) i_158_100 rfl is_298 len_298 (by omega) (by decide) ?_
                rw [show mi6 298 0 = nmV T n 0 5 ((true, e)) from by rw [y6.1 298 (by decide), pm_u_oth (by decide), x5.1 298 (by decide), pm_u_oth (by decide), x4.1 298 (by decide), pm_u_oth (by decide), x3.1 298 (by decide), pm_u_oth (by decide), x2.1 298 (by decide), pm_u_self]]
                refine ev_aload_n (p' := 102) i_158_101 rfl rfl ?_
                refine ev_getr (p' := 105) i_158_102 rfl fl_12_46 rfl is_285 (rf_285_20 hw) ?_
                refine ev_iconst (p' := 106) (v := nI 1) i_158_105 rfl (by decide) ?_
                refine ev_ialdN (p' := 107) i_158_106 rfl is_298 len_298 (by omega) (by decide) ?_
                rw [show mi6 298 1 = nmV T n 1 9 (nmS T n 0 5 ((true, e))) from by rw [y6.1 298 (by decide), pm_u_oth (by decide), x5.1 298 (by decide), pm_u_oth (by decide), x4.1 298 (by decide), pm_u_oth (by decide), x3.1 298 (by decide), pm_u_self]]
                refine ev_aload_n (p' := 108) i_158_107 rfl rfl ?_
                refine ev_getr (p' := 111) i_158_108 rfl fl_12_46 rfl is_285 (rf_285_20 hw) ?_
                refine ev_iconst (p' := 112) (v := nI 2) i_158_111 rfl (by decide) ?_
                refine ev_ialdN (p' := 113) i_158_112 rfl is_298 len_298 (by omega) (by decide) ?_
                rw [show mi6 298 2 = nmV T n 1 9 (nmS T n 1 9 (nmS T n 0 5 ((true, e)))) from by rw [y6.1 298 (by decide), pm_u_oth (by decide), x5.1 298 (by decide), pm_u_oth (by decide), x4.1 298 (by decide), pm_u_self]]
                refine ev_aload_n (p' := 114) i_158_113 rfl rfl ?_
                refine ev_getr (p' := 117) i_158_114 rfl fl_12_46 rfl is_285 (rf_285_20 hw) ?_
                refine ev_iconst (p' := 118) (v := nI 3) i_158_117 rfl (by decide) ?_
                refine ev_ialdN (p' := 119) i_158_118 rfl is_298 len_298 (by omega) (by decide) ?_
                rw [show mi6 298 3 = nmV T n 0 9 (nmS T n 1 9 (nmS T n 1 9 (nmS T n 0 5 ((true, e))))) from by rw [y6.1 298 (by decide), pm_u_oth (by decide), x5.1 298 (by decide), pm_u_self]]
                refine ev_iload_n (p' := 120) i_158_119 rfl rfl ?_
                refine ev_if_eq (p' := 123) (tg := 132) i_158_120 rfl rfl (fun c120 => absurd c120 (by decide)) (fun c120 => ?_)
                refine ev_aload_n (p' := 124) i_158_123 rfl rfl ?_
                refine ev_getr (p' := 127) i_158_124 rfl fl_12_46 rfl is_285 (rf_285_20 hw) ?_
                refine ev_iconst (p' := 128) (v := nI 4) i_158_127 rfl (by decide) ?_
                refine ev_ialdN (p' := 129) i_158_128 rfl is_298 len_298 (by omega) (by decide) ?_
                rw [show mi6 298 4 = nmV T n (0) (nI v.1 - 1) (nmS T n 0 9 (nmS T n 1 9 (nmS T n 1 9 (nmS T n 0 5 ((true, e)))))) from by rw [y6.1 298 (by decide), pm_u_self]]
                refine ev_goto (tg := 133) i_158_129 rfl ?_
                have hpe := y6.x.p hq5
                refine ev_v5I (p' := 136) i_158_133 rfl cl_12_126_12 (by decide) is_285 (Nat.le_of_ble_eq_true rfl) (s_addPiece _ hw hpe.1 h6p _ _ _ _ _) ?_
                refine ev_pop (p' := 137) i_158_136 rfl rfl ?_
                refine ev_iconst (p' := 138) (v := 1) i_158_137 rfl (by decide) ?_
                exact ev_iret i_158_138 rfl rfl ⟨by rw [B_t c89], _, rfl, (hr5.trans y6.i).trans ⟨fun a z1 z2 z3 => by rw [pm_u_ne z1, pm_u_ne z1, r9_ne z2], fun j w1 _ _ _ w5 => by rw [pm_u_oth w5, pm_u_oth w1, r9_ne (by omega)]⟩, by rw [pm_u_oth (by decide), pm_u_oth (by decide), r9_ne (by omega)]; exact at6, fun _ => hpe.glue (by rw [pm_u_oth (by decide), pm_u_self]) (by rw [pm_u_oth (by decide), pm_u_oth (by decide), r9_ne (by omega)]) (by rw [pm_u_oth (by decide), pm_u_oth (by decide), r9_ne (by omega)]) (fun j hj => by rw [pm_u_ne (by omega), pm_u_ne (by omega)])⟩
              · replace c89 := B0n c89
                refine ev_iconst (p' := 93) (v := 0) i_158_92 rfl (by decide) ?_
                exact ev_iret i_158_93 rfl rfl ⟨by rw [B_f c89], mi6, rfl, hr5.trans y6.i, at6, fun z => absurd z c89⟩
            · replace c64 := B0n c64
              refine ev_iconst (p' := 68) (v := 0) i_158_67 rfl (by decide) ?_
              exact ev_iret i_158_68 rfl rfl ⟨by rw [nf_end c64, B_f c64], mi5, rfl, (hr4.trans x5.i), by rw [nf_end c64]; exact at5, fun z => by rw [nf_end c64] at z; exact absurd z c64⟩
          · replace c64 := B0n c64
            refine ev_iconst (p' := 68) (v := 0) i_158_67 rfl (by decide) ?_
            exact ev_iret i_158_68 rfl rfl ⟨by rw [nmS_off (T := T) (n := n) (lo := 0) (hi := nI v.1 - 1) c64, nf_end c64, B_f c64], mi4, rfl, (hr3.trans x4.i), by rw [nmS_off (T := T) (n := n) (lo := 0) (hi := nI v.1 - 1) c64, nf_end c64]; exact at4, fun z => by rw [nmS_off (T := T) (n := n) (lo := 0) (hi := nI v.1 - 1) c64, nf_end c64] at z; exact absurd z c64⟩
        · replace c64 := B0n c64
          refine ev_iconst (p' := 68) (v := 0) i_158_67 rfl (by decide) ?_
          exact ev_iret i_158_68 rfl rfl ⟨by rw [nmS_off (T := T) (n := n) (lo := 0) (hi := 9) c64, nmS_off (T := T) (n := n) (lo := 0) (hi := nI v.1 - 1) c64, nf_end c64, B_f c64], mi3, rfl, (hr2.trans x3.i), by rw [nmS_off (T := T) (n := n) (lo := 0) (hi := 9) c64, nmS_off (T := T) (n := n) (lo := 0) (hi := nI v.1 - 1) c64, nf_end c64]; exact at3, fun z => by rw [nmS_off (T := T) (n := n) (lo := 0) (hi := 9) c64, nmS_off (T := T) (n := n) (lo := 0) (hi := nI v.1 - 1) c64, nf_end c64] at z; exact absurd z c64⟩
      · replace c64 := B0n c64
        refine ev_iconst (p' := 68) (v := 0) i_158_67 rfl (by decide) ?_
        exact ev_iret i_158_68 rfl rfl ⟨by rw [nmS_off (T := T) (n := n) (lo := 1) (hi := 9) c64, nmS_off (T := T) (n := n) (lo := 0) (hi := 9) c64, nmS_off (T := T) (n := n) (lo := 0) (hi := nI v.1 - 1) c64, nf_end c64, B_f c64], mi2, rfl, (hr1.trans x2.i), by rw [nmS_off (T := T) (n := n) (lo := 1) (hi := 9) c64, nmS_off (T := T) (n := n) (lo := 0) (hi := 9) c64, nmS_off (T := T) (n := n) (lo := 0) (hi := nI v.1 - 1) c64, nf_end c64]; exact at2, fun z => by rw [nmS_off (T := T) (n := n) (lo := 1) (hi := 9) c64, nmS_off (T := T) (n := n) (lo := 0) (hi := 9) c64, nmS_off (T := T) (n := n) (lo := 0) (hi := nI v.1 - 1) c64, nf_end c64] at z; exact absurd z c64⟩
    · replace c64 := B0n c64
      refine ev_iconst (p' := 68) (v := 0) i_158_67 rfl (by decide) ?_
      exact ev_iret i_158_68 rfl rfl ⟨by rw [nmS_off (T := T) (n := n) (lo := 1) (hi := 9) c64, nmS_off (T := T) (n := n) (lo := 1) (hi := 9) c64, nmS_off (T := T) (n := n) (lo := 0) (hi := 9) c64, nmS_off (T := T) (n := n) (lo := 0) (hi := nI v.1 - 1) c64, nf_end c64, B_f c64], mi1, rfl, (hr0.trans x1.i), by rw [nmS_off (T := T) (n := n) (lo := 1) (hi := 9) c64, nmS_off (T := T) (n := n) (lo := 1) (hi := 9) c64, nmS_off (T := T) (n := n) (lo := 0) (hi := 9) c64, nmS_off (T := T) (n := n) (lo := 0) (hi := nI v.1 - 1) c64, nf_end c64]; exact at1, fun z => by rw [nmS_off (T := T) (n := n) (lo := 1) (hi := 9) c64, nmS_off (T := T) (n := n) (lo := 1) (hi := 9) c64, nmS_off (T := T) (n := n) (lo := 0) (hi := 9) c64, nmS_off (T := T) (n := n) (lo := 0) (hi := nI v.1 - 1) c64, nf_end c64] at z; exact absurd z c64⟩)
  subst h1 h2
  exact ⟨mi1, h5, h3⟩
