/-! ===== the world behind the constructors ===== -/
def k_sh : List (Nat × Nat) := [(99, 0), (11, 13), (23, 2), (22, 2), (7, 7), (21, 150), (9, 2), (20, 13), (20, 13), (20, 13), (26, 6), (8, 0), (6, 0), (0, 0), (1, 0), (5, 0), (10, 0), (4, 7), (24, 6), (27, 6), (20, 5), (20, 5), (20, 5), (20, 5), (20, 5), (20, 5), (27, 6), (20, 2), (20, 2), (20, 2), (20, 2), (20, 2), (20, 2), (2, 6), (25, 7), (20, 7), (3, 8), (3, 8), (3, 8), (3, 8), (3, 8), (3, 8), (3, 8), (2, 6), (25, 7), (20, 7), (3, 8), (3, 8), (3, 8), (3, 8), (3, 8), (3, 8), (3, 8), (2, 6), (25, 7), (20, 7), (3, 8), (3, 8), (3, 8), (3, 8), (3, 8), (3, 8), (3, 8), (2, 6), (25, 7), (20, 7), (3, 8), (3, 8), (3, 8), (3, 8), (3, 8), (3, 8), (3, 8), (2, 6), (25, 7), (20, 7), (3, 8), (3, 8), (3, 8), (3, 8), (3, 8), (3, 8), (3, 8), (2, 6), (25, 7), (20, 7), (3, 8), (3, 8), (3, 8), (3, 8), (3, 8), (3, 8), (3, 8), (2, 6), (25, 7), (20, 7), (3, 8), (3, 8), (3, 8), (3, 8), (3, 8), (3, 8), (3, 8), (4, 7), (24, 6), (27, 6), (20, 5), (20, 5), (20, 5), (20, 5), (20, 5), (20, 5), (27, 6), (20, 2), (20, 2), (20, 2), (20, 2), (20, 2), (20, 2), (2, 6), (25, 7), (20, 7), (3, 8), (3, 8), (3, 8), (3, 8), (3, 8), (3, 8), (3, 8), (2, 6), (25, 7), (20, 7), (3, 8), (3, 8), (3, 8), (3, 8), (3, 8), (3, 8), (3, 8), (2, 6), (25, 7), (20, 7), (3, 8), (3, 8), (3, 8), (3, 8), (3, 8), (3, 8), (3, 8), (2, 6), (25, 7), (20, 7), (3, 8), (3, 8), (3, 8), (3, 8), (3, 8), (3, 8), (3, 8), (2, 6), (25, 7), (20, 7), (3, 8), (3, 8), (3, 8), (3, 8), (3, 8), (3, 8), (3, 8), (2, 6), (25, 7), (20, 7), (3, 8), (3, 8), (3, 8), (3, 8), (3, 8), (3, 8), (3, 8), (2, 6), (25, 7), (20, 7), (3, 8), (3, 8), (3, 8), (3, 8), (3, 8), (3, 8), (3, 8), (4, 7), (24, 6), (27, 6), (20, 5), (20, 5), (20, 5), (20, 5), (20, 5), (20, 5), (27, 6), (20, 2), (20, 2), (20, 2), (20, 2), (20, 2), (20, 2), (2, 6), (25, 7), (20, 7), (3, 8), (3, 8), (3, 8), (3, 8), (3, 8), (3, 8), (3, 8), (2, 6), (25, 7), (20, 7), (3, 8), (3, 8), (3, 8), (3, 8), (3, 8), (3, 8), (3, 8), (2, 6), (25, 7), (20, 7), (3, 8), (3, 8), (3, 8), (3, 8), (3, 8), (3, 8), (3, 8), (2, 6), (25, 7), (20, 7), (3, 8), (3, 8), (3, 8), (3, 8), (3, 8), (3, 8), (3, 8), (2, 6), (25, 7), (20, 7), (3, 8), (3, 8), (3, 8), (3, 8), (3, 8), (3, 8), (3, 8), (2, 6), (25, 7), (20, 7), (3, 8), (3, 8), (3, 8), (3, 8), (3, 8), (3, 8), (3, 8), (2, 6), (25, 7), (20, 7), (3, 8), (3, 8), (3, 8), (3, 8), (3, 8), (3, 8), (3, 8), (2, 6), (25, 7), (20, 7), (3, 8), (3, 8), (3, 8), (3, 8), (3, 8), (3, 8), (3, 8), (12, 40), (20, 3), (20, 7), (20, 7), (20, 7), (20, 7), (20, 7), (20, 7), (20, 7), (20, 30), (20, 6), (20, 6), (20, 150), (20, 5), (20, 420), (20, 7), (20, 312), (20, 52), (20, 7), (20, 13), (20, 40), (20, 40), (20, 8192), (20, 13), (20, 13), (20, 840), (20, 2)]
/-- tag and length of each cell; cell 0 is a script of L ints -/
def SH (L : Nat) : Nat → Nat × Nat := fun k => if k = 0 then (99, L) else k_sh.getD k (0, 0)
def k_pg : List Nat := [33, 43, 53, 63, 73, 83, 93, 119, 129, 139, 149, 159, 169, 179, 205, 215, 225, 235, 245, 255, 265, 275]
def k_sp : List Nat := [17, 103, 189]
abbrev WW (L : Nat) : pm_W := (311, 12334, SH L)
theorem SH_ne {L k : Nat} (h : k ≠ 0) : SH L k = k_sh.getD k (0, 0) := if_neg h
theorem sh_is {L k t : Nat} {mi : Nat → Nat → Int32} {ml : Nat → Nat → Int64} {mr : Nat → Nat → Option Nat} (h1 : 1 ≤ k) (h2 : k ≤ 311) (h3 : (k_sh.getD k (0, 0)).1 = t) : pm_is (WW L, mi, ml, mr) k t := ⟨h1, h2, by show (SH L k).1 = t; rw [SH_ne (by omega)]; exact h3⟩
theorem sh_pg : ∀ P ∈ k_pg, k_sh.getD P (0, 0) = (2, 6) ∧ k_sh.getD (P + 1) (0, 0) = (25, 7) ∧ k_sh.getD (P + 2) (0, 0) = (20, 7) ∧ (∀ i, i < 7 → k_sh.getD (P + 3 + i) (0, 0) = (3, 8)) ∧ 17 ≤ P ∧ P + 9 ≤ 284 := by decide +kernel
theorem sh_sp : ∀ S ∈ k_sp, k_sh.getD S (0, 0) = (4, 7) ∧ k_sh.getD (S + 1) (0, 0) = (24, 6) ∧ k_sh.getD (S + 2) (0, 0) = (27, 6) ∧ (∀ i, i < 6 → k_sh.getD (S + 3 + i) (0, 0) = (20, 5)) ∧ k_sh.getD (S + 9) (0, 0) = (27, 6) ∧ (∀ i, i < 6 → k_sh.getD (S + 10 + i) (0, 0) = (20, 2)) ∧ S + 16 ∈ k_pg ∧ (∀ i, i < 6 → S + 26 + 10 * i ∈ k_pg) ∧ 17 ≤ S ∧ S + 85 ≤ 284 := by decide +kernel
section WRLD
variable {L P S : Nat} {mi : Nat → Nat → Int32} {ml : Nat → Nat → Int64} {mr : Nat → Nat → Option Nat}
theorem is_pg (hP : P ∈ k_pg) : pm_is (WW L, mi, ml, mr) P 2 := by
  obtain ⟨h1, h2, h3, h4, h5, h6⟩ := sh_pg P hP
  exact sh_is (by omega) (by omega) (by rw [h1])
theorem is_pgp (hP : P ∈ k_pg) : pm_is (WW L, mi, ml, mr) (P + 1) 25 := by
  obtain ⟨h1, h2, h3, h4, h5, h6⟩ := sh_pg P hP
  exact sh_is (by omega) (by omega) (by rw [h2])
theorem is_pgh (hP : P ∈ k_pg) : pm_is (WW L, mi, ml, mr) (P + 2) 20 := by
  obtain ⟨h1, h2, h3, h4, h5, h6⟩ := sh_pg P hP
  exact sh_is (by omega) (by omega) (by rw [h3])
theorem is_pc {i : Nat} (hP : P ∈ k_pg) (hi : i < 7) : pm_is (WW L, mi, ml, mr) (P + 3 + i) 3 := by
  obtain ⟨h1, h2, h3, h4, h5, h6⟩ := sh_pg P hP
  exact sh_is (by omega) (by omega) (by rw [h4 i hi])
theorem len_pgp (hP : P ∈ k_pg) : (SH L (P + 1)).2 = 7 := by
  obtain ⟨h1, h2, h3, h4, h5, h6⟩ := sh_pg P hP
  rw [SH_ne (by omega), h2]
theorem len_pgh (hP : P ∈ k_pg) : (SH L (P + 2)).2 = 7 := by
  obtain ⟨h1, h2, h3, h4, h5, h6⟩ := sh_pg P hP
  rw [SH_ne (by omega), h3]
theorem is_sp (hS : S ∈ k_sp) : pm_is (WW L, mi, ml, mr) S 4 := by
  obtain ⟨h1, h2, h3, h4, h5, h6, h7, h8, h9, h10⟩ := sh_sp S hS
  exact sh_is (by omega) (by omega) (by rw [h1])
theorem is_past (hS : S ∈ k_sp) : pm_is (WW L, mi, ml, mr) (S + 1) 24 := by
  obtain ⟨h1, h2, h3, h4, h5, h6, h7, h8, h9, h10⟩ := sh_sp S hS
  exact sh_is (by omega) (by omega) (by rw [h2])
theorem is_nt (hS : S ∈ k_sp) : pm_is (WW L, mi, ml, mr) (S + 2) 27 := by
  obtain ⟨h1, h2, h3, h4, h5, h6, h7, h8, h9, h10⟩ := sh_sp S hS
  exact sh_is (by omega) (by omega) (by rw [h3])
theorem is_ntr {i : Nat} (hS : S ∈ k_sp) (hi : i < 6) : pm_is (WW L, mi, ml, mr) (S + 3 + i) 20 := by
  obtain ⟨h1, h2, h3, h4, h5, h6, h7, h8, h9, h10⟩ := sh_sp S hS
  exact sh_is (by omega) (by omega) (by rw [h4 i hi])
theorem is_so (hS : S ∈ k_sp) : pm_is (WW L, mi, ml, mr) (S + 9) 27 := by
  obtain ⟨h1, h2, h3, h4, h5, h6, h7, h8, h9, h10⟩ := sh_sp S hS
  exact sh_is (by omega) (by omega) (by rw [h5])
theorem is_sor {i : Nat} (hS : S ∈ k_sp) (hi : i < 6) : pm_is (WW L, mi, ml, mr) (S + 10 + i) 20 := by
  obtain ⟨h1, h2, h3, h4, h5, h6, h7, h8, h9, h10⟩ := sh_sp S hS
  exact sh_is (by omega) (by omega) (by rw [h6 i hi])
theorem len_past (hS : S ∈ k_sp) : (SH L (S + 1)).2 = 6 := by
  obtain ⟨h1, h2, h3, h4, h5, h6, h7, h8, h9, h10⟩ := sh_sp S hS
  rw [SH_ne (by omega), h2]
theorem len_nt (hS : S ∈ k_sp) : (SH L (S + 2)).2 = 6 := by
  obtain ⟨h1, h2, h3, h4, h5, h6, h7, h8, h9, h10⟩ := sh_sp S hS
  rw [SH_ne (by omega), h3]
theorem len_ntr {i : Nat} (hS : S ∈ k_sp) (hi : i < 6) : (SH L (S + 3 + i)).2 = 5 := by
  obtain ⟨h1, h2, h3, h4, h5, h6, h7, h8, h9, h10⟩ := sh_sp S hS
  rw [SH_ne (by omega), h4 i hi]
theorem len_so (hS : S ∈ k_sp) : (SH L (S + 9)).2 = 6 := by
  obtain ⟨h1, h2, h3, h4, h5, h6, h7, h8, h9, h10⟩ := sh_sp S hS
  rw [SH_ne (by omega), h5]
theorem len_sor {i : Nat} (hS : S ∈ k_sp) (hi : i < 6) : (SH L (S + 10 + i)).2 = 2 := by
  obtain ⟨h1, h2, h3, h4, h5, h6, h7, h8, h9, h10⟩ := sh_sp S hS
  rw [SH_ne (by omega), h6 i hi]
end WRLD
/-- the references that never change -/
def k_rf : List (Nat × Nat × Nat) := [(1, 0, 17), (1, 1, 2), (1, 2, 3), (1, 3, 4), (1, 4, 275), (1, 5, 6), (1, 6, 8), (1, 7, 9), (2, 0, 103), (2, 1, 189), (4, 0, 5), (6, 0, 7), (10, 0, 11), (10, 1, 12), (10, 2, 13), (10, 3, 14), (10, 4, 15), (10, 5, 16), (285, 0, 286), (285, 6, 287), (285, 7, 288), (285, 8, 289), (285, 9, 290), (285, 10, 291), (285, 11, 292), (285, 12, 293), (285, 13, 294), (285, 14, 295), (285, 15, 296), (285, 16, 297), (285, 20, 298), (285, 21, 299), (285, 23, 300), (285, 24, 301), (285, 26, 302), (285, 27, 303), (285, 28, 304), (285, 29, 305), (285, 30, 306), (285, 32, 307), (285, 33, 308), (285, 34, 309), (285, 37, 310), (285, 38, 311)]
def WR (π : Nat → Nat → Nat) (mr : Nat → Nat → Option Nat) : Prop := (∀ x ∈ k_rf, mr x.1 x.2.1 = some x.2.2) ∧ (∀ P ∈ k_pg, mr P 0 = some 10 ∧ mr P 1 = some (P + 1) ∧ mr P 2 = some (P + 2) ∧ ∀ i, i < 7 → mr (P + 1) i = some (P + 3 + i)) ∧
  ∀ S ∈ k_sp, mr S 0 = some (S + 16) ∧ mr S 1 = some (S + 1) ∧ mr S 2 = some (S + 2) ∧ mr S 3 = some (S + 9) ∧ (∀ i, i < 6 → mr (S + 2) i = some (S + 3 + i)) ∧ (∀ i, i < 6 → mr (S + 9) i = some (S + 10 + i)) ∧ (∀ i, i < 6 → π S i < 6 ∧ mr (S + 1) i = some (S + 26 + 10 * π S i)) ∧ ∀ i j, i < 6 → j < 6 → π S i = π S j → i = j
section WRF
variable {π : Nat → Nat → Nat} {mr : Nat → Nat → Option Nat} {P S : Nat}
theorem WR.fx (h : WR π mr) (n : Nat) {x : Nat × Nat × Nat} (hx : k_rf[n]? = some x) : mr x.1 x.2.1 = some x.2.2 := h.1 x (List.mem_of_getElem? hx)
theorem WR.kinds (h : WR π mr) (hP : P ∈ k_pg) : mr P 0 = some 10 := (h.2.1 P hP).1
theorem WR.pieces (h : WR π mr) (hP : P ∈ k_pg) : mr P 1 = some (P + 1) := (h.2.1 P hP).2.1
theorem WR.heights (h : WR π mr) (hP : P ∈ k_pg) : mr P 2 = some (P + 2) := (h.2.1 P hP).2.2.1
theorem WR.piece {i : Nat} (h : WR π mr) (hP : P ∈ k_pg) (hi : i < 7) : mr (P + 1) i = some (P + 3 + i) := (h.2.1 P hP).2.2.2 i hi
theorem WR.page (h : WR π mr) (hS : S ∈ k_sp) : mr S 0 = some (S + 16) := (h.2.2 S hS).1
theorem WR.past (h : WR π mr) (hS : S ∈ k_sp) : mr S 1 = some (S + 1) := (h.2.2 S hS).2.1
theorem WR.notes (h : WR π mr) (hS : S ∈ k_sp) : mr S 2 = some (S + 2) := (h.2.2 S hS).2.2.1
theorem WR.stood (h : WR π mr) (hS : S ∈ k_sp) : mr S 3 = some (S + 9) := (h.2.2 S hS).2.2.2.1
theorem WR.note {i : Nat} (h : WR π mr) (hS : S ∈ k_sp) (hi : i < 6) : mr (S + 2) i = some (S + 3 + i) := (h.2.2 S hS).2.2.2.2.1 i hi
theorem WR.stood1 {i : Nat} (h : WR π mr) (hS : S ∈ k_sp) (hi : i < 6) : mr (S + 9) i = some (S + 10 + i) := (h.2.2 S hS).2.2.2.2.2.1 i hi
theorem WR.old {i : Nat} (h : WR π mr) (hS : S ∈ k_sp) (hi : i < 6) : mr (S + 1) i = some (S + 26 + 10 * π S i) := ((h.2.2 S hS).2.2.2.2.2.2.1 i hi).2
theorem WR.pi {i : Nat} (h : WR π mr) (hS : S ∈ k_sp) (hi : i < 6) : π S i < 6 := ((h.2.2 S hS).2.2.2.2.2.2.1 i hi).1
end WRF
theorem rf_1_0 {π : Nat → Nat → Nat} {mr : Nat → Nat → Option Nat} (h : WR π mr) : mr 1 0 = some 17 := h.fx 0 rfl
theorem rf_1_1 {π : Nat → Nat → Nat} {mr : Nat → Nat → Option Nat} (h : WR π mr) : mr 1 1 = some 2 := h.fx 1 rfl
theorem rf_1_2 {π : Nat → Nat → Nat} {mr : Nat → Nat → Option Nat} (h : WR π mr) : mr 1 2 = some 3 := h.fx 2 rfl
theorem rf_1_3 {π : Nat → Nat → Nat} {mr : Nat → Nat → Option Nat} (h : WR π mr) : mr 1 3 = some 4 := h.fx 3 rfl
theorem rf_1_4 {π : Nat → Nat → Nat} {mr : Nat → Nat → Option Nat} (h : WR π mr) : mr 1 4 = some 275 := h.fx 4 rfl
theorem rf_1_5 {π : Nat → Nat → Nat} {mr : Nat → Nat → Option Nat} (h : WR π mr) : mr 1 5 = some 6 := h.fx 5 rfl
theorem rf_1_6 {π : Nat → Nat → Nat} {mr : Nat → Nat → Option Nat} (h : WR π mr) : mr 1 6 = some 8 := h.fx 6 rfl
theorem rf_1_7 {π : Nat → Nat → Nat} {mr : Nat → Nat → Option Nat} (h : WR π mr) : mr 1 7 = some 9 := h.fx 7 rfl
theorem rf_2_0 {π : Nat → Nat → Nat} {mr : Nat → Nat → Option Nat} (h : WR π mr) : mr 2 0 = some 103 := h.fx 8 rfl
theorem rf_2_1 {π : Nat → Nat → Nat} {mr : Nat → Nat → Option Nat} (h : WR π mr) : mr 2 1 = some 189 := h.fx 9 rfl
theorem rf_4_0 {π : Nat → Nat → Nat} {mr : Nat → Nat → Option Nat} (h : WR π mr) : mr 4 0 = some 5 := h.fx 10 rfl
theorem rf_6_0 {π : Nat → Nat → Nat} {mr : Nat → Nat → Option Nat} (h : WR π mr) : mr 6 0 = some 7 := h.fx 11 rfl
theorem rf_10_0 {π : Nat → Nat → Nat} {mr : Nat → Nat → Option Nat} (h : WR π mr) : mr 10 0 = some 11 := h.fx 12 rfl
theorem rf_10_1 {π : Nat → Nat → Nat} {mr : Nat → Nat → Option Nat} (h : WR π mr) : mr 10 1 = some 12 := h.fx 13 rfl
theorem rf_10_2 {π : Nat → Nat → Nat} {mr : Nat → Nat → Option Nat} (h : WR π mr) : mr 10 2 = some 13 := h.fx 14 rfl
theorem rf_10_3 {π : Nat → Nat → Nat} {mr : Nat → Nat → Option Nat} (h : WR π mr) : mr 10 3 = some 14 := h.fx 15 rfl
theorem rf_10_4 {π : Nat → Nat → Nat} {mr : Nat → Nat → Option Nat} (h : WR π mr) : mr 10 4 = some 15 := h.fx 16 rfl
theorem rf_10_5 {π : Nat → Nat → Nat} {mr : Nat → Nat → Option Nat} (h : WR π mr) : mr 10 5 = some 16 := h.fx 17 rfl
theorem rf_285_0 {π : Nat → Nat → Nat} {mr : Nat → Nat → Option Nat} (h : WR π mr) : mr 285 0 = some 286 := h.fx 18 rfl
theorem rf_285_6 {π : Nat → Nat → Nat} {mr : Nat → Nat → Option Nat} (h : WR π mr) : mr 285 6 = some 287 := h.fx 19 rfl
theorem rf_285_7 {π : Nat → Nat → Nat} {mr : Nat → Nat → Option Nat} (h : WR π mr) : mr 285 7 = some 288 := h.fx 20 rfl
theorem rf_285_8 {π : Nat → Nat → Nat} {mr : Nat → Nat → Option Nat} (h : WR π mr) : mr 285 8 = some 289 := h.fx 21 rfl
theorem rf_285_9 {π : Nat → Nat → Nat} {mr : Nat → Nat → Option Nat} (h : WR π mr) : mr 285 9 = some 290 := h.fx 22 rfl
theorem rf_285_10 {π : Nat → Nat → Nat} {mr : Nat → Nat → Option Nat} (h : WR π mr) : mr 285 10 = some 291 := h.fx 23 rfl
theorem rf_285_11 {π : Nat → Nat → Nat} {mr : Nat → Nat → Option Nat} (h : WR π mr) : mr 285 11 = some 292 := h.fx 24 rfl
theorem rf_285_12 {π : Nat → Nat → Nat} {mr : Nat → Nat → Option Nat} (h : WR π mr) : mr 285 12 = some 293 := h.fx 25 rfl
theorem rf_285_13 {π : Nat → Nat → Nat} {mr : Nat → Nat → Option Nat} (h : WR π mr) : mr 285 13 = some 294 := h.fx 26 rfl
theorem rf_285_14 {π : Nat → Nat → Nat} {mr : Nat → Nat → Option Nat} (h : WR π mr) : mr 285 14 = some 295 := h.fx 27 rfl
theorem rf_285_15 {π : Nat → Nat → Nat} {mr : Nat → Nat → Option Nat} (h : WR π mr) : mr 285 15 = some 296 := h.fx 28 rfl
theorem rf_285_16 {π : Nat → Nat → Nat} {mr : Nat → Nat → Option Nat} (h : WR π mr) : mr 285 16 = some 297 := h.fx 29 rfl
theorem rf_285_20 {π : Nat → Nat → Nat} {mr : Nat → Nat → Option Nat} (h : WR π mr) : mr 285 20 = some 298 := h.fx 30 rfl
theorem rf_285_21 {π : Nat → Nat → Nat} {mr : Nat → Nat → Option Nat} (h : WR π mr) : mr 285 21 = some 299 := h.fx 31 rfl
theorem rf_285_23 {π : Nat → Nat → Nat} {mr : Nat → Nat → Option Nat} (h : WR π mr) : mr 285 23 = some 300 := h.fx 32 rfl
theorem rf_285_24 {π : Nat → Nat → Nat} {mr : Nat → Nat → Option Nat} (h : WR π mr) : mr 285 24 = some 301 := h.fx 33 rfl
theorem rf_285_26 {π : Nat → Nat → Nat} {mr : Nat → Nat → Option Nat} (h : WR π mr) : mr 285 26 = some 302 := h.fx 34 rfl
theorem rf_285_27 {π : Nat → Nat → Nat} {mr : Nat → Nat → Option Nat} (h : WR π mr) : mr 285 27 = some 303 := h.fx 35 rfl
theorem rf_285_28 {π : Nat → Nat → Nat} {mr : Nat → Nat → Option Nat} (h : WR π mr) : mr 285 28 = some 304 := h.fx 36 rfl
theorem rf_285_29 {π : Nat → Nat → Nat} {mr : Nat → Nat → Option Nat} (h : WR π mr) : mr 285 29 = some 305 := h.fx 37 rfl
theorem rf_285_30 {π : Nat → Nat → Nat} {mr : Nat → Nat → Option Nat} (h : WR π mr) : mr 285 30 = some 306 := h.fx 38 rfl
theorem rf_285_32 {π : Nat → Nat → Nat} {mr : Nat → Nat → Option Nat} (h : WR π mr) : mr 285 32 = some 307 := h.fx 39 rfl
theorem rf_285_33 {π : Nat → Nat → Nat} {mr : Nat → Nat → Option Nat} (h : WR π mr) : mr 285 33 = some 308 := h.fx 40 rfl
theorem rf_285_34 {π : Nat → Nat → Nat} {mr : Nat → Nat → Option Nat} (h : WR π mr) : mr 285 34 = some 309 := h.fx 41 rfl
theorem rf_285_37 {π : Nat → Nat → Nat} {mr : Nat → Nat → Option Nat} (h : WR π mr) : mr 285 37 = some 310 := h.fx 42 rfl
theorem rf_285_38 {π : Nat → Nat → Nat} {mr : Nat → Nat → Option Nat} (h : WR π mr) : mr 285 38 = some 311 := h.fx 43 rfl
theorem is_1 {L : Nat} {mi : Nat → Nat → Int32} {ml : Nat → Nat → Int64} {mr : Nat → Nat → Option Nat} : pm_is (WW L, mi, ml, mr) 1 11 := sh_is (by decide) (by decide) rfl
theorem is_2 {L : Nat} {mi : Nat → Nat → Int32} {ml : Nat → Nat → Int64} {mr : Nat → Nat → Option Nat} : pm_is (WW L, mi, ml, mr) 2 23 := sh_is (by decide) (by decide) rfl
theorem len_2 {L : Nat} : (SH L 2).2 = 2 := by rw [SH_ne (by decide)]; rfl
theorem is_3 {L : Nat} {mi : Nat → Nat → Int32} {ml : Nat → Nat → Int64} {mr : Nat → Nat → Option Nat} : pm_is (WW L, mi, ml, mr) 3 22 := sh_is (by decide) (by decide) rfl
theorem len_3 {L : Nat} : (SH L 3).2 = 2 := by rw [SH_ne (by decide)]; rfl
theorem is_4 {L : Nat} {mi : Nat → Nat → Int32} {ml : Nat → Nat → Int64} {mr : Nat → Nat → Option Nat} : pm_is (WW L, mi, ml, mr) 4 7 := sh_is (by decide) (by decide) rfl
theorem is_5 {L : Nat} {mi : Nat → Nat → Int32} {ml : Nat → Nat → Int64} {mr : Nat → Nat → Option Nat} : pm_is (WW L, mi, ml, mr) 5 21 := sh_is (by decide) (by decide) rfl
theorem len_5 {L : Nat} : (SH L 5).2 = 150 := by rw [SH_ne (by decide)]; rfl
theorem is_6 {L : Nat} {mi : Nat → Nat → Int32} {ml : Nat → Nat → Int64} {mr : Nat → Nat → Option Nat} : pm_is (WW L, mi, ml, mr) 6 9 := sh_is (by decide) (by decide) rfl
theorem is_7 {L : Nat} {mi : Nat → Nat → Int32} {ml : Nat → Nat → Int64} {mr : Nat → Nat → Option Nat} : pm_is (WW L, mi, ml, mr) 7 20 := sh_is (by decide) (by decide) rfl
theorem len_7 {L : Nat} : (SH L 7).2 = 13 := by rw [SH_ne (by decide)]; rfl
theorem is_8 {L : Nat} {mi : Nat → Nat → Int32} {ml : Nat → Nat → Int64} {mr : Nat → Nat → Option Nat} : pm_is (WW L, mi, ml, mr) 8 20 := sh_is (by decide) (by decide) rfl
theorem len_8 {L : Nat} : (SH L 8).2 = 13 := by rw [SH_ne (by decide)]; rfl
theorem is_9 {L : Nat} {mi : Nat → Nat → Int32} {ml : Nat → Nat → Int64} {mr : Nat → Nat → Option Nat} : pm_is (WW L, mi, ml, mr) 9 20 := sh_is (by decide) (by decide) rfl
theorem len_9 {L : Nat} : (SH L 9).2 = 13 := by rw [SH_ne (by decide)]; rfl
theorem is_10 {L : Nat} {mi : Nat → Nat → Int32} {ml : Nat → Nat → Int64} {mr : Nat → Nat → Option Nat} : pm_is (WW L, mi, ml, mr) 10 26 := sh_is (by decide) (by decide) rfl
theorem len_10 {L : Nat} : (SH L 10).2 = 6 := by rw [SH_ne (by decide)]; rfl
theorem is_11 {L : Nat} {mi : Nat → Nat → Int32} {ml : Nat → Nat → Int64} {mr : Nat → Nat → Option Nat} : pm_is (WW L, mi, ml, mr) 11 8 := sh_is (by decide) (by decide) rfl
theorem is_12 {L : Nat} {mi : Nat → Nat → Int32} {ml : Nat → Nat → Int64} {mr : Nat → Nat → Option Nat} : pm_is (WW L, mi, ml, mr) 12 6 := sh_is (by decide) (by decide) rfl
theorem is_13 {L : Nat} {mi : Nat → Nat → Int32} {ml : Nat → Nat → Int64} {mr : Nat → Nat → Option Nat} : pm_is (WW L, mi, ml, mr) 13 0 := sh_is (by decide) (by decide) rfl
theorem is_14 {L : Nat} {mi : Nat → Nat → Int32} {ml : Nat → Nat → Int64} {mr : Nat → Nat → Option Nat} : pm_is (WW L, mi, ml, mr) 14 1 := sh_is (by decide) (by decide) rfl
theorem is_15 {L : Nat} {mi : Nat → Nat → Int32} {ml : Nat → Nat → Int64} {mr : Nat → Nat → Option Nat} : pm_is (WW L, mi, ml, mr) 15 5 := sh_is (by decide) (by decide) rfl
theorem is_16 {L : Nat} {mi : Nat → Nat → Int32} {ml : Nat → Nat → Int64} {mr : Nat → Nat → Option Nat} : pm_is (WW L, mi, ml, mr) 16 10 := sh_is (by decide) (by decide) rfl
theorem is_17 {L : Nat} {mi : Nat → Nat → Int32} {ml : Nat → Nat → Int64} {mr : Nat → Nat → Option Nat} : pm_is (WW L, mi, ml, mr) 17 4 := sh_is (by decide) (by decide) rfl
theorem is_275 {L : Nat} {mi : Nat → Nat → Int32} {ml : Nat → Nat → Int64} {mr : Nat → Nat → Option Nat} : pm_is (WW L, mi, ml, mr) 275 2 := sh_is (by decide) (by decide) rfl
theorem is_285 {L : Nat} {mi : Nat → Nat → Int32} {ml : Nat → Nat → Int64} {mr : Nat → Nat → Option Nat} : pm_is (WW L, mi, ml, mr) 285 12 := sh_is (by decide) (by decide) rfl
theorem is_286 {L : Nat} {mi : Nat → Nat → Int32} {ml : Nat → Nat → Int64} {mr : Nat → Nat → Option Nat} : pm_is (WW L, mi, ml, mr) 286 20 := sh_is (by decide) (by decide) rfl
theorem len_286 {L : Nat} : (SH L 286).2 = 3 := by rw [SH_ne (by decide)]; rfl
theorem is_287 {L : Nat} {mi : Nat → Nat → Int32} {ml : Nat → Nat → Int64} {mr : Nat → Nat → Option Nat} : pm_is (WW L, mi, ml, mr) 287 20 := sh_is (by decide) (by decide) rfl
theorem len_287 {L : Nat} : (SH L 287).2 = 7 := by rw [SH_ne (by decide)]; rfl
theorem is_288 {L : Nat} {mi : Nat → Nat → Int32} {ml : Nat → Nat → Int64} {mr : Nat → Nat → Option Nat} : pm_is (WW L, mi, ml, mr) 288 20 := sh_is (by decide) (by decide) rfl
theorem len_288 {L : Nat} : (SH L 288).2 = 7 := by rw [SH_ne (by decide)]; rfl
theorem is_289 {L : Nat} {mi : Nat → Nat → Int32} {ml : Nat → Nat → Int64} {mr : Nat → Nat → Option Nat} : pm_is (WW L, mi, ml, mr) 289 20 := sh_is (by decide) (by decide) rfl
theorem len_289 {L : Nat} : (SH L 289).2 = 7 := by rw [SH_ne (by decide)]; rfl
theorem is_290 {L : Nat} {mi : Nat → Nat → Int32} {ml : Nat → Nat → Int64} {mr : Nat → Nat → Option Nat} : pm_is (WW L, mi, ml, mr) 290 20 := sh_is (by decide) (by decide) rfl
theorem len_290 {L : Nat} : (SH L 290).2 = 7 := by rw [SH_ne (by decide)]; rfl
theorem is_291 {L : Nat} {mi : Nat → Nat → Int32} {ml : Nat → Nat → Int64} {mr : Nat → Nat → Option Nat} : pm_is (WW L, mi, ml, mr) 291 20 := sh_is (by decide) (by decide) rfl
theorem len_291 {L : Nat} : (SH L 291).2 = 7 := by rw [SH_ne (by decide)]; rfl
theorem is_292 {L : Nat} {mi : Nat → Nat → Int32} {ml : Nat → Nat → Int64} {mr : Nat → Nat → Option Nat} : pm_is (WW L, mi, ml, mr) 292 20 := sh_is (by decide) (by decide) rfl
theorem len_292 {L : Nat} : (SH L 292).2 = 7 := by rw [SH_ne (by decide)]; rfl
theorem is_293 {L : Nat} {mi : Nat → Nat → Int32} {ml : Nat → Nat → Int64} {mr : Nat → Nat → Option Nat} : pm_is (WW L, mi, ml, mr) 293 20 := sh_is (by decide) (by decide) rfl
theorem len_293 {L : Nat} : (SH L 293).2 = 7 := by rw [SH_ne (by decide)]; rfl
theorem is_294 {L : Nat} {mi : Nat → Nat → Int32} {ml : Nat → Nat → Int64} {mr : Nat → Nat → Option Nat} : pm_is (WW L, mi, ml, mr) 294 20 := sh_is (by decide) (by decide) rfl
theorem len_294 {L : Nat} : (SH L 294).2 = 30 := by rw [SH_ne (by decide)]; rfl
theorem is_295 {L : Nat} {mi : Nat → Nat → Int32} {ml : Nat → Nat → Int64} {mr : Nat → Nat → Option Nat} : pm_is (WW L, mi, ml, mr) 295 20 := sh_is (by decide) (by decide) rfl
theorem len_295 {L : Nat} : (SH L 295).2 = 6 := by rw [SH_ne (by decide)]; rfl
theorem is_296 {L : Nat} {mi : Nat → Nat → Int32} {ml : Nat → Nat → Int64} {mr : Nat → Nat → Option Nat} : pm_is (WW L, mi, ml, mr) 296 20 := sh_is (by decide) (by decide) rfl
theorem len_296 {L : Nat} : (SH L 296).2 = 6 := by rw [SH_ne (by decide)]; rfl
theorem is_297 {L : Nat} {mi : Nat → Nat → Int32} {ml : Nat → Nat → Int64} {mr : Nat → Nat → Option Nat} : pm_is (WW L, mi, ml, mr) 297 20 := sh_is (by decide) (by decide) rfl
theorem len_297 {L : Nat} : (SH L 297).2 = 150 := by rw [SH_ne (by decide)]; rfl
theorem is_298 {L : Nat} {mi : Nat → Nat → Int32} {ml : Nat → Nat → Int64} {mr : Nat → Nat → Option Nat} : pm_is (WW L, mi, ml, mr) 298 20 := sh_is (by decide) (by decide) rfl
theorem len_298 {L : Nat} : (SH L 298).2 = 5 := by rw [SH_ne (by decide)]; rfl
theorem is_299 {L : Nat} {mi : Nat → Nat → Int32} {ml : Nat → Nat → Int64} {mr : Nat → Nat → Option Nat} : pm_is (WW L, mi, ml, mr) 299 20 := sh_is (by decide) (by decide) rfl
theorem len_299 {L : Nat} : (SH L 299).2 = 420 := by rw [SH_ne (by decide)]; rfl
theorem is_300 {L : Nat} {mi : Nat → Nat → Int32} {ml : Nat → Nat → Int64} {mr : Nat → Nat → Option Nat} : pm_is (WW L, mi, ml, mr) 300 20 := sh_is (by decide) (by decide) rfl
theorem len_300 {L : Nat} : (SH L 300).2 = 7 := by rw [SH_ne (by decide)]; rfl
theorem is_301 {L : Nat} {mi : Nat → Nat → Int32} {ml : Nat → Nat → Int64} {mr : Nat → Nat → Option Nat} : pm_is (WW L, mi, ml, mr) 301 20 := sh_is (by decide) (by decide) rfl
theorem len_301 {L : Nat} : (SH L 301).2 = 312 := by rw [SH_ne (by decide)]; rfl
theorem is_302 {L : Nat} {mi : Nat → Nat → Int32} {ml : Nat → Nat → Int64} {mr : Nat → Nat → Option Nat} : pm_is (WW L, mi, ml, mr) 302 20 := sh_is (by decide) (by decide) rfl
theorem len_302 {L : Nat} : (SH L 302).2 = 52 := by rw [SH_ne (by decide)]; rfl
theorem is_303 {L : Nat} {mi : Nat → Nat → Int32} {ml : Nat → Nat → Int64} {mr : Nat → Nat → Option Nat} : pm_is (WW L, mi, ml, mr) 303 20 := sh_is (by decide) (by decide) rfl
theorem len_303 {L : Nat} : (SH L 303).2 = 7 := by rw [SH_ne (by decide)]; rfl
theorem is_304 {L : Nat} {mi : Nat → Nat → Int32} {ml : Nat → Nat → Int64} {mr : Nat → Nat → Option Nat} : pm_is (WW L, mi, ml, mr) 304 20 := sh_is (by decide) (by decide) rfl
theorem len_304 {L : Nat} : (SH L 304).2 = 13 := by rw [SH_ne (by decide)]; rfl
theorem is_305 {L : Nat} {mi : Nat → Nat → Int32} {ml : Nat → Nat → Int64} {mr : Nat → Nat → Option Nat} : pm_is (WW L, mi, ml, mr) 305 20 := sh_is (by decide) (by decide) rfl
theorem len_305 {L : Nat} : (SH L 305).2 = 40 := by rw [SH_ne (by decide)]; rfl
theorem is_306 {L : Nat} {mi : Nat → Nat → Int32} {ml : Nat → Nat → Int64} {mr : Nat → Nat → Option Nat} : pm_is (WW L, mi, ml, mr) 306 20 := sh_is (by decide) (by decide) rfl
theorem len_306 {L : Nat} : (SH L 306).2 = 40 := by rw [SH_ne (by decide)]; rfl
theorem is_307 {L : Nat} {mi : Nat → Nat → Int32} {ml : Nat → Nat → Int64} {mr : Nat → Nat → Option Nat} : pm_is (WW L, mi, ml, mr) 307 20 := sh_is (by decide) (by decide) rfl
theorem len_307 {L : Nat} : (SH L 307).2 = 8192 := by rw [SH_ne (by decide)]; rfl
theorem is_308 {L : Nat} {mi : Nat → Nat → Int32} {ml : Nat → Nat → Int64} {mr : Nat → Nat → Option Nat} : pm_is (WW L, mi, ml, mr) 308 20 := sh_is (by decide) (by decide) rfl
theorem len_308 {L : Nat} : (SH L 308).2 = 13 := by rw [SH_ne (by decide)]; rfl
theorem is_309 {L : Nat} {mi : Nat → Nat → Int32} {ml : Nat → Nat → Int64} {mr : Nat → Nat → Option Nat} : pm_is (WW L, mi, ml, mr) 309 20 := sh_is (by decide) (by decide) rfl
theorem len_309 {L : Nat} : (SH L 309).2 = 13 := by rw [SH_ne (by decide)]; rfl
theorem is_310 {L : Nat} {mi : Nat → Nat → Int32} {ml : Nat → Nat → Int64} {mr : Nat → Nat → Option Nat} : pm_is (WW L, mi, ml, mr) 310 20 := sh_is (by decide) (by decide) rfl
theorem len_310 {L : Nat} : (SH L 310).2 = 840 := by rw [SH_ne (by decide)]; rfl
theorem is_311 {L : Nat} {mi : Nat → Nat → Int32} {ml : Nat → Nat → Int64} {mr : Nat → Nat → Option Nat} : pm_is (WW L, mi, ml, mr) 311 20 := sh_is (by decide) (by decide) rfl
theorem len_311 {L : Nat} : (SH L 311).2 = 2 := by rw [SH_ne (by decide)]; rfl
theorem sp_17 : 17 ∈ k_sp := by decide
theorem sp_103 : 103 ∈ k_sp := by decide
theorem sp_189 : 189 ∈ k_sp := by decide
theorem pg_33 : 33 ∈ k_pg := by decide
theorem pg_275 : 275 ∈ k_pg := by decide
