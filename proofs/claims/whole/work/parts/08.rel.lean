/-! ===== the pure memory on the machine's heap ===== -/
section REL
variable (base b : Nat) (sa : Nat → Nat) (cy : Nat → ClassId)
def pm_ad (k : Nat) : Nat := if k = 0 then b else if k < 1000000 then base + (k - 1) else sa (k - 1000000)
def pm_v (v : Value) : Value := match v with
  | .ref k => .ref (pm_ad base b sa k)
  | v => v
def pm_fs (mem : pm_M) (k c : Nat) : List Value := (List.range (k_nf c)).map fun j => pm_v base b sa (pm_fv mem k (k_fc c j) j)
def pm_e (mem : pm_M) (k : Nat) : va_E := if (mem.1.2.2 k).1 < 20 then .inr ((mem.1.2.2 k).1, pm_fs base b sa mem k (mem.1.2.2 k).1)
  else if (mem.1.2.2 k).1 < 23 then .inl (cy ((mem.1.2.2 k).1 - 20), (mem.1.2.2 k).2, .inl (mem.2.1 k))
  else .inl (cy ((mem.1.2.2 k).1 - 20), (mem.1.2.2 k).2, .inr (.inr (.inr (.inr fun i => (mem.2.2.2 k i).map (pm_ad base b sa)))))
def pm_ws (mem : pm_M) : va_W := (List.range mem.1.1).map fun k => (pm_ad base b sa (k + 1), pm_e base b sa cy mem (k + 1))
def pm_A : Nat → Prop := fun q => base ≤ q
def pm_T : List (ClassId × FieldType) := [(cy 0, .int), (cy 1, .byte), (cy 2, .boolean), (cy 3, .object "StandUpBook$Spread"), (cy 4, .object "StandUpBook$Page"), (cy 5, .object "StandUpBook$Piece"), (cy 6, .object "StandUpBook$Vee"), (cy 7, .array .int)]
end REL
section REL2
variable {base b : Nat} {sa : Nat → Nat} {cy : Nat → ClassId} {mem mem' : pm_M}
theorem pm_ad_in {k : Nat} (h1 : 1 ≤ k) (h2 : k < 1000000) : pm_ad base b sa k = base + (k - 1) := by
  unfold pm_ad
  rw [if_neg (by omega), if_pos h2]
theorem pm_v_int (x : Int32) : pm_v base b sa (.int x) = .int x := rfl
theorem pm_v_long (x : Int64) : pm_v base b sa (.long x) = .long x := rfl
theorem pm_v_ref (k : Nat) : pm_v base b sa (.ref k) = .ref (pm_ad base b sa k) := rfl
theorem pm_v_rf (r : Option Nat) : pm_v base b sa (va_rf r) = va_rf (r.map (pm_ad base b sa)) := by cases r <;> rfl
theorem pm_v_cat (v : Value) : (pm_v base b sa v).category = v.category := by cases v <;> rfl
theorem pm_v_sum (st : List Value) : ((st.map (pm_v base b sa)).map fun v => v.category).sum = (st.map fun v => v.category).sum := by
  rw [List.map_map]
  congr 1
  apply List.map_congr_left
  intro v _
  exact pm_v_cat v
theorem pm_ws_get {k : Nat} (h1 : 1 ≤ k) (h2 : k ≤ mem.1.1) : (pm_ws base b sa cy mem)[k - 1]? = some (pm_ad base b sa k, pm_e base b sa cy mem k) := by
  unfold pm_ws
  rw [List.getElem?_map, List.getElem?_range (by omega)]
  simp [Nat.sub_add_cancel h1]
theorem pm_ws_len : (pm_ws base b sa cy mem).length = mem.1.1 := by simp [pm_ws]
theorem pm_ws_at {k : Nat} {q : Nat × va_E} (h : (pm_ws base b sa cy mem)[k]? = some q) : k < mem.1.1 ∧ q = (pm_ad base b sa (k + 1), pm_e base b sa cy mem (k + 1)) := by
  have hl : k < mem.1.1 := by have := (List.getElem?_eq_some_iff.mp h).1; rwa [pm_ws_len] at this
  have h2 := pm_ws_get (base := base) (b := b) (sa := sa) (cy := cy) (mem := mem) (k := k + 1) (by omega) (by omega)
  rw [Nat.add_sub_cancel, h] at h2
  exact ⟨hl, Option.some.inj h2⟩
theorem pm_D_ok (hn : mem.1.1 < 999999) : va_D (pm_A base) (pm_ws base b sa cy mem) := by
  refine ⟨fun i j p q hi hj he => ?_, fun k q hk => ?_⟩
  · obtain ⟨h1, rfl⟩ := pm_ws_at hi
    obtain ⟨h2, rfl⟩ := pm_ws_at hj
    simp only [pm_ad_in (base := base) (b := b) (sa := sa) (show 1 ≤ i + 1 by omega) (by omega), pm_ad_in (base := base) (b := b) (sa := sa) (show 1 ≤ j + 1 by omega) (by omega)] at he
    omega
  · obtain ⟨h1, rfl⟩ := pm_ws_at hk
    show base ≤ pm_ad base b sa (k + 1)
    rw [pm_ad_in (by omega) (by omega)]
    omega
theorem pm_e_congr {k : Nat} (h0 : mem'.1.2.2 k = mem.1.2.2 k) (h1 : mem'.2.1 k = mem.2.1 k) (h2 : mem'.2.2.1 k = mem.2.2.1 k) (h3 : mem'.2.2.2 k = mem.2.2.2 k) : pm_e base b sa cy mem' k = pm_e base b sa cy mem k := by
  unfold pm_e pm_fs pm_fv
  rw [h0, h1, h2, h3]
theorem pm_ws_set {k : Nat} {e' : va_E} (h1 : 1 ≤ k) (h2 : k ≤ mem.1.1) (hn : mem'.1.1 = mem.1.1) (ho : ∀ j, j ≠ k → pm_e base b sa cy mem' j = pm_e base b sa cy mem j) (he : pm_e base b sa cy mem' k = e') :
    (pm_ws base b sa cy mem).set (k - 1) (pm_ad base b sa k, e') = pm_ws base b sa cy mem' := by
  apply List.ext_getElem?
  intro i
  by_cases hi : i < mem.1.1
  · have g1 := pm_ws_get (base := base) (b := b) (sa := sa) (cy := cy) (mem := mem') (k := i + 1) (by omega) (by omega)
    have g0 := pm_ws_get (base := base) (b := b) (sa := sa) (cy := cy) (mem := mem) (k := i + 1) (by omega) (by omega)
    rw [Nat.add_sub_cancel] at g1 g0
    by_cases hk : i = k - 1
    · subst hk
      rw [List.getElem?_set_self (by rw [pm_ws_len]; omega), g1, Nat.sub_add_cancel h1, he]
    · rw [List.getElem?_set_ne (fun h => hk h.symm), g0, g1, ho (i + 1) (by omega)]
  · rw [List.getElem?_eq_none (by rw [List.length_set, pm_ws_len]; omega), List.getElem?_eq_none (by rw [pm_ws_len]; omega)]
theorem pm_u_ne {α : Type} {f : Nat → Nat → α} {k j a : Nat} {v : α} (h : a ≠ k) : pm_u f k j v a = f a := by
  funext i
  unfold pm_u
  rw [if_neg (fun q => h q.1)]
theorem pm_u_self {α : Type} {f : Nat → Nat → α} {k j : Nat} {v : α} : pm_u f k j v k j = v := by simp [pm_u]
theorem pm_u_row {f : Nat → Nat → Int32} {k j : Nat} {v : Int32} : pm_u f k j v k = upd (f k) j v := by
  funext i
  by_cases h : i = j
  · subst h
    rw [pm_u_self, pk_us]
  · rw [pk_un h]
    simp [pm_u, h]
theorem pm_u_oth {α : Type} {f : Nat → Nat → α} {k j i : Nat} {v : α} (h : i ≠ j) : pm_u f k j v k i = f k i := by simp [pm_u, h]
end REL2
