/-! ===== fields and arrays ===== -/
theorem k_cl_ok : ∀ (c : Nat) (r : vw_C), k_cl[c]? = some r → (∀ w ∈ u_ws r.1 r.2.1 r.2.2, w ∈ pm_tbl) ∧ (∀ k, k < r.2.2 → parseFieldDescriptor (r.2.1 k).2.2.1 = some (k_ty c k)) ∧ (∀ a, a < r.2.2 → ∀ b, b < r.2.2 → a ≠ b → (r.2.1 a).2.1 ≠ (r.2.1 b).2.1) ∧ r.2.2 = k_nf c ∧ (∀ k, (r.2.1 k).2.2.2 = k_fin c k) ∧ r.1 = k_cn c ∧ (∀ k, k < r.2.2 → (r.2.1 k).1 = k_cn c) ∧ c < 13 ∧ Jvm.Cond.instantiable r.1 r.2.2 ∈ pm_tbl := by
  intro c r h
  match c, h with
  | 0, h => cases h; exact ⟨k_in0, k_o0, k_n0, rfl, fun _ => rfl, rfl, by decide, by decide, k_ins0⟩
  | 1, h => cases h; exact ⟨k_in1, k_o1, k_n1, rfl, fun _ => rfl, rfl, by decide, by decide, k_ins1⟩
  | 2, h => cases h; exact ⟨k_in2, k_o2, k_n2, rfl, fun _ => rfl, rfl, by decide, by decide, k_ins2⟩
  | 3, h => cases h; exact ⟨k_in3, k_o3, k_n3, rfl, fun _ => rfl, rfl, by decide, by decide, k_ins3⟩
  | 4, h => cases h; exact ⟨k_in4, k_o4, k_n4, rfl, fun _ => rfl, rfl, by decide, by decide, k_ins4⟩
  | 5, h => cases h; exact ⟨k_in5, k_o5, k_n5, rfl, fun _ => rfl, rfl, by decide, by decide, k_ins5⟩
  | 6, h => cases h; exact ⟨k_in6, k_o6, k_n6, rfl, fun _ => rfl, rfl, by decide, by decide, k_ins6⟩
  | 7, h => cases h; exact ⟨k_in7, k_o7, k_n7, rfl, fun _ => rfl, rfl, by decide, by decide, k_ins7⟩
  | 8, h => cases h; exact ⟨k_in8, k_o8, k_n8, rfl, fun _ => rfl, rfl, by decide, by decide, k_ins8⟩
  | 9, h => cases h; exact ⟨k_in9, k_o9, k_n9, rfl, fun _ => rfl, rfl, by decide, by decide, k_ins9⟩
  | 10, h => cases h; exact ⟨k_in10, k_o10, k_n10, rfl, fun _ => rfl, rfl, by decide, by decide, k_ins10⟩
  | 11, h => cases h; exact ⟨k_in11, k_o11, k_n11, rfl, fun _ => rfl, rfl, by decide, by decide, k_ins11⟩
  | 12, h => cases h; exact ⟨k_in12, k_o12, k_n12, rfl, fun _ => rfl, rfl, by decide, by decide, k_ins12⟩
  | c + 13, h => exact absurd (List.getElem?_eq_some_iff.mp h).1 (by simp [k_cl])
def k_isr (ty : FieldType) : Bool := match ty with
  | .object _ => true
  | .array _ => true
  | _ => false
theorem k_fc2 : ∀ t, t < 13 → ∀ j, j < k_nf t → k_fc t j = 2 → k_isr (k_ty t j) = true := by decide +kernel
section SIM2
variable {l : Launch} {D : va_G} {cy : Nat → ClassId} {base b : Nat} {sa sv : Nat → Nat} {p : Program} {e : Env} {R : Room} {s : State} {m : MethodId} {args : Array Value} {below : List Frame} {meth : Method} {c : Code} {Q : State → Prop} {z0 : Nat}
variable {g : Nat → Prop} {C : Nat → List Value → pm_M → Option Value → pm_M → Prop} {E : Option Value → pm_M → Prop} {q : pm_D} {K : Nat → pm_L → List Value → pm_M → Prop}
variable {pc : Nat} {ls : pm_L} {st : List Value} {mem mem' : pm_M} {H H1 : Heap} {locs locs1 : List Loc} {cells slots : Nat} {Ls : Array Slot}
theorem pm_e_obj {k t : Nat} (h : (mem.1.2.2 k).1 = t) (ht : t < 20) : pm_e base b sa cy mem k = .inr (t, pm_fs base b sa mem k t) := by
  unfold pm_e
  rw [h, if_pos ht]
theorem pm_e_int {k t : Nat} (h : (mem.1.2.2 k).1 = t) (ht : 20 ≤ t) (ht2 : t < 23) : pm_e base b sa cy mem k = .inl (cy (t - 20), (mem.1.2.2 k).2, .inl (mem.2.1 k)) := by
  unfold pm_e
  rw [h, if_neg (by omega), if_pos ht2]
theorem pm_e_ref {k t : Nat} (h : (mem.1.2.2 k).1 = t) (ht : 23 ≤ t) : pm_e base b sa cy mem k = .inl (cy (t - 20), (mem.1.2.2 k).2, .inr (.inr (.inr (.inr fun i => (mem.2.2.2 k i).map (pm_ad base b sa))))) := by
  unfold pm_e
  rw [h, if_neg (by omega), if_neg (by omega)]
theorem pm_fs_get {k t j : Nat} (hj : j < k_nf t) : (pm_fs base b sa mem k t)[j]? = some (pm_v base b sa (pm_fv mem k (k_fc t j) j)) := by
  unfold pm_fs
  rw [List.getElem?_map, List.getElem?_range hj]
  rfl
theorem pm_fs_set {k t j : Nat} {v : Value} (hj : j < k_nf t) (hv : pm_fv mem' k (k_fc t j) j = v) (ho : ∀ i, i ≠ j → pm_fv mem' k (k_fc t i) i = pm_fv mem k (k_fc t i) i) : (pm_fs base b sa mem k t).set j (pm_v base b sa v) = pm_fs base b sa mem' k t := by
  apply List.ext_getElem?
  intro i
  by_cases hi : i < k_nf t
  · by_cases hij : i = j
    · subst hij
      rw [List.getElem?_set_self (by simp [pm_fs, hi]), pm_fs_get hi, hv]
    · rw [List.getElem?_set_ne (fun h => hij h.symm), pm_fs_get hi, pm_fs_get hi, ho i hij]
  · rw [List.getElem?_eq_none (by simp [pm_fs]; omega), List.getElem?_eq_none (by simp [pm_fs]; omega)]
/-- the world behind a change of our own cells -/
theorem pm_GH.put (h : pm_GH D cy base b sa sv s H mem) (hS : va_S (pm_A base) s.heap H locs) (hS1 : va_S (pm_A base) s.heap H1 locs1) (hbs : base ≤ s.heap.size) (hP : va_P D k_cl (pm_ws base b sa cy mem') H1) (hn : mem'.1.1 < 999999) (h0 : mem'.1.2.2 0 = mem.1.2.2 0) (h1 : mem'.2.1 0 = mem.2.1 0) : pm_GH D cy base b sa sv s H1 mem' := by
  obtain ⟨-, -, hX, hV, hb⟩ := h
  have hq : ∀ a : Nat, a < H.size → ¬ pm_A base a → H1[a]? = H[a]? := fun a _ h2 => by
    have h3 : a < s.heap.size := Nat.lt_of_lt_of_le (Nat.not_le.mp h2) hbs
    rw [hS.2.1 a h3 h2, hS1.2.1 a h3 h2]
  refine ⟨hn, hP, ?_, ⟨hV.1.kept hq, hV.2.kept hq⟩, hb⟩
  rw [h0, h1]
  have hbA : ¬ pm_A base b := Nat.not_le.mpr hb
  refine hX.kept ?_
  rw [hS.2.1 b (Nat.lt_of_lt_of_le hb hbs) hbA, hS1.2.1 b (Nat.lt_of_lt_of_le hb hbs) hbA]
theorem sm_getfield {i : Nat} (F : pm_fix q D cy sa p s m args meth c) (hK : pm_KW l D cy base b sa sv p e R s m args below meth c Q z0 q.2.2.2.1 K) (h : pm_ex g C E q K pc ls st mem (.getfield i)) (hR : pm_Rel D cy base b sa sv s z0 q.2.2.2.1 H locs cells slots Ls ls mem) (hdg : decode q.2.2.1 pc = .ok (.getfield i, 3)) : W p l e R s m args below meth c H locs cells slots Q (F0 m pc Ls (st.map (pm_v base b sa))) := by
  obtain ⟨hx, hb, hml, hown, hts, hnm, hk⟩ := F
  obtain ⟨k, r, t, j, rfl, hf, ⟨h1, h2, ht⟩, h⟩ := h
  obtain ⟨C0, T, N, hc, hj, hlk⟩ := k_fd_ok _ hf
  obtain ⟨o1, o2, o3, o4, o5, o6, o7, o8, -⟩ := k_cl_ok _ _ hc
  dsimp only at o8
  have he := pm_ws_get (base := base) (b := b) (sa := sa) (cy := cy) h1 h2
  rw [pm_e_obj ht (by omega)] at he
  refine va_get hx hb hts o1 hown hk.1 hR.1.2.1 _ he hc j hj (hts _ hlk) (fun _ h9 => h9) (pm_fs_get (by rw [← o4]; exact hj)) hdg ?_
  exact hK _ _ _ _ _ _ _ _ _ h hR
theorem pm_put {i k t j : Nat} {v : Value} {r : List Value} (F : pm_fix q D cy sa p s m args meth c) (hK : pm_KW l D cy base b sa sv p e R s m args below meth c Q z0 q.2.2.2.1 K) (hR : pm_Rel D cy base b sa sv s z0 q.2.2.2.1 H locs cells slots Ls ls mem) (hdg : decode q.2.2.1 pc = .ok (.putfield i, 3))
    (hf : (q.2.1, i, t, j) ∈ k_fd) (hi : pm_is mem k t) (hfi : k_fin t j = true → q.1.name = "<init>" ∧ q.2.1 = t) (hn : narrow (k_ty t j) (pm_v base b sa v) = pm_v base b sa v) (hfit : fits (k_ty t j) (pm_v base b sa v) = true) (hw : mem'.1 = mem.1) (h0 : mem'.2.1 0 = mem.2.1 0)
    (ho : ∀ a, a ≠ k → mem'.2.1 a = mem.2.1 a ∧ mem'.2.2.1 a = mem.2.2.1 a ∧ mem'.2.2.2 a = mem.2.2.2 a) (hv : pm_fv mem' k (k_fc t j) j = v) (ho2 : ∀ i, i ≠ j → pm_fv mem' k (k_fc t i) i = pm_fv mem k (k_fc t i) i) (h : K (pc + 3) ls r mem') :
    W p l e R s m args below meth c H locs cells slots Q (F0 m pc Ls (pm_v base b sa v :: .ref (pm_ad base b sa k) :: r.map (pm_v base b sa))) := by
  obtain ⟨hx, hb, hml, hown, hts, hnm, hk⟩ := F
  obtain ⟨h1, h2, ht⟩ := hi
  obtain ⟨C0, T, N, hc, hj, hlk⟩ := k_fd_ok _ hf
  obtain ⟨o1, o2, o3, o4, o5, o6, o7, o8, -⟩ := k_cl_ok _ _ hc
  dsimp only at hj o2 o3 o4 o5 o7 o8
  have hjn : j < k_nf t := by rw [← o4]; exact hj
  have he := pm_ws_get (base := base) (b := b) (sa := sa) (cy := cy) h1 h2
  rw [pm_e_obj ht (by omega)] at he
  have hws : (pm_ws base b sa cy mem).set (k - 1) (pm_ad base b sa k, .inr (t, (pm_fs base b sa mem k t).set j (pm_v base b sa v))) = pm_ws base b sa cy mem' := by
    refine pm_ws_set h1 h2 (by rw [hw]) (fun a ha => pm_e_congr (by rw [hw]) (ho a ha).1 (ho a ha).2.1 (ho a ha).2.2) ?_
    rw [pm_e_obj (mem := mem') (t := t) (by rw [hw]; exact ht) (by omega), pm_fs_set hjn hv ho2]
  have fin : ∀ (H1 : Heap) (locs1 : List Loc), va_P D k_cl ((pm_ws base b sa cy mem).set (k - 1) (pm_ad base b sa k, .inr (t, (pm_fs base b sa mem k t).set j (pm_v base b sa v)))) H1 → va_S (pm_A base) s.heap H1 locs1 → W p l e R s m args below meth c H1 locs1 cells slots Q (F0 m (pc + 3) Ls (r.map (pm_v base b sa))) := by
    intro H1 locs1 hP1 hS1
    rw [hws] at hP1
    refine hK _ _ _ _ _ _ _ _ _ h ⟨hR.1.put hR.2.1 hS1 hR.2.2.1.1 hP1 (by rw [hw]; exact hR.1.1) (by rw [hw]) h0, hS1, ?_, ?_, hR.2.2.2.2⟩
    · rw [hw]; exact hR.2.2.1
    · rw [hw]; exact hR.2.2.2.1
  by_cases hfin : k_fin t j = true
  · obtain ⟨hini, hot⟩ := hfi hfin
    exact va_putF hx hb hts o1 (k_ty t) o2 o3 hown hk.1 hR.1.2.1 (pm_D_ok hR.1.1) hR.2.1 _ he hc j hj (hts _ hlk) (fun _ h9 => h9) ((o5 j).trans hfin) (hnm.trans hini) (by rw [o7 j hj, hot]) (o2 j hj) hn hfit (by simp [pm_fs]; exact hjn) hdg (fun H1 locs1 hP1 _ hS1 => fin H1 locs1 hP1 hS1)
  · exact va_put hx hb hts o1 (k_ty t) o2 o3 hown hk.1 hR.1.2.1 (pm_D_ok hR.1.1) hR.2.1 _ he hc j hj (hts _ hlk) (fun _ h9 => h9) ((o5 j).trans (by simpa using hfin)) (o2 j hj) hn hfit (by simp [pm_fs]; exact hjn) hdg (fun H1 locs1 hP1 _ hS1 => fin H1 locs1 hP1 hS1)
theorem sm_putfield {i : Nat} (F : pm_fix q D cy sa p s m args meth c) (hK : pm_KW l D cy base b sa sv p e R s m args below meth c Q z0 q.2.2.2.1 K) (h : pm_ex g C E q K pc ls st mem (.putfield i)) (hR : pm_Rel D cy base b sa sv s z0 q.2.2.2.1 H locs cells slots Ls ls mem) (hdg : decode q.2.2.1 pc = .ok (.putfield i, 3)) : W p l e R s m args below meth c H locs cells slots Q (F0 m pc Ls (st.map (pm_v base b sa))) := by
  obtain ⟨v, k, r, t, j, rfl, hf, hi, hg, hfi, h⟩ := h
  have hk0 : (0 : Nat) ≠ k := by have := hi.1; omega
  rcases h with ⟨x, rfl, hc, h⟩ | ⟨x, rfl, hc, h⟩ | ⟨a, rfl, hc, h⟩
  · have ht : k_ty t j = .int := by
      unfold k_fc at hc
      split at hc <;> first | assumption | cases hc
    refine pm_put (mem' := (mem.1, pm_u mem.2.1 k j x, mem.2.2)) (v := .int x) F hK hR hdg hf hi hfi (by rw [ht]; rfl) (by rw [ht]; rfl) rfl (pm_u_ne hk0) (fun a ha => ⟨pm_u_ne ha, rfl, rfl⟩) (by rw [hc]; show Value.int (pm_u mem.2.1 k j x k j) = _; rw [pm_u_self]) (fun i hi => ?_) h
    unfold pm_fv
    split
    · show Value.int (pm_u mem.2.1 k j x k i) = _
      rw [pm_u_oth hi]
    · rfl
    · rfl
  · have ht : k_ty t j = .long := by
      unfold k_fc at hc
      split at hc <;> first | assumption | cases hc
    refine pm_put (mem' := (mem.1, mem.2.1, pm_u mem.2.2.1 k j x, mem.2.2.2)) (v := .long x) F hK hR hdg hf hi hfi (by rw [ht]; rfl) (by rw [ht]; rfl) rfl rfl (fun a ha => ⟨rfl, pm_u_ne ha, rfl⟩) (by rw [hc]; show Value.long (pm_u mem.2.2.1 k j x k j) = _; rw [pm_u_self]) (fun i hi => ?_) h
    unfold pm_fv
    split
    · rfl
    · show Value.long (pm_u mem.2.2.1 k j x k i) = _
      rw [pm_u_oth hi]
    · rfl
  · have hty : ∃ ty, k_ty t j = ty ∧ narrow ty (.ref (pm_ad base b sa a)) = .ref (pm_ad base b sa a) ∧ fits ty (.ref (pm_ad base b sa a)) = true := by
      obtain ⟨C0, T, N, hcl, hj, -⟩ := k_fd_ok _ hf
      obtain ⟨o1, o2, o3, o4, o5, o6, o7, o8, -⟩ := k_cl_ok _ _ hcl
      dsimp only at hj o8 o4
      have key := k_fc2 t o8 j (by rw [← o4]; exact hj) hc
      unfold k_isr at key
      split at key
      · rename_i o ho
        exact ⟨_, ho, rfl, rfl⟩
      · rename_i o ho
        exact ⟨_, ho, rfl, rfl⟩
      · cases key
    obtain ⟨ty, ht, hn, hfit⟩ := hty
    refine pm_put (mem' := (mem.1, mem.2.1, mem.2.2.1, pm_u mem.2.2.2 k j (some a))) (v := .ref a) F hK hR hdg hf hi hfi (by rw [ht]; exact hn) (by rw [ht]; exact hfit) rfl rfl (fun a ha => ⟨rfl, rfl, pm_u_ne ha⟩) (by rw [hc]; show va_rf (pm_u mem.2.2.2 k j (some a) k j) = _; rw [pm_u_self]; rfl) (fun i hi => ?_) h
    unfold pm_fv
    split
    · rfl
    · rfl
    · show va_rf (pm_u mem.2.2.2 k j (some a) k i) = _
      rw [pm_u_oth hi]
theorem sm_iaload (F : pm_fix q D cy sa p s m args meth c) (hK : pm_KW l D cy base b sa sv p e R s m args below meth c Q z0 q.2.2.2.1 K) (h : pm_ex g C E q K pc ls st mem .iaload) (hR : pm_Rel D cy base b sa sv s z0 q.2.2.2.1 H locs cells slots Ls ls mem) (hdg : decode q.2.2.1 pc = .ok (.iaload, 1)) : W p l e R s m args below meth c H locs cells slots Q (F0 m pc Ls (st.map (pm_v base b sa))) := by
  obtain ⟨hx, hb, hml, hown, hts, hnm, hk⟩ := F
  obtain ⟨i, k, r, rfl, hin, hkk, h⟩ := h
  rcases hkk with rfl | ⟨h1, h2, ht⟩
  · have hX : va_X b (mem.1.2.2 0).2 (mem.2.1 0) s s.heap := hR.1.2.2.1.kept (hR.2.1.2.1 b (Nat.lt_of_lt_of_le hR.1.2.2.2.2 hR.2.2.1.1) (Nat.not_le.mpr hR.1.2.2.2.2)).symm
    exact va_sld hx hb hX (Nat.lt_of_lt_of_le hR.1.2.2.2.2 hR.2.2.1.1) (Nat.not_le.mpr hR.1.2.2.2.2) hR.2.1 hin hdg (hK _ _ _ _ _ _ _ _ _ h hR)
  · have he := pm_ws_get (base := base) (b := b) (sa := sa) (cy := cy) h1 h2
    rw [pm_e_int ht (by omega) (by omega)] at he
    exact va_iald hx hb hk.1 hR.1.2.1 _ 0 he rfl hin hdg (hK _ _ _ _ _ _ _ _ _ h hR)
theorem sm_baload (F : pm_fix q D cy sa p s m args meth c) (hK : pm_KW l D cy base b sa sv p e R s m args below meth c Q z0 q.2.2.2.1 K) (h : pm_ex g C E q K pc ls st mem .baload) (hR : pm_Rel D cy base b sa sv s z0 q.2.2.2.1 H locs cells slots Ls ls mem) (hdg : decode q.2.2.1 pc = .ok (.baload, 1)) : W p l e R s m args below meth c H locs cells slots Q (F0 m pc Ls (st.map (pm_v base b sa))) := by
  obtain ⟨hx, hb, hml, hown, hts, hnm, hk⟩ := F
  obtain ⟨i, k, r, rfl, hin, hkk, h⟩ := h
  rcases hkk with ⟨h1, h2, ht⟩ | ⟨h1, h2, ht⟩
  · have he := pm_ws_get (base := base) (b := b) (sa := sa) (cy := cy) h1 h2
    rw [pm_e_int ht (by omega) (by omega)] at he
    exact va_bald hx hb hk.1 hR.1.2.1 _ 1 he rfl hin hdg (hK _ _ _ _ _ _ _ _ _ h hR)
  · have he := pm_ws_get (base := base) (b := b) (sa := sa) (cy := cy) h1 h2
    rw [pm_e_int ht (by omega) (by omega)] at he
    exact va_zald hx hb hk.1 hR.1.2.1 _ 2 he rfl hin hdg (hK _ _ _ _ _ _ _ _ _ h hR)
theorem pm_T_ref {t : Nat} (h1 : 23 ≤ t) (h2 : t ≤ 27) : ∃ ty, (pm_T cy)[t - 20]? = some (cy (t - 20), ty) ∧ k_isr ty = true ∧ (t ≤ 26 → ty = .object (k_an t)) := by
  match t, h1, h2 with
  | 23, _, _ => exact ⟨_, rfl, rfl, fun _ => rfl⟩
  | 24, _, _ => exact ⟨_, rfl, rfl, fun _ => rfl⟩
  | 25, _, _ => exact ⟨_, rfl, rfl, fun _ => rfl⟩
  | 26, _, _ => exact ⟨_, rfl, rfl, fun _ => rfl⟩
  | 27, _, _ => exact ⟨_, rfl, rfl, fun h => absurd h (by decide)⟩
  | t + 28, _, h2 => omega
theorem pm_aldr {cc : ByteArray} {cl : List vw_C} {tys : List (ClassId × FieldType)} {ws : va_W} {a : Nat} {rest : List Value} {ls : Array Slot} (hexec : p.tables.exec = Jvm.exec) (hb : c.code = cc) (hK : va_K D cl tys s) (hP : va_P D cl ws H) (q0 t0 : Nat) {cA : ClassId} {ty : FieldType} (hty : k_isr ty = true) {n : Nat} {f : Nat → Option Nat} (ha : ws[q0]? = some (a, .inl (cA, n, .inr (.inr (.inr (.inr f)))))) (ht : tys[t0]? = some (cA, ty)) {i : Int32} (hin : vp_in i n) (hdg : decode cc pc = .ok (.aaload, 1))
    (kk : W p l e R s m args below meth c H locs cells slots Q (F0 m (pc + 1) ls (va_rf (f i.toNatClampNeg) :: rest))) : W p l e R s m args below meth c H locs cells slots Q (F0 m pc ls (.int i :: .ref a :: rest)) := by
  have hlt : i.toNatClampNeg < n := Nat.not_le.mp fun q => hin (Or.inr q)
  unfold k_isr at hty
  split at hty
  · exact W.aald (v := va_rf (f i.toNatClampNeg)) hexec hb (hP q0 _ ha) ((hK.2 t0 _ ht).1 n (fun j => va_rf (f j))) rfl (fun q => by cases q) (by show ¬ (i < 0 ∨ (arrV _ _ _).slots.size ≤ _); rw [arrV_size]; exact hin) (by show (arrV _ _ _).slots[_]? = _; rw [arrV_read _ _ hlt]) rfl rfl hdg kk
  · exact W.aald (v := va_rf (f i.toNatClampNeg)) hexec hb (hP q0 _ ha) ((hK.2 t0 _ ht).1 n (fun j => va_rf (f j))) rfl (fun q => by cases q) (by show ¬ (i < 0 ∨ (arrV _ _ _).slots.size ≤ _); rw [arrV_size]; exact hin) (by show (arrV _ _ _).slots[_]? = _; rw [arrV_read _ _ hlt]) rfl rfl hdg kk
  · cases hty
theorem sm_aaload (F : pm_fix q D cy sa p s m args meth c) (hK : pm_KW l D cy base b sa sv p e R s m args below meth c Q z0 q.2.2.2.1 K) (h : pm_ex g C E q K pc ls st mem .aaload) (hR : pm_Rel D cy base b sa sv s z0 q.2.2.2.1 H locs cells slots Ls ls mem) (hdg : decode q.2.2.1 pc = .ok (.aaload, 1)) : W p l e R s m args below meth c H locs cells slots Q (F0 m pc Ls (st.map (pm_v base b sa))) := by
  obtain ⟨hx, hb, hml, hown, hts, hnm, hk⟩ := F
  obtain ⟨i, k, r, t, rfl, hin, t1, t2, ⟨h1, h2, ht⟩, h⟩ := h
  have he := pm_ws_get (base := base) (b := b) (sa := sa) (cy := cy) h1 h2
  rw [pm_e_ref ht t1] at he
  obtain ⟨ty, y1, y2, -⟩ := pm_T_ref (cy := cy) t1 t2
  refine pm_aldr hx hb hk.1 hR.1.2.1 _ (t - 20) y2 he y1 hin hdg ?_
  have h3 := hK _ _ _ _ _ _ _ _ _ h hR
  simp only [List.map_cons, pm_v_rf] at h3
  exact h3
/-- behind a store into a row of ours -/
theorem pm_row_put {k : Nat} {e' : va_E} {r : List Value} {pc' : Nat} (hK : pm_KW l D cy base b sa sv p e R s m args below meth c Q z0 q.2.2.2.1 K) (hR : pm_Rel D cy base b sa sv s z0 q.2.2.2.1 H locs cells slots Ls ls mem) (h1 : 1 ≤ k) (h2 : k ≤ mem.1.1) (hw : mem'.1 = mem.1) (h0 : mem'.2.1 0 = mem.2.1 0)
    (ho : ∀ a, a ≠ k → mem'.2.1 a = mem.2.1 a ∧ mem'.2.2.1 a = mem.2.2.1 a ∧ mem'.2.2.2 a = mem.2.2.2 a) (he : pm_e base b sa cy mem' k = e') (h : K pc' ls r mem') (H1 : Heap) (locs1 : List Loc) (hP1 : va_P D k_cl ((pm_ws base b sa cy mem).set (k - 1) (pm_ad base b sa k, e')) H1) (hS1 : va_S (pm_A base) s.heap H1 locs1) :
    W p l e R s m args below meth c H1 locs1 cells slots Q (F0 m pc' Ls (r.map (pm_v base b sa))) := by
  rw [pm_ws_set (mem' := mem') h1 h2 (by rw [hw]) (fun a ha => pm_e_congr (by rw [hw]) (ho a ha).1 (ho a ha).2.1 (ho a ha).2.2) he] at hP1
  refine hK _ _ _ _ _ _ _ _ _ h ⟨hR.1.put hR.2.1 hS1 hR.2.2.1.1 hP1 (by rw [hw]; exact hR.1.1) (by rw [hw]) h0, hS1, ?_, ?_, hR.2.2.2.2⟩
  · rw [hw]; exact hR.2.2.1
  · rw [hw]; exact hR.2.2.2.1
theorem sm_iastore (F : pm_fix q D cy sa p s m args meth c) (hK : pm_KW l D cy base b sa sv p e R s m args below meth c Q z0 q.2.2.2.1 K) (h : pm_ex g C E q K pc ls st mem .iastore) (hR : pm_Rel D cy base b sa sv s z0 q.2.2.2.1 H locs cells slots Ls ls mem) (hdg : decode q.2.2.1 pc = .ok (.iastore, 1)) : W p l e R s m args below meth c H locs cells slots Q (F0 m pc Ls (st.map (pm_v base b sa))) := by
  obtain ⟨hx, hb, hml, hown, hts, hnm, hk⟩ := F
  obtain ⟨x, i, k, r, rfl, hin, ⟨h1, h2, ht⟩, hg, h⟩ := h
  have he := pm_ws_get (base := base) (b := b) (sa := sa) (cy := cy) h1 h2
  rw [pm_e_int ht (by omega) (by omega)] at he
  refine va_iast hx hb hk.1 hR.1.2.1 (pm_D_ok hR.1.1) hR.2.1 _ 0 he rfl hin hdg (fun H1 locs1 hP1 _ hS1 => ?_)
  refine pm_row_put (mem' := (mem.1, pm_u mem.2.1 k i.toNatClampNeg x, mem.2.2)) hK hR h1 h2 rfl (pm_u_ne (by omega)) (fun a ha => ⟨pm_u_ne ha, rfl, rfl⟩) ?_ h H1 locs1 hP1 hS1
  exact (pm_e_int (mem := (mem.1, pm_u mem.2.1 k i.toNatClampNeg x, mem.2.2)) (t := 20) ht (by omega) (by omega)).trans (by show Sum.inl (_, _, Sum.inl (pm_u mem.2.1 k i.toNatClampNeg x k)) = _; rw [pm_u_row])
theorem sm_bastore (F : pm_fix q D cy sa p s m args meth c) (hK : pm_KW l D cy base b sa sv p e R s m args below meth c Q z0 q.2.2.2.1 K) (h : pm_ex g C E q K pc ls st mem .bastore) (hR : pm_Rel D cy base b sa sv s z0 q.2.2.2.1 H locs cells slots Ls ls mem) (hdg : decode q.2.2.1 pc = .ok (.bastore, 1)) : W p l e R s m args below meth c H locs cells slots Q (F0 m pc Ls (st.map (pm_v base b sa))) := by
  obtain ⟨hx, hb, hml, hown, hts, hnm, hk⟩ := F
  obtain ⟨x, i, k, r, rfl, hin, hg, ⟨⟨h1, h2, ht⟩, h⟩ | ⟨⟨h1, h2, ht⟩, h⟩⟩ := h
  · have he := pm_ws_get (base := base) (b := b) (sa := sa) (cy := cy) h1 h2
    rw [pm_e_int ht (by omega) (by omega)] at he
    refine va_bast hx hb hk.1 hR.1.2.1 (pm_D_ok hR.1.1) hR.2.1 _ 1 he rfl hin hdg (fun H1 locs1 hP1 _ hS1 => ?_)
    refine pm_row_put (mem' := (mem.1, pm_u mem.2.1 k i.toNatClampNeg (vp_nar .byte x), mem.2.2)) hK hR h1 h2 rfl (pm_u_ne (by omega)) (fun a ha => ⟨pm_u_ne ha, rfl, rfl⟩) ?_ h H1 locs1 hP1 hS1
    exact (pm_e_int (mem := (mem.1, pm_u mem.2.1 k i.toNatClampNeg (vp_nar .byte x), mem.2.2)) (t := 21) ht (by omega) (by omega)).trans (by show Sum.inl (_, _, Sum.inl (pm_u mem.2.1 k i.toNatClampNeg (vp_nar .byte x) k)) = _; rw [pm_u_row])
  · have he := pm_ws_get (base := base) (b := b) (sa := sa) (cy := cy) h1 h2
    rw [pm_e_int ht (by omega) (by omega)] at he
    refine va_zast hx hb hk.1 hR.1.2.1 (pm_D_ok hR.1.1) hR.2.1 _ 2 he rfl hin hdg (fun H1 locs1 hP1 _ hS1 => ?_)
    refine pm_row_put (mem' := (mem.1, pm_u mem.2.1 k i.toNatClampNeg (vp_nar .boolean x), mem.2.2)) hK hR h1 h2 rfl (pm_u_ne (by omega)) (fun a ha => ⟨pm_u_ne ha, rfl, rfl⟩) ?_ h H1 locs1 hP1 hS1
    exact (pm_e_int (mem := (mem.1, pm_u mem.2.1 k i.toNatClampNeg (vp_nar .boolean x), mem.2.2)) (t := 22) ht (by omega) (by omega)).trans (by show Sum.inl (_, _, Sum.inl (pm_u mem.2.1 k i.toNatClampNeg (vp_nar .boolean x) k)) = _; rw [pm_u_row])
theorem sm_arraylength (F : pm_fix q D cy sa p s m args meth c) (hK : pm_KW l D cy base b sa sv p e R s m args below meth c Q z0 q.2.2.2.1 K) (h : pm_ex g C E q K pc ls st mem .arraylength) (hR : pm_Rel D cy base b sa sv s z0 q.2.2.2.1 H locs cells slots Ls ls mem) (hdg : decode q.2.2.1 pc = .ok (.arraylength, 1)) : W p l e R s m args below meth c H locs cells slots Q (F0 m pc Ls (st.map (pm_v base b sa))) := by
  obtain ⟨hx, hb, hml, hown, hts, hnm, hk⟩ := F
  obtain ⟨k, r, rfl, hkk, h⟩ := h
  rcases hkk with rfl | ⟨t, t1, t2, h1, h2, ht⟩
  · have hX : va_X b (mem.1.2.2 0).2 (mem.2.1 0) s s.heap := hR.1.2.2.1.kept (hR.2.1.2.1 b (Nat.lt_of_lt_of_le hR.1.2.2.2.2 hR.2.2.1.1) (Nat.not_le.mpr hR.1.2.2.2.2)).symm
    exact va_slen hx hb hX (Nat.lt_of_lt_of_le hR.1.2.2.2.2 hR.2.2.1.1) (Nat.not_le.mpr hR.1.2.2.2.2) hR.2.1 hdg (hK _ _ _ _ _ _ _ _ _ h hR)
  · have he := pm_ws_get (base := base) (b := b) (sa := sa) (cy := cy) h1 h2
    have htt : ∃ ty, (pm_T cy)[t - 20]? = some (cy (t - 20), ty) := by
      match t, t1, t2 with
      | 20, _, _ => exact ⟨_, rfl⟩
      | 21, _, _ => exact ⟨_, rfl⟩
      | 22, _, _ => exact ⟨_, rfl⟩
      | 23, _, _ => exact ⟨_, rfl⟩
      | 24, _, _ => exact ⟨_, rfl⟩
      | 25, _, _ => exact ⟨_, rfl⟩
      | 26, _, _ => exact ⟨_, rfl⟩
      | 27, _, _ => exact ⟨_, rfl⟩
      | t + 28, _, h2 => omega
    obtain ⟨ty, y1⟩ := htt
    by_cases hlt : t < 23
    · rw [pm_e_int ht t1 hlt] at he
      exact va_alen hx hb hk.1 hR.1.2.1 _ _ he y1 rfl hdg (hK _ _ _ _ _ _ _ _ _ h hR)
    · rw [pm_e_ref ht (by omega)] at he
      exact va_alen hx hb hk.1 hR.1.2.1 _ _ he y1 rfl hdg (hK _ _ _ _ _ _ _ _ _ h hR)
end SIM2
