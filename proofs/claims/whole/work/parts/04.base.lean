/-! soundness of the small machine: lists, locals, worlds -/
theorem am_vs_eq : ∀ (L : List Value) (i : Nat), am_vs L i = L[i]?
  | [], i => by simp [am_vs]
  | c :: l, 0 => by simp [am_vs]
  | c :: l, i + 1 => by rw [am_vs, am_vs_eq l i]; simp
theorem am_vu_eq : ∀ (L : List Value) (i : Nat) (v : Value), am_vu L i v = L.set i v
  | [], i, v => by simp [am_vu]
  | c :: l, 0, v => by simp [am_vu]
  | c :: l, i + 1, v => by rw [am_vu, am_vu_eq l i v]; simp
theorem am_ls_eq : ∀ (L : List am_Cl) (i : Nat), am_ls L i = L[i]?
  | [], i => by simp [am_ls]
  | c :: l, 0 => by simp [am_ls]
  | c :: l, i + 1 => by rw [am_ls, am_ls_eq l i]; simp
theorem am_up_eq : ∀ (L : List am_Cl) (i : Nat) (v : am_Cl), am_up L i v = L.set i v
  | [], i, v => by simp [am_up]
  | c :: l, 0, v => by simp [am_up]
  | c :: l, i + 1, v => by rw [am_up, am_up_eq l i v]; simp
theorem am_cl_mem : ∀ {l : List (Nat × am_Sg)} {c : Nat} {q : am_Sg}, am_cl l c = some q → (c, q) ∈ l
  | [], c, q, h => by simp [am_cl] at h
  | a :: l, c, q, h => by
    rw [am_cl] at h
    cases hb : Nat.beq a.1 c with
    | true =>
      rw [hb] at h
      have e : a.1 = c := Nat.eq_of_beq_eq_true hb
      have e2 : a.2 = q := by simpa using h
      rw [← e, ← e2]
      exact List.mem_cons_self
    | false =>
      rw [hb] at h
      exact List.mem_cons_of_mem _ (am_cl_mem (by simpa using h))
theorem am_in_mem : ∀ {l : List Nat} {c : Nat}, am_in l c = true → c ∈ l
  | [], c, h => by simp [am_in] at h
  | a :: l, c, h => by
    rw [am_in] at h
    cases hb : Nat.beq a c with
    | true => rw [Nat.eq_of_beq_eq_true hb]; exact List.mem_cons_self
    | false => rw [hb] at h; exact List.mem_cons_of_mem _ (am_in_mem (by simpa using h))
theorem am_tk_eq : ∀ {n : Nat} {acc st as rest : List Value}, am_tk n acc st = some (as, rest) → ∃ us, us.length = n ∧ st = us ++ rest ∧ as = us.reverse ++ acc
  | 0, acc, st, as, rest, h => by
    simp [am_tk] at h
    exact ⟨[], rfl, by simp [h.2], by simp [h.1]⟩
  | n + 1, acc, [], as, rest, h => by simp [am_tk] at h
  | n + 1, acc, v :: st, as, rest, h => by
    rw [am_tk] at h
    obtain ⟨us, h1, h2, h3⟩ := am_tk_eq h
    exact ⟨v :: us, by simp [h1], by simp [h2], by simp [h3]⟩
theorem am_tk_len {n : Nat} {st as rest : List Value} (h : am_tk n [] st = some (as, rest)) : as.length = n ∧ st = as.reverse ++ rest := by
  obtain ⟨us, h1, h2, h3⟩ := am_tk_eq h
  simp at h3
  subst h3
  simp [h1, h2]
theorem am_v_cat (b : Nat) (v : Value) : (am_v b v).category = v.category := by cases v <;> rfl
theorem am_ct_eq (b : Nat) : ∀ st : List Value, ((st.map (am_v b)).map fun v => v.category).sum = am_ct st
  | [] => rfl
  | v :: l => by
    have := am_ct_eq b l
    simp only [List.map_cons, List.sum_cons, am_ct, am_v_cat] at this ⊢
    omega
theorem am_ok_cat {v : Value} (h : am_ok v = true) : v.category = 1 := by cases v <;> simp_all [am_ok, Value.category]
theorem am_lv_mem {b : Nat} {L : List Value} {i : Nat} {v : Value} (h : L[i]? = some v) (ho : am_ok v = true) : (i, am_v b v) ∈ am_lv b L := by
  refine List.mem_map.mpr ⟨(v, i), List.mem_filter.mpr ⟨?_, ho⟩, rfl⟩
  exact List.mk_mem_zipIdx_iff_getElem?.mpr h
theorem am_lv_inv {b : Nat} {L : List Value} {q : Nat × Value} (h : q ∈ am_lv b L) : ∃ v, L[q.1]? = some v ∧ am_ok v = true ∧ q.2 = am_v b v := by
  obtain ⟨⟨v, i⟩, h1, rfl⟩ := List.mem_map.mp h
  obtain ⟨h2, h3⟩ := List.mem_filter.mp h1
  exact ⟨v, List.mk_mem_zipIdx_iff_getElem?.mp h2, h3, rfl⟩
theorem am_lget {b nL : Nat} {ls : Array Slot} {L : List Value} (h : lv_has ls nL (am_lv b L)) {i : Nat} {v : Value} (hv : am_vs L i = some v) (ho : am_ok v = true) : ls[i]? = some (.val (am_v b v)) := by
  rw [am_vs_eq] at hv
  exact h.2.2 (i, am_v b v) (am_lv_mem hv ho)
theorem am_lput {b nL : Nat} {ls : Array Slot} {L : List Value} {i : Nat} {v u : Value} (hu : am_vs L i = some u) (ho : am_ok v = true)
    (h : lv_has ls nL ((i, am_v b v) :: (am_lv b L).filter (fun q => !(q.1 == i) && !(q.1 + 1 == i && q.2.category == 2)))) : lv_has ls nL (am_lv b (am_vu L i v)) := by
  refine ⟨h.1, h.2.1, fun q hq => h.2.2 q ?_⟩
  rw [am_vu_eq] at hq
  rw [am_vs_eq] at hu
  have hi : i < L.length := (List.getElem?_eq_some_iff.mp hu).1
  obtain ⟨w, h1, h2, h3⟩ := am_lv_inv hq
  by_cases hj : q.1 = i
  · rw [hj, List.getElem?_set_self hi] at h1
    cases h1
    have : q = (i, am_v b v) := by rw [← hj, ← h3]
    rw [this]
    exact List.mem_cons_self
  · rw [List.getElem?_set_ne (Ne.symm hj)] at h1
    refine List.mem_cons_of_mem _ (List.mem_filter.mpr ⟨?_, ?_⟩)
    · have : q = (q.1, am_v b w) := by rw [← h3]
      rw [this]
      exact am_lv_mem h1 h2
    · have h4 : q.2.category = 1 := by rw [h3, am_v_cat, am_ok_cat h2]
      simp [hj, h4]
theorem am_vu_len {L : List Value} {i : Nat} {v : Value} {n : Nat} (h : L.length = n) : (am_vu L i v).length = n := by rw [am_vu_eq]; simp [h]
/-- words -/
theorem am_mem {i : Nat} {w : Cond} (h : am_tbl[i]? = some w) (hg : goodWord w = true) : w ∈ am_gw := List.mem_filter.mpr ⟨List.mem_of_getElem? h, hg⟩
theorem am_memb {i : Nat} {w : Cond} (h : am_tbl[i]? = some w) (hg : am_isb w = true) : w ∈ am_bw := List.mem_filter.mpr ⟨List.mem_of_getElem? h, hg⟩
theorem am_good {c : Cond} (hc : c ∈ am_gw) : GoodIn am_gw (c :: am_gw) := by
  intro w hw
  have h : w ∈ am_gw := by
    rcases List.mem_cons.mp hw with h | h
    · rw [h]; exact hc
    · exact h
  exact ⟨h, good_of_word (List.mem_filter.mp h).2⟩
theorem am_K_warm {D : va_G} {cI cZ : ClassId} {s U : State} (hW : s.WarmedH U.vm) (h : am_K D cI cZ s) : am_K D cI cZ U := by
  refine ⟨va_K.moved hW.alike h.1, fun w hw => ?_⟩
  have h1 := h.2 w hw
  have h4 := (List.mem_filter.mp hw).2
  cases w <;> first | exact va_Nw.warmM hW h1 | exact va_Nw.warmD hW h1 | (simp [am_isb] at h4; done)
theorem am_bw_tab {w : Cond} (hw : w ∈ am_bw) : w.onTables = true := by
  have h4 := (List.mem_filter.mp hw).2
  cases w <;> first | rfl | (simp [am_isb] at h4; done)
theorem am_K_call {D : va_G} {cI cZ : ClassId} {U V : State} (hv : U.vm = V.vm) (h : am_K D cI cZ U) : am_K D cI cZ V := by
  refine ⟨va_K.moved (by rw [← hv]; exact Vm.Alike.refl U.vm) h.1, fun w hw => ?_⟩
  exact va_Nw.same (am_bw_tab hw) hv (h.2 w hw)
/-- the world as the kit has it -/
def am_ws (cI cZ : ClassId) (b : Nat) (ab : List am_Cl) : va_W := ab.mapIdx (fun i c => (b + i, am_e cI cZ b c))
theorem am_ws_at {cI cZ : ClassId} {b : Nat} {ab : List am_Cl} {i : Nat} {c : am_Cl} (h : ab[i]? = some c) : (am_ws cI cZ b ab)[i]? = some (b + i, am_e cI cZ b c) := by
  unfold am_ws
  rw [List.getElem?_mapIdx, h]
  rfl
theorem am_P {D : va_G} {cI cZ : ClassId} {b : Nat} {ab : List am_Cl} {H : Heap} (h : am_H D cI cZ b ab H) : va_P D vwCl (am_ws cI cZ b ab) H := by
  intro k q hk
  unfold am_ws at hk
  rw [List.getElem?_mapIdx] at hk
  cases hc : ab[k]? with
  | none => rw [hc] at hk; cases hk
  | some c =>
    rw [hc] at hk
    cases hk
    exact h.2 k c hc
/-- a cell is written -/
theorem am_H_set {D : va_G} {cI cZ : ClassId} {b : Nat} {ab : List am_Cl} {H H1 : Heap} {i : Nat} {c0 c : am_Cl} (h : am_H D cI cZ b ab H) (hi : am_ls ab i = some c0) (hz : H1.size = H.size) (hc : va_at D vwCl (b + i, am_e cI cZ b c) H1) (oq : ∀ q, q ≠ b + i → H1[q]? = H[q]?) : am_H D cI cZ b (am_up ab i c) H1 := by
  rw [am_ls_eq] at hi
  have hl := (List.getElem?_eq_some_iff.mp hi).1
  rw [am_up_eq]
  refine ⟨by rw [hz, h.1]; simp, fun j d hj => ?_⟩
  by_cases hij : j = i
  · subst hij
    rw [List.getElem?_set_self hl] at hj
    cases hj
    exact hc
  · rw [List.getElem?_set_ne (Ne.symm hij)] at hj
    exact (h.2 j d hj).kept (oq _ (by show b + j ≠ b + i; omega))
/-- a cell is made -/
theorem am_H_new {D : va_G} {cI cZ : ClassId} {b : Nat} {ab : List am_Cl} {H H1 : Heap} {c : am_Cl} (h : am_H D cI cZ b ab H) (hz : H1.size = H.size + 1) (hc : va_at D vwCl (b + ab.length, am_e cI cZ b c) H1) (oq : ∀ q, q < H.size → H1[q]? = H[q]?) : am_H D cI cZ b (ab ++ [c]) H1 := by
  refine ⟨by rw [hz, h.1]; simp; omega, fun j d hj => ?_⟩
  by_cases hl : j < ab.length
  · rw [List.getElem?_append_left hl] at hj
    exact (h.2 j d hj).kept (oq _ (by rw [h.1]; show b + j < _; omega))
  · rw [List.getElem?_append_right (by omega)] at hj
    have hz2 : j - ab.length < 1 := (List.getElem?_eq_some_iff.mp hj).1
    have e : j = ab.length := by omega
    subst e
    simp at hj
    subst hj
    exact hc
theorem am_S_put {b : Nat} {H0 H H1 : Heap} {locs : List Loc} {i k : Nat} (h : va_S (fun q => b ≤ q) H0 H locs) (z : H1.size = H.size) (oq : ∀ q : Nat, q ≠ b + i → H1[q]? = H[q]?) : va_S (fun q => b ≤ q) H0 H1 (locs ++ [⟨b + i, k⟩]) := h.put z oq (Nat.le_add_right b i)
theorem am_S_new {b : Nat} {H0 H H1 : Heap} {locs : List Loc} (h : va_S (fun q => b ≤ q) H0 H locs) (z : H1.size = H.size + 1) (oq : ∀ q : Nat, q < H.size → H1[q]? = H[q]?) : va_S (fun q => b ≤ q) H0 H1 locs := ⟨by have := h.1; omega, fun q h1 h2 => by rw [oq q (Nat.lt_of_lt_of_le h1 h.1)]; exact h.2.1 q h1 h2, h.2.2⟩
