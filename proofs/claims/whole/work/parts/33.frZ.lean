theorem ite_Pc {α : Type} {c : Prop} {h : Decidable c} {f g : α} (P : α → Prop) (h1 : c → P f) (h2 : ¬ c → P g) : P (@ite α c h f g) := by
  cases h with
  | isTrue z => exact h1 z
  | isFalse z => exact h2 z
def PB (c0 c' : Nat → Nat → Int32) : Prop := c' 4 = c0 4 ∧ c' 5 = c0 5 ∧ c' 6 = c0 6 ∧ c' 7 = c0 7 ∧ c' 18 = c0 18 ∧ c' 19 = c0 19 ∧ 0 ≤ (c' 17 (Int32.toNatClampNeg (1 : Int32))).toInt
theorem PB_sA {c0 c' : Nat → Nat → Int32} {f : Nat → Int32} {k : Nat} (h : PB c0 c') (hk : Nat.beq 4 k = false ∧ Nat.beq 5 k = false ∧ Nat.beq 6 k = false ∧ Nat.beq 7 k = false ∧ Nat.beq 18 k = false ∧ Nat.beq 19 k = false ∧ Nat.beq 17 k = false) : PB c0 (sA c' f k) := by
  unfold PB
  rw [sA_ne hk.1, sA_ne hk.2.1, sA_ne hk.2.2.1, sA_ne hk.2.2.2.1, sA_ne hk.2.2.2.2.1, sA_ne hk.2.2.2.2.2.1, sA_ne hk.2.2.2.2.2.2]
  exact h
theorem PB_set1 {c0 c : Nat → Nat → Int32} (h : PB c0 c) (j : Nat → Int32) (q r : Int32) : PB c0 (aZ_set1 j c q r) := by
  unfold aZ_set1
  exact ite_P (PB c0) (PB_sA h ⟨rfl, rfl, rfl, rfl, rfl, rfl, rfl⟩) (PB_sA h ⟨rfl, rfl, rfl, rfl, rfl, rfl, rfl⟩)
theorem PB_reckon1 {c0 c : Nat → Nat → Int32} (h : PB c0 c) (j : Nat → Int32) (q r s t : Int32) : PB c0 (aZ_reckon1 j c q r s t) := by
  unfold aZ_reckon1
  repeat' (first | with_reducible exact PB_set1 h _ _ _ | with_reducible refine ite_P (PB c0) ?_ ?_)
theorem PB_moved1 {c0 c : Nat → Nat → Int32} (h : PB c0 c) (j : Nat → Int32) (q r s t : Int32) : PB c0 (aZ_moved1 j c q r s t) := by
  unfold aZ_moved1
  repeat' (first | with_reducible exact h | with_reducible exact PB_set1 h _ _ _ | with_reducible exact PB_sA h ⟨rfl, rfl, rfl, rfl, rfl, rfl, rfl⟩ | with_reducible refine ite_P (PB c0) ?_ ?_)
theorem PB_serve1 {c0 c : Nat → Nat → Int32} (h : PB c0 c) (j : Nat → Int32) (q : Int32) : PB c0 (aZ_serve1 j c q) := by
  unfold aZ_serve1
  refine ite_P (PB c0) (ite_P (PB c0) (PB_set1 h _ _ _) (PB_set1 h _ _ _)) ?_
  split
  · exact h
  · rename_i h40
    have h9 := PB_sA (f := upd (c 16) (Int32.toNatClampNeg (((40 : Int32) * (1 : Int32)) + (c 17 (Int32.toNatClampNeg (1 : Int32))))) (rZ_get1 j c (10 : Int32))) (k := 16) h ⟨rfl, rfl, rfl, rfl, rfl, rfl, rfl⟩
    refine ⟨(sA_ne rfl).trans h9.1, (sA_ne rfl).trans h9.2.1, (sA_ne rfl).trans h9.2.2.1, (sA_ne rfl).trans h9.2.2.2.1, (sA_ne rfl).trans h9.2.2.2.2.1, (sA_ne rfl).trans h9.2.2.2.2.2.1, ?_⟩
    show 0 ≤ ((c 17 (Int32.toNatClampNeg (1 : Int32))) + 1).toInt
    have h1 := nle h40
    have h2 := h.2.2.2.2.2.2
    rw [show (40 : Int32).toInt = 40 from rfl] at h1
    rw [one_i (by omega)]
    omega
def PT (N : Int32) (c0 c' : Nat → Nat → Int32) : Prop := c' 4 = c0 4 ∧ c' 5 = c0 5 ∧ c' 6 = c0 6 ∧ c' 7 = c0 7 ∧ c' 18 = c0 18 ∧ 0 ≤ (c' 17 (Int32.toNatClampNeg (1 : Int32))).toInt ∧ 0 ≤ (c' 19 (Int32.toNatClampNeg (1 : Int32))).toInt ∧ (c' 19 (Int32.toNatClampNeg (1 : Int32))).toInt ≤ N.toInt
theorem PT_same {N : Int32} {c0 c' : Nat → Nat → Int32} (h : PB c0 c') (h0 : 0 ≤ (c0 19 (Int32.toNatClampNeg (1 : Int32))).toInt) (h1 : (c0 19 (Int32.toNatClampNeg (1 : Int32))).toInt ≤ N.toInt) : PT N c0 c' := ⟨h.1, h.2.1, h.2.2.1, h.2.2.2.1, h.2.2.2.2.1, h.2.2.2.2.2.2, by rw [h.2.2.2.2.2.1]; exact h0, by rw [h.2.2.2.2.2.1]; exact h1⟩
theorem PT_go {N to : Int32} {c0 c' : Nat → Nat → Int32} (h : PB c0 c') (ht : 0 ≤ to.toInt ∧ to.toInt ≤ N.toInt) : PT N c0 (sA c' (upd (c' 19) (Int32.toNatClampNeg (1 : Int32)) to) 19) := ⟨(sA_ne rfl).trans h.1, (sA_ne rfl).trans h.2.1, (sA_ne rfl).trans h.2.2.1, (sA_ne rfl).trans h.2.2.2.1, (sA_ne rfl).trans h.2.2.2.2.1, h.2.2.2.2.2.2, ht.1, ht.2⟩
theorem lineAt_rl : ∀ (f : Nat) (j : Nat → Int32) (c : Nat → Nat → Int32) (t n : Int32), 0 ≤ (j 1).toInt → (rZ_lineAt_l f j c t n).toInt ≤ (j 1).toInt := by
  intro f
  induction f with
  | zero => intro j c t n h; rw [rZ_lineAt_l]; exact h
  | succ f ih =>
    intro j c t n h
    have em : (-1 : Int32).toInt = -1 := rfl
    rw [rZ_lineAt_l]
    split
    · rw [em]; omega
    · rename_i hn
      have := nlt hn
      repeat' split
      all_goals first | exact ih _ _ _ _ h | assumption | (rw [em]; omega)
theorem lineAt_r (j : Nat → Int32) (c : Nat → Nat → Int32) (t : Int32) (h : 0 ≤ (j 1).toInt) : (rZ_lineAt j c t).toInt ≤ (j 1).toInt := by unfold rZ_lineAt; exact lineAt_rl _ _ _ _ _ h
def LT (N k a b c : Int32) : Prop := LOK k a b c ∧ (¬ k < 8 → ¬ (10 : Int32) < k → 0 ≤ c.toInt ∧ c.toInt ≤ N.toInt) ∧ (k = 11 → 0 ≤ b.toInt ∧ b.toInt ≤ N.toInt)
theorem go_next {l N : Int32} (h0 : 0 ≤ l.toInt) (h1 : l.toInt ≤ N.toInt) (hN : N.toInt ≤ 20) (h : ¬ l = N) : 0 ≤ (l + 1).toInt ∧ (l + 1).toInt ≤ N.toInt := by
  have := ne_i h
  rw [one_i (by omega)]
  omega
theorem le0 {x : Int32} (h : (0 : Int32) ≤ x) : 0 ≤ x.toInt := by rw [le_i] at h; exact h
theorem PT_lineDone {j : Nat → Int32} {c : Nat → Nat → Int32} (h17 : 0 ≤ (c 17 (Int32.toNatClampNeg (1 : Int32))).toInt) (h0 : 0 ≤ (c 19 (Int32.toNatClampNeg (1 : Int32))).toInt) (h1 : (c 19 (Int32.toNatClampNeg (1 : Int32))).toInt ≤ (j 1).toInt) (hN0 : 0 ≤ (j 1).toInt) (hN : (j 1).toInt ≤ 20) (hL : ¬ c 19 (Int32.toNatClampNeg (1 : Int32)) = j 1 → LT (j 1) (c 4 (Int32.toNatClampNeg (c 19 (Int32.toNatClampNeg (1 : Int32))))) (c 5 (Int32.toNatClampNeg (c 19 (Int32.toNatClampNeg (1 : Int32))))) (c 6 (Int32.toNatClampNeg (c 19 (Int32.toNatClampNeg (1 : Int32))))) (c 7 (Int32.toNatClampNeg (c 19 (Int32.toNatClampNeg (1 : Int32)))))) : PT (j 1) c (aZ_lineDone j c) := by
  have hB : PB c c := ⟨rfl, rfl, rfl, rfl, rfl, rfl, h17⟩
  unfold aZ_lineDone
  refine ite_Pc (PT (j 1) c) (fun _ => PT_same hB h0 h1) (fun g => ?_)
  have hn := go_next h0 h1 hN g
  obtain ⟨-, hL2, hL3⟩ := hL g
  repeat' (first
    | with_reducible exact PT_same hB h0 h1
    | with_reducible exact PT_same (PB_moved1 hB _ _ _ _ _) h0 h1
    | with_reducible exact PT_same (PB_set1 hB _ _ _) h0 h1
    | with_reducible exact PT_go (PB_moved1 hB _ _ _ _ _) hn
    | with_reducible exact PT_go (PB_reckon1 hB _ _ _ _ _) hn
    | with_reducible exact PT_go (PB_set1 hB _ _ _) hn
    | with_reducible exact PT_go (PB_serve1 (PB_set1 hB _ _ _) _ _) hn
    | with_reducible exact PT_go hB hn
    | with_reducible exact PT_go (PB_set1 hB _ _ _) (hL3 (by assumption))
    | with_reducible exact PT_go hB (hL2 (by assumption) (by assumption))
    | with_reducible exact PT_go (PB_set1 hB _ _ _) ⟨le0 (by assumption), lineAt_r _ _ _ hN0⟩
    | with_reducible refine ite_Pc (PT (j 1) c) (fun _ => ?_) (fun _ => ?_))
theorem PI_serve1 {j0 j : Nat → Int32} (h : PI j0 j) (h5 : (j 5).toInt ≤ 20) (c : Nat → Nat → Int32) (q : Int32) : PI j0 (iZ_serve1 j c q) := by
  unfold iZ_serve1
  refine ite_P (PI j0) ?_ (ite_P (PI j0) h h)
  split
  · exact ⟨h.1, h.2.1, h.2.2.1, h.2.2.2⟩
  · rename_i h6
    have := nle h6
    refine ⟨h.1, h.2.1, h.2.2.1, ?_⟩
    show 0 ≤ (j 6 + 1).toInt
    rw [one_i (by omega)]
    have := h.2.2.2
    omega
theorem PI_lineDone {j0 j : Nat → Int32} (h : PI j0 j) (h5 : (j 5).toInt ≤ 20) (c : Nat → Nat → Int32) : PI j0 (iZ_lineDone j c) := by
  unfold iZ_lineDone
  repeat' (first | with_reducible exact h | with_reducible exact PI_serve1 h h5 _ _ | with_reducible refine ite_P (PI j0) ?_ ?_)
