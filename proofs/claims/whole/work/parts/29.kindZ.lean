/-! walks by program: the reference's step and run -/
theorem kind_rl : ∀ (f : Nat) (j : Nat → Int32) (c : Nat → Nat → Int32) (x w n : Int32), 0 ≤ n.toInt → rZ_kind_l f j c x w n = -1 ∨ (0 ≤ (rZ_kind_l f j c x w n).toInt ∧ (rZ_kind_l f j c x w n).toInt ≤ 14) := by
  intro f
  induction f with
  | zero => intro j c x w n h0; rw [rZ_kind_l]; exact Or.inr ⟨by decide, by decide⟩
  | succ f ih =>
    intro j c x w n h0
    rw [rZ_kind_l]
    have e13 : (13 : Int32).toInt = 13 := rfl
    have e15 : (15 : Int32).toInt = 15 := rfl
    split
    · split
      · exact Or.inl rfl
      · rename_i h1
        have h2 := nle h1
        split
        · exact ih _ _ _ _ _ (nn_up h0 h1)
        · split
          · exact Or.inr ⟨h0, by omega⟩
          · exact ih _ _ _ _ _ (nn_up h0 h1)
    · split
      · exact Or.inl rfl
      · rename_i h1
        have h2 := nle h1
        split
        · exact ih _ _ _ _ _ (nn_up h0 h1)
        · split
          · exact Or.inr ⟨h0, by omega⟩
          · exact ih _ _ _ _ _ (nn_up h0 h1)
theorem kind_r (j : Nat → Int32) (c : Nat → Nat → Int32) (x : Int32) : rZ_kind j c x = -1 ∨ (0 ≤ (rZ_kind j c x).toInt ∧ (rZ_kind j c x).toInt ≤ 14) := by
  unfold rZ_kind
  repeat' split
  all_goals exact kind_rl _ _ _ _ _ _ (by decide)
theorem ne_i {x y : Int32} (h : ¬ x = y) : ¬ x.toInt = y.toInt := fun e => h (Int32.toInt_inj.mp e)
theorem eq_i {x y : Int32} (h : x = y) : x.toInt = y.toInt := by rw [h]
theorem inRl1 : inR 1 := ⟨by decide, by decide⟩
theorem p48 {p : Int32} (h : ¬ p < 48) : 0 ≤ p.toInt := by
  have := nlt h
  rw [show (48 : Int32).toInt = 48 from rfl] at this
  omega
theorem p1000 {s p : Int32} (hs : s.toInt ≤ 256) (h : ¬ s ≤ p) : p.toInt ≤ 1000 := by
  have := nle h
  omega
theorem rB6 {k w : Int32} (h : k = 6) : inR (rZ_fieldB k w) := by rw [h]; exact rB (by decide) (by decide) (by decide)
theorem rB7 {k w : Int32} (h : k = 7) : inR (rZ_fieldB k w) := by rw [h]; exact rB (by decide) (by decide) (by decide)
theorem rB12 {k w : Int32} (h : k = 12) : inR (rZ_fieldB k w) := by rw [h]; exact rB (by decide) (by decide) (by decide)
theorem rBbr {k w : Int32} (h1 : ¬ k < 8) (h2 : ¬ (10 : Int32) < k) : inR (rZ_fieldB k w) := by
  have g1 := nlt h1
  have g2 := nlt h2
  rw [show (8 : Int32).toInt = 8 from rfl] at g1
  rw [show (10 : Int32).toInt = 10 from rfl] at g2
  refine rB ?_ ?_ ?_ <;> (intro h; have := eq_i h; simp at this; omega)
theorem k4 {k : Int32} (hr : k = -1 ∨ (0 ≤ k.toInt ∧ k.toInt ≤ 14)) (h6 : ¬ k = 6) (h7 : ¬ k = 7) (h11 : ¬ k = 11) (h12 : ¬ k = 12) (a : ¬ k = 5) (b : ¬ k = 13) (c : ¬ k = 14) (d : ¬ k = 4) (hb : k < 8 ∨ (10 : Int32) < k) (h0 : (0 : Int32) ≤ k) : k < 4 := by
  have e6 := ne_i h6
  have e7 := ne_i h7
  have e11 := ne_i h11
  have e12 := ne_i h12
  have ea := ne_i a
  have eb := ne_i b
  have ec := ne_i c
  have ed := ne_i d
  rw [le_i] at h0
  simp only [lt_i] at hb ⊢
  rw [show (6 : Int32).toInt = 6 from rfl] at e6
  rw [show (7 : Int32).toInt = 7 from rfl] at e7
  rw [show (11 : Int32).toInt = 11 from rfl] at e11
  rw [show (12 : Int32).toInt = 12 from rfl] at e12
  rw [show (5 : Int32).toInt = 5 from rfl] at ea
  rw [show (13 : Int32).toInt = 13 from rfl] at eb
  rw [show (14 : Int32).toInt = 14 from rfl] at ec
  rw [show (4 : Int32).toInt = 4 from rfl] at ed ⊢
  rw [show (8 : Int32).toInt = 8 from rfl, show (10 : Int32).toInt = 10 from rfl] at hb
  rw [show (0 : Int32).toInt = 0 from rfl] at h0
  rcases hr with hr | hr
  · have := eq_i hr
    rw [show (-1 : Int32).toInt = -1 from rfl] at this
    omega
  · omega
