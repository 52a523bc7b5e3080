/-! check: the code mask, class and reference alike -/
def f7c : Nat → Nat := fun i => anE (cond (Nat.ble 32 (7 + i)) (31 + 2) (7 + i + 2)) (cond (bt 31 i) 1 0)
def f20c : Nat → Nat := fun i => anE (cond (Nat.ble 32 (20 + i)) (31 + 2) (20 + i + 2)) (cond (bt 31 i) 1 0)
def fMc : Nat → Nat := fun i => anE (i + 2) (cond (bt (-1015809) i) 1 0)
theorem f7_sy (w : Int32) : SY w ((w >>> ((7 : Int32) &&& 31)) &&& 31) f7c := sy_and (yr7 sy_var) (sy_lit 31) (by decide +kernel)
theorem f20_sy (w : Int32) : SY w ((w >>> ((20 : Int32) &&& 31)) &&& 31) f20c := sy_and (yr20 sy_var) (sy_lit 31) (by decide +kernel)
theorem fM_sy (w : Int32) : SY w (w &&& -1015809) fMc := sy_and sy_var (sy_lit (-1015809)) (by decide +kernel)
theorem cm_bits (w : Int32) : (w &&& -1015809 = 28344243) ↔ ((fO w = 51 ∧ fT w = 7 ∧ fS w = 0) ∧ (w >>> ((7 : Int32) &&& 31)) &&& 31 = 31 ∧ (w >>> ((20 : Int32) &&& 31)) &&& 31 = 27) := by
  rw [fO_cs w 51 (by decide +kernel), fT_cs w 7 (by decide +kernel), fS_cs w 0 (by decide +kernel), cs_lit (t := 31) (f7_sy w) (by decide +kernel), cs_lit (t := 27) (f20_sy w) (by decide +kernel), cs_lit (t := 28344243) (fM_sy w) (by decide +kernel), ← cs_app, ← cs_app, ← cs_app, ← cs_app]
  exact cs_iff (by decide +kernel) (by decide +kernel)
theorem sk_r (w : Int32) : rF_shortKindOf w = -1 ∨ rF_shortKindOf w = 13 ∨ rF_shortKindOf w = 14 := by
  unfold rF_shortKindOf
  repeat' (first | (with_reducible refine ite_P (fun x : Int32 => x = -1 ∨ x = 13 ∨ x = 14) ?_ ?_) | decide)
theorem long_3 (w : Int32) : ¬ rZ_isLong w = 0 ↔ w &&& 3 = 3 := by
  unfold rZ_isLong
  by_cases h : w &&& 3 = 3
  · rw [if_pos h]; simp [h]
  · rw [if_neg h]; simp [h]
theorem o_long {w t : Int32} (h : w &&& 127 = t) (ht : t &&& 3 = 3) : ¬ rZ_isLong w = 0 := by
  have e : w &&& 3 = (w &&& 127) &&& 3 := by rw [Int32.and_assoc]; rfl
  rw [long_3, e, h, ht]
theorem kind_2 (w : Int32) : rF_kindOf w = 2 ↔ (fO w = 51 ∧ fT w = 7 ∧ fS w = 0) := by
  unfold rF_kindOf
  by_cases hl : rF_isLong w = 0
  · rw [if_pos hl]
    constructor
    · intro h
      exfalso
      rcases sk_r w with e | e | e <;> rw [e] at h <;> revert h <;> decide
    · intro h
      exact absurd hl (o_long h.1 (by decide))
  · rw [if_neg hl]
    unfold rF_arithmeticKindOf rF_branchKindOf
    simp only [fO, fT, fS]
    generalize w &&& 127 = o
    generalize (Int32.toUInt32 w >>> (Int32.toUInt32 (12 : Int32) &&& Int32.toUInt32 31)).toInt32 &&& (7 : Int32) = t
    generalize (Int32.toUInt32 w >>> (Int32.toUInt32 (25 : Int32) &&& Int32.toUInt32 31)).toInt32 = s
    by_cases h4 : o = 51
    · subst h4
      by_cases h5 : t = 7
      · subst h5
        by_cases h6 : s = 0
        · subst h6; simp
        · by_cases h7 : s = 32 <;> simp [h6, h7]
      · grind
    · grind
theorem cmk_eq (i : Nat → Int32) (a : Nat → Nat → Int32) (w : Int32) : rK_isCodeMask i a w = if w &&& -1015809 = 28344243 then 1 else 0 := rfl
theorem md_mask : rZ_made 2 31 31 29 = 31457203 := by decide +kernel
theorem md_base : rZ_made 3 31 31 28 = 30404531 := by decide +kernel
theorem md_code : rZ_made 2 31 0 27 = 28344243 := by decide +kernel
theorem kd_mask : rF_kindOf 31457203 = 2 := by decide +kernel
theorem kd_base : rF_kindOf 30404531 = 3 := by decide +kernel
theorem cm_kind {w : Int32} (h : w &&& -1015809 = 28344243) : rF_kindOf w = 2 := (kind_2 w).mpr ((cm_bits w).mp h).1
