/-! encode, line's test: class and reference alike -/
theorem wt_eq (p lo hi : Int32) : rX_within p lo hi = if lo ≤ p ∧ p ≤ hi then 1 else 0 := by
  unfold rX_within
  by_cases h1 : p < lo
  · rw [if_pos h1, if_neg]; intro h; rw [lt_i] at h1; rw [le_i] at h; omega
  · rw [if_neg h1]
    by_cases h2 : hi < p
    · rw [if_pos h2, if_neg]; intro h; rw [lt_i] at h2; rw [le_i, le_i] at h; omega
    · rw [if_neg h2, if_pos]; rw [lt_i] at h1 h2; rw [le_i, le_i]; omega
theorem ot_eq (p lo hi : Int32) : rZ_outside p lo hi = if lo ≤ p ∧ p ≤ hi then 0 else 1 := by
  unfold rZ_outside
  by_cases h1 : p < lo
  · rw [if_pos h1, if_neg]; intro h; rw [lt_i] at h1; rw [le_i] at h; omega
  · rw [if_neg h1]
    by_cases h2 : p ≤ hi
    · rw [if_pos h2, if_pos]; rw [lt_i] at h1; rw [le_i]; exact ⟨by omega, h2⟩
    · rw [if_neg h2, if_neg]; exact fun h => h2 h.2
theorem nr_eq (p : Int32) : rZ_notRegister p = if 0 ≤ p ∧ p ≤ 31 then 0 else 1 := ot_eq p 0 31
theorem no_eq (p : Int32) : rZ_notOwn p = if 0 ≤ p ∧ p ≤ 26 then 0 else 1 := ot_eq p 0 26
theorem nt_eq (p : Int32) : rZ_notTarget p = if 0 ≤ p ∧ p ≤ 20 then 0 else 1 := ot_eq p 0 20
theorem sh_eq (p : Int32) : rF_isShort p = if -2048 ≤ p ∧ p ≤ 2047 then 1 else 0 := wt_eq p (-2048) 2047
theorem fr_eq (p : Int32) : rP_isFree p = if 0 ≤ p ∧ p ≤ 26 then 1 else 0 := wt_eq p 0 26
theorem mb_eq (p : Int32) : rP_mayBeTarget p = if 0 ≤ p ∧ p ≤ 20 then 1 else 0 := wt_eq p 0 20
theorem ite10 {c : Prop} {h : Decidable c} : (@ite Int32 c h 1 0 = 0) = ¬ c := by
  cases h <;> simp_all
theorem ite01 {c : Prop} {h : Decidable c} : (@ite Int32 c h 0 1 = 0) = c := by
  cases h <;> simp_all
theorem rem2_i (x : Int32) : (x - x / 2 * 2).toInt = if 0 ≤ x.toInt then x.toInt % 2 else -((-x.toInt) % 2) := by
  have h1 := Int32.toInt_lt x
  have h2 := Int32.le_toInt x
  have e := div_i x 2 (by decide)
  rw [show (2 : Int32).toInt = 2 from rfl] at e
  have e3 : (x / 2).toInt = if 0 ≤ x.toInt then x.toInt / 2 else -((-x.toInt) / 2) := by
    rw [e]
    split
    · rename_i h; exact Int.tdiv_eq_ediv_of_nonneg h
    · rename_i h
      have : x.toInt.tdiv 2 = -((-x.toInt).tdiv 2) := by rw [Int.neg_tdiv, Int.neg_neg]
      rw [this, Int.tdiv_eq_ediv_of_nonneg (by omega)]
  have e4 : (x / 2 * 2).toInt = (x / 2).toInt * 2 := by
    rw [Int32.toInt_mul, show (2 : Int32).toInt = 2 from rfl]
    apply Int.bmod_eq_of_le <;> (rw [e3]; split <;> omega)
  rw [sub_i (by rw [e4, e3]; split <;> omega) (by rw [e4, e3]; split <;> omega), e4, e3]
  split <;> omega
theorem rem4_i (x : Int32) : (x - x / 4 * 4).toInt = if 0 ≤ x.toInt then x.toInt % 4 else -((-x.toInt) % 4) := by
  have h1 := Int32.toInt_lt x
  have h2 := Int32.le_toInt x
  have e := div_i x 4 (by decide)
  rw [show (4 : Int32).toInt = 4 from rfl] at e
  have e3 : (x / 4).toInt = if 0 ≤ x.toInt then x.toInt / 4 else -((-x.toInt) / 4) := by
    rw [e]
    split
    · rename_i h; exact Int.tdiv_eq_ediv_of_nonneg h
    · rename_i h
      have : x.toInt.tdiv 4 = -((-x.toInt).tdiv 4) := by rw [Int.neg_tdiv, Int.neg_neg]
      rw [this, Int.tdiv_eq_ediv_of_nonneg (by omega)]
  have e4 : (x / 4 * 4).toInt = (x / 4).toInt * 4 := by
    rw [Int32.toInt_mul, show (4 : Int32).toInt = 4 from rfl]
    apply Int.bmod_eq_of_le <;> (rw [e3]; split <;> omega)
  rw [sub_i (by rw [e4, e3]; split <;> omega) (by rw [e4, e3]; split <;> omega), e4, e3]
  split <;> omega
theorem rem16_i (x : Int32) : (x - x / 16 * 16).toInt = if 0 ≤ x.toInt then x.toInt % 16 else -((-x.toInt) % 16) := by
  have h1 := Int32.toInt_lt x
  have h2 := Int32.le_toInt x
  have e := div_i x 16 (by decide)
  rw [show (16 : Int32).toInt = 16 from rfl] at e
  have e3 : (x / 16).toInt = if 0 ≤ x.toInt then x.toInt / 16 else -((-x.toInt) / 16) := by
    rw [e]
    split
    · rename_i h; exact Int.tdiv_eq_ediv_of_nonneg h
    · rename_i h
      have : x.toInt.tdiv 16 = -((-x.toInt).tdiv 16) := by rw [Int.neg_tdiv, Int.neg_neg]
      rw [this, Int.tdiv_eq_ediv_of_nonneg (by omega)]
  have e4 : (x / 16 * 16).toInt = (x / 16).toInt * 16 := by
    rw [Int32.toInt_mul, show (16 : Int32).toInt = 16 from rfl]
    apply Int.bmod_eq_of_le <;> (rw [e3]; split <;> omega)
  rw [sub_i (by rw [e4, e3]; split <;> omega) (by rw [e4, e3]; split <;> omega), e4, e3]
  split <;> omega
theorem bt0 (x : Int32) : bt x 0 = decide (x.toInt % 2 = 1) := by
  unfold bt
  rw [BitVec.getLsbD_eq_getElem (by decide)]
  have h : x.toInt = x.toBitVec.toInt := rfl
  rw [h, BitVec.toInt_eq_toNat_cond, BitVec.getElem_eq_testBit_toNat, Nat.testBit_zero]
  simp only [decide_eq_decide]
  split <;> omega
theorem ev_eq (x : Int32) : (x - x / 2 * 2 = 0) ↔ (x &&& 1 = 0) := by
  have h1 : (x - x / 2 * 2 = 0) ↔ x.toInt % 2 = 0 := by
    rw [← Int32.toInt_inj, rem2_i, show (0 : Int32).toInt = 0 from rfl]
    split <;> omega
  rw [h1]
  have h2 : bt x 0 = decide (x.toInt % 2 = 1) := bt0 x
  constructor
  · intro h
    refine b_ext (fun i hi => ?_)
    rw [b_and, b_0]
    cases i with
    | zero => rw [h2]; simp; omega
    | succ n => 
      have : bt 1 (n + 1) = false := (by decide +kernel : ∀ n, n < 31 → bt 1 (n + 1) = false) n (by omega)
      rw [this, Bool.and_false]
  · intro h
    have h3 : bt (x &&& 1) 0 = false := by rw [h]; exact b_0 0
    rw [b_and, h2, show bt 1 0 = true from rfl, Bool.and_true] at h3
    have := of_decide_eq_false h3
    omega
theorem k15 {k : Int32} (h0 : 0 ≤ k) (h1 : k ≤ 14) : k = 0 ∨ k = 1 ∨ k = 2 ∨ k = 3 ∨ k = 4 ∨ k = 5 ∨ k = 6 ∨ k = 7 ∨ k = 8 ∨ k = 9 ∨ k = 10 ∨ k = 11 ∨ k = 12 ∨ k = 13 ∨ k = 14 := by
  rw [le_i] at h0 h1
  have e0 : (0 : Int32).toInt = 0 := rfl
  have e1 : (14 : Int32).toInt = 14 := rfl
  rw [e0] at h0
  rw [e1] at h1
  have hh : k.toInt = 0 ∨ k.toInt = 1 ∨ k.toInt = 2 ∨ k.toInt = 3 ∨ k.toInt = 4 ∨ k.toInt = 5 ∨ k.toInt = 6 ∨ k.toInt = 7 ∨ k.toInt = 8 ∨ k.toInt = 9 ∨ k.toInt = 10 ∨ k.toInt = 11 ∨ k.toInt = 12 ∨ k.toInt = 13 ∨ k.toInt = 14 := by omega
  rcases hh with h | h | h | h | h | h | h | h | h | h | h | h | h | h | h
  · exact Or.inl (Int32.toInt_inj.mp h)
  · exact Or.inr (Or.inl (Int32.toInt_inj.mp h))
  all_goals (repeat (first | exact Int32.toInt_inj.mp h | exact Or.inl (Int32.toInt_inj.mp h) | refine Or.inr ?_))
set_option maxHeartbeats 4000000 in
theorem fits_eq {k : Int32} (h0 : 0 ≤ k) (h1 : k ≤ 14) (a b c : Int32) : rZ_fits k a b c = rF_encodable k a b c := by
  rcases k15 h0 h1 with h | h | h | h | h | h | h | h | h | h | h | h | h | h | h <;> subst h <;> simp [rZ_fits, rF_encodable, rF_plainFits, wt_eq, ot_eq, nr_eq, sh_eq, ite10, ite01, ev_eq] <;> grind
theorem sh25 (x : Int32) : (x &&& 127) <<< ((25 : Int32) &&& 31) = x <<< ((25 : Int32) &&& 31) := by
  refine sy_eq (w := x) (yl25 (sy_and sy_var (sy_lit 127) ?_)) (yl25 sy_var) ?_ <;> decide +kernel
theorem an30 (x : Int32) : ((x >>> ((1 : Int32) &&& 31)) &&& 15) <<< ((1 : Int32) &&& 31) = x &&& 30 := by
  refine sy_eq (w := x) (yl1 (sy_and (yr1 sy_var) (sy_lit 15) ?_)) (sy_and sy_var (sy_lit 30) ?_) ?_ <;> decide +kernel
theorem jmpu (x : Int32) : ((((((x >>> ((20 : Int32) &&& 31)) &&& (1 : Int32)) <<< ((11 : Int32) &&& 31)) ||| (((x >>> ((1 : Int32) &&& 31)) &&& (1023 : Int32)) <<< ((1 : Int32) &&& 31))) ||| ((x >>> ((11 : Int32) &&& 31)) &&& (1 : Int32))) <<< ((20 : Int32) &&& 31)) = (((((x >>> ((20 : Int32) &&& 31)) &&& (1 : Int32)) <<< ((31 : Int32) &&& 31)) ||| (((x >>> ((1 : Int32) &&& 31)) &&& (1023 : Int32)) <<< ((21 : Int32) &&& 31))) ||| (((x >>> ((11 : Int32) &&& 31)) &&& (1 : Int32)) <<< ((20 : Int32) &&& 31))) := by
  refine sy_eq (w := x) (yl20 (sy_or (sy_or (yl11 (sy_and (yr20 sy_var) (sy_lit 1) ?_)) (yl1 (sy_and (yr1 sy_var) (sy_lit 1023) ?_)) ?_) (sy_and (yr11 sy_var) (sy_lit 1) ?_) ?_)) (sy_or (sy_or (yl31 (sy_and (yr20 sy_var) (sy_lit 1) ?_)) (yl21 (sy_and (yr1 sy_var) (sy_lit 1023) ?_)) ?_) (yl20 (sy_and (yr11 sy_var) (sy_lit 1) ?_)) ?_) ?_ <;> decide +kernel
theorem br_eq (t s u o : Int32) : rF_branch t s u o = rZ_branch t s u o := by
  unfold rF_branch rZ_branch rZ_typeR
  rw [an30]
theorem jm_eq (d o : Int32) : rF_jump d o = rZ_jump d o := by
  unfold rF_jump rZ_jump
  rw [jmpu]
theorem pkm_eq {k : Int32} (h0 : 0 ≤ k) (h1 : k ≤ 14) (a b c : Int32) : rF_pack k a b c = rZ_made k a b c := by
  rcases k15 h0 h1 with h | h | h | h | h | h | h | h | h | h | h | h | h | h | h <;> subst h
  all_goals (simp only [rF_pack, rZ_made, rF_threeRegisters, rF_withShort, rZ_typeI, rZ_typeR, sh25, br_eq, jm_eq])
  all_goals simp [show (2 : Int32) <<< ((12 : Int32) &&& 31) = 8192 from rfl]
theorem enc_eq (i : Nat → Int32) (a : Nat → Nat → Int32) (j : Nat → Int32) (cc : Nat → Nat → Int32) (k x y z : Int32) : rX_encode i a k x y z = rZ_encode j cc k x y z := by
  unfold rX_encode rZ_encode
  rw [ot_eq]
  by_cases h : 0 ≤ k ∧ k ≤ 14
  · rw [if_pos h, if_pos rfl, fits_eq h.1 h.2, pkm_eq h.1 h.2]
  · rw [if_neg h, if_neg (show ¬ (1 : Int32) = 0 by decide)]
    have hk : ∀ q : Int32, 0 ≤ q → q ≤ 14 → ¬ k = q := fun q h1 h2 e => h (e ▸ ⟨h1, h2⟩)
    have : rF_encodable k x y z = 0 := by
      unfold rF_encodable rF_plainFits
      simp only [if_neg (hk 0 (by decide) (by decide)), if_neg (hk 1 (by decide) (by decide)), if_neg (hk 2 (by decide) (by decide)), if_neg (hk 3 (by decide) (by decide)), if_neg (hk 4 (by decide) (by decide)), if_neg (hk 5 (by decide) (by decide)), if_neg (hk 6 (by decide) (by decide)), if_neg (hk 7 (by decide) (by decide)), if_neg (hk 8 (by decide) (by decide)), if_neg (hk 9 (by decide) (by decide)), if_neg (hk 10 (by decide) (by decide)), if_neg (hk 11 (by decide) (by decide)), if_neg (hk 12 (by decide) (by decide)), if_neg (hk 13 (by decide) (by decide)), if_neg (hk 14 (by decide) (by decide))]
    rw [if_pos this]
theorem k17 {k : Int32} (h0 : 0 ≤ k) (h1 : k ≤ 16) : (0 ≤ k ∧ k ≤ 14) ∨ k = 15 ∨ k = 16 := by
  rw [le_i] at *
  have e0 : (14 : Int32).toInt = 14 := rfl
  have e1 : (16 : Int32).toInt = 16 := rfl
  rw [le_i, e0]
  rw [e1] at h1
  rcases (by omega : k.toInt ≤ 14 ∨ k.toInt = 15 ∨ k.toInt = 16) with h | h | h
  · exact Or.inl ⟨h0, h⟩
  · exact Or.inr (Or.inl (Int32.toInt_inj.mp h))
  · exact Or.inr (Or.inr (Int32.toInt_inj.mp h))
theorem own_reg {x : Int32} (h : 0 ≤ x ∧ x ≤ 26) : 0 ≤ x ∧ x ≤ 31 := ⟨h.1, Int32.le_trans h.2 (by decide)⟩
theorem own_1 {x : Int32} : (1 ≤ x ∧ x ≤ 26) ↔ ((0 ≤ x ∧ x ≤ 26) ∧ ¬ x = 0) := by
  rw [le_i, le_i, le_i, ← Int32.toInt_inj, show (0 : Int32).toInt = 0 from rfl, show (1 : Int32).toInt = 1 from rfl]
  omega
set_option maxHeartbeats 4000000 in
theorem line_eq (k a b c : Int32) : rZ_isLine k a b c = rP_allows k a b c := by
  by_cases h : 0 ≤ k ∧ k ≤ 16
  · rcases k17 h.1 h.2 with h | h | h
    · have hs : ∀ x : Int32, (0 ≤ x ∧ x ≤ 26) → (0 ≤ x ∧ x ≤ 31) := fun x => own_reg
      rcases k15 h.1 h.2 with h | h | h | h | h | h | h | h | h | h | h | h | h | h | h <;> subst h <;> simp [rZ_isLine, rP_allows, rZ_fits, rF_plainFits, wt_eq, ot_eq, nr_eq, no_eq, nt_eq, fr_eq, mb_eq, sh_eq, ite10, ite01, ev_eq, own_1] <;> grind
    · subst h; simp [rZ_isLine, rP_allows, wt_eq, ot_eq, ite10, ite01]
    · subst h; simp [rZ_isLine, rP_allows, rF_plainFits, wt_eq, ot_eq, no_eq, nt_eq, fr_eq, mb_eq, ite10, ite01] <;> grind
  · unfold rZ_isLine
    rw [ot_eq, if_neg h, if_neg (show ¬ (1 : Int32) = 0 by decide)]
    have hk : ∀ q : Int32, 0 ≤ q → q ≤ 16 → ¬ k = q := fun q h1 h2 e => h (e ▸ ⟨h1, h2⟩)
    unfold rP_allows rF_plainFits
    simp only [if_neg (hk 0 (by decide) (by decide)), if_neg (hk 1 (by decide) (by decide)), if_neg (hk 2 (by decide) (by decide)), if_neg (hk 3 (by decide) (by decide)), if_neg (hk 4 (by decide) (by decide)), if_neg (hk 5 (by decide) (by decide)), if_neg (hk 6 (by decide) (by decide)), if_neg (hk 7 (by decide) (by decide)), if_neg (hk 8 (by decide) (by decide)), if_neg (hk 9 (by decide) (by decide)), if_neg (hk 10 (by decide) (by decide)), if_neg (hk 11 (by decide) (by decide)), if_neg (hk 12 (by decide) (by decide)), if_neg (hk 13 (by decide) (by decide)), if_neg (hk 14 (by decide) (by decide)), if_neg (hk 15 (by decide) (by decide)), if_neg (hk 16 (by decide) (by decide))]
