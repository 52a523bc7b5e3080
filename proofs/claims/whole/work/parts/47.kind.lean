/-! kind: class and reference alike -/
theorem and_bd (x : Int32) : 0 ≤ (x &&& 31) ∧ (x &&& 31) ≤ 31 := by
  have h : (x &&& 31).toBitVec.toNat ≤ 31 := by rw [Int32.toBitVec_and, BitVec.toNat_and]; exact Nat.and_le_right
  have e : (x &&& 31).toInt = (x &&& 31).toBitVec.toInt := rfl
  rw [BitVec.toInt_eq_toNat_cond] at e
  rw [le_i, le_i, show (0 : Int32).toInt = 0 from rfl, show (31 : Int32).toInt = 31 from rfl, e]
  split <;> omega
/-- a word whose bits from n on are all the last one -/
theorem sx_bd {x : Int32} (n : Nat) (hn : n < 32) (h : ∀ i, i < 32 → n ≤ i → bt x i = bt x 31) : -(2 ^ n : Int) ≤ x.toInt ∧ x.toInt < 2 ^ n := by
  have hz : x >>> (nI n &&& 31) = 0 ∨ x >>> (nI n &&& 31) = -1 := by
    cases hb : bt x 31 with
    | false =>
      refine Or.inl (b_ext (fun i hi => ?_))
      rw [b_sshr n hn x hi, b_0]
      split
      · rw [h _ (by omega) (by omega), hb]
      · exact hb
    | true =>
      refine Or.inr (b_ext (fun i hi => ?_))
      rw [b_sshr n hn x hi, b_m1 i hi]
      split
      · rw [h _ (by omega) (by omega), hb]
      · exact hb
  have e : (x >>> (nI n &&& 31)).toInt = x.toInt / 2 ^ n := by
    show (x >>> (nI n &&& 31)).toBitVec.toInt = _
    rw [Int32.toBitVec_shiftRight]
    show (x.toBitVec.sshiftRight ((nI n &&& 31).toBitVec.smod 32).toNat).toInt = _
    rw [s_l n hn, BitVec.toInt_sshiftRight, Int.shiftRight_eq_div_pow]
    rfl
  have hp : (0 : Int) < 2 ^ n := Int.pow_pos (by decide)
  have h1 := Int.mul_ediv_add_emod x.toInt (2 ^ n)
  have h2 := Int.emod_nonneg x.toInt (Int.ne_of_gt hp)
  have h3 := Int.emod_lt_of_pos x.toInt hp
  rcases hz with hz | hz
  · rw [hz, show (0 : Int32).toInt = 0 from rfl] at e
    rw [← e] at h1
    omega
  · rw [hz, show (-1 : Int32).toInt = -1 from rfl] at e
    rw [← e] at h1
    omega
theorem sy_bd {w x : Int32} {f : Nat → Nat} (hx : SY w x f) (n : Nat) (hn : n < 32) (h : ∀ i, i < 32 → n ≤ i → f i = f 31) : -(2 ^ n : Int) ≤ x.toInt ∧ x.toInt < 2 ^ n := sx_bd n hn (fun i hi hl => by rw [hx i hi, hx 31 (by decide), h i hi hl])
abbrev fO (w : Int32) : Int32 := w &&& 127
abbrev fT (w : Int32) : Int32 := (Int32.toUInt32 w >>> (Int32.toUInt32 (12 : Int32) &&& Int32.toUInt32 31)).toInt32 &&& (7 : Int32)
abbrev fS (w : Int32) : Int32 := (Int32.toUInt32 w >>> (Int32.toUInt32 (25 : Int32) &&& Int32.toUInt32 31)).toInt32
def fOc : Nat → Nat := fun i => anE (i + 2) (cond (bt 127 i) 1 0)
def fTc : Nat → Nat := fun i => anE (cond (Nat.ble 32 (12 + i)) 0 (12 + i + 2)) (cond (bt 7 i) 1 0)
def fSc : Nat → Nat := fun i => cond (Nat.ble 32 (25 + i)) 0 (25 + i + 2)
theorem fO_sy (w : Int32) : SY w (fO w) fOc := sy_and sy_var (sy_lit 127) (by decide +kernel)
theorem fT_sy (w : Int32) : SY w (fT w) fTc := sy_and (yu12 sy_var) (sy_lit 7) (by decide +kernel)
theorem fS_sy (w : Int32) : SY w (fS w) fSc := yu25 sy_var
theorem mul20 (x : Int32) : x * (1048576 : Int32) = x <<< ((20 : Int32) &&& 31) := by
  refine Int32.toBitVec_inj.mp ?_
  rw [Int32.toBitVec_mul, Int32.toBitVec_shiftLeft]
  show x.toBitVec * (1048576#32) = x.toBitVec <<< (20 : Nat)
  rw [BitVec.shiftLeft_eq_mul_twoPow]
  rfl
theorem fA0 (w : Int32) : rZ_fieldA 0 w = (w >>> ((7 : Int32) &&& 31)) &&& (31 : Int32) := rfl
theorem fB0 (w : Int32) : rZ_fieldB 0 w = (w >>> ((15 : Int32) &&& 31)) &&& (31 : Int32) := rfl
theorem fC0 (w : Int32) : rZ_fieldC 0 w = (w >>> ((20 : Int32) &&& 31)) &&& (31 : Int32) := rfl
theorem fA1 (w : Int32) : rZ_fieldA 1 w = (w >>> ((7 : Int32) &&& 31)) &&& (31 : Int32) := rfl
theorem fB1 (w : Int32) : rZ_fieldB 1 w = (w >>> ((15 : Int32) &&& 31)) &&& (31 : Int32) := rfl
theorem fC1 (w : Int32) : rZ_fieldC 1 w = (w >>> ((20 : Int32) &&& 31)) &&& (31 : Int32) := rfl
theorem fA2 (w : Int32) : rZ_fieldA 2 w = (w >>> ((7 : Int32) &&& 31)) &&& (31 : Int32) := rfl
theorem fB2 (w : Int32) : rZ_fieldB 2 w = (w >>> ((15 : Int32) &&& 31)) &&& (31 : Int32) := rfl
theorem fC2 (w : Int32) : rZ_fieldC 2 w = (w >>> ((20 : Int32) &&& 31)) &&& (31 : Int32) := rfl
theorem fA3 (w : Int32) : rZ_fieldA 3 w = (w >>> ((7 : Int32) &&& 31)) &&& (31 : Int32) := rfl
theorem fB3 (w : Int32) : rZ_fieldB 3 w = (w >>> ((15 : Int32) &&& 31)) &&& (31 : Int32) := rfl
theorem fC3 (w : Int32) : rZ_fieldC 3 w = (w >>> ((20 : Int32) &&& 31)) &&& (31 : Int32) := rfl
theorem fA4 (w : Int32) : rZ_fieldA 4 w = (w >>> ((7 : Int32) &&& 31)) &&& (31 : Int32) := rfl
theorem fB4 (w : Int32) : rZ_fieldB 4 w = (w >>> ((15 : Int32) &&& 31)) &&& (31 : Int32) := rfl
theorem fC4 (w : Int32) : rZ_fieldC 4 w = w >>> ((20 : Int32) &&& 31) := rfl
theorem fA5 (w : Int32) : rZ_fieldA 5 w = (w >>> ((7 : Int32) &&& 31)) &&& (31 : Int32) := rfl
theorem fB5 (w : Int32) : rZ_fieldB 5 w = (Int32.toUInt32 w >>> (Int32.toUInt32 (12 : Int32) &&& Int32.toUInt32 31)).toInt32 := rfl
theorem fC5 (w : Int32) : rZ_fieldC 5 w = (0 : Int32) := rfl
theorem fA6 (w : Int32) : rZ_fieldA 6 w = (w >>> ((7 : Int32) &&& 31)) &&& (31 : Int32) := rfl
theorem fB6 (w : Int32) : rZ_fieldB 6 w = (w >>> ((15 : Int32) &&& 31)) &&& (31 : Int32) := rfl
theorem fC6 (w : Int32) : rZ_fieldC 6 w = w >>> ((20 : Int32) &&& 31) := rfl
theorem fA7 (w : Int32) : rZ_fieldA 7 w = (w >>> ((20 : Int32) &&& 31)) &&& (31 : Int32) := rfl
theorem fB7 (w : Int32) : rZ_fieldB 7 w = (w >>> ((15 : Int32) &&& 31)) &&& (31 : Int32) := rfl
theorem fC7 (w : Int32) : rZ_fieldC 7 w = ((w >>> ((25 : Int32) &&& 31)) <<< ((5 : Int32) &&& 31)) ||| ((w >>> ((7 : Int32) &&& 31)) &&& (31 : Int32)) := rfl
theorem fA8 (w : Int32) : rZ_fieldA 8 w = (w >>> ((15 : Int32) &&& 31)) &&& (31 : Int32) := rfl
theorem fB8 (w : Int32) : rZ_fieldB 8 w = (w >>> ((20 : Int32) &&& 31)) &&& (31 : Int32) := rfl
theorem fC8 (w : Int32) : rZ_fieldC 8 w = ((((w >>> ((31 : Int32) &&& 31)) <<< ((12 : Int32) &&& 31)) ||| (((w >>> ((7 : Int32) &&& 31)) &&& (1 : Int32)) <<< ((11 : Int32) &&& 31))) ||| (((w >>> ((25 : Int32) &&& 31)) &&& (63 : Int32)) <<< ((5 : Int32) &&& 31))) ||| (((w >>> ((8 : Int32) &&& 31)) &&& (15 : Int32)) <<< ((1 : Int32) &&& 31)) := rfl
theorem fA9 (w : Int32) : rZ_fieldA 9 w = (w >>> ((15 : Int32) &&& 31)) &&& (31 : Int32) := rfl
theorem fB9 (w : Int32) : rZ_fieldB 9 w = (w >>> ((20 : Int32) &&& 31)) &&& (31 : Int32) := rfl
theorem fC9 (w : Int32) : rZ_fieldC 9 w = ((((w >>> ((31 : Int32) &&& 31)) <<< ((12 : Int32) &&& 31)) ||| (((w >>> ((7 : Int32) &&& 31)) &&& (1 : Int32)) <<< ((11 : Int32) &&& 31))) ||| (((w >>> ((25 : Int32) &&& 31)) &&& (63 : Int32)) <<< ((5 : Int32) &&& 31))) ||| (((w >>> ((8 : Int32) &&& 31)) &&& (15 : Int32)) <<< ((1 : Int32) &&& 31)) := rfl
theorem fA10 (w : Int32) : rZ_fieldA 10 w = (w >>> ((15 : Int32) &&& 31)) &&& (31 : Int32) := rfl
theorem fB10 (w : Int32) : rZ_fieldB 10 w = (w >>> ((20 : Int32) &&& 31)) &&& (31 : Int32) := rfl
theorem fC10 (w : Int32) : rZ_fieldC 10 w = ((((w >>> ((31 : Int32) &&& 31)) <<< ((12 : Int32) &&& 31)) ||| (((w >>> ((7 : Int32) &&& 31)) &&& (1 : Int32)) <<< ((11 : Int32) &&& 31))) ||| (((w >>> ((25 : Int32) &&& 31)) &&& (63 : Int32)) <<< ((5 : Int32) &&& 31))) ||| (((w >>> ((8 : Int32) &&& 31)) &&& (15 : Int32)) <<< ((1 : Int32) &&& 31)) := rfl
theorem fA11 (w : Int32) : rZ_fieldA 11 w = (w >>> ((7 : Int32) &&& 31)) &&& (31 : Int32) := rfl
theorem fB11 (w : Int32) : rZ_fieldB 11 w = ((((w >>> ((31 : Int32) &&& 31)) <<< ((20 : Int32) &&& 31)) ||| (((w >>> ((21 : Int32) &&& 31)) &&& (1023 : Int32)) <<< ((1 : Int32) &&& 31))) ||| (((w >>> ((20 : Int32) &&& 31)) &&& (1 : Int32)) <<< ((11 : Int32) &&& 31))) ||| (((w >>> ((12 : Int32) &&& 31)) &&& (255 : Int32)) <<< ((12 : Int32) &&& 31)) := by
  rw [← mul20]
  rfl
theorem fC11 (w : Int32) : rZ_fieldC 11 w = (0 : Int32) := rfl
theorem fA12 (w : Int32) : rZ_fieldA 12 w = (w >>> ((7 : Int32) &&& 31)) &&& (31 : Int32) := rfl
theorem fB12 (w : Int32) : rZ_fieldB 12 w = (w >>> ((15 : Int32) &&& 31)) &&& (31 : Int32) := rfl
theorem fC12 (w : Int32) : rZ_fieldC 12 w = w >>> ((20 : Int32) &&& 31) := rfl
theorem cs_key {w x : Int32} {L : List (Nat × Bool)} {f : Nat → Nat} (h1 : SY w x f) (h2 : ∀ i, i < 32 → cwK (f i) i = true) (h3 : csI (cwl f) L = true) (h4 : csI L (cwl f) = true) : x = w ↔ CS w L := (cs_self h1 h2).trans (cs_iff h3 h4)
theorem sy_ex2 {w x : Int32} {P : (Nat → Nat) → Prop} {f : Nat → Nat} (h1 : SY w x f) (h2 : P f) : ∃ f : Nat → Nat, SY w x f ∧ P f := ⟨f, h1, h2⟩
theorem fO_cs (w t : Int32) (h : ∀ i, i < 32 → csK (fOc i) (bt t i) = true) : fO w = t ↔ CS w (csl fOc t) := cs_lit (fO_sy w) h
theorem fT_cs (w t : Int32) (h : ∀ i, i < 32 → csK (fTc i) (bt t i) = true) : fT w = t ↔ CS w (csl fTc t) := cs_lit (fT_sy w) h
theorem fS_cs (w t : Int32) (h : ∀ i, i < 32 → csK (fSc i) (bt t i) = true) : fS w = t ↔ CS w (csl fSc t) := cs_lit (fS_sy w) h
theorem sy_nn {w x : Int32} {f : Nat → Nat} (hx : SY w x f) (h : f 31 = 0) : 0 ≤ x.toInt := by
  have h1 : bt x 31 = false := by rw [hx 31 (by decide), h]; rfl
  have h2 : x.toBitVec.msb = false := by rw [BitVec.msb_eq_getLsbD_last]; exact h1
  exact (BitVec.msb_eq_false_iff_two_mul_lt.mp h2 |> fun q => by show 0 ≤ x.toBitVec.toInt; rw [BitVec.toInt_eq_toNat_cond, if_pos q]; omega)
theorem rng {x : Int32} {lo hi : Int32} (h1 : lo.toInt ≤ x.toInt) (h2 : x.toInt ≤ hi.toInt) : lo ≤ x ∧ x ≤ hi := ⟨le_i.mpr h1, le_i.mpr h2⟩
theorem md0 (a b c : Int32) : rZ_made 0 a b c = ((((((0 : Int32) <<< ((25 : Int32) &&& 31)) ||| (c <<< ((20 : Int32) &&& 31))) ||| (b <<< ((15 : Int32) &&& 31))) ||| ((0 : Int32) <<< ((12 : Int32) &&& 31))) ||| (a <<< ((7 : Int32) &&& 31))) ||| (51 : Int32) := rfl
set_option maxRecDepth 100000 in
theorem mk0 (w : Int32) : rZ_made 0 (rZ_fieldA 0 w) (rZ_fieldB 0 w) (rZ_fieldC 0 w) = w ↔ fO w = 51 ∧ fT w = 0 ∧ fS w = 0 := by
  rw [fO_cs w 51 (by decide +kernel), fT_cs w 0 (by decide +kernel), fS_cs w 0 (by decide +kernel), ← cs_app, ← cs_app, fA0, fB0, fC0, md0]
  apply cs_key
  · (repeat (first | with_reducible exact sy_var | with_reducible apply sy_or | with_reducible apply sy_and | with_reducible apply yl1 | with_reducible apply yl2 | with_reducible apply yl5 | with_reducible apply yl6 | with_reducible apply yl7 | with_reducible apply yl8 | with_reducible apply yl11 | with_reducible apply yl12 | with_reducible apply yl15 | with_reducible apply yl16 | with_reducible apply yl20 | with_reducible apply yl21 | with_reducible apply yl24 | with_reducible apply yl25 | with_reducible apply yl31 | with_reducible apply yr1 | with_reducible apply yr2 | with_reducible apply yr5 | with_reducible apply yr7 | with_reducible apply yr8 | with_reducible apply yr11 | with_reducible apply yr12 | with_reducible apply yr15 | with_reducible apply yr20 | with_reducible apply yr21 | with_reducible apply yr25 | with_reducible apply yr31 | with_reducible apply yu2 | with_reducible apply yu7 | with_reducible apply yu8 | with_reducible apply yu12 | with_reducible apply yu15 | with_reducible apply yu16 | with_reducible apply yu20 | with_reducible apply yu21 | with_reducible apply yu24 | with_reducible apply yu25 | with_reducible exact sy_lit _ | decide +kernel))
  all_goals decide +kernel
theorem ft0 (w : Int32) : rZ_fits 0 (rZ_fieldA 0 w) (rZ_fieldB 0 w) (rZ_fieldC 0 w) = 1 := by
  simp [rZ_fits, nr_eq, ite01, fA0, fB0, fC0, and_bd]
theorem md1 (a b c : Int32) : rZ_made 1 a b c = ((((((32 : Int32) <<< ((25 : Int32) &&& 31)) ||| (c <<< ((20 : Int32) &&& 31))) ||| (b <<< ((15 : Int32) &&& 31))) ||| ((0 : Int32) <<< ((12 : Int32) &&& 31))) ||| (a <<< ((7 : Int32) &&& 31))) ||| (51 : Int32) := rfl
set_option maxRecDepth 100000 in
theorem mk1 (w : Int32) : rZ_made 1 (rZ_fieldA 1 w) (rZ_fieldB 1 w) (rZ_fieldC 1 w) = w ↔ fO w = 51 ∧ fT w = 0 ∧ fS w = 32 := by
  rw [fO_cs w 51 (by decide +kernel), fT_cs w 0 (by decide +kernel), fS_cs w 32 (by decide +kernel), ← cs_app, ← cs_app, fA1, fB1, fC1, md1]
  apply cs_key
  · (repeat (first | with_reducible exact sy_var | with_reducible apply sy_or | with_reducible apply sy_and | with_reducible apply yl1 | with_reducible apply yl2 | with_reducible apply yl5 | with_reducible apply yl6 | with_reducible apply yl7 | with_reducible apply yl8 | with_reducible apply yl11 | with_reducible apply yl12 | with_reducible apply yl15 | with_reducible apply yl16 | with_reducible apply yl20 | with_reducible apply yl21 | with_reducible apply yl24 | with_reducible apply yl25 | with_reducible apply yl31 | with_reducible apply yr1 | with_reducible apply yr2 | with_reducible apply yr5 | with_reducible apply yr7 | with_reducible apply yr8 | with_reducible apply yr11 | with_reducible apply yr12 | with_reducible apply yr15 | with_reducible apply yr20 | with_reducible apply yr21 | with_reducible apply yr25 | with_reducible apply yr31 | with_reducible apply yu2 | with_reducible apply yu7 | with_reducible apply yu8 | with_reducible apply yu12 | with_reducible apply yu15 | with_reducible apply yu16 | with_reducible apply yu20 | with_reducible apply yu21 | with_reducible apply yu24 | with_reducible apply yu25 | with_reducible exact sy_lit _ | decide +kernel))
  all_goals decide +kernel
theorem ft1 (w : Int32) : rZ_fits 1 (rZ_fieldA 1 w) (rZ_fieldB 1 w) (rZ_fieldC 1 w) = 1 := by
  simp [rZ_fits, nr_eq, ite01, fA1, fB1, fC1, and_bd]
theorem md2 (a b c : Int32) : rZ_made 2 a b c = ((((((0 : Int32) <<< ((25 : Int32) &&& 31)) ||| (c <<< ((20 : Int32) &&& 31))) ||| (b <<< ((15 : Int32) &&& 31))) ||| ((7 : Int32) <<< ((12 : Int32) &&& 31))) ||| (a <<< ((7 : Int32) &&& 31))) ||| (51 : Int32) := rfl
set_option maxRecDepth 100000 in
theorem mk2 (w : Int32) : rZ_made 2 (rZ_fieldA 2 w) (rZ_fieldB 2 w) (rZ_fieldC 2 w) = w ↔ fO w = 51 ∧ fT w = 7 ∧ fS w = 0 := by
  rw [fO_cs w 51 (by decide +kernel), fT_cs w 7 (by decide +kernel), fS_cs w 0 (by decide +kernel), ← cs_app, ← cs_app, fA2, fB2, fC2, md2]
  apply cs_key
  · (repeat (first | with_reducible exact sy_var | with_reducible apply sy_or | with_reducible apply sy_and | with_reducible apply yl1 | with_reducible apply yl2 | with_reducible apply yl5 | with_reducible apply yl6 | with_reducible apply yl7 | with_reducible apply yl8 | with_reducible apply yl11 | with_reducible apply yl12 | with_reducible apply yl15 | with_reducible apply yl16 | with_reducible apply yl20 | with_reducible apply yl21 | with_reducible apply yl24 | with_reducible apply yl25 | with_reducible apply yl31 | with_reducible apply yr1 | with_reducible apply yr2 | with_reducible apply yr5 | with_reducible apply yr7 | with_reducible apply yr8 | with_reducible apply yr11 | with_reducible apply yr12 | with_reducible apply yr15 | with_reducible apply yr20 | with_reducible apply yr21 | with_reducible apply yr25 | with_reducible apply yr31 | with_reducible apply yu2 | with_reducible apply yu7 | with_reducible apply yu8 | with_reducible apply yu12 | with_reducible apply yu15 | with_reducible apply yu16 | with_reducible apply yu20 | with_reducible apply yu21 | with_reducible apply yu24 | with_reducible apply yu25 | with_reducible exact sy_lit _ | decide +kernel))
  all_goals decide +kernel
theorem ft2 (w : Int32) : rZ_fits 2 (rZ_fieldA 2 w) (rZ_fieldB 2 w) (rZ_fieldC 2 w) = 1 := by
  simp [rZ_fits, nr_eq, ite01, fA2, fB2, fC2, and_bd]
theorem md3 (a b c : Int32) : rZ_made 3 a b c = ((((((0 : Int32) <<< ((25 : Int32) &&& 31)) ||| (c <<< ((20 : Int32) &&& 31))) ||| (b <<< ((15 : Int32) &&& 31))) ||| ((6 : Int32) <<< ((12 : Int32) &&& 31))) ||| (a <<< ((7 : Int32) &&& 31))) ||| (51 : Int32) := rfl
set_option maxRecDepth 100000 in
theorem mk3 (w : Int32) : rZ_made 3 (rZ_fieldA 3 w) (rZ_fieldB 3 w) (rZ_fieldC 3 w) = w ↔ fO w = 51 ∧ fT w = 6 ∧ fS w = 0 := by
  rw [fO_cs w 51 (by decide +kernel), fT_cs w 6 (by decide +kernel), fS_cs w 0 (by decide +kernel), ← cs_app, ← cs_app, fA3, fB3, fC3, md3]
  apply cs_key
  · (repeat (first | with_reducible exact sy_var | with_reducible apply sy_or | with_reducible apply sy_and | with_reducible apply yl1 | with_reducible apply yl2 | with_reducible apply yl5 | with_reducible apply yl6 | with_reducible apply yl7 | with_reducible apply yl8 | with_reducible apply yl11 | with_reducible apply yl12 | with_reducible apply yl15 | with_reducible apply yl16 | with_reducible apply yl20 | with_reducible apply yl21 | with_reducible apply yl24 | with_reducible apply yl25 | with_reducible apply yl31 | with_reducible apply yr1 | with_reducible apply yr2 | with_reducible apply yr5 | with_reducible apply yr7 | with_reducible apply yr8 | with_reducible apply yr11 | with_reducible apply yr12 | with_reducible apply yr15 | with_reducible apply yr20 | with_reducible apply yr21 | with_reducible apply yr25 | with_reducible apply yr31 | with_reducible apply yu2 | with_reducible apply yu7 | with_reducible apply yu8 | with_reducible apply yu12 | with_reducible apply yu15 | with_reducible apply yu16 | with_reducible apply yu20 | with_reducible apply yu21 | with_reducible apply yu24 | with_reducible apply yu25 | with_reducible exact sy_lit _ | decide +kernel))
  all_goals decide +kernel
theorem ft3 (w : Int32) : rZ_fits 3 (rZ_fieldA 3 w) (rZ_fieldB 3 w) (rZ_fieldC 3 w) = 1 := by
  simp [rZ_fits, nr_eq, ite01, fA3, fB3, fC3, and_bd]
theorem md4 (a b c : Int32) : rZ_made 4 a b c = ((((c <<< ((20 : Int32) &&& 31)) ||| (b <<< ((15 : Int32) &&& 31))) ||| ((0 : Int32) <<< ((12 : Int32) &&& 31))) ||| (a <<< ((7 : Int32) &&& 31))) ||| (19 : Int32) := rfl
set_option maxRecDepth 100000 in
theorem mk4 (w : Int32) : rZ_made 4 (rZ_fieldA 4 w) (rZ_fieldB 4 w) (rZ_fieldC 4 w) = w ↔ fO w = 19 ∧ fT w = 0 := by
  rw [fO_cs w 19 (by decide +kernel), fT_cs w 0 (by decide +kernel), ← cs_app, fA4, fB4, fC4, md4]
  apply cs_key
  · (repeat (first | with_reducible exact sy_var | with_reducible apply sy_or | with_reducible apply sy_and | with_reducible apply yl1 | with_reducible apply yl2 | with_reducible apply yl5 | with_reducible apply yl6 | with_reducible apply yl7 | with_reducible apply yl8 | with_reducible apply yl11 | with_reducible apply yl12 | with_reducible apply yl15 | with_reducible apply yl16 | with_reducible apply yl20 | with_reducible apply yl21 | with_reducible apply yl24 | with_reducible apply yl25 | with_reducible apply yl31 | with_reducible apply yr1 | with_reducible apply yr2 | with_reducible apply yr5 | with_reducible apply yr7 | with_reducible apply yr8 | with_reducible apply yr11 | with_reducible apply yr12 | with_reducible apply yr15 | with_reducible apply yr20 | with_reducible apply yr21 | with_reducible apply yr25 | with_reducible apply yr31 | with_reducible apply yu2 | with_reducible apply yu7 | with_reducible apply yu8 | with_reducible apply yu12 | with_reducible apply yu15 | with_reducible apply yu16 | with_reducible apply yu20 | with_reducible apply yu21 | with_reducible apply yu24 | with_reducible apply yu25 | with_reducible exact sy_lit _ | decide +kernel))
  all_goals decide +kernel
theorem ft4 (w : Int32) : rZ_fits 4 (rZ_fieldA 4 w) (rZ_fieldB 4 w) (rZ_fieldC 4 w) = 1 := by
  have hs : ∃ f : Nat → Nat, SY w (rZ_fieldC 4 w) f ∧ (∀ i, i < 32 → 11 ≤ i → f i = f 31) := by
    rw [fC4]
    apply sy_ex2
    · (repeat (first | with_reducible exact sy_var | with_reducible apply sy_or | with_reducible apply sy_and | with_reducible apply yl1 | with_reducible apply yl2 | with_reducible apply yl5 | with_reducible apply yl6 | with_reducible apply yl7 | with_reducible apply yl8 | with_reducible apply yl11 | with_reducible apply yl12 | with_reducible apply yl15 | with_reducible apply yl16 | with_reducible apply yl20 | with_reducible apply yl21 | with_reducible apply yl24 | with_reducible apply yl25 | with_reducible apply yl31 | with_reducible apply yr1 | with_reducible apply yr2 | with_reducible apply yr5 | with_reducible apply yr7 | with_reducible apply yr8 | with_reducible apply yr11 | with_reducible apply yr12 | with_reducible apply yr15 | with_reducible apply yr20 | with_reducible apply yr21 | with_reducible apply yr25 | with_reducible apply yr31 | with_reducible apply yu2 | with_reducible apply yu7 | with_reducible apply yu8 | with_reducible apply yu12 | with_reducible apply yu15 | with_reducible apply yu16 | with_reducible apply yu20 | with_reducible apply yu21 | with_reducible apply yu24 | with_reducible apply yu25 | with_reducible exact sy_lit _ | decide +kernel))
    · decide +kernel
  obtain ⟨f, h1, h2⟩ := hs
  have h3 := sy_bd h1 11 (by decide) h2
  have h4 : (-2048 : Int32) ≤ rZ_fieldC 4 w ∧ rZ_fieldC 4 w ≤ 2047 := rng (by simp at h3 ⊢; omega) (by simp at h3 ⊢; omega)
  simp only [rZ_fits, nr_eq, ot_eq, if_pos h4, fA4, fB4, if_pos (and_bd _)]
  rfl
theorem md5 (a b c : Int32) : rZ_made 5 a b c = ((b <<< ((12 : Int32) &&& 31)) ||| (a <<< ((7 : Int32) &&& 31))) ||| (55 : Int32) := rfl
set_option maxRecDepth 100000 in
theorem mk5 (w : Int32) : rZ_made 5 (rZ_fieldA 5 w) (rZ_fieldB 5 w) (rZ_fieldC 5 w) = w ↔ fO w = 55 := by
  rw [fO_cs w 55 (by decide +kernel), fA5, fB5, fC5, md5]
  apply cs_key
  · (repeat (first | with_reducible exact sy_var | with_reducible apply sy_or | with_reducible apply sy_and | with_reducible apply yl1 | with_reducible apply yl2 | with_reducible apply yl5 | with_reducible apply yl6 | with_reducible apply yl7 | with_reducible apply yl8 | with_reducible apply yl11 | with_reducible apply yl12 | with_reducible apply yl15 | with_reducible apply yl16 | with_reducible apply yl20 | with_reducible apply yl21 | with_reducible apply yl24 | with_reducible apply yl25 | with_reducible apply yl31 | with_reducible apply yr1 | with_reducible apply yr2 | with_reducible apply yr5 | with_reducible apply yr7 | with_reducible apply yr8 | with_reducible apply yr11 | with_reducible apply yr12 | with_reducible apply yr15 | with_reducible apply yr20 | with_reducible apply yr21 | with_reducible apply yr25 | with_reducible apply yr31 | with_reducible apply yu2 | with_reducible apply yu7 | with_reducible apply yu8 | with_reducible apply yu12 | with_reducible apply yu15 | with_reducible apply yu16 | with_reducible apply yu20 | with_reducible apply yu21 | with_reducible apply yu24 | with_reducible apply yu25 | with_reducible exact sy_lit _ | decide +kernel))
  all_goals decide +kernel
theorem ft5 (w : Int32) : rZ_fits 5 (rZ_fieldA 5 w) (rZ_fieldB 5 w) (rZ_fieldC 5 w) = 1 := by
  have hs : ∃ f : Nat → Nat, SY w (rZ_fieldB 5 w) f ∧ (∀ i, i < 32 → 20 ≤ i → f i = f 31) ∧ f 31 = 0 := by
    rw [fB5]
    apply sy_ex2
    · (repeat (first | with_reducible exact sy_var | with_reducible apply sy_or | with_reducible apply sy_and | with_reducible apply yl1 | with_reducible apply yl2 | with_reducible apply yl5 | with_reducible apply yl6 | with_reducible apply yl7 | with_reducible apply yl8 | with_reducible apply yl11 | with_reducible apply yl12 | with_reducible apply yl15 | with_reducible apply yl16 | with_reducible apply yl20 | with_reducible apply yl21 | with_reducible apply yl24 | with_reducible apply yl25 | with_reducible apply yl31 | with_reducible apply yr1 | with_reducible apply yr2 | with_reducible apply yr5 | with_reducible apply yr7 | with_reducible apply yr8 | with_reducible apply yr11 | with_reducible apply yr12 | with_reducible apply yr15 | with_reducible apply yr20 | with_reducible apply yr21 | with_reducible apply yr25 | with_reducible apply yr31 | with_reducible apply yu2 | with_reducible apply yu7 | with_reducible apply yu8 | with_reducible apply yu12 | with_reducible apply yu15 | with_reducible apply yu16 | with_reducible apply yu20 | with_reducible apply yu21 | with_reducible apply yu24 | with_reducible apply yu25 | with_reducible exact sy_lit _ | decide +kernel))
    · constructor <;> decide +kernel
  obtain ⟨f, h1, h2, h3⟩ := hs
  have h4 := sy_bd h1 20 (by decide) h2
  have h5 := sy_nn h1 h3
  have h6 : (0 : Int32) ≤ rZ_fieldB 5 w ∧ rZ_fieldB 5 w ≤ 1048575 := rng (by simp at h5 ⊢; omega) (by simp at h4 ⊢; omega)
  simp only [rZ_fits, nr_eq, ot_eq, if_pos h6, fA5, if_pos (and_bd _)]
  rfl
theorem md6 (a b c : Int32) : rZ_made 6 a b c = ((((c <<< ((20 : Int32) &&& 31)) ||| (b <<< ((15 : Int32) &&& 31))) ||| ((2 : Int32) <<< ((12 : Int32) &&& 31))) ||| (a <<< ((7 : Int32) &&& 31))) ||| (3 : Int32) := rfl
set_option maxRecDepth 100000 in
theorem mk6 (w : Int32) : rZ_made 6 (rZ_fieldA 6 w) (rZ_fieldB 6 w) (rZ_fieldC 6 w) = w ↔ fO w = 3 ∧ fT w = 2 := by
  rw [fO_cs w 3 (by decide +kernel), fT_cs w 2 (by decide +kernel), ← cs_app, fA6, fB6, fC6, md6]
  apply cs_key
  · (repeat (first | with_reducible exact sy_var | with_reducible apply sy_or | with_reducible apply sy_and | with_reducible apply yl1 | with_reducible apply yl2 | with_reducible apply yl5 | with_reducible apply yl6 | with_reducible apply yl7 | with_reducible apply yl8 | with_reducible apply yl11 | with_reducible apply yl12 | with_reducible apply yl15 | with_reducible apply yl16 | with_reducible apply yl20 | with_reducible apply yl21 | with_reducible apply yl24 | with_reducible apply yl25 | with_reducible apply yl31 | with_reducible apply yr1 | with_reducible apply yr2 | with_reducible apply yr5 | with_reducible apply yr7 | with_reducible apply yr8 | with_reducible apply yr11 | with_reducible apply yr12 | with_reducible apply yr15 | with_reducible apply yr20 | with_reducible apply yr21 | with_reducible apply yr25 | with_reducible apply yr31 | with_reducible apply yu2 | with_reducible apply yu7 | with_reducible apply yu8 | with_reducible apply yu12 | with_reducible apply yu15 | with_reducible apply yu16 | with_reducible apply yu20 | with_reducible apply yu21 | with_reducible apply yu24 | with_reducible apply yu25 | with_reducible exact sy_lit _ | decide +kernel))
  all_goals decide +kernel
theorem ft6 (w : Int32) : rZ_fits 6 (rZ_fieldA 6 w) (rZ_fieldB 6 w) (rZ_fieldC 6 w) = 1 := by
  have hs : ∃ f : Nat → Nat, SY w (rZ_fieldC 6 w) f ∧ (∀ i, i < 32 → 11 ≤ i → f i = f 31) := by
    rw [fC6]
    apply sy_ex2
    · (repeat (first | with_reducible exact sy_var | with_reducible apply sy_or | with_reducible apply sy_and | with_reducible apply yl1 | with_reducible apply yl2 | with_reducible apply yl5 | with_reducible apply yl6 | with_reducible apply yl7 | with_reducible apply yl8 | with_reducible apply yl11 | with_reducible apply yl12 | with_reducible apply yl15 | with_reducible apply yl16 | with_reducible apply yl20 | with_reducible apply yl21 | with_reducible apply yl24 | with_reducible apply yl25 | with_reducible apply yl31 | with_reducible apply yr1 | with_reducible apply yr2 | with_reducible apply yr5 | with_reducible apply yr7 | with_reducible apply yr8 | with_reducible apply yr11 | with_reducible apply yr12 | with_reducible apply yr15 | with_reducible apply yr20 | with_reducible apply yr21 | with_reducible apply yr25 | with_reducible apply yr31 | with_reducible apply yu2 | with_reducible apply yu7 | with_reducible apply yu8 | with_reducible apply yu12 | with_reducible apply yu15 | with_reducible apply yu16 | with_reducible apply yu20 | with_reducible apply yu21 | with_reducible apply yu24 | with_reducible apply yu25 | with_reducible exact sy_lit _ | decide +kernel))
    · decide +kernel
  obtain ⟨f, h1, h2⟩ := hs
  have h3 := sy_bd h1 11 (by decide) h2
  have h4 : (-2048 : Int32) ≤ rZ_fieldC 6 w ∧ rZ_fieldC 6 w ≤ 2047 := rng (by simp at h3 ⊢; omega) (by simp at h3 ⊢; omega)
  simp only [rZ_fits, nr_eq, ot_eq, if_pos h4, fA6, fB6, if_pos (and_bd _)]
  rfl
theorem md7 (a b c : Int32) : rZ_made 7 a b c = (((((((c >>> ((5 : Int32) &&& 31)) &&& (127 : Int32)) <<< ((25 : Int32) &&& 31)) ||| (a <<< ((20 : Int32) &&& 31))) ||| (b <<< ((15 : Int32) &&& 31))) ||| ((2 : Int32) <<< ((12 : Int32) &&& 31))) ||| ((c &&& (31 : Int32)) <<< ((7 : Int32) &&& 31))) ||| (35 : Int32) := rfl
set_option maxRecDepth 100000 in
theorem mk7 (w : Int32) : rZ_made 7 (rZ_fieldA 7 w) (rZ_fieldB 7 w) (rZ_fieldC 7 w) = w ↔ fO w = 35 ∧ fT w = 2 := by
  rw [fO_cs w 35 (by decide +kernel), fT_cs w 2 (by decide +kernel), ← cs_app, fA7, fB7, fC7, md7]
  apply cs_key
  · (repeat (first | with_reducible exact sy_var | with_reducible apply sy_or | with_reducible apply sy_and | with_reducible apply yl1 | with_reducible apply yl2 | with_reducible apply yl5 | with_reducible apply yl6 | with_reducible apply yl7 | with_reducible apply yl8 | with_reducible apply yl11 | with_reducible apply yl12 | with_reducible apply yl15 | with_reducible apply yl16 | with_reducible apply yl20 | with_reducible apply yl21 | with_reducible apply yl24 | with_reducible apply yl25 | with_reducible apply yl31 | with_reducible apply yr1 | with_reducible apply yr2 | with_reducible apply yr5 | with_reducible apply yr7 | with_reducible apply yr8 | with_reducible apply yr11 | with_reducible apply yr12 | with_reducible apply yr15 | with_reducible apply yr20 | with_reducible apply yr21 | with_reducible apply yr25 | with_reducible apply yr31 | with_reducible apply yu2 | with_reducible apply yu7 | with_reducible apply yu8 | with_reducible apply yu12 | with_reducible apply yu15 | with_reducible apply yu16 | with_reducible apply yu20 | with_reducible apply yu21 | with_reducible apply yu24 | with_reducible apply yu25 | with_reducible exact sy_lit _ | decide +kernel))
  all_goals decide +kernel
theorem ft7 (w : Int32) : rZ_fits 7 (rZ_fieldA 7 w) (rZ_fieldB 7 w) (rZ_fieldC 7 w) = 1 := by
  have hs : ∃ f : Nat → Nat, SY w (rZ_fieldC 7 w) f ∧ (∀ i, i < 32 → 11 ≤ i → f i = f 31) := by
    rw [fC7]
    apply sy_ex2
    · (repeat (first | with_reducible exact sy_var | with_reducible apply sy_or | with_reducible apply sy_and | with_reducible apply yl1 | with_reducible apply yl2 | with_reducible apply yl5 | with_reducible apply yl6 | with_reducible apply yl7 | with_reducible apply yl8 | with_reducible apply yl11 | with_reducible apply yl12 | with_reducible apply yl15 | with_reducible apply yl16 | with_reducible apply yl20 | with_reducible apply yl21 | with_reducible apply yl24 | with_reducible apply yl25 | with_reducible apply yl31 | with_reducible apply yr1 | with_reducible apply yr2 | with_reducible apply yr5 | with_reducible apply yr7 | with_reducible apply yr8 | with_reducible apply yr11 | with_reducible apply yr12 | with_reducible apply yr15 | with_reducible apply yr20 | with_reducible apply yr21 | with_reducible apply yr25 | with_reducible apply yr31 | with_reducible apply yu2 | with_reducible apply yu7 | with_reducible apply yu8 | with_reducible apply yu12 | with_reducible apply yu15 | with_reducible apply yu16 | with_reducible apply yu20 | with_reducible apply yu21 | with_reducible apply yu24 | with_reducible apply yu25 | with_reducible exact sy_lit _ | decide +kernel))
    · decide +kernel
  obtain ⟨f, h1, h2⟩ := hs
  have h3 := sy_bd h1 11 (by decide) h2
  have h4 : (-2048 : Int32) ≤ rZ_fieldC 7 w ∧ rZ_fieldC 7 w ≤ 2047 := rng (by simp at h3 ⊢; omega) (by simp at h3 ⊢; omega)
  simp only [rZ_fits, nr_eq, ot_eq, if_pos h4, fA7, fB7, if_pos (and_bd _)]
  rfl
theorem md8 (a b c : Int32) : rZ_made 8 a b c = ((((((((((c) >>> ((12 : Int32) &&& 31)) &&& (1 : Int32)) <<< ((6 : Int32) &&& 31)) ||| (((c) >>> ((5 : Int32) &&& 31)) &&& (63 : Int32))) <<< ((25 : Int32) &&& 31)) ||| (b <<< ((20 : Int32) &&& 31))) ||| (a <<< ((15 : Int32) &&& 31))) ||| ((0 : Int32) <<< ((12 : Int32) &&& 31))) ||| ((((c) &&& (30 : Int32)) ||| (((c) >>> ((11 : Int32) &&& 31)) &&& (1 : Int32))) <<< ((7 : Int32) &&& 31))) ||| (99 : Int32) := rfl
set_option maxRecDepth 100000 in
theorem mk8 (w : Int32) : rZ_made 8 (rZ_fieldA 8 w) (rZ_fieldB 8 w) (rZ_fieldC 8 w) = w ↔ fO w = 99 ∧ fT w = 0 := by
  rw [fO_cs w 99 (by decide +kernel), fT_cs w 0 (by decide +kernel), ← cs_app, fA8, fB8, fC8, md8]
  apply cs_key
  · (repeat (first | with_reducible exact sy_var | with_reducible apply sy_or | with_reducible apply sy_and | with_reducible apply yl1 | with_reducible apply yl2 | with_reducible apply yl5 | with_reducible apply yl6 | with_reducible apply yl7 | with_reducible apply yl8 | with_reducible apply yl11 | with_reducible apply yl12 | with_reducible apply yl15 | with_reducible apply yl16 | with_reducible apply yl20 | with_reducible apply yl21 | with_reducible apply yl24 | with_reducible apply yl25 | with_reducible apply yl31 | with_reducible apply yr1 | with_reducible apply yr2 | with_reducible apply yr5 | with_reducible apply yr7 | with_reducible apply yr8 | with_reducible apply yr11 | with_reducible apply yr12 | with_reducible apply yr15 | with_reducible apply yr20 | with_reducible apply yr21 | with_reducible apply yr25 | with_reducible apply yr31 | with_reducible apply yu2 | with_reducible apply yu7 | with_reducible apply yu8 | with_reducible apply yu12 | with_reducible apply yu15 | with_reducible apply yu16 | with_reducible apply yu20 | with_reducible apply yu21 | with_reducible apply yu24 | with_reducible apply yu25 | with_reducible exact sy_lit _ | decide +kernel))
  all_goals decide +kernel
theorem ft8 (w : Int32) : rZ_fits 8 (rZ_fieldA 8 w) (rZ_fieldB 8 w) (rZ_fieldC 8 w) = 1 := by
  have hs : ∃ f : Nat → Nat, SY w (rZ_fieldC 8 w) f ∧ (∀ i, i < 32 → 12 ≤ i → f i = f 31) ∧ f 0 = 0 := by
    rw [fC8]
    apply sy_ex2
    · (repeat (first | with_reducible exact sy_var | with_reducible apply sy_or | with_reducible apply sy_and | with_reducible apply yl1 | with_reducible apply yl2 | with_reducible apply yl5 | with_reducible apply yl6 | with_reducible apply yl7 | with_reducible apply yl8 | with_reducible apply yl11 | with_reducible apply yl12 | with_reducible apply yl15 | with_reducible apply yl16 | with_reducible apply yl20 | with_reducible apply yl21 | with_reducible apply yl24 | with_reducible apply yl25 | with_reducible apply yl31 | with_reducible apply yr1 | with_reducible apply yr2 | with_reducible apply yr5 | with_reducible apply yr7 | with_reducible apply yr8 | with_reducible apply yr11 | with_reducible apply yr12 | with_reducible apply yr15 | with_reducible apply yr20 | with_reducible apply yr21 | with_reducible apply yr25 | with_reducible apply yr31 | with_reducible apply yu2 | with_reducible apply yu7 | with_reducible apply yu8 | with_reducible apply yu12 | with_reducible apply yu15 | with_reducible apply yu16 | with_reducible apply yu20 | with_reducible apply yu21 | with_reducible apply yu24 | with_reducible apply yu25 | with_reducible exact sy_lit _ | decide +kernel))
    · constructor <;> decide +kernel
  obtain ⟨f, h1, h2, h3⟩ := hs
  have h4 := sy_bd h1 12 (by decide) h2
  have h5 : bt (rZ_fieldC 8 w) 0 = false := by rw [h1 0 (by decide), h3]; rfl
  rw [bt0] at h5
  have h5 := of_decide_eq_false h5
  have h6 : (-4096 : Int32) ≤ rZ_fieldC 8 w ∧ rZ_fieldC 8 w ≤ 4094 := rng (by simp at h4 ⊢; omega) (by simp at h4 ⊢; omega)
  have h7 : rZ_fieldC 8 w - rZ_fieldC 8 w / 2 * 2 = 0 := by
    rw [← Int32.toInt_inj, rem2_i, show (0 : Int32).toInt = 0 from rfl]
    split <;> omega
  simp only [rZ_fits, nr_eq, ot_eq, if_pos h6, if_pos h7, fA8, fB8, if_pos (and_bd _)]
  rfl
theorem md9 (a b c : Int32) : rZ_made 9 a b c = ((((((((((c) >>> ((12 : Int32) &&& 31)) &&& (1 : Int32)) <<< ((6 : Int32) &&& 31)) ||| (((c) >>> ((5 : Int32) &&& 31)) &&& (63 : Int32))) <<< ((25 : Int32) &&& 31)) ||| (b <<< ((20 : Int32) &&& 31))) ||| (a <<< ((15 : Int32) &&& 31))) ||| ((1 : Int32) <<< ((12 : Int32) &&& 31))) ||| ((((c) &&& (30 : Int32)) ||| (((c) >>> ((11 : Int32) &&& 31)) &&& (1 : Int32))) <<< ((7 : Int32) &&& 31))) ||| (99 : Int32) := rfl
set_option maxRecDepth 100000 in
theorem mk9 (w : Int32) : rZ_made 9 (rZ_fieldA 9 w) (rZ_fieldB 9 w) (rZ_fieldC 9 w) = w ↔ fO w = 99 ∧ fT w = 1 := by
  rw [fO_cs w 99 (by decide +kernel), fT_cs w 1 (by decide +kernel), ← cs_app, fA9, fB9, fC9, md9]
  apply cs_key
  · (repeat (first | with_reducible exact sy_var | with_reducible apply sy_or | with_reducible apply sy_and | with_reducible apply yl1 | with_reducible apply yl2 | with_reducible apply yl5 | with_reducible apply yl6 | with_reducible apply yl7 | with_reducible apply yl8 | with_reducible apply yl11 | with_reducible apply yl12 | with_reducible apply yl15 | with_reducible apply yl16 | with_reducible apply yl20 | with_reducible apply yl21 | with_reducible apply yl24 | with_reducible apply yl25 | with_reducible apply yl31 | with_reducible apply yr1 | with_reducible apply yr2 | with_reducible apply yr5 | with_reducible apply yr7 | with_reducible apply yr8 | with_reducible apply yr11 | with_reducible apply yr12 | with_reducible apply yr15 | with_reducible apply yr20 | with_reducible apply yr21 | with_reducible apply yr25 | with_reducible apply yr31 | with_reducible apply yu2 | with_reducible apply yu7 | with_reducible apply yu8 | with_reducible apply yu12 | with_reducible apply yu15 | with_reducible apply yu16 | with_reducible apply yu20 | with_reducible apply yu21 | with_reducible apply yu24 | with_reducible apply yu25 | with_reducible exact sy_lit _ | decide +kernel))
  all_goals decide +kernel
theorem ft9 (w : Int32) : rZ_fits 9 (rZ_fieldA 9 w) (rZ_fieldB 9 w) (rZ_fieldC 9 w) = 1 := by
  have hs : ∃ f : Nat → Nat, SY w (rZ_fieldC 9 w) f ∧ (∀ i, i < 32 → 12 ≤ i → f i = f 31) ∧ f 0 = 0 := by
    rw [fC9]
    apply sy_ex2
    · (repeat (first | with_reducible exact sy_var | with_reducible apply sy_or | with_reducible apply sy_and | with_reducible apply yl1 | with_reducible apply yl2 | with_reducible apply yl5 | with_reducible apply yl6 | with_reducible apply yl7 | with_reducible apply yl8 | with_reducible apply yl11 | with_reducible apply yl12 | with_reducible apply yl15 | with_reducible apply yl16 | with_reducible apply yl20 | with_reducible apply yl21 | with_reducible apply yl24 | with_reducible apply yl25 | with_reducible apply yl31 | with_reducible apply yr1 | with_reducible apply yr2 | with_reducible apply yr5 | with_reducible apply yr7 | with_reducible apply yr8 | with_reducible apply yr11 | with_reducible apply yr12 | with_reducible apply yr15 | with_reducible apply yr20 | with_reducible apply yr21 | with_reducible apply yr25 | with_reducible apply yr31 | with_reducible apply yu2 | with_reducible apply yu7 | with_reducible apply yu8 | with_reducible apply yu12 | with_reducible apply yu15 | with_reducible apply yu16 | with_reducible apply yu20 | with_reducible apply yu21 | with_reducible apply yu24 | with_reducible apply yu25 | with_reducible exact sy_lit _ | decide +kernel))
    · constructor <;> decide +kernel
  obtain ⟨f, h1, h2, h3⟩ := hs
  have h4 := sy_bd h1 12 (by decide) h2
  have h5 : bt (rZ_fieldC 9 w) 0 = false := by rw [h1 0 (by decide), h3]; rfl
  rw [bt0] at h5
  have h5 := of_decide_eq_false h5
  have h6 : (-4096 : Int32) ≤ rZ_fieldC 9 w ∧ rZ_fieldC 9 w ≤ 4094 := rng (by simp at h4 ⊢; omega) (by simp at h4 ⊢; omega)
  have h7 : rZ_fieldC 9 w - rZ_fieldC 9 w / 2 * 2 = 0 := by
    rw [← Int32.toInt_inj, rem2_i, show (0 : Int32).toInt = 0 from rfl]
    split <;> omega
  simp only [rZ_fits, nr_eq, ot_eq, if_pos h6, if_pos h7, fA9, fB9, if_pos (and_bd _)]
  rfl
theorem md10 (a b c : Int32) : rZ_made 10 a b c = ((((((((((c) >>> ((12 : Int32) &&& 31)) &&& (1 : Int32)) <<< ((6 : Int32) &&& 31)) ||| (((c) >>> ((5 : Int32) &&& 31)) &&& (63 : Int32))) <<< ((25 : Int32) &&& 31)) ||| (b <<< ((20 : Int32) &&& 31))) ||| (a <<< ((15 : Int32) &&& 31))) ||| ((4 : Int32) <<< ((12 : Int32) &&& 31))) ||| ((((c) &&& (30 : Int32)) ||| (((c) >>> ((11 : Int32) &&& 31)) &&& (1 : Int32))) <<< ((7 : Int32) &&& 31))) ||| (99 : Int32) := rfl
set_option maxRecDepth 100000 in
theorem mk10 (w : Int32) : rZ_made 10 (rZ_fieldA 10 w) (rZ_fieldB 10 w) (rZ_fieldC 10 w) = w ↔ fO w = 99 ∧ fT w = 4 := by
  rw [fO_cs w 99 (by decide +kernel), fT_cs w 4 (by decide +kernel), ← cs_app, fA10, fB10, fC10, md10]
  apply cs_key
  · (repeat (first | with_reducible exact sy_var | with_reducible apply sy_or | with_reducible apply sy_and | with_reducible apply yl1 | with_reducible apply yl2 | with_reducible apply yl5 | with_reducible apply yl6 | with_reducible apply yl7 | with_reducible apply yl8 | with_reducible apply yl11 | with_reducible apply yl12 | with_reducible apply yl15 | with_reducible apply yl16 | with_reducible apply yl20 | with_reducible apply yl21 | with_reducible apply yl24 | with_reducible apply yl25 | with_reducible apply yl31 | with_reducible apply yr1 | with_reducible apply yr2 | with_reducible apply yr5 | with_reducible apply yr7 | with_reducible apply yr8 | with_reducible apply yr11 | with_reducible apply yr12 | with_reducible apply yr15 | with_reducible apply yr20 | with_reducible apply yr21 | with_reducible apply yr25 | with_reducible apply yr31 | with_reducible apply yu2 | with_reducible apply yu7 | with_reducible apply yu8 | with_reducible apply yu12 | with_reducible apply yu15 | with_reducible apply yu16 | with_reducible apply yu20 | with_reducible apply yu21 | with_reducible apply yu24 | with_reducible apply yu25 | with_reducible exact sy_lit _ | decide +kernel))
  all_goals decide +kernel
theorem ft10 (w : Int32) : rZ_fits 10 (rZ_fieldA 10 w) (rZ_fieldB 10 w) (rZ_fieldC 10 w) = 1 := by
  have hs : ∃ f : Nat → Nat, SY w (rZ_fieldC 10 w) f ∧ (∀ i, i < 32 → 12 ≤ i → f i = f 31) ∧ f 0 = 0 := by
    rw [fC10]
    apply sy_ex2
    · (repeat (first | with_reducible exact sy_var | with_reducible apply sy_or | with_reducible apply sy_and | with_reducible apply yl1 | with_reducible apply yl2 | with_reducible apply yl5 | with_reducible apply yl6 | with_reducible apply yl7 | with_reducible apply yl8 | with_reducible apply yl11 | with_reducible apply yl12 | with_reducible apply yl15 | with_reducible apply yl16 | with_reducible apply yl20 | with_reducible apply yl21 | with_reducible apply yl24 | with_reducible apply yl25 | with_reducible apply yl31 | with_reducible apply yr1 | with_reducible apply yr2 | with_reducible apply yr5 | with_reducible apply yr7 | with_reducible apply yr8 | with_reducible apply yr11 | with_reducible apply yr12 | with_reducible apply yr15 | with_reducible apply yr20 | with_reducible apply yr21 | with_reducible apply yr25 | with_reducible apply yr31 | with_reducible apply yu2 | with_reducible apply yu7 | with_reducible apply yu8 | with_reducible apply yu12 | with_reducible apply yu15 | with_reducible apply yu16 | with_reducible apply yu20 | with_reducible apply yu21 | with_reducible apply yu24 | with_reducible apply yu25 | with_reducible exact sy_lit _ | decide +kernel))
    · constructor <;> decide +kernel
  obtain ⟨f, h1, h2, h3⟩ := hs
  have h4 := sy_bd h1 12 (by decide) h2
  have h5 : bt (rZ_fieldC 10 w) 0 = false := by rw [h1 0 (by decide), h3]; rfl
  rw [bt0] at h5
  have h5 := of_decide_eq_false h5
  have h6 : (-4096 : Int32) ≤ rZ_fieldC 10 w ∧ rZ_fieldC 10 w ≤ 4094 := rng (by simp at h4 ⊢; omega) (by simp at h4 ⊢; omega)
  have h7 : rZ_fieldC 10 w - rZ_fieldC 10 w / 2 * 2 = 0 := by
    rw [← Int32.toInt_inj, rem2_i, show (0 : Int32).toInt = 0 from rfl]
    split <;> omega
  simp only [rZ_fits, nr_eq, ot_eq, if_pos h6, if_pos h7, fA10, fB10, if_pos (and_bd _)]
  rfl
theorem md11 (a b c : Int32) : rZ_made 11 a b c = (((((((b) >>> ((20 : Int32) &&& 31)) &&& (1 : Int32)) <<< ((31 : Int32) &&& 31)) ||| ((((b) >>> ((1 : Int32) &&& 31)) &&& (1023 : Int32)) <<< ((21 : Int32) &&& 31))) ||| ((((b) >>> ((11 : Int32) &&& 31)) &&& (1 : Int32)) <<< ((20 : Int32) &&& 31))) ||| ((((b) >>> ((12 : Int32) &&& 31)) &&& (255 : Int32)) <<< ((12 : Int32) &&& 31))) ||| (a <<< ((7 : Int32) &&& 31)) ||| (111 : Int32) := rfl
set_option maxRecDepth 100000 in
theorem mk11 (w : Int32) : rZ_made 11 (rZ_fieldA 11 w) (rZ_fieldB 11 w) (rZ_fieldC 11 w) = w ↔ fO w = 111 := by
  rw [fO_cs w 111 (by decide +kernel), fA11, fB11, fC11, md11]
  apply cs_key
  · (repeat (first | with_reducible exact sy_var | with_reducible apply sy_or | with_reducible apply sy_and | with_reducible apply yl1 | with_reducible apply yl2 | with_reducible apply yl5 | with_reducible apply yl6 | with_reducible apply yl7 | with_reducible apply yl8 | with_reducible apply yl11 | with_reducible apply yl12 | with_reducible apply yl15 | with_reducible apply yl16 | with_reducible apply yl20 | with_reducible apply yl21 | with_reducible apply yl24 | with_reducible apply yl25 | with_reducible apply yl31 | with_reducible apply yr1 | with_reducible apply yr2 | with_reducible apply yr5 | with_reducible apply yr7 | with_reducible apply yr8 | with_reducible apply yr11 | with_reducible apply yr12 | with_reducible apply yr15 | with_reducible apply yr20 | with_reducible apply yr21 | with_reducible apply yr25 | with_reducible apply yr31 | with_reducible apply yu2 | with_reducible apply yu7 | with_reducible apply yu8 | with_reducible apply yu12 | with_reducible apply yu15 | with_reducible apply yu16 | with_reducible apply yu20 | with_reducible apply yu21 | with_reducible apply yu24 | with_reducible apply yu25 | with_reducible exact sy_lit _ | decide +kernel))
  all_goals decide +kernel
theorem ft11 (w : Int32) : rZ_fits 11 (rZ_fieldA 11 w) (rZ_fieldB 11 w) (rZ_fieldC 11 w) = 1 := by
  have hs : ∃ f : Nat → Nat, SY w (rZ_fieldB 11 w) f ∧ (∀ i, i < 32 → 20 ≤ i → f i = f 31) ∧ f 0 = 0 := by
    rw [fB11]
    apply sy_ex2
    · (repeat (first | with_reducible exact sy_var | with_reducible apply sy_or | with_reducible apply sy_and | with_reducible apply yl1 | with_reducible apply yl2 | with_reducible apply yl5 | with_reducible apply yl6 | with_reducible apply yl7 | with_reducible apply yl8 | with_reducible apply yl11 | with_reducible apply yl12 | with_reducible apply yl15 | with_reducible apply yl16 | with_reducible apply yl20 | with_reducible apply yl21 | with_reducible apply yl24 | with_reducible apply yl25 | with_reducible apply yl31 | with_reducible apply yr1 | with_reducible apply yr2 | with_reducible apply yr5 | with_reducible apply yr7 | with_reducible apply yr8 | with_reducible apply yr11 | with_reducible apply yr12 | with_reducible apply yr15 | with_reducible apply yr20 | with_reducible apply yr21 | with_reducible apply yr25 | with_reducible apply yr31 | with_reducible apply yu2 | with_reducible apply yu7 | with_reducible apply yu8 | with_reducible apply yu12 | with_reducible apply yu15 | with_reducible apply yu16 | with_reducible apply yu20 | with_reducible apply yu21 | with_reducible apply yu24 | with_reducible apply yu25 | with_reducible exact sy_lit _ | decide +kernel))
    · constructor <;> decide +kernel
  obtain ⟨f, h1, h2, h3⟩ := hs
  have h4 := sy_bd h1 20 (by decide) h2
  have h5 : bt (rZ_fieldB 11 w) 0 = false := by rw [h1 0 (by decide), h3]; rfl
  rw [bt0] at h5
  have h5 := of_decide_eq_false h5
  have h6 : (-1048576 : Int32) ≤ rZ_fieldB 11 w ∧ rZ_fieldB 11 w ≤ 1048574 := rng (by simp at h4 ⊢; omega) (by simp at h4 ⊢; omega)
  have h7 : rZ_fieldB 11 w - rZ_fieldB 11 w / 2 * 2 = 0 := by
    rw [← Int32.toInt_inj, rem2_i, show (0 : Int32).toInt = 0 from rfl]
    split <;> omega
  simp only [rZ_fits, nr_eq, ot_eq, if_pos h6, if_pos h7, fA11, if_pos (and_bd _)]
  rfl
theorem md12 (a b c : Int32) : rZ_made 12 a b c = ((((c <<< ((20 : Int32) &&& 31)) ||| (b <<< ((15 : Int32) &&& 31))) ||| ((0 : Int32) <<< ((12 : Int32) &&& 31))) ||| (a <<< ((7 : Int32) &&& 31))) ||| (103 : Int32) := rfl
set_option maxRecDepth 100000 in
theorem mk12 (w : Int32) : rZ_made 12 (rZ_fieldA 12 w) (rZ_fieldB 12 w) (rZ_fieldC 12 w) = w ↔ fO w = 103 ∧ fT w = 0 := by
  rw [fO_cs w 103 (by decide +kernel), fT_cs w 0 (by decide +kernel), ← cs_app, fA12, fB12, fC12, md12]
  apply cs_key
  · (repeat (first | with_reducible exact sy_var | with_reducible apply sy_or | with_reducible apply sy_and | with_reducible apply yl1 | with_reducible apply yl2 | with_reducible apply yl5 | with_reducible apply yl6 | with_reducible apply yl7 | with_reducible apply yl8 | with_reducible apply yl11 | with_reducible apply yl12 | with_reducible apply yl15 | with_reducible apply yl16 | with_reducible apply yl20 | with_reducible apply yl21 | with_reducible apply yl24 | with_reducible apply yl25 | with_reducible apply yl31 | with_reducible apply yr1 | with_reducible apply yr2 | with_reducible apply yr5 | with_reducible apply yr7 | with_reducible apply yr8 | with_reducible apply yr11 | with_reducible apply yr12 | with_reducible apply yr15 | with_reducible apply yr20 | with_reducible apply yr21 | with_reducible apply yr25 | with_reducible apply yr31 | with_reducible apply yu2 | with_reducible apply yu7 | with_reducible apply yu8 | with_reducible apply yu12 | with_reducible apply yu15 | with_reducible apply yu16 | with_reducible apply yu20 | with_reducible apply yu21 | with_reducible apply yu24 | with_reducible apply yu25 | with_reducible exact sy_lit _ | decide +kernel))
  all_goals decide +kernel
theorem ft12 (w : Int32) : rZ_fits 12 (rZ_fieldA 12 w) (rZ_fieldB 12 w) (rZ_fieldC 12 w) = 1 := by
  have hs : ∃ f : Nat → Nat, SY w (rZ_fieldC 12 w) f ∧ (∀ i, i < 32 → 11 ≤ i → f i = f 31) := by
    rw [fC12]
    apply sy_ex2
    · (repeat (first | with_reducible exact sy_var | with_reducible apply sy_or | with_reducible apply sy_and | with_reducible apply yl1 | with_reducible apply yl2 | with_reducible apply yl5 | with_reducible apply yl6 | with_reducible apply yl7 | with_reducible apply yl8 | with_reducible apply yl11 | with_reducible apply yl12 | with_reducible apply yl15 | with_reducible apply yl16 | with_reducible apply yl20 | with_reducible apply yl21 | with_reducible apply yl24 | with_reducible apply yl25 | with_reducible apply yl31 | with_reducible apply yr1 | with_reducible apply yr2 | with_reducible apply yr5 | with_reducible apply yr7 | with_reducible apply yr8 | with_reducible apply yr11 | with_reducible apply yr12 | with_reducible apply yr15 | with_reducible apply yr20 | with_reducible apply yr21 | with_reducible apply yr25 | with_reducible apply yr31 | with_reducible apply yu2 | with_reducible apply yu7 | with_reducible apply yu8 | with_reducible apply yu12 | with_reducible apply yu15 | with_reducible apply yu16 | with_reducible apply yu20 | with_reducible apply yu21 | with_reducible apply yu24 | with_reducible apply yu25 | with_reducible exact sy_lit _ | decide +kernel))
    · decide +kernel
  obtain ⟨f, h1, h2⟩ := hs
  have h3 := sy_bd h1 11 (by decide) h2
  have h4 : (-2048 : Int32) ≤ rZ_fieldC 12 w ∧ rZ_fieldC 12 w ≤ 2047 := rng (by simp at h3 ⊢; omega) (by simp at h3 ⊢; omega)
  simp only [rZ_fits, nr_eq, ot_eq, if_pos h4, fA12, fB12, if_pos (and_bd _)]
  rfl
