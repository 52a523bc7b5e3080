/-! kind, assembled: the long ones, the short ones, both together; the fields -/
theorem kz_long (j : Nat → Int32) (c : Nat → Nat → Int32) (p : Int32) (h : ¬ rZ_isLong p = 0) : rZ_kind j c p = if fO p = 51 ∧ fT p = 0 ∧ fS p = 0 then (0 : Int32) else if fO p = 51 ∧ fT p = 0 ∧ fS p = 32 then (1 : Int32) else if fO p = 51 ∧ fT p = 7 ∧ fS p = 0 then (2 : Int32) else if fO p = 51 ∧ fT p = 6 ∧ fS p = 0 then (3 : Int32) else if fO p = 19 ∧ fT p = 0 then (4 : Int32) else if fO p = 55 then (5 : Int32) else if fO p = 3 ∧ fT p = 2 then (6 : Int32) else if fO p = 35 ∧ fT p = 2 then (7 : Int32) else if fO p = 99 ∧ fT p = 0 then (8 : Int32) else if fO p = 99 ∧ fT p = 1 then (9 : Int32) else if fO p = 99 ∧ fT p = 4 then (10 : Int32) else if fO p = 111 then (11 : Int32) else if fO p = 103 ∧ fT p = 0 then (12 : Int32) else (-1 : Int32) := by
  unfold rZ_kind
  rw [if_neg h]
  have st : ∀ (f : Nat) (n : Int32), ¬ (13 : Int32) ≤ n → rZ_fits n (rZ_fieldA n p) (rZ_fieldB n p) (rZ_fieldC n p) = 1 → rZ_kind_l (f + 1) j c p p n = if rZ_made n (rZ_fieldA n p) (rZ_fieldB n p) (rZ_fieldC n p) = p then n else rZ_kind_l f j c p p (n + 1) := by
    intro f n hn hf
    show (if (rZ_isLong p) = (0 : Int32) then _ else _) = _
    rw [if_neg h, if_neg hn, hf, if_neg (show ¬ (1 : Int32) = 0 by decide)]
  rw [show (((15 : Int32).toInt - Int32.toInt (0 : Int32)).toNat + 1) = 16 from rfl]
  rw [st 15 0 (by decide) (ft0 p), show ((0 : Int32) + 1) = 1 from rfl]
  rw [st 14 1 (by decide) (ft1 p), show ((1 : Int32) + 1) = 2 from rfl]
  rw [st 13 2 (by decide) (ft2 p), show ((2 : Int32) + 1) = 3 from rfl]
  rw [st 12 3 (by decide) (ft3 p), show ((3 : Int32) + 1) = 4 from rfl]
  rw [st 11 4 (by decide) (ft4 p), show ((4 : Int32) + 1) = 5 from rfl]
  rw [st 10 5 (by decide) (ft5 p), show ((5 : Int32) + 1) = 6 from rfl]
  rw [st 9 6 (by decide) (ft6 p), show ((6 : Int32) + 1) = 7 from rfl]
  rw [st 8 7 (by decide) (ft7 p), show ((7 : Int32) + 1) = 8 from rfl]
  rw [st 7 8 (by decide) (ft8 p), show ((8 : Int32) + 1) = 9 from rfl]
  rw [st 6 9 (by decide) (ft9 p), show ((9 : Int32) + 1) = 10 from rfl]
  rw [st 5 10 (by decide) (ft10 p), show ((10 : Int32) + 1) = 11 from rfl]
  rw [st 4 11 (by decide) (ft11 p), show ((11 : Int32) + 1) = 12 from rfl]
  rw [st 3 12 (by decide) (ft12 p), show ((12 : Int32) + 1) = 13 from rfl]
  have e13 : rZ_kind_l 3 j c p p 13 = -1 := by
    show (if (rZ_isLong p) = (0 : Int32) then _ else _) = _
    rw [if_neg h, if_pos (show (13 : Int32) ≤ 13 by decide)]
  rw [e13]
  simp only [mk0, mk1, mk2, mk3, mk4, mk5, mk6, mk7, mk8, mk9, mk10, mk11, mk12]
set_option maxHeartbeats 4000000 in
theorem kk_gen (o t s : Int32) : (if o = 3 then if t = 2 then (6 : Int32) else (-1 : Int32) else if o = 19 then if t = 0 then (4 : Int32) else (-1 : Int32) else if o = 35 then if t = 2 then (7 : Int32) else (-1 : Int32) else if o = 51 then rF_arithmeticKindOf s t else if o = 55 then (5 : Int32) else if o = 99 then rF_branchKindOf t else if o = 103 then if t = 0 then (12 : Int32) else (-1 : Int32) else if o = 111 then (11 : Int32) else (-1 : Int32)) = if o = 51 ∧ t = 0 ∧ s = 0 then (0 : Int32) else if o = 51 ∧ t = 0 ∧ s = 32 then (1 : Int32) else if o = 51 ∧ t = 7 ∧ s = 0 then (2 : Int32) else if o = 51 ∧ t = 6 ∧ s = 0 then (3 : Int32) else if o = 19 ∧ t = 0 then (4 : Int32) else if o = 55 then (5 : Int32) else if o = 3 ∧ t = 2 then (6 : Int32) else if o = 35 ∧ t = 2 then (7 : Int32) else if o = 99 ∧ t = 0 then (8 : Int32) else if o = 99 ∧ t = 1 then (9 : Int32) else if o = 99 ∧ t = 4 then (10 : Int32) else if o = 111 then (11 : Int32) else if o = 103 ∧ t = 0 then (12 : Int32) else (-1 : Int32) := by
  unfold rF_arithmeticKindOf rF_branchKindOf
  by_cases h1 : o = 3
  · subst h1; simp
  by_cases h2 : o = 19
  · subst h2; simp
  by_cases h3 : o = 35
  · subst h3; simp
  by_cases h4 : o = 51
  · subst h4; simp; grind
  by_cases h5 : o = 55
  · subst h5; simp
  by_cases h6 : o = 99
  · subst h6; simp; grind
  by_cases h7 : o = 103
  · subst h7; simp
  by_cases h8 : o = 111
  · subst h8; simp
  simp [h1, h2, h3, h4, h5, h6, h7, h8]
theorem kl_long (j : Nat → Int32) (c : Nat → Nat → Int32) (p : Int32) (h : ¬ rZ_isLong p = 0) : rF_kindOf p = rZ_kind j c p := by
  rw [kz_long j c p h, ← kk_gen]
  unfold rF_kindOf
  rw [if_neg (show ¬ rF_isLong p = 0 from h)]
theorem low_n (w : Int32) : ∃ n, n < 32 ∧ (w &&& 31) = nI n := by
  refine ⟨(w &&& 31).toBitVec.toNat, ?_, ?_⟩
  · have h : (w &&& 31).toBitVec.toNat ≤ 31 := by rw [Int32.toBitVec_and, BitVec.toNat_and]; exact Nat.and_le_right
    omega
  · refine Int32.toBitVec_inj.mp ?_
    show _ = BitVec.ofNat 32 _
    simp
theorem one_n (w : Int32) : (w &&& 1) = 0 ∨ (w &&& 1) = 1 := by
  have h : (w &&& 1).toBitVec.toNat ≤ 1 := by rw [Int32.toBitVec_and, BitVec.toNat_and]; exact Nat.and_le_right
  rcases (by omega : (w &&& 1).toBitVec.toNat = 0 ∨ (w &&& 1).toBitVec.toNat = 1) with h | h
  · exact Or.inl (Int32.toBitVec_inj.mp (BitVec.eq_of_toNat_eq h))
  · exact Or.inr (Int32.toBitVec_inj.mp (BitVec.eq_of_toNat_eq h))
theorem sn0 : ∀ n, n < 32 → (((0 : Int32) <<< ((5 : Int32) &&& 31)) ||| nI n) ≤ 31 ∧ (((0 : Int32) <<< ((5 : Int32) &&& 31)) ||| nI n) = nI n ∧ ((nI n >>> ((5 : Int32) &&& 31)) &&& 1) = 0 ∧ (nI n &&& 31) = nI n ∧ -32 ≤ nI n ∧ nI n ≤ 31 := by decide +kernel
theorem sn1 : ∀ n, n < 32 → ¬ (((1 : Int32) <<< ((5 : Int32) &&& 31)) ||| nI n) ≤ 31 ∧ (((1 : Int32) <<< ((5 : Int32) &&& 31)) ||| nI n) - 64 = nI n - 32 ∧ (((nI n - 32) >>> ((5 : Int32) &&& 31)) &&& 1) = 1 ∧ ((nI n - 32) &&& 31) = nI n ∧ -32 ≤ nI n - 32 ∧ nI n - 32 ≤ 31 := by decide +kernel
abbrev w2 (w : Int32) : Int32 := (w >>> ((2 : Int32) &&& 31)) &&& (31 : Int32)
abbrev w12 (w : Int32) : Int32 := (w >>> ((12 : Int32) &&& 31)) &&& (1 : Int32)
theorem u2_eq (w : Int32) : rF_shortRegister w = w2 w := by
  unfold rF_shortRegister
  apply sy_eq (w := w)
  · (repeat (first | with_reducible exact sy_var | with_reducible apply sy_or | with_reducible apply sy_and | with_reducible apply yl1 | with_reducible apply yl2 | with_reducible apply yl5 | with_reducible apply yl6 | with_reducible apply yl7 | with_reducible apply yl8 | with_reducible apply yl11 | with_reducible apply yl12 | with_reducible apply yl15 | with_reducible apply yl16 | with_reducible apply yl20 | with_reducible apply yl21 | with_reducible apply yl24 | with_reducible apply yl25 | with_reducible apply yl31 | with_reducible apply yr1 | with_reducible apply yr2 | with_reducible apply yr5 | with_reducible apply yr7 | with_reducible apply yr8 | with_reducible apply yr11 | with_reducible apply yr12 | with_reducible apply yr15 | with_reducible apply yr20 | with_reducible apply yr21 | with_reducible apply yr25 | with_reducible apply yr31 | with_reducible apply yu2 | with_reducible apply yu7 | with_reducible apply yu8 | with_reducible apply yu12 | with_reducible apply yu15 | with_reducible apply yu16 | with_reducible apply yu20 | with_reducible apply yu21 | with_reducible apply yu24 | with_reducible apply yu25 | with_reducible exact sy_lit _ | decide +kernel))
  · (repeat (first | with_reducible exact sy_var | with_reducible apply sy_or | with_reducible apply sy_and | with_reducible apply yl1 | with_reducible apply yl2 | with_reducible apply yl5 | with_reducible apply yl6 | with_reducible apply yl7 | with_reducible apply yl8 | with_reducible apply yl11 | with_reducible apply yl12 | with_reducible apply yl15 | with_reducible apply yl16 | with_reducible apply yl20 | with_reducible apply yl21 | with_reducible apply yl24 | with_reducible apply yl25 | with_reducible apply yl31 | with_reducible apply yr1 | with_reducible apply yr2 | with_reducible apply yr5 | with_reducible apply yr7 | with_reducible apply yr8 | with_reducible apply yr11 | with_reducible apply yr12 | with_reducible apply yr15 | with_reducible apply yr20 | with_reducible apply yr21 | with_reducible apply yr25 | with_reducible apply yr31 | with_reducible apply yu2 | with_reducible apply yu7 | with_reducible apply yu8 | with_reducible apply yu12 | with_reducible apply yu15 | with_reducible apply yu16 | with_reducible apply yu20 | with_reducible apply yu21 | with_reducible apply yu24 | with_reducible apply yu25 | with_reducible exact sy_lit _ | decide +kernel))
  · decide +kernel
theorem b12 (w : Int32) : (w &&& (4096 : Int32)) = 0 ↔ w12 w = 0 := by
  have h1 : (w &&& (4096 : Int32)) = 0 ↔ CS w [(12, false)] := by
    refine Iff.trans (cs_lit (f := fun i => anE (i + 2) (cond (bt 4096 i) 1 0)) (sy_and sy_var (sy_lit 4096) ?_) ?_) (cs_iff ?_ ?_) <;> decide +kernel
  have h2 : w12 w = 0 ↔ CS w [(12, false)] := by
    refine Iff.trans (cs_lit (f := fun i => anE (cond (Nat.ble 32 (12 + i)) (31 + 2) (12 + i + 2)) (cond (bt 1 i) 1 0)) (sy_and (yr12 sy_var) (sy_lit 1) ?_) ?_) (cs_iff ?_ ?_) <;> decide +kernel
  exact h1.trans h2.symm
theorem fB13 (w : Int32) : rZ_fieldB 13 w = if (((w12 w) <<< ((5 : Int32) &&& 31)) ||| (w2 w)) ≤ (31 : Int32) then (((w12 w) <<< ((5 : Int32) &&& 31)) ||| (w2 w)) else ((((w12 w) <<< ((5 : Int32) &&& 31)) ||| (w2 w)) - (64 : Int32)) := rfl
theorem sn_eq (w : Int32) : rF_shortNumber w = if w12 w = 0 then w2 w else w2 w - 32 := by
  unfold rF_shortNumber
  have e : (Int32.toUInt32 w >>> (Int32.toUInt32 (2 : Int32) &&& Int32.toUInt32 31)).toInt32 &&& (31 : Int32) = w2 w := u2_eq w
  simp only [b12, e]
theorem fB13_eq (w : Int32) : rZ_fieldB 13 w = rF_shortNumber w ∧ ((rF_shortNumber w >>> ((5 : Int32) &&& 31)) &&& 1) = w12 w ∧ (rF_shortNumber w &&& 31) = w2 w ∧ -32 ≤ rF_shortNumber w ∧ rF_shortNumber w ≤ 31 := by
  rw [fB13, sn_eq]
  obtain ⟨n, hn, e⟩ := low_n (w >>> ((2 : Int32) &&& 31))
  have e : w2 w = nI n := e
  rcases one_n (w >>> ((12 : Int32) &&& 31)) with h | h
  · have h : w12 w = 0 := h
    obtain ⟨g1, g2, g3, g4, g5, g6⟩ := sn0 n hn
    rw [e, h, if_pos g1, if_pos rfl]
    exact ⟨g2, g3, g4, g5, g6⟩
  · have h : w12 w = 1 := h
    obtain ⟨g1, g2, g3, g4, g5, g6⟩ := sn1 n hn
    rw [e, h, if_neg g1, if_neg (by decide)]
    exact ⟨g2, g3, g4, g5, g6⟩
theorem md13 (a b c : Int32) : rZ_made 13 a b c = ((((((b >>> ((5 : Int32) &&& 31)) &&& (1 : Int32)) <<< ((12 : Int32) &&& 31)) ||| (a <<< ((7 : Int32) &&& 31))) ||| ((b &&& (31 : Int32)) <<< ((2 : Int32) &&& 31))) ||| (1 : Int32)) := rfl
theorem md14 (a b c : Int32) : rZ_made 14 a b c = ((((32768 : Int32) ||| (a <<< ((7 : Int32) &&& 31))) ||| (b <<< ((2 : Int32) &&& 31))) ||| (2 : Int32)) := rfl
theorem fA13 (w : Int32) : rZ_fieldA 13 w = (w >>> ((7 : Int32) &&& 31)) &&& (31 : Int32) := rfl
theorem fA14 (w : Int32) : rZ_fieldA 14 w = (w >>> ((7 : Int32) &&& 31)) &&& (31 : Int32) := rfl
theorem fB14 (w : Int32) : rZ_fieldB 14 w = w2 w := rfl
def H16 : List (Nat × Bool) := [(16, false), (17, false), (18, false), (19, false), (20, false), (21, false), (22, false), (23, false), (24, false), (25, false), (26, false), (27, false), (28, false), (29, false), (30, false), (31, false)]
theorem hi16 (p : Int32) : CS (p &&& 65535) H16 := by
  intro q hq
  have h : ∀ q, q ∈ H16 → q.1 < 32 ∧ 16 ≤ q.1 ∧ q.2 = false := by decide +kernel
  obtain ⟨h1, h2, h3⟩ := h q hq
  rw [b_and, b_65535, h3]
  simp [Nat.not_lt.mpr h2]
theorem cs_16 {p : Int32} {l : List (Nat × Bool)} (h : ∀ q, q ∈ l → q.1 < 16) : CS (p &&& 65535) l ↔ CS p l := by
  constructor
  · intro hc q hq
    have := hc q hq
    rwa [b_and, b_65535, decide_eq_true (h q hq), Bool.and_true] at this
  · intro hc q hq
    rw [b_and, b_65535, decide_eq_true (h q hq), Bool.and_true]
    exact hc q hq
def L13 : List (Nat × Bool) := [(0, true), (1, false), (13, false), (14, false), (15, false)]
def L14 : List (Nat × Bool) := [(0, false), (1, true), (12, false), (13, false), (14, false), (15, true)]
theorem m13 (p : Int32) : (p &&& (57347 : Int32)) = 1 ↔ CS p L13 := by
  refine Iff.trans (cs_lit (f := fun i => anE (i + 2) (cond (bt 57347 i) 1 0)) (sy_and sy_var (sy_lit 57347) ?_) ?_) (cs_iff ?_ ?_) <;> decide +kernel
theorem m14 (p : Int32) : (p &&& (61443 : Int32)) = 32770 ↔ CS p L14 := by
  refine Iff.trans (cs_lit (f := fun i => anE (i + 2) (cond (bt 61443 i) 1 0)) (sy_and sy_var (sy_lit 61443) ?_) ?_) (cs_iff ?_ ?_) <;> decide +kernel
theorem mk13 (p c : Int32) : rZ_made 13 (rZ_fieldA 13 (p &&& 65535)) (rZ_fieldB 13 (p &&& 65535)) c = p &&& 65535 ↔ (p &&& (57347 : Int32)) = 1 := by
  have h16 := hi16 p
  have hL := cs_16 (p := p) (l := L13) (by decide)
  generalize p &&& (65535 : Int32) = w at h16 hL ⊢
  rw [m13, ← hL, (fB13_eq w).1, fA13, md13, (fB13_eq w).2.1, (fB13_eq w).2.2.1]
  have h : (((((w12 w) <<< ((12 : Int32) &&& 31)) ||| (((w >>> ((7 : Int32) &&& 31)) &&& (31 : Int32)) <<< ((7 : Int32) &&& 31))) ||| ((w2 w) <<< ((2 : Int32) &&& 31))) ||| (1 : Int32)) = w ↔ CS w (L13 ++ H16) := by
    simp only [w12, w2]
    apply cs_key
    · (repeat (first | with_reducible exact sy_var | with_reducible apply sy_or | with_reducible apply sy_and | with_reducible apply yl1 | with_reducible apply yl2 | with_reducible apply yl5 | with_reducible apply yl6 | with_reducible apply yl7 | with_reducible apply yl8 | with_reducible apply yl11 | with_reducible apply yl12 | with_reducible apply yl15 | with_reducible apply yl16 | with_reducible apply yl20 | with_reducible apply yl21 | with_reducible apply yl24 | with_reducible apply yl25 | with_reducible apply yl31 | with_reducible apply yr1 | with_reducible apply yr2 | with_reducible apply yr5 | with_reducible apply yr7 | with_reducible apply yr8 | with_reducible apply yr11 | with_reducible apply yr12 | with_reducible apply yr15 | with_reducible apply yr20 | with_reducible apply yr21 | with_reducible apply yr25 | with_reducible apply yr31 | with_reducible apply yu2 | with_reducible apply yu7 | with_reducible apply yu8 | with_reducible apply yu12 | with_reducible apply yu15 | with_reducible apply yu16 | with_reducible apply yu20 | with_reducible apply yu21 | with_reducible apply yu24 | with_reducible apply yu25 | with_reducible exact sy_lit _ | decide +kernel))
    all_goals decide +kernel
  rw [h, cs_app]
  exact ⟨fun q => q.1, fun q => ⟨q, h16⟩⟩
theorem mk14 (p c : Int32) : rZ_made 14 (rZ_fieldA 14 (p &&& 65535)) (rZ_fieldB 14 (p &&& 65535)) c = p &&& 65535 ↔ (p &&& (61443 : Int32)) = 32770 := by
  have h16 := hi16 p
  have hL := cs_16 (p := p) (l := L14) (by decide)
  generalize p &&& (65535 : Int32) = w at h16 hL ⊢
  rw [m14, ← hL, fB14, fA14, md14]
  have h : ((((32768 : Int32) ||| (((w >>> ((7 : Int32) &&& 31)) &&& (31 : Int32)) <<< ((7 : Int32) &&& 31))) ||| ((w2 w) <<< ((2 : Int32) &&& 31))) ||| (2 : Int32)) = w ↔ CS w (L14 ++ H16) := by
    simp only [w2]
    apply cs_key
    · (repeat (first | with_reducible exact sy_var | with_reducible apply sy_or | with_reducible apply sy_and | with_reducible apply yl1 | with_reducible apply yl2 | with_reducible apply yl5 | with_reducible apply yl6 | with_reducible apply yl7 | with_reducible apply yl8 | with_reducible apply yl11 | with_reducible apply yl12 | with_reducible apply yl15 | with_reducible apply yl16 | with_reducible apply yl20 | with_reducible apply yl21 | with_reducible apply yl24 | with_reducible apply yl25 | with_reducible apply yl31 | with_reducible apply yr1 | with_reducible apply yr2 | with_reducible apply yr5 | with_reducible apply yr7 | with_reducible apply yr8 | with_reducible apply yr11 | with_reducible apply yr12 | with_reducible apply yr15 | with_reducible apply yr20 | with_reducible apply yr21 | with_reducible apply yr25 | with_reducible apply yr31 | with_reducible apply yu2 | with_reducible apply yu7 | with_reducible apply yu8 | with_reducible apply yu12 | with_reducible apply yu15 | with_reducible apply yu16 | with_reducible apply yu20 | with_reducible apply yu21 | with_reducible apply yu24 | with_reducible apply yu25 | with_reducible exact sy_lit _ | decide +kernel))
    all_goals decide +kernel
  rw [h, cs_app]
  exact ⟨fun q => q.1, fun q => ⟨q, h16⟩⟩
theorem lr_eq (w : Int32) : rF_lowRegister w = (w >>> ((7 : Int32) &&& 31)) &&& (31 : Int32) := by
  unfold rF_lowRegister
  apply sy_eq (w := w)
  · (repeat (first | with_reducible exact sy_var | with_reducible apply sy_or | with_reducible apply sy_and | with_reducible apply yl1 | with_reducible apply yl2 | with_reducible apply yl5 | with_reducible apply yl6 | with_reducible apply yl7 | with_reducible apply yl8 | with_reducible apply yl11 | with_reducible apply yl12 | with_reducible apply yl15 | with_reducible apply yl16 | with_reducible apply yl20 | with_reducible apply yl21 | with_reducible apply yl24 | with_reducible apply yl25 | with_reducible apply yl31 | with_reducible apply yr1 | with_reducible apply yr2 | with_reducible apply yr5 | with_reducible apply yr7 | with_reducible apply yr8 | with_reducible apply yr11 | with_reducible apply yr12 | with_reducible apply yr15 | with_reducible apply yr20 | with_reducible apply yr21 | with_reducible apply yr25 | with_reducible apply yr31 | with_reducible apply yu2 | with_reducible apply yu7 | with_reducible apply yu8 | with_reducible apply yu12 | with_reducible apply yu15 | with_reducible apply yu16 | with_reducible apply yu20 | with_reducible apply yu21 | with_reducible apply yu24 | with_reducible apply yu25 | with_reducible exact sy_lit _ | decide +kernel))
  · (repeat (first | with_reducible exact sy_var | with_reducible apply sy_or | with_reducible apply sy_and | with_reducible apply yl1 | with_reducible apply yl2 | with_reducible apply yl5 | with_reducible apply yl6 | with_reducible apply yl7 | with_reducible apply yl8 | with_reducible apply yl11 | with_reducible apply yl12 | with_reducible apply yl15 | with_reducible apply yl16 | with_reducible apply yl20 | with_reducible apply yl21 | with_reducible apply yl24 | with_reducible apply yl25 | with_reducible apply yl31 | with_reducible apply yr1 | with_reducible apply yr2 | with_reducible apply yr5 | with_reducible apply yr7 | with_reducible apply yr8 | with_reducible apply yr11 | with_reducible apply yr12 | with_reducible apply yr15 | with_reducible apply yr20 | with_reducible apply yr21 | with_reducible apply yr25 | with_reducible apply yr31 | with_reducible apply yu2 | with_reducible apply yu7 | with_reducible apply yu8 | with_reducible apply yu12 | with_reducible apply yu15 | with_reducible apply yu16 | with_reducible apply yu20 | with_reducible apply yu21 | with_reducible apply yu24 | with_reducible apply yu25 | with_reducible exact sy_lit _ | decide +kernel))
  · decide +kernel
theorem lr16 (p : Int32) : ((p &&& 65535) >>> ((7 : Int32) &&& 31)) &&& (31 : Int32) = (p >>> ((7 : Int32) &&& 31)) &&& (31 : Int32) := by
  apply sy_eq (w := p)
  · (repeat (first | with_reducible exact sy_var | with_reducible apply sy_or | with_reducible apply sy_and | with_reducible apply yl1 | with_reducible apply yl2 | with_reducible apply yl5 | with_reducible apply yl6 | with_reducible apply yl7 | with_reducible apply yl8 | with_reducible apply yl11 | with_reducible apply yl12 | with_reducible apply yl15 | with_reducible apply yl16 | with_reducible apply yl20 | with_reducible apply yl21 | with_reducible apply yl24 | with_reducible apply yl25 | with_reducible apply yl31 | with_reducible apply yr1 | with_reducible apply yr2 | with_reducible apply yr5 | with_reducible apply yr7 | with_reducible apply yr8 | with_reducible apply yr11 | with_reducible apply yr12 | with_reducible apply yr15 | with_reducible apply yr20 | with_reducible apply yr21 | with_reducible apply yr25 | with_reducible apply yr31 | with_reducible apply yu2 | with_reducible apply yu7 | with_reducible apply yu8 | with_reducible apply yu12 | with_reducible apply yu15 | with_reducible apply yu16 | with_reducible apply yu20 | with_reducible apply yu21 | with_reducible apply yu24 | with_reducible apply yu25 | with_reducible exact sy_lit _ | decide +kernel))
  · (repeat (first | with_reducible exact sy_var | with_reducible apply sy_or | with_reducible apply sy_and | with_reducible apply yl1 | with_reducible apply yl2 | with_reducible apply yl5 | with_reducible apply yl6 | with_reducible apply yl7 | with_reducible apply yl8 | with_reducible apply yl11 | with_reducible apply yl12 | with_reducible apply yl15 | with_reducible apply yl16 | with_reducible apply yl20 | with_reducible apply yl21 | with_reducible apply yl24 | with_reducible apply yl25 | with_reducible apply yl31 | with_reducible apply yr1 | with_reducible apply yr2 | with_reducible apply yr5 | with_reducible apply yr7 | with_reducible apply yr8 | with_reducible apply yr11 | with_reducible apply yr12 | with_reducible apply yr15 | with_reducible apply yr20 | with_reducible apply yr21 | with_reducible apply yr25 | with_reducible apply yr31 | with_reducible apply yu2 | with_reducible apply yu7 | with_reducible apply yu8 | with_reducible apply yu12 | with_reducible apply yu15 | with_reducible apply yu16 | with_reducible apply yu20 | with_reducible apply yu21 | with_reducible apply yu24 | with_reducible apply yu25 | with_reducible exact sy_lit _ | decide +kernel))
  · decide +kernel
theorem w2_16 (p : Int32) : w2 (p &&& 65535) = w2 p := by
  simp only [w2]
  apply sy_eq (w := p)
  · (repeat (first | with_reducible exact sy_var | with_reducible apply sy_or | with_reducible apply sy_and | with_reducible apply yl1 | with_reducible apply yl2 | with_reducible apply yl5 | with_reducible apply yl6 | with_reducible apply yl7 | with_reducible apply yl8 | with_reducible apply yl11 | with_reducible apply yl12 | with_reducible apply yl15 | with_reducible apply yl16 | with_reducible apply yl20 | with_reducible apply yl21 | with_reducible apply yl24 | with_reducible apply yl25 | with_reducible apply yl31 | with_reducible apply yr1 | with_reducible apply yr2 | with_reducible apply yr5 | with_reducible apply yr7 | with_reducible apply yr8 | with_reducible apply yr11 | with_reducible apply yr12 | with_reducible apply yr15 | with_reducible apply yr20 | with_reducible apply yr21 | with_reducible apply yr25 | with_reducible apply yr31 | with_reducible apply yu2 | with_reducible apply yu7 | with_reducible apply yu8 | with_reducible apply yu12 | with_reducible apply yu15 | with_reducible apply yu16 | with_reducible apply yu20 | with_reducible apply yu21 | with_reducible apply yu24 | with_reducible apply yu25 | with_reducible exact sy_lit _ | decide +kernel))
  · (repeat (first | with_reducible exact sy_var | with_reducible apply sy_or | with_reducible apply sy_and | with_reducible apply yl1 | with_reducible apply yl2 | with_reducible apply yl5 | with_reducible apply yl6 | with_reducible apply yl7 | with_reducible apply yl8 | with_reducible apply yl11 | with_reducible apply yl12 | with_reducible apply yl15 | with_reducible apply yl16 | with_reducible apply yl20 | with_reducible apply yl21 | with_reducible apply yl24 | with_reducible apply yl25 | with_reducible apply yl31 | with_reducible apply yr1 | with_reducible apply yr2 | with_reducible apply yr5 | with_reducible apply yr7 | with_reducible apply yr8 | with_reducible apply yr11 | with_reducible apply yr12 | with_reducible apply yr15 | with_reducible apply yr20 | with_reducible apply yr21 | with_reducible apply yr25 | with_reducible apply yr31 | with_reducible apply yu2 | with_reducible apply yu7 | with_reducible apply yu8 | with_reducible apply yu12 | with_reducible apply yu15 | with_reducible apply yu16 | with_reducible apply yu20 | with_reducible apply yu21 | with_reducible apply yu24 | with_reducible apply yu25 | with_reducible exact sy_lit _ | decide +kernel))
  · decide +kernel
theorem w12_16 (p : Int32) : w12 (p &&& 65535) = w12 p := by
  simp only [w12]
  apply sy_eq (w := p)
  · (repeat (first | with_reducible exact sy_var | with_reducible apply sy_or | with_reducible apply sy_and | with_reducible apply yl1 | with_reducible apply yl2 | with_reducible apply yl5 | with_reducible apply yl6 | with_reducible apply yl7 | with_reducible apply yl8 | with_reducible apply yl11 | with_reducible apply yl12 | with_reducible apply yl15 | with_reducible apply yl16 | with_reducible apply yl20 | with_reducible apply yl21 | with_reducible apply yl24 | with_reducible apply yl25 | with_reducible apply yl31 | with_reducible apply yr1 | with_reducible apply yr2 | with_reducible apply yr5 | with_reducible apply yr7 | with_reducible apply yr8 | with_reducible apply yr11 | with_reducible apply yr12 | with_reducible apply yr15 | with_reducible apply yr20 | with_reducible apply yr21 | with_reducible apply yr25 | with_reducible apply yr31 | with_reducible apply yu2 | with_reducible apply yu7 | with_reducible apply yu8 | with_reducible apply yu12 | with_reducible apply yu15 | with_reducible apply yu16 | with_reducible apply yu20 | with_reducible apply yu21 | with_reducible apply yu24 | with_reducible apply yu25 | with_reducible exact sy_lit _ | decide +kernel))
  · (repeat (first | with_reducible exact sy_var | with_reducible apply sy_or | with_reducible apply sy_and | with_reducible apply yl1 | with_reducible apply yl2 | with_reducible apply yl5 | with_reducible apply yl6 | with_reducible apply yl7 | with_reducible apply yl8 | with_reducible apply yl11 | with_reducible apply yl12 | with_reducible apply yl15 | with_reducible apply yl16 | with_reducible apply yl20 | with_reducible apply yl21 | with_reducible apply yl24 | with_reducible apply yl25 | with_reducible apply yl31 | with_reducible apply yr1 | with_reducible apply yr2 | with_reducible apply yr5 | with_reducible apply yr7 | with_reducible apply yr8 | with_reducible apply yr11 | with_reducible apply yr12 | with_reducible apply yr15 | with_reducible apply yr20 | with_reducible apply yr21 | with_reducible apply yr25 | with_reducible apply yr31 | with_reducible apply yu2 | with_reducible apply yu7 | with_reducible apply yu8 | with_reducible apply yu12 | with_reducible apply yu15 | with_reducible apply yu16 | with_reducible apply yu20 | with_reducible apply yu21 | with_reducible apply yu24 | with_reducible apply yu25 | with_reducible exact sy_lit _ | decide +kernel))
  · decide +kernel
theorem sn_16 (p : Int32) : rF_shortNumber (p &&& 65535) = rF_shortNumber p := by rw [sn_eq, sn_eq, w2_16, w12_16]
theorem lr_0 (p : Int32) : rF_lowRegister p = 0 ↔ (p &&& (3968 : Int32)) = 0 := by
  rw [lr_eq]
  have h1 : (p &&& (3968 : Int32)) = 0 ↔ CS p [(7, false), (8, false), (9, false), (10, false), (11, false)] := by
    refine Iff.trans (cs_lit (f := fun i => anE (i + 2) (cond (bt 3968 i) 1 0)) (sy_and sy_var (sy_lit 3968) ?_) ?_) (cs_iff ?_ ?_) <;> decide +kernel
  have h2 : ((p >>> ((7 : Int32) &&& 31)) &&& (31 : Int32)) = 0 ↔ CS p [(7, false), (8, false), (9, false), (10, false), (11, false)] := by
    refine Iff.trans (cs_lit (f := fun i => anE (cond (Nat.ble 32 (7 + i)) (31 + 2) (7 + i + 2)) (cond (bt 31 i) 1 0)) (sy_and (yr7 sy_var) (sy_lit 31) ?_) ?_) (cs_iff ?_ ?_) <;> decide +kernel
  exact h2.trans h1.symm
theorem sr_0 (p : Int32) : rF_shortRegister p = 0 ↔ (p &&& (124 : Int32)) = 0 := by
  rw [u2_eq]
  have h1 : (p &&& (124 : Int32)) = 0 ↔ CS p [(2, false), (3, false), (4, false), (5, false), (6, false)] := by
    refine Iff.trans (cs_lit (f := fun i => anE (i + 2) (cond (bt 124 i) 1 0)) (sy_and sy_var (sy_lit 124) ?_) ?_) (cs_iff ?_ ?_) <;> decide +kernel
  have h2 : w2 p = 0 ↔ CS p [(2, false), (3, false), (4, false), (5, false), (6, false)] := by
    refine Iff.trans (cs_lit (f := fun i => anE (cond (Nat.ble 32 (2 + i)) (31 + 2) (2 + i + 2)) (cond (bt 31 i) 1 0)) (sy_and (yr2 sy_var) (sy_lit 31) ?_) ?_) (cs_iff ?_ ?_) <;> decide +kernel
  exact h2.trans h1.symm
theorem sn2 : ∀ n, n < 32 → ¬ nI n - 32 = 0 := by decide +kernel
theorem sn_0 (p : Int32) : rF_shortNumber p = 0 ↔ (p &&& (124 : Int32)) = 0 ∧ (p &&& (4096 : Int32)) = 0 := by
  rw [sn_eq, b12 p]
  have hx : w2 p = 0 ↔ (p &&& (124 : Int32)) = 0 := by rw [← u2_eq]; exact sr_0 p
  by_cases h : w12 p = 0
  · rw [if_pos h, hx]
    exact ⟨fun q => ⟨q, h⟩, fun q => q.1⟩
  · rw [if_neg h]
    refine ⟨fun q => ?_, fun q => absurd q.2 h⟩
    exfalso
    obtain ⟨n, hn, e⟩ := low_n (p >>> ((2 : Int32) &&& 31))
    have e : w2 p = nI n := e
    rw [e] at q
    exact sn2 n hn q
set_option maxHeartbeats 4000000 in
theorem kl_short (j : Nat → Int32) (c : Nat → Nat → Int32) (p : Int32) (h : rZ_isLong p = 0) : rF_kindOf p = rZ_kind j c p := by
  unfold rZ_kind rF_kindOf rF_shortKindOf
  rw [if_pos h, if_pos (show rF_isLong p = 0 from h)]
  rw [show (((15 : Int32).toInt - Int32.toInt (13 : Int32)).toNat + 1) = 3 from rfl]
  have st : ∀ (f : Nat) (n : Int32), ¬ (15 : Int32) ≤ n → rZ_kind_l (f + 1) j c p (p &&& 65535) n = if rZ_fits n (rZ_fieldA n (p &&& 65535)) (rZ_fieldB n (p &&& 65535)) (rZ_fieldC n (p &&& 65535)) = 0 then rZ_kind_l f j c p (p &&& 65535) (n + 1) else if rZ_made n (rZ_fieldA n (p &&& 65535)) (rZ_fieldB n (p &&& 65535)) (rZ_fieldC n (p &&& 65535)) = (p &&& 65535) then n else rZ_kind_l f j c p (p &&& 65535) (n + 1) := by
    intro f n hn
    show (if (rZ_isLong p) = (0 : Int32) then _ else _) = _
    rw [if_pos h, if_neg hn]
  have e15 : rZ_kind_l 1 j c p (p &&& 65535) 15 = -1 := by
    show (if (rZ_isLong p) = (0 : Int32) then _ else _) = _
    rw [if_pos h, if_pos (show (15 : Int32) ≤ 15 by decide)]
  rw [st 2 13 (by decide), show ((13 : Int32) + 1) = 14 from rfl, st 1 14 (by decide), show ((14 : Int32) + 1) = 15 from rfl, e15]
  simp only [mk13, mk14]
  have f13 : rZ_fits 13 (rZ_fieldA 13 (p &&& 65535)) (rZ_fieldB 13 (p &&& 65535)) (rZ_fieldC 13 (p &&& 65535)) = if rF_lowRegister p = 0 then (if rF_shortNumber p = 0 then 1 else 0) else (if rF_shortNumber p = 0 then 0 else 1) := by
    have hb := (fB13_eq (p &&& 65535)).2.2.2
    rw [sn_16] at hb
    rw [(fB13_eq (p &&& 65535)).1, fA13, lr16, sn_16, ← lr_eq]
    have ha := and_bd (p >>> ((7 : Int32) &&& 31))
    rw [← lr_eq] at ha
    simp only [rZ_fits, nr_eq, if_pos ha, ot_eq, if_pos hb]
    simp
  have f14 : rZ_fits 14 (rZ_fieldA 14 (p &&& 65535)) (rZ_fieldB 14 (p &&& 65535)) (rZ_fieldC 14 (p &&& 65535)) = if rF_lowRegister p = 0 then 0 else (if rF_shortRegister p = 0 then 0 else 1) := by
    rw [fB14, fA14, lr16, w2_16, ← lr_eq, ← u2_eq]
    have ha := and_bd (p >>> ((7 : Int32) &&& 31))
    rw [← lr_eq] at ha
    have hb := and_bd (p >>> ((2 : Int32) &&& 31))
    have hb : 0 ≤ rF_shortRegister p ∧ rF_shortRegister p ≤ 31 := by rw [u2_eq]; exact hb
    simp only [rZ_fits, nr_eq, if_pos ha, if_pos hb]
    simp
  rw [f13, f14]
  have hx : ¬ ((p &&& (57347 : Int32)) = 1 ∧ (p &&& (61443 : Int32)) = 32770) := by
    rw [m13, m14]
    intro q
    have a1 := q.1 (0, true) (by decide)
    have a2 := q.2 (0, false) (by decide)
    rw [a1] at a2
    cases a2
  clear f13 f14 st e15
  simp only [lr_0, sn_0, sr_0]
  generalize (p &&& (3968 : Int32)) = u at *
  generalize (p &&& (124 : Int32)) = v at *
  generalize (p &&& (4096 : Int32)) = x at *
  generalize (p &&& (57347 : Int32)) = m1 at *
  generalize (p &&& (61443 : Int32)) = m2 at *
  by_cases a1 : u = 0 <;> by_cases a2 : v = 0 <;> by_cases a3 : x = 0 <;> by_cases a4 : m1 = 1 <;> by_cases a5 : m2 = 32770 <;> simp_all
theorem kind_eq (j : Nat → Int32) (c : Nat → Nat → Int32) (p : Int32) : rF_kindOf p = rZ_kind j c p := by
  by_cases h : rZ_isLong p = 0
  · exact kl_short j c p h
  · exact kl_long j c p h
