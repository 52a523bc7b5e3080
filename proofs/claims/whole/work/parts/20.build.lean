/-! walks by program: the rewriter, copying, building -/
theorem am_callg {S : am_Sg} {as : List Value} {ab : List am_Cl} {v : Option Value} {i' : Nat → Int32} {a' : Nat → Nat → Int32} {tl : List am_Cl} {K : Option Value → List am_Cl → Prop} (h : am_Ev S as ab v (wX i' a' tl)) (k : ∀ I A, I = i' → A = a' → K v (wX I A tl)) : ∃ (v : Option Value) (ab1 : List am_Cl), am_Ev S as ab v ab1 ∧ K v ab1 := ⟨v, _, h, k _ _ rfl rfl⟩
theorem am_callz {S : am_Sg} {as : List Value} {ab : List am_Cl} {v : Option Value} {i j' : Nat → Int32} {a c' : Nat → Nat → Int32} {K : Option Value → List am_Cl → Prop} (h : am_Ev S as ab v (wX i a (wZ j' c'))) (k : ∀ J C, J = j' → C = c' → K v (wX i a (wZ J C))) : ∃ (v : Option Value) (ab1 : List am_Cl), am_Ev S as ab v ab1 ∧ K v ab1 := ⟨v, _, h, k _ _ rfl rfl⟩
theorem am_w2 {i1 i2 : Nat → Int32} {a1 a2 : Nat → Nat → Int32} {tl w : List am_Cl} (e1 : i1 = i2) (e2 : a1 = a2) (h : wX i2 a2 tl = w) : wX i1 a1 tl = w := by rw [e1, e2]; exact h
theorem am_w2z {i j1 i2 : Nat → Int32} {a c1 a2 : Nat → Nat → Int32} {w : List am_Cl} (e1 : j1 = i2) (e2 : c1 = a2) (h : wX i a (wZ i2 a2) = w) : wX i a (wZ j1 c1) = w := by rw [e1, e2]; exact h
theorem sI_ne {i : Nat → Int32} {v : Int32} {k q : Nat} (h : Nat.beq q k = false) : sI i v k q = i q := by unfold sI; rw [h]
theorem sA_ne {a : Nat → Nat → Int32} {v : Nat → Int32} {k q : Nat} (h : Nat.beq q k = false) : sA a v k q = a q := by unfold sA; rw [h]
theorem sI_eq {i : Nat → Int32} {v : Int32} {k : Nat} : sI i v k k = v := by unfold sI; rw [Nat.beq_refl]
theorem sA_eq {a : Nat → Nat → Int32} {v : Nat → Int32} {k : Nat} : sA a v k k = v := by unfold sA; rw [Nat.beq_refl]
noncomputable def iR_write_l : Nat → (Nat → Int32) → (Nat → Nat → Int32) → Int32 → Int32 → Int32 → Nat → Int32
  | 0, i, _, _, _, _ => i
  | f + 1, i, a, b, s, n => if s ≤ n then (sI i ((i 6) + s) 6) else (iR_write_l f i (aC_put i a ((i 6) + n) ((Int32.toUInt32 b >>> (Int32.toUInt32 ((8 : Int32) * n) &&& Int32.toUInt32 31)).toInt32 &&& (255 : Int32))) b s (n + (1 : Int32)))
noncomputable def aR_write_l : Nat → (Nat → Int32) → (Nat → Nat → Int32) → Int32 → Int32 → Int32 → Nat → Nat → Int32
  | 0, _, a, _, _, _ => a
  | f + 1, i, a, b, s, n => if s ≤ n then a else (aR_write_l f i (aC_put i a ((i 6) + n) ((Int32.toUInt32 b >>> (Int32.toUInt32 ((8 : Int32) * n) &&& Int32.toUInt32 31)).toInt32 &&& (255 : Int32))) b s (n + (1 : Int32)))
set_option maxHeartbeats 4000000 in
set_option maxRecDepth 100000 in
theorem tR_write_l (tl : List am_Cl) : ∀ (f : Nat) (i : Nat → Int32) (a : Nat → Nat → Int32) (b s n : Int32), (Int32.toInt s - Int32.toInt n).toNat < f → am_T sR_write none (wX (iR_write_l f i a b s n) (aR_write_l f i a b s n) tl) 20 [.ref 17, .retAddr 0, .retAddr 0, .retAddr 0, .retAddr 0, .int b, .int s, .int n] [] (wX i a tl) 0 0 := by
  intro f
  induction f with
  | zero => intro i a b s n hm; exact absurd hm (Nat.not_lt_zero _)
  | succ f ih =>
    intro i a b s n hm
    refine am_wu_T gdR_write [20] 400 ?_
    refine am_split (fun h1 => ?_) (fun h1 => ?_)
    · skip
      exact am_rv (S := sR_write) (by simp only [iR_write_l, aR_write_l, if_pos h1]; try rfl) rfl
    · skip
      refine am_call (eC_put i a ((i 6) + n) ((Int32.toUInt32 b >>> (Int32.toUInt32 ((8 : Int32) * n) &&& Int32.toUInt32 31)).toInt32 &&& (255 : Int32)) tl) ?_
      exact am_Tc (am_Tw (ih i (aC_put i a ((i 6) + n) ((Int32.toUInt32 b >>> (Int32.toUInt32 ((8 : Int32) * n) &&& Int32.toUInt32 31)).toInt32 &&& (255 : Int32))) b s (n + (1 : Int32)) (ms_up (by assumption) hm)) ⟨Or.inr rfl, Or.inl rfl, Or.inl rfl, Or.inl rfl, Or.inl rfl, Or.inr rfl, Or.inr rfl, Or.inr rfl, trivial⟩) rfl (by simp only [iR_write_l, aR_write_l, if_neg h1])
noncomputable def iR_write (i : Nat → Int32) (a : Nat → Nat → Int32) (p q r s : Int32) : Nat → Int32 := (iR_write_l ((Int32.toInt (rF_sizeOf (rF_pack p q r s)) - Int32.toInt (0 : Int32)).toNat + 1) i a (rF_pack p q r s) (rF_sizeOf (rF_pack p q r s)) (0 : Int32))
noncomputable def aR_write (i : Nat → Int32) (a : Nat → Nat → Int32) (p q r s : Int32) : Nat → Nat → Int32 := (aR_write_l ((Int32.toInt (rF_sizeOf (rF_pack p q r s)) - Int32.toInt (0 : Int32)).toNat + 1) i a (rF_pack p q r s) (rF_sizeOf (rF_pack p q r s)) (0 : Int32))
set_option maxHeartbeats 4000000 in
set_option maxRecDepth 100000 in
theorem eR_write (i : Nat → Int32) (a : Nat → Nat → Int32) (p q r s : Int32) (tl : List am_Cl) : am_Ev sR_write [.ref 17, .int p, .int q, .int r, .int s] (wX i a tl) none (wX (iR_write i a p q r s) (aR_write i a p q r s) tl) := by
  refine am_Ev_of cwR_write rfl rfl rfl (am_wt_T gdR_write [20] 400 ?_)
  refine am_call (eF_pack p q r s _) ?_
  refine am_call (eF_sizeOf (rF_pack p q r s) _) ?_
  exact am_Tc (am_Tw (tR_write_l tl ((Int32.toInt (rF_sizeOf (rF_pack p q r s)) - Int32.toInt (0 : Int32)).toNat + 1) i a (rF_pack p q r s) (rF_sizeOf (rF_pack p q r s)) (0 : Int32) (Nat.lt_add_one _) ) ⟨Or.inr rfl, Or.inl rfl, Or.inl rfl, Or.inl rfl, Or.inl rfl, Or.inr rfl, Or.inr rfl, Or.inr rfl, trivial⟩) rfl (by unfold iR_write aR_write; rfl)
theorem frR_write_l {q : Nat} (h : Nat.beq q 6 = false) : ∀ (f : Nat) (i : Nat → Int32) (a : Nat → Nat → Int32) (b s n : Int32), iR_write_l f i a b s n q = i q := by
  intro f
  induction f with
  | zero => intro i a b s n; rfl
  | succ f ih =>
    intro i a b s n
    simp only [iR_write_l]
    split
    · exact sI_ne h
    · exact ih ..
theorem frR_write {q : Nat} (h : Nat.beq q 6 = false) (i : Nat → Int32) (a : Nat → Nat → Int32) (k x y z : Int32) : iR_write i a k x y z q = i q := by unfold iR_write; exact frR_write_l h ..
noncomputable def iR_pad_l : Nat → (Nat → Int32) → (Nat → Nat → Int32) → Int32 → Nat → Int32
  | 0, i, _, _ => i
  | f + 1, i, a, n => if n ≤ (0 : Int32) then i else (iR_pad_l f (iR_write i a (4 : Int32) (0 : Int32) (0 : Int32) (0 : Int32)) (aR_write i a (4 : Int32) (0 : Int32) (0 : Int32) (0 : Int32)) (n + (-1 : Int32)))
noncomputable def aR_pad_l : Nat → (Nat → Int32) → (Nat → Nat → Int32) → Int32 → Nat → Nat → Int32
  | 0, _, a, _ => a
  | f + 1, i, a, n => if n ≤ (0 : Int32) then a else (aR_pad_l f (iR_write i a (4 : Int32) (0 : Int32) (0 : Int32) (0 : Int32)) (aR_write i a (4 : Int32) (0 : Int32) (0 : Int32) (0 : Int32)) (n + (-1 : Int32)))
set_option maxHeartbeats 4000000 in
set_option maxRecDepth 100000 in
theorem tR_pad_l (tl : List am_Cl) : ∀ (f : Nat) (i : Nat → Int32) (a : Nat → Nat → Int32) (n : Int32), (Int32.toInt n).toNat < f → am_T sR_pad none (wX (iR_pad_l f i a n) (aR_pad_l f i a n) tl) 26 [.ref 17, .retAddr 0, .retAddr 0, .int n] [] (wX i a tl) 0 0 := by
  intro f
  induction f with
  | zero => intro i a n hm; exact absurd hm (Nat.not_lt_zero _)
  | succ f ih =>
    intro i a n hm
    refine am_wu_T gdR_pad [26] 400 ?_
    refine am_split (fun h1 => ?_) (fun h1 => ?_)
    · skip
      exact am_rv (S := sR_pad) (by simp only [iR_pad_l, aR_pad_l, if_pos h1]; try rfl) rfl
    · skip
      refine am_call (eR_write i a (4 : Int32) (0 : Int32) (0 : Int32) (0 : Int32) tl) ?_
      exact am_Tc (am_Tw (ih (iR_write i a (4 : Int32) (0 : Int32) (0 : Int32) (0 : Int32)) (aR_write i a (4 : Int32) (0 : Int32) (0 : Int32) (0 : Int32)) (n + (-1 : Int32)) (ms_dn (by assumption) hm)) ⟨Or.inr rfl, Or.inl rfl, Or.inl rfl, Or.inr rfl, trivial⟩) rfl (by simp only [iR_pad_l, aR_pad_l, if_neg h1])
noncomputable def iR_pad (i : Nat → Int32) (a : Nat → Nat → Int32) (p : Int32) : Nat → Int32 := if ((p - (i 6)) - (p - (i 6)) / (4 : Int32) * (4 : Int32)) = (0 : Int32) then (iR_pad_l ((Int32.toInt ((p - (i 6)) / (4 : Int32))).toNat + 1) i a ((p - (i 6)) / (4 : Int32))) else (iR_pad_l ((Int32.toInt ((p - (i 6)) / (4 : Int32))).toNat + 1) (iR_write i a (13 : Int32) (0 : Int32) (0 : Int32) (0 : Int32)) (aR_write i a (13 : Int32) (0 : Int32) (0 : Int32) (0 : Int32)) ((p - (i 6)) / (4 : Int32)))
noncomputable def aR_pad (i : Nat → Int32) (a : Nat → Nat → Int32) (p : Int32) : Nat → Nat → Int32 := if ((p - (i 6)) - (p - (i 6)) / (4 : Int32) * (4 : Int32)) = (0 : Int32) then (aR_pad_l ((Int32.toInt ((p - (i 6)) / (4 : Int32))).toNat + 1) i a ((p - (i 6)) / (4 : Int32))) else (aR_pad_l ((Int32.toInt ((p - (i 6)) / (4 : Int32))).toNat + 1) (iR_write i a (13 : Int32) (0 : Int32) (0 : Int32) (0 : Int32)) (aR_write i a (13 : Int32) (0 : Int32) (0 : Int32) (0 : Int32)) ((p - (i 6)) / (4 : Int32)))
set_option maxHeartbeats 4000000 in
set_option maxRecDepth 100000 in
theorem eR_pad (i : Nat → Int32) (a : Nat → Nat → Int32) (p : Int32) (tl : List am_Cl) : am_Ev sR_pad [.ref 17, .int p] (wX i a tl) none (wX (iR_pad i a p) (aR_pad i a p) tl) := by
  refine am_Ev_of cwR_pad rfl rfl rfl (am_wt_T gdR_pad [26] 400 ?_)
  refine am_split (fun h1 => ?_) (fun h1 => ?_)
  · skip
    exact am_Tc (am_Tw (tR_pad_l tl ((Int32.toInt ((p - (i 6)) / (4 : Int32))).toNat + 1) i a ((p - (i 6)) / (4 : Int32)) (Nat.lt_add_one _) ) ⟨Or.inr rfl, Or.inl rfl, Or.inl rfl, Or.inr rfl, trivial⟩) rfl (by unfold iR_pad aR_pad; simp only [if_pos h1]; try rfl)
  · skip
    refine am_call (eR_write i a (13 : Int32) (0 : Int32) (0 : Int32) (0 : Int32) tl) ?_
    exact am_Tc (am_Tw (tR_pad_l tl ((Int32.toInt ((p - (i 6)) / (4 : Int32))).toNat + 1) (iR_write i a (13 : Int32) (0 : Int32) (0 : Int32) (0 : Int32)) (aR_write i a (13 : Int32) (0 : Int32) (0 : Int32) (0 : Int32)) ((p - (i 6)) / (4 : Int32)) (Nat.lt_add_one _) ) ⟨Or.inr rfl, Or.inl rfl, Or.inl rfl, Or.inr rfl, trivial⟩) rfl (by unfold iR_pad aR_pad; simp only [if_neg h1]; try rfl)
noncomputable def iR_writeLine (i : Nat → Int32) (a : Nat → Nat → Int32) (p q r s : Int32) : Nat → Int32 := if p = (6 : Int32) then (iR_write (iR_write (iR_write (iR_write i a (4 : Int32) (31 : Int32) r s) (aR_write i a (4 : Int32) (31 : Int32) r s) (2 : Int32) (31 : Int32) (31 : Int32) (29 : Int32)) (aR_write (iR_write i a (4 : Int32) (31 : Int32) r s) (aR_write i a (4 : Int32) (31 : Int32) r s) (2 : Int32) (31 : Int32) (31 : Int32) (29 : Int32)) (3 : Int32) (31 : Int32) (31 : Int32) (28 : Int32)) (aR_write (iR_write (iR_write i a (4 : Int32) (31 : Int32) r s) (aR_write i a (4 : Int32) (31 : Int32) r s) (2 : Int32) (31 : Int32) (31 : Int32) (29 : Int32)) (aR_write (iR_write i a (4 : Int32) (31 : Int32) r s) (aR_write i a (4 : Int32) (31 : Int32) r s) (2 : Int32) (31 : Int32) (31 : Int32) (29 : Int32)) (3 : Int32) (31 : Int32) (31 : Int32) (28 : Int32)) p q (31 : Int32) (0 : Int32)) else if p = (7 : Int32) then (iR_write (iR_write (iR_write (iR_write i a (4 : Int32) (31 : Int32) r s) (aR_write i a (4 : Int32) (31 : Int32) r s) (2 : Int32) (31 : Int32) (31 : Int32) (29 : Int32)) (aR_write (iR_write i a (4 : Int32) (31 : Int32) r s) (aR_write i a (4 : Int32) (31 : Int32) r s) (2 : Int32) (31 : Int32) (31 : Int32) (29 : Int32)) (3 : Int32) (31 : Int32) (31 : Int32) (28 : Int32)) (aR_write (iR_write (iR_write i a (4 : Int32) (31 : Int32) r s) (aR_write i a (4 : Int32) (31 : Int32) r s) (2 : Int32) (31 : Int32) (31 : Int32) (29 : Int32)) (aR_write (iR_write i a (4 : Int32) (31 : Int32) r s) (aR_write i a (4 : Int32) (31 : Int32) r s) (2 : Int32) (31 : Int32) (31 : Int32) (29 : Int32)) (3 : Int32) (31 : Int32) (31 : Int32) (28 : Int32)) p q (31 : Int32) (0 : Int32)) else if p = (8 : Int32) then (iR_write i a p q r ((rP_addressOf_b i a s) - (i 6))) else if p = (9 : Int32) then (iR_write i a p q r ((rP_addressOf_b i a s) - (i 6))) else if p = (10 : Int32) then (iR_write i a p q r ((rP_addressOf_b i a s) - (i 6))) else if p = (11 : Int32) then (iR_write i a (11 : Int32) q ((rP_addressOf_b i a r) - (i 6)) (0 : Int32)) else if p = (12 : Int32) then (iR_write (iR_write i a (2 : Int32) (31 : Int32) r (27 : Int32)) (aR_write i a (2 : Int32) (31 : Int32) r (27 : Int32)) (12 : Int32) q (31 : Int32) (0 : Int32)) else if p = (13 : Int32) then (iR_write i a p q r s) else if p = (14 : Int32) then (iR_write i a p q r s) else if p = (15 : Int32) then (iR_write i a (11 : Int32) (1 : Int32) ((q * (16 : Int32)) - (i 6)) (0 : Int32)) else if p = (16 : Int32) then (iR_write i a (4 : Int32) q (0 : Int32) (rP_addressOf_b i a r)) else (iR_write i a p q r s)
noncomputable def aR_writeLine (i : Nat → Int32) (a : Nat → Nat → Int32) (p q r s : Int32) : Nat → Nat → Int32 := if p = (6 : Int32) then (aR_write (iR_write (iR_write (iR_write i a (4 : Int32) (31 : Int32) r s) (aR_write i a (4 : Int32) (31 : Int32) r s) (2 : Int32) (31 : Int32) (31 : Int32) (29 : Int32)) (aR_write (iR_write i a (4 : Int32) (31 : Int32) r s) (aR_write i a (4 : Int32) (31 : Int32) r s) (2 : Int32) (31 : Int32) (31 : Int32) (29 : Int32)) (3 : Int32) (31 : Int32) (31 : Int32) (28 : Int32)) (aR_write (iR_write (iR_write i a (4 : Int32) (31 : Int32) r s) (aR_write i a (4 : Int32) (31 : Int32) r s) (2 : Int32) (31 : Int32) (31 : Int32) (29 : Int32)) (aR_write (iR_write i a (4 : Int32) (31 : Int32) r s) (aR_write i a (4 : Int32) (31 : Int32) r s) (2 : Int32) (31 : Int32) (31 : Int32) (29 : Int32)) (3 : Int32) (31 : Int32) (31 : Int32) (28 : Int32)) p q (31 : Int32) (0 : Int32)) else if p = (7 : Int32) then (aR_write (iR_write (iR_write (iR_write i a (4 : Int32) (31 : Int32) r s) (aR_write i a (4 : Int32) (31 : Int32) r s) (2 : Int32) (31 : Int32) (31 : Int32) (29 : Int32)) (aR_write (iR_write i a (4 : Int32) (31 : Int32) r s) (aR_write i a (4 : Int32) (31 : Int32) r s) (2 : Int32) (31 : Int32) (31 : Int32) (29 : Int32)) (3 : Int32) (31 : Int32) (31 : Int32) (28 : Int32)) (aR_write (iR_write (iR_write i a (4 : Int32) (31 : Int32) r s) (aR_write i a (4 : Int32) (31 : Int32) r s) (2 : Int32) (31 : Int32) (31 : Int32) (29 : Int32)) (aR_write (iR_write i a (4 : Int32) (31 : Int32) r s) (aR_write i a (4 : Int32) (31 : Int32) r s) (2 : Int32) (31 : Int32) (31 : Int32) (29 : Int32)) (3 : Int32) (31 : Int32) (31 : Int32) (28 : Int32)) p q (31 : Int32) (0 : Int32)) else if p = (8 : Int32) then (aR_write i a p q r ((rP_addressOf_b i a s) - (i 6))) else if p = (9 : Int32) then (aR_write i a p q r ((rP_addressOf_b i a s) - (i 6))) else if p = (10 : Int32) then (aR_write i a p q r ((rP_addressOf_b i a s) - (i 6))) else if p = (11 : Int32) then (aR_write i a (11 : Int32) q ((rP_addressOf_b i a r) - (i 6)) (0 : Int32)) else if p = (12 : Int32) then (aR_write (iR_write i a (2 : Int32) (31 : Int32) r (27 : Int32)) (aR_write i a (2 : Int32) (31 : Int32) r (27 : Int32)) (12 : Int32) q (31 : Int32) (0 : Int32)) else if p = (13 : Int32) then (aR_write i a p q r s) else if p = (14 : Int32) then (aR_write i a p q r s) else if p = (15 : Int32) then (aR_write i a (11 : Int32) (1 : Int32) ((q * (16 : Int32)) - (i 6)) (0 : Int32)) else if p = (16 : Int32) then (aR_write i a (4 : Int32) q (0 : Int32) (rP_addressOf_b i a r)) else (aR_write i a p q r s)
set_option maxHeartbeats 4000000 in
set_option maxRecDepth 100000 in
theorem eR_writeLine (i : Nat → Int32) (a : Nat → Nat → Int32) (p q r s : Int32) (tl : List am_Cl) : am_Ev sR_writeLine [.ref 17, .int p, .int q, .int r, .int s] (wX i a tl) none (wX (iR_writeLine i a p q r s) (aR_writeLine i a p q r s) tl) := by
  refine am_Ev_of cwR_writeLine rfl rfl rfl (am_wp_T gdR_writeLine 400 ?_)
  refine am_split (fun h1 => ?_) (fun h1 => ?_)
  · skip
    refine am_call (eR_write i a (4 : Int32) (31 : Int32) r s tl) ?_
    refine am_call (eR_write (iR_write i a (4 : Int32) (31 : Int32) r s) (aR_write i a (4 : Int32) (31 : Int32) r s) (2 : Int32) (31 : Int32) (31 : Int32) (29 : Int32) tl) ?_
    refine am_call (eR_write (iR_write (iR_write i a (4 : Int32) (31 : Int32) r s) (aR_write i a (4 : Int32) (31 : Int32) r s) (2 : Int32) (31 : Int32) (31 : Int32) (29 : Int32)) (aR_write (iR_write i a (4 : Int32) (31 : Int32) r s) (aR_write i a (4 : Int32) (31 : Int32) r s) (2 : Int32) (31 : Int32) (31 : Int32) (29 : Int32)) (3 : Int32) (31 : Int32) (31 : Int32) (28 : Int32) tl) ?_
    refine am_call (eR_write (iR_write (iR_write (iR_write i a (4 : Int32) (31 : Int32) r s) (aR_write i a (4 : Int32) (31 : Int32) r s) (2 : Int32) (31 : Int32) (31 : Int32) (29 : Int32)) (aR_write (iR_write i a (4 : Int32) (31 : Int32) r s) (aR_write i a (4 : Int32) (31 : Int32) r s) (2 : Int32) (31 : Int32) (31 : Int32) (29 : Int32)) (3 : Int32) (31 : Int32) (31 : Int32) (28 : Int32)) (aR_write (iR_write (iR_write i a (4 : Int32) (31 : Int32) r s) (aR_write i a (4 : Int32) (31 : Int32) r s) (2 : Int32) (31 : Int32) (31 : Int32) (29 : Int32)) (aR_write (iR_write i a (4 : Int32) (31 : Int32) r s) (aR_write i a (4 : Int32) (31 : Int32) r s) (2 : Int32) (31 : Int32) (31 : Int32) (29 : Int32)) (3 : Int32) (31 : Int32) (31 : Int32) (28 : Int32)) p q (31 : Int32) (0 : Int32) tl) ?_
    exact am_rv (S := sR_writeLine) (by unfold iR_writeLine aR_writeLine; simp only [if_pos h1]; try rfl) rfl
  · skip
    refine am_split (fun h2 => ?_) (fun h2 => ?_)
    · skip
      refine am_call (eR_write i a (4 : Int32) (31 : Int32) r s tl) ?_
      refine am_call (eR_write (iR_write i a (4 : Int32) (31 : Int32) r s) (aR_write i a (4 : Int32) (31 : Int32) r s) (2 : Int32) (31 : Int32) (31 : Int32) (29 : Int32) tl) ?_
      refine am_call (eR_write (iR_write (iR_write i a (4 : Int32) (31 : Int32) r s) (aR_write i a (4 : Int32) (31 : Int32) r s) (2 : Int32) (31 : Int32) (31 : Int32) (29 : Int32)) (aR_write (iR_write i a (4 : Int32) (31 : Int32) r s) (aR_write i a (4 : Int32) (31 : Int32) r s) (2 : Int32) (31 : Int32) (31 : Int32) (29 : Int32)) (3 : Int32) (31 : Int32) (31 : Int32) (28 : Int32) tl) ?_
      refine am_call (eR_write (iR_write (iR_write (iR_write i a (4 : Int32) (31 : Int32) r s) (aR_write i a (4 : Int32) (31 : Int32) r s) (2 : Int32) (31 : Int32) (31 : Int32) (29 : Int32)) (aR_write (iR_write i a (4 : Int32) (31 : Int32) r s) (aR_write i a (4 : Int32) (31 : Int32) r s) (2 : Int32) (31 : Int32) (31 : Int32) (29 : Int32)) (3 : Int32) (31 : Int32) (31 : Int32) (28 : Int32)) (aR_write (iR_write (iR_write i a (4 : Int32) (31 : Int32) r s) (aR_write i a (4 : Int32) (31 : Int32) r s) (2 : Int32) (31 : Int32) (31 : Int32) (29 : Int32)) (aR_write (iR_write i a (4 : Int32) (31 : Int32) r s) (aR_write i a (4 : Int32) (31 : Int32) r s) (2 : Int32) (31 : Int32) (31 : Int32) (29 : Int32)) (3 : Int32) (31 : Int32) (31 : Int32) (28 : Int32)) p q (31 : Int32) (0 : Int32) tl) ?_
      exact am_rv (S := sR_writeLine) (by unfold iR_writeLine aR_writeLine; simp only [if_neg h1, if_pos h2]; try rfl) rfl
    · skip
      refine am_split (fun h3 => ?_) (fun h3 => ?_)
      · skip
        refine am_call (eP_addressOf_b i a s tl) ?_
        refine am_call (eR_write i a p q r ((rP_addressOf_b i a s) - (i 6)) tl) ?_
        exact am_rv (S := sR_writeLine) (by unfold iR_writeLine aR_writeLine; simp only [if_neg h1, if_neg h2, if_pos h3]; try rfl) rfl
      · skip
        refine am_split (fun h4 => ?_) (fun h4 => ?_)
        · skip
          refine am_call (eP_addressOf_b i a s tl) ?_
          refine am_call (eR_write i a p q r ((rP_addressOf_b i a s) - (i 6)) tl) ?_
          exact am_rv (S := sR_writeLine) (by unfold iR_writeLine aR_writeLine; simp only [if_neg h1, if_neg h2, if_neg h3, if_pos h4]; try rfl) rfl
        · skip
          refine am_split (fun h5 => ?_) (fun h5 => ?_)
          · skip
            refine am_call (eP_addressOf_b i a s tl) ?_
            refine am_call (eR_write i a p q r ((rP_addressOf_b i a s) - (i 6)) tl) ?_
            exact am_rv (S := sR_writeLine) (by unfold iR_writeLine aR_writeLine; simp only [if_neg h1, if_neg h2, if_neg h3, if_neg h4, if_pos h5]; try rfl) rfl
          · skip
            refine am_split (fun h6 => ?_) (fun h6 => ?_)
            · skip
              refine am_call (eP_addressOf_b i a r tl) ?_
              refine am_call (eR_write i a (11 : Int32) q ((rP_addressOf_b i a r) - (i 6)) (0 : Int32) tl) ?_
              exact am_rv (S := sR_writeLine) (by unfold iR_writeLine aR_writeLine; simp only [if_neg h1, if_neg h2, if_neg h3, if_neg h4, if_neg h5, if_pos h6]; try rfl) rfl
            · skip
              refine am_split (fun h7 => ?_) (fun h7 => ?_)
              · skip
                refine am_call (eR_write i a (2 : Int32) (31 : Int32) r (27 : Int32) tl) ?_
                refine am_call (eR_write (iR_write i a (2 : Int32) (31 : Int32) r (27 : Int32)) (aR_write i a (2 : Int32) (31 : Int32) r (27 : Int32)) (12 : Int32) q (31 : Int32) (0 : Int32) tl) ?_
                exact am_rv (S := sR_writeLine) (by unfold iR_writeLine aR_writeLine; simp only [if_neg h1, if_neg h2, if_neg h3, if_neg h4, if_neg h5, if_neg h6, if_pos h7]; try rfl) rfl
              · skip
                refine am_split (fun h8 => ?_) (fun h8 => ?_)
                · skip
                  refine am_call (eR_write i a p q r s tl) ?_
                  exact am_rv (S := sR_writeLine) (by unfold iR_writeLine aR_writeLine; simp only [if_neg h1, if_neg h2, if_neg h3, if_neg h4, if_neg h5, if_neg h6, if_neg h7, if_pos h8]; try rfl) rfl
                · skip
                  refine am_split (fun h9 => ?_) (fun h9 => ?_)
                  · skip
                    refine am_call (eR_write i a p q r s tl) ?_
                    exact am_rv (S := sR_writeLine) (by unfold iR_writeLine aR_writeLine; simp only [if_neg h1, if_neg h2, if_neg h3, if_neg h4, if_neg h5, if_neg h6, if_neg h7, if_neg h8, if_pos h9]; try rfl) rfl
                  · skip
                    refine am_split (fun h10 => ?_) (fun h10 => ?_)
                    · skip
                      refine am_call (eR_write i a (11 : Int32) (1 : Int32) ((q * (16 : Int32)) - (i 6)) (0 : Int32) tl) ?_
                      exact am_rv (S := sR_writeLine) (by unfold iR_writeLine aR_writeLine; simp only [if_neg h1, if_neg h2, if_neg h3, if_neg h4, if_neg h5, if_neg h6, if_neg h7, if_neg h8, if_neg h9, if_pos h10]; try rfl) rfl
                    · skip
                      refine am_split (fun h11 => ?_) (fun h11 => ?_)
                      · skip
                        refine am_call (eP_addressOf_b i a r tl) ?_
                        refine am_call (eR_write i a (4 : Int32) q (0 : Int32) (rP_addressOf_b i a r) tl) ?_
                        exact am_rv (S := sR_writeLine) (by unfold iR_writeLine aR_writeLine; simp only [if_neg h1, if_neg h2, if_neg h3, if_neg h4, if_neg h5, if_neg h6, if_neg h7, if_neg h8, if_neg h9, if_neg h10, if_pos h11]; try rfl) rfl
                      · skip
                        refine am_call (eR_write i a p q r s tl) ?_
                        exact am_rv (S := sR_writeLine) (by unfold iR_writeLine aR_writeLine; simp only [if_neg h1, if_neg h2, if_neg h3, if_neg h4, if_neg h5, if_neg h6, if_neg h7, if_neg h8, if_neg h9, if_neg h10, if_neg h11]; try rfl) rfl
theorem frR_pad_l {q : Nat} (h : Nat.beq q 6 = false) : ∀ (f : Nat) (i : Nat → Int32) (a : Nat → Nat → Int32) (n : Int32), iR_pad_l f i a n q = i q := by
  intro f
  induction f with
  | zero => intro i a n; rfl
  | succ f ih =>
    intro i a n
    simp only [iR_pad_l]
    split
    · rfl
    · rw [ih, frR_write h]
theorem frR_pad {q : Nat} (h : Nat.beq q 6 = false) (i : Nat → Int32) (a : Nat → Nat → Int32) (x : Int32) : iR_pad i a x q = i q := by
  unfold iR_pad
  split
  · exact frR_pad_l h ..
  · rw [frR_pad_l h, frR_write h]
theorem frR_writeLine {q : Nat} (h : Nat.beq q 6 = false) (i : Nat → Int32) (a : Nat → Nat → Int32) (k x y z : Int32) : iR_writeLine i a k x y z q = i q := by
  unfold iR_writeLine
  repeat' split
  all_goals simp only [frR_write h]
noncomputable def iR_writeAll_l : Nat → (Nat → Int32) → (Nat → Nat → Int32) → Int32 → Nat → Int32
  | 0, i, _, _ => i
  | f + 1, i, a, n => if (i 3) ≤ n then (iR_pad (iR_pad i a (rP_addressOf_b i a (i 3))) (aR_pad i a (rP_addressOf_b i a (i 3))) ((iR_pad i a (rP_addressOf_b i a (i 3))) 4)) else (iR_writeAll_l f (iR_writeLine (iR_pad (iR_pad i a (rP_addressOf_b i a n)) (aR_pad i a (rP_addressOf_b i a n)) (rP_startAt_b (iR_pad i a (rP_addressOf_b i a n)) (aR_pad i a (rP_addressOf_b i a n)) n)) (aR_pad (iR_pad i a (rP_addressOf_b i a n)) (aR_pad i a (rP_addressOf_b i a n)) (rP_startAt_b (iR_pad i a (rP_addressOf_b i a n)) (aR_pad i a (rP_addressOf_b i a n)) n)) (rP_kindAt_b (iR_pad (iR_pad i a (rP_addressOf_b i a n)) (aR_pad i a (rP_addressOf_b i a n)) (rP_startAt_b (iR_pad i a (rP_addressOf_b i a n)) (aR_pad i a (rP_addressOf_b i a n)) n)) (aR_pad (iR_pad i a (rP_addressOf_b i a n)) (aR_pad i a (rP_addressOf_b i a n)) (rP_startAt_b (iR_pad i a (rP_addressOf_b i a n)) (aR_pad i a (rP_addressOf_b i a n)) n)) n) (rP_firstAt_b (iR_pad (iR_pad i a (rP_addressOf_b i a n)) (aR_pad i a (rP_addressOf_b i a n)) (rP_startAt_b (iR_pad i a (rP_addressOf_b i a n)) (aR_pad i a (rP_addressOf_b i a n)) n)) (aR_pad (iR_pad i a (rP_addressOf_b i a n)) (aR_pad i a (rP_addressOf_b i a n)) (rP_startAt_b (iR_pad i a (rP_addressOf_b i a n)) (aR_pad i a (rP_addressOf_b i a n)) n)) n) (rP_secondAt_b (iR_pad (iR_pad i a (rP_addressOf_b i a n)) (aR_pad i a (rP_addressOf_b i a n)) (rP_startAt_b (iR_pad i a (rP_addressOf_b i a n)) (aR_pad i a (rP_addressOf_b i a n)) n)) (aR_pad (iR_pad i a (rP_addressOf_b i a n)) (aR_pad i a (rP_addressOf_b i a n)) (rP_startAt_b (iR_pad i a (rP_addressOf_b i a n)) (aR_pad i a (rP_addressOf_b i a n)) n)) n) (rP_thirdAt_b (iR_pad (iR_pad i a (rP_addressOf_b i a n)) (aR_pad i a (rP_addressOf_b i a n)) (rP_startAt_b (iR_pad i a (rP_addressOf_b i a n)) (aR_pad i a (rP_addressOf_b i a n)) n)) (aR_pad (iR_pad i a (rP_addressOf_b i a n)) (aR_pad i a (rP_addressOf_b i a n)) (rP_startAt_b (iR_pad i a (rP_addressOf_b i a n)) (aR_pad i a (rP_addressOf_b i a n)) n)) n)) (aR_writeLine (iR_pad (iR_pad i a (rP_addressOf_b i a n)) (aR_pad i a (rP_addressOf_b i a n)) (rP_startAt_b (iR_pad i a (rP_addressOf_b i a n)) (aR_pad i a (rP_addressOf_b i a n)) n)) (aR_pad (iR_pad i a (rP_addressOf_b i a n)) (aR_pad i a (rP_addressOf_b i a n)) (rP_startAt_b (iR_pad i a (rP_addressOf_b i a n)) (aR_pad i a (rP_addressOf_b i a n)) n)) (rP_kindAt_b (iR_pad (iR_pad i a (rP_addressOf_b i a n)) (aR_pad i a (rP_addressOf_b i a n)) (rP_startAt_b (iR_pad i a (rP_addressOf_b i a n)) (aR_pad i a (rP_addressOf_b i a n)) n)) (aR_pad (iR_pad i a (rP_addressOf_b i a n)) (aR_pad i a (rP_addressOf_b i a n)) (rP_startAt_b (iR_pad i a (rP_addressOf_b i a n)) (aR_pad i a (rP_addressOf_b i a n)) n)) n) (rP_firstAt_b (iR_pad (iR_pad i a (rP_addressOf_b i a n)) (aR_pad i a (rP_addressOf_b i a n)) (rP_startAt_b (iR_pad i a (rP_addressOf_b i a n)) (aR_pad i a (rP_addressOf_b i a n)) n)) (aR_pad (iR_pad i a (rP_addressOf_b i a n)) (aR_pad i a (rP_addressOf_b i a n)) (rP_startAt_b (iR_pad i a (rP_addressOf_b i a n)) (aR_pad i a (rP_addressOf_b i a n)) n)) n) (rP_secondAt_b (iR_pad (iR_pad i a (rP_addressOf_b i a n)) (aR_pad i a (rP_addressOf_b i a n)) (rP_startAt_b (iR_pad i a (rP_addressOf_b i a n)) (aR_pad i a (rP_addressOf_b i a n)) n)) (aR_pad (iR_pad i a (rP_addressOf_b i a n)) (aR_pad i a (rP_addressOf_b i a n)) (rP_startAt_b (iR_pad i a (rP_addressOf_b i a n)) (aR_pad i a (rP_addressOf_b i a n)) n)) n) (rP_thirdAt_b (iR_pad (iR_pad i a (rP_addressOf_b i a n)) (aR_pad i a (rP_addressOf_b i a n)) (rP_startAt_b (iR_pad i a (rP_addressOf_b i a n)) (aR_pad i a (rP_addressOf_b i a n)) n)) (aR_pad (iR_pad i a (rP_addressOf_b i a n)) (aR_pad i a (rP_addressOf_b i a n)) (rP_startAt_b (iR_pad i a (rP_addressOf_b i a n)) (aR_pad i a (rP_addressOf_b i a n)) n)) n)) (n + (1 : Int32)))
noncomputable def aR_writeAll_l : Nat → (Nat → Int32) → (Nat → Nat → Int32) → Int32 → Nat → Nat → Int32
  | 0, _, a, _ => a
  | f + 1, i, a, n => if (i 3) ≤ n then (aR_pad (iR_pad i a (rP_addressOf_b i a (i 3))) (aR_pad i a (rP_addressOf_b i a (i 3))) ((iR_pad i a (rP_addressOf_b i a (i 3))) 4)) else (aR_writeAll_l f (iR_writeLine (iR_pad (iR_pad i a (rP_addressOf_b i a n)) (aR_pad i a (rP_addressOf_b i a n)) (rP_startAt_b (iR_pad i a (rP_addressOf_b i a n)) (aR_pad i a (rP_addressOf_b i a n)) n)) (aR_pad (iR_pad i a (rP_addressOf_b i a n)) (aR_pad i a (rP_addressOf_b i a n)) (rP_startAt_b (iR_pad i a (rP_addressOf_b i a n)) (aR_pad i a (rP_addressOf_b i a n)) n)) (rP_kindAt_b (iR_pad (iR_pad i a (rP_addressOf_b i a n)) (aR_pad i a (rP_addressOf_b i a n)) (rP_startAt_b (iR_pad i a (rP_addressOf_b i a n)) (aR_pad i a (rP_addressOf_b i a n)) n)) (aR_pad (iR_pad i a (rP_addressOf_b i a n)) (aR_pad i a (rP_addressOf_b i a n)) (rP_startAt_b (iR_pad i a (rP_addressOf_b i a n)) (aR_pad i a (rP_addressOf_b i a n)) n)) n) (rP_firstAt_b (iR_pad (iR_pad i a (rP_addressOf_b i a n)) (aR_pad i a (rP_addressOf_b i a n)) (rP_startAt_b (iR_pad i a (rP_addressOf_b i a n)) (aR_pad i a (rP_addressOf_b i a n)) n)) (aR_pad (iR_pad i a (rP_addressOf_b i a n)) (aR_pad i a (rP_addressOf_b i a n)) (rP_startAt_b (iR_pad i a (rP_addressOf_b i a n)) (aR_pad i a (rP_addressOf_b i a n)) n)) n) (rP_secondAt_b (iR_pad (iR_pad i a (rP_addressOf_b i a n)) (aR_pad i a (rP_addressOf_b i a n)) (rP_startAt_b (iR_pad i a (rP_addressOf_b i a n)) (aR_pad i a (rP_addressOf_b i a n)) n)) (aR_pad (iR_pad i a (rP_addressOf_b i a n)) (aR_pad i a (rP_addressOf_b i a n)) (rP_startAt_b (iR_pad i a (rP_addressOf_b i a n)) (aR_pad i a (rP_addressOf_b i a n)) n)) n) (rP_thirdAt_b (iR_pad (iR_pad i a (rP_addressOf_b i a n)) (aR_pad i a (rP_addressOf_b i a n)) (rP_startAt_b (iR_pad i a (rP_addressOf_b i a n)) (aR_pad i a (rP_addressOf_b i a n)) n)) (aR_pad (iR_pad i a (rP_addressOf_b i a n)) (aR_pad i a (rP_addressOf_b i a n)) (rP_startAt_b (iR_pad i a (rP_addressOf_b i a n)) (aR_pad i a (rP_addressOf_b i a n)) n)) n)) (aR_writeLine (iR_pad (iR_pad i a (rP_addressOf_b i a n)) (aR_pad i a (rP_addressOf_b i a n)) (rP_startAt_b (iR_pad i a (rP_addressOf_b i a n)) (aR_pad i a (rP_addressOf_b i a n)) n)) (aR_pad (iR_pad i a (rP_addressOf_b i a n)) (aR_pad i a (rP_addressOf_b i a n)) (rP_startAt_b (iR_pad i a (rP_addressOf_b i a n)) (aR_pad i a (rP_addressOf_b i a n)) n)) (rP_kindAt_b (iR_pad (iR_pad i a (rP_addressOf_b i a n)) (aR_pad i a (rP_addressOf_b i a n)) (rP_startAt_b (iR_pad i a (rP_addressOf_b i a n)) (aR_pad i a (rP_addressOf_b i a n)) n)) (aR_pad (iR_pad i a (rP_addressOf_b i a n)) (aR_pad i a (rP_addressOf_b i a n)) (rP_startAt_b (iR_pad i a (rP_addressOf_b i a n)) (aR_pad i a (rP_addressOf_b i a n)) n)) n) (rP_firstAt_b (iR_pad (iR_pad i a (rP_addressOf_b i a n)) (aR_pad i a (rP_addressOf_b i a n)) (rP_startAt_b (iR_pad i a (rP_addressOf_b i a n)) (aR_pad i a (rP_addressOf_b i a n)) n)) (aR_pad (iR_pad i a (rP_addressOf_b i a n)) (aR_pad i a (rP_addressOf_b i a n)) (rP_startAt_b (iR_pad i a (rP_addressOf_b i a n)) (aR_pad i a (rP_addressOf_b i a n)) n)) n) (rP_secondAt_b (iR_pad (iR_pad i a (rP_addressOf_b i a n)) (aR_pad i a (rP_addressOf_b i a n)) (rP_startAt_b (iR_pad i a (rP_addressOf_b i a n)) (aR_pad i a (rP_addressOf_b i a n)) n)) (aR_pad (iR_pad i a (rP_addressOf_b i a n)) (aR_pad i a (rP_addressOf_b i a n)) (rP_startAt_b (iR_pad i a (rP_addressOf_b i a n)) (aR_pad i a (rP_addressOf_b i a n)) n)) n) (rP_thirdAt_b (iR_pad (iR_pad i a (rP_addressOf_b i a n)) (aR_pad i a (rP_addressOf_b i a n)) (rP_startAt_b (iR_pad i a (rP_addressOf_b i a n)) (aR_pad i a (rP_addressOf_b i a n)) n)) (aR_pad (iR_pad i a (rP_addressOf_b i a n)) (aR_pad i a (rP_addressOf_b i a n)) (rP_startAt_b (iR_pad i a (rP_addressOf_b i a n)) (aR_pad i a (rP_addressOf_b i a n)) n)) n)) (n + (1 : Int32)))
set_option maxHeartbeats 4000000 in
set_option maxRecDepth 100000 in
theorem tR_writeAll_l (tl : List am_Cl) : ∀ (f : Nat) (i : Nat → Int32) (a : Nat → Nat → Int32) (n : Int32), (Int32.toInt (i 3) - Int32.toInt n).toNat < f → am_T sR_writeAll none (wX (iR_writeAll_l f i a n) (aR_writeAll_l f i a n) tl) 32 [.ref 17, .int n] [] (wX i a tl) 0 0 := by
  intro f
  induction f with
  | zero => intro i a n hm; exact absurd hm (Nat.not_lt_zero _)
  | succ f ih =>
    intro i a n hm
    refine am_wu_T gdR_writeAll [32] 400 ?_
    refine am_split (fun h1 => ?_) (fun h1 => ?_)
    · skip
      refine am_call (eP_addressOf_b i a (i 3) tl) ?_
      refine am_callg (eR_pad i a (rP_addressOf_b i a (i 3)) tl) (fun I1 A1 hI1 hA1 => ?_)
      refine am_callg (eR_pad I1 A1 (I1 4) tl) (fun I2 A2 hI2 hA2 => ?_)
      exact am_rv (S := sR_writeAll) (am_w2 (i2 := I2) (a2 := A2) (by rw [iR_writeAll_l]; (try rw [← hI1]); (try rw [← hA1]); (try rw [← hI2]); (try rw [← hA2]); rw [if_pos h1]) (by rw [aR_writeAll_l]; (try rw [← hI1]); (try rw [← hA1]); (try rw [← hI2]); (try rw [← hA2]); rw [if_pos h1]) rfl) rfl
    · skip
      refine am_call (eP_addressOf_b i a n tl) ?_
      refine am_callg (eR_pad i a (rP_addressOf_b i a n) tl) (fun I3 A3 hI3 hA3 => ?_)
      refine am_call (eP_startAt_b I3 A3 n tl) ?_
      refine am_callg (eR_pad I3 A3 (rP_startAt_b I3 A3 n) tl) (fun I4 A4 hI4 hA4 => ?_)
      refine am_call (eP_kindAt_b I4 A4 n tl) ?_
      refine am_call (eP_firstAt_b I4 A4 n tl) ?_
      refine am_call (eP_secondAt_b I4 A4 n tl) ?_
      refine am_call (eP_thirdAt_b I4 A4 n tl) ?_
      refine am_callg (eR_writeLine I4 A4 (rP_kindAt_b I4 A4 n) (rP_firstAt_b I4 A4 n) (rP_secondAt_b I4 A4 n) (rP_thirdAt_b I4 A4 n) tl) (fun I5 A5 hI5 hA5 => ?_)
      exact am_Tc (am_Tw (ih I5 A5 (n + (1 : Int32)) (by rw [hI5, frR_writeLine rfl, hI4, frR_pad rfl, hI3, frR_pad rfl]; exact ms_up (by assumption) hm)) ⟨Or.inr rfl, Or.inr rfl, trivial⟩) rfl (am_w2 (by rw [iR_writeAll_l]; (try rw [← hI3]); (try rw [← hA3]); (try rw [← hI4]); (try rw [← hA4]); (try rw [← hI5]); (try rw [← hA5]); rw [if_neg h1]) (by rw [aR_writeAll_l]; (try rw [← hI3]); (try rw [← hA3]); (try rw [← hI4]); (try rw [← hA4]); (try rw [← hI5]); (try rw [← hA5]); rw [if_neg h1]) rfl)
