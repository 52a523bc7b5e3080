/-! the invariant between the two states; the calls that need little -/
def IvP (i : Nat → Int32) (a : Nat → Nat → Int32) (j : Nat → Int32) (c : Nat → Nat → Int32) : Prop :=
  i 1 = j 0 ∧ 0 ≤ (i 1).toInt ∧ (i 1).toInt ≤ 20 ∧ a 0 = c 0 ∧ a 1 = c 1 ∧ a 2 = c 2 ∧ a 3 = c 3 ∧ ∀ n : Nat, (n : Int) < (i 1).toInt → ¬ rP_allows (a 0 n) (a 1 n) (a 2 n) (a 3 n) = 0
/-- a built line: allowed, and its target is one -/
def BL (N k a b c : Int32) : Prop := ¬ rP_allows k a b c = 0 ∧ (k = 8 ∨ k = 9 ∨ k = 10 → c.toInt ≤ N.toInt) ∧ (k = 11 → b.toInt ≤ N.toInt) ∧ (k = 16 → b.toInt ≤ N.toInt)
def IvB (i : Nat → Int32) (a : Nat → Nat → Int32) (j : Nat → Int32) (c : Nat → Nat → Int32) : Prop :=
  i 3 = j 1 ∧ 0 ≤ (i 3).toInt ∧ (i 3).toInt ≤ 20 ∧ i 0 = j 2 ∧ (i 0 = 0 → i 3 = 0) ∧ (∀ n : Nat, (n : Int) < (i 3).toInt → a 6 n = c 4 n ∧ a 7 n = c 5 n ∧ a 8 n = c 6 n ∧ a 9 n = c 7 n ∧ BL (i 3) (c 4 n) (c 5 n) (c 6 n) (c 7 n)) ∧ ∀ n : Nat, (n : Int) ≤ (i 3).toInt → a 10 n = c 8 n
def IvC (i : Nat → Int32) (a : Nat → Nat → Int32) (j : Nat → Int32) (c : Nat → Nat → Int32) : Prop :=
  i 5 = j 3 ∧ 0 ≤ (i 5).toInt ∧ (i 5).toInt ≤ 256 ∧ (∀ n : Nat, (n : Int) < (i 5).toInt → a 12 n = c 11 n ∧ 0 ≤ (a 12 n).toInt ∧ (a 12 n).toInt ≤ 255) ∧ ∀ n : Nat, (i 5).toInt ≤ (n : Int) → n < 256 → a 12 n = 0
def IvI (i : Nat → Int32) (a : Nat → Nat → Int32) (j : Nat → Int32) (c : Nat → Nat → Int32) : Prop := i 7 = j 5 ∧ 0 ≤ (i 7).toInt ∧ (i 7).toInt ≤ 20 ∧ a 14 = c 13
def IvM (i : Nat → Int32) (a : Nat → Nat → Int32) (c : Nat → Nat → Int32) : Prop :=
  (∀ r : Nat, r < 32 → a 15 r = c 14 r) ∧ (∀ w : Nat, w < 16 → a 16 w = c 15 w) ∧ (∀ o : Nat, o < 40 → a 17 o = c 16 o) ∧ c 17 0 = i 9 ∧ c 18 0 = i 10 ∧ c 19 0 = i 11 ∧ 0 ≤ (i 9).toInt ∧ (i 9).toInt ≤ 40 ∧ (c 20 0 = 0 → i 9 = 0 ∧ i 10 = 0 ∧ i 11 = 0) ∧ a 15 0 = 0
def IvT (i : Nat → Int32) (a : Nat → Nat → Int32) (c : Nat → Nat → Int32) : Prop :=
  (∀ r : Nat, r < 32 → a 18 r = c 14 (32 + r)) ∧ (∀ w : Nat, w < 16 → a 19 w = c 15 (16 + w)) ∧ (∀ o : Nat, o < 40 → a 20 o = c 16 (40 + o)) ∧ c 17 1 = i 13 ∧ c 18 1 = i 14 ∧ c 19 1 = i 15 ∧ 0 ≤ (i 13).toInt ∧ (i 13).toInt ≤ 40 ∧ (c 20 1 = 0 → i 13 = 0 ∧ i 14 = 0 ∧ i 15 = 0) ∧ a 18 0 = 0
def Inv (i : Nat → Int32) (a : Nat → Nat → Int32) (j : Nat → Int32) (c : Nat → Nat → Int32) : Prop := IvP i a j c ∧ IvB i a j c ∧ IvC i a j c ∧ IvI i a j c ∧ IvM i a c ∧ IvT i a c
theorem inv_start : Inv i0x a0 i0 a0 := by
  refine ⟨⟨rfl, by decide, by decide, rfl, rfl, rfl, rfl, fun n h => absurd h (by show ¬ (n : Int) < (0 : Int32).toInt; simp)⟩, ⟨rfl, by decide, by decide, rfl, fun _ => rfl, fun n h => absurd h (by show ¬ (n : Int) < (0 : Int32).toInt; simp), fun n _ => rfl⟩, ⟨rfl, by decide, by decide, fun n h => absurd h (by show ¬ (n : Int) < (0 : Int32).toInt; simp), fun n _ _ => rfl⟩, ⟨rfl, by decide, by decide, rfl⟩, ⟨fun _ _ => rfl, fun _ _ => rfl, fun _ _ => rfl, rfl, rfl, rfl, by decide, by decide, fun _ => ⟨rfl, rfl, rfl⟩, rfl⟩, ⟨fun _ _ => rfl, fun _ _ => rfl, fun _ _ => rfl, rfl, rfl, rfl, by decide, by decide, fun _ => ⟨rfl, rfl, rfl⟩, rfl⟩⟩
theorem op_of {sx sz : am_Sg} {as : List Value} {i : Nat → Int32} {a : Nat → Nat → Int32} {j : Nat → Int32} {c : Nat → Nat → Int32} {rx rz : Int32} {i' : Nat → Int32} {a' : Nat → Nat → Int32} {j' : Nat → Int32} {c' : Nat → Nat → Int32} (e1 : am_Ev sx (.ref 0 :: as) (wX i a (wZ j c)) (some (.int rx)) (wX i' a' (wZ j c))) (e2 : am_Ev sz (.ref 30 :: as) (wX i' a' (wZ j c)) (some (.int rz)) (wX i' a' (wZ j' c'))) (hr : rx = rz) (hI : Inv i' a' j' c') : ∃ (r : Int32) (i' : Nat → Int32) (a' : Nat → Nat → Int32) (j' : Nat → Int32) (c' : Nat → Nat → Int32), am_Ev sx (.ref 0 :: as) (wX i a (wZ j c)) (some (.int r)) (wX i' a' (wZ j c)) ∧ am_Ev sz (.ref 30 :: as) (wX i' a' (wZ j c)) (some (.int r)) (wX i' a' (wZ j' c')) ∧ Inv i' a' j' c' := ⟨rx, i', a', j', c', e1, by rw [hr]; exact e2, hI⟩
theorem op_encode (v1 v2 v3 v4 : Int32) : OPK Inv sX_encode sZ_encode [.int v1, .int v2, .int v3, .int v4] := fun i a j c h => op_of (eX_encode i a v1 v2 v3 v4 _) (eZ_encode j c v1 v2 v3 v4 i a) (enc_eq i a j c v1 v2 v3 v4) h
theorem op_kind (v1 : Int32) : OPK Inv sX_kind sZ_kind [.int v1] := fun i a j c h => op_of (eX_kind i a v1 _) (eZ_kind j c v1 i a) (kind_eq j c v1) h
theorem op_clear : OPK Inv sX_clear sZ_clear [] := fun i a j c h => op_of (eX_clear i a _) (eZ_clear j c _ a) h.1.1 ⟨⟨rfl, by show 0 ≤ (0 : Int32).toInt; decide, by show (0 : Int32).toInt ≤ 20; decide, h.1.2.2.2.1, h.1.2.2.2.2.1, h.1.2.2.2.2.2.1, h.1.2.2.2.2.2.2.1, fun n h => absurd h (by show ¬ (n : Int) < (0 : Int32).toInt; simp)⟩, h.2.1, h.2.2.1, h.2.2.2.1, h.2.2.2.2.1, h.2.2.2.2.2⟩
theorem in20 {x : Int32} (h0 : 0 ≤ x.toInt) (h1 : x.toInt ≤ 20) (h : ¬ x = 20) : vp_in x 20 := by
  rw [vp_in_iff]
  have : ¬ x.toInt = 20 := fun e => h (Int32.toInt_inj.mp e)
  omega
theorem upd_at (f : Nat → Int32) (k : Nat) (v : Int32) : upd f k v k = v := by unfold upd; simp
theorem upd_ne (f : Nat → Int32) {k q : Nat} (v : Int32) (h : ¬ q = k) : upd f k v q = f q := by unfold upd; simp [h]
theorem tn_of {x : Int32} (h : 0 ≤ x.toInt) : (x.toNatClampNeg : Int) = x.toInt := by unfold Int32.toNatClampNeg; omega
theorem c20 : (20 : Int32).toInt = 20 := rfl
theorem c0 : (0 : Int32).toInt = 0 := rfl
theorem c1 : (1 : Int32).toInt = 1 := rfl
theorem add1 {x : Int32} {N : Int} (h0 : 0 ≤ x.toInt) (h1 : x.toInt ≤ N) (hN : N < 2147483647) : (x + 1).toInt = x.toInt + 1 := by rw [add_i (by rw [c1]; omega) (by rw [c1]; omega), c1]
theorem has20 {x : Int32} (h0 : 0 ≤ x.toInt) (h1 : x.toInt ≤ 20) : rP_has x 20 = if x = 20 then 0 else 1 := by
  unfold rP_has
  rw [if_neg (by rw [lt_i, c0]; omega)]
  by_cases h : x = 20
  · rw [if_pos h, if_pos (by rw [h]; decide)]
  · have : ¬ x.toInt = 20 := fun e => h (Int32.toInt_inj.mp e)
    rw [if_neg h, if_neg (by rw [le_i, c20]; omega), if_neg (by rw [le_i, c20]; omega)]
theorem op_line (v1 v2 v3 v4 : Int32) : OPK Inv sX_line sZ_line [.int v1, .int v2, .int v3, .int v4] := by
  intro i a j c h
  obtain ⟨⟨p1, p2, p3, p4, p5, p6, p7, p8⟩, hB, hC, hI, hM, hT⟩ := id h
  refine op_of (eX_line i a v1 v2 v3 v4 _) (eZ_line j c v1 v2 v3 v4 _ _ (fun q => in20 (by rw [← p1]; exact p2) (by rw [← p1]; exact p3) q)) ?_ ?_
  · unfold rX_line rZ_line rP_add iP_add
    rw [line_eq, has20 p2 p3, ← p1]
    by_cases ha : rP_allows v1 v2 v3 v4 = 0
    · rw [if_pos ha, if_pos ha]
    · rw [if_neg ha, if_neg ha]
      by_cases hf : i 1 = 20
      · simp [hf]
      · simp [hf]; rfl
  · unfold iX_line aX_line iZ_line aZ_line rP_add iP_add aP_add
    rw [line_eq, has20 p2 p3]
    by_cases ha : rP_allows v1 v2 v3 v4 = 0
    · simp only [if_pos ha]
      exact h
    · simp only [if_neg ha]
      by_cases hf : i 1 = 20
      · simp only [if_pos hf, if_pos (show j 0 = 20 by rw [← p1]; exact hf), if_true]
        exact h
      · simp only [if_neg hf, if_neg (show ¬ j 0 = 20 by rw [← p1]; exact hf), if_neg (show ¬ (1 : Int32) = 0 by decide)]
        have e1 : (i 1 + 1).toInt = (i 1).toInt + 1 := add1 p2 p3 (by decide)
        have hk := tn_of p2
        have hne : ¬ (i 1).toInt = 20 := fun e => hf (Int32.toInt_inj.mp e)
        refine ⟨⟨by show i 1 + 1 = j 0 + 1; rw [p1], by show 0 ≤ (i 1 + 1).toInt; omega, by show (i 1 + 1).toInt ≤ 20; omega, ?_, ?_, ?_, ?_, ?_⟩, hB, hC, hI, hM, hT⟩
        · show upd (a 0) (Int32.toNatClampNeg (i 1)) v1 = upd (c 0) (Int32.toNatClampNeg (j 0)) v1
          rw [p4, p1]
        · show upd (a 1) (Int32.toNatClampNeg (i 1)) v2 = upd (c 1) (Int32.toNatClampNeg (j 0)) v2
          rw [p5, p1]
        · show upd (a 2) (Int32.toNatClampNeg (i 1)) v3 = upd (c 2) (Int32.toNatClampNeg (j 0)) v3
          rw [p6, p1]
        · show upd (a 3) (Int32.toNatClampNeg (i 1)) v4 = upd (c 3) (Int32.toNatClampNeg (j 0)) v4
          rw [p7, p1]
        · intro n hn
          have hn : (n : Int) < (i 1 + 1).toInt := hn
          show ¬ rP_allows (upd (a 0) (Int32.toNatClampNeg (i 1)) v1 n) (upd (a 1) (Int32.toNatClampNeg (i 1)) v2 n) (upd (a 2) (Int32.toNatClampNeg (i 1)) v3 n) (upd (a 3) (Int32.toNatClampNeg (i 1)) v4 n) = 0
          by_cases hq : n = Int32.toNatClampNeg (i 1)
          · subst hq
            rw [upd_at, upd_at, upd_at, upd_at]
            exact ha
          · rw [upd_ne _ _ hq, upd_ne _ _ hq, upd_ne _ _ hq, upd_ne _ _ hq]
            exact p8 n (by omega)
theorem op_address (v1 : Int32) : OPK Inv sX_address sZ_address [.int v1] := by
  intro i a j c h
  obtain ⟨hP, ⟨b1, b2, b3, b4, b5, b6, b7⟩, hC, hI, hM, hT⟩ := id h
  refine op_of (eX_address i a v1 _) (eZ_address j c v1 _ _ (fun q1 q2 => ?_)) ?_ h
  · rw [← b1, le_i] at q2
    rw [lt_i, c0] at q1
    rw [vp_in_iff]
    omega
  · unfold rX_address rZ_address rP_addressOf_b
    rw [b4, ← b1, wt_eq]
    by_cases h0 : j 2 = 0
    · rw [if_pos h0, if_pos h0]
    · rw [if_neg h0, if_neg h0, if_neg (show ¬ (20 : Int32) < i 3 by rw [lt_i, c20]; omega)]
      by_cases h1 : v1 < 0
      · rw [if_pos h1, if_neg (show ¬ (0 ≤ v1 ∧ v1 ≤ i 3) from fun q => by rw [lt_i] at h1; rw [le_i, le_i] at q; omega), if_pos rfl]
      · rw [if_neg h1]
        by_cases h2 : v1 ≤ i 3
        · rw [if_pos h2, if_pos (show 0 ≤ v1 ∧ v1 ≤ i 3 from ⟨by rw [le_i]; rw [lt_i] at h1; omega, h2⟩), if_neg (show ¬ (1 : Int32) = 0 by decide)]
          rw [lt_i, c0] at h1
          rw [le_i] at h2
          exact b7 _ (by rw [tn_of (by omega)]; exact h2)
        · rw [if_neg h2, if_neg (show ¬ (0 ≤ v1 ∧ v1 ≤ i 3) from fun q => h2 q.2), if_pos rfl]
theorem has_c {i : Nat → Int32} (a : Nat → Nat → Int32) (h : (i 5).toInt ≤ 256) (p : Int32) : rC_has i a p = if 0 ≤ p.toInt ∧ p.toInt < (i 5).toInt then 1 else 0 := by
  unfold rC_has
  by_cases h1 : p < 0
  · rw [if_pos h1, if_neg]; rw [lt_i, c0] at h1; omega
  · rw [if_neg h1]
    rw [lt_i, c0] at h1
    by_cases h2 : i 5 ≤ p
    · rw [if_pos h2, if_neg]; rw [le_i] at h2; omega
    · rw [if_neg h2, if_neg (by rw [le_i, show (256 : Int32).toInt = 256 from rfl]; rw [le_i] at h2; omega), if_pos]; rw [le_i] at h2; omega
theorem op_poke (v1 v2 : Int32) : OPK Inv sX_poke sZ_poke [.int v1, .int v2] := by
  intro i a j c h
  obtain ⟨hP, hB, ⟨k1, k2, k3, k4, k5⟩, hI, hM, hT⟩ := id h
  refine op_of (eX_poke i a v1 v2 _) (eZ_poke j c v1 v2 _ _ (fun q1 q2 => ?_)) ?_ ?_
  · rw [← k1, le_i] at q2
    rw [lt_i, c0] at q1
    rw [vp_in_iff]
    omega
  · unfold rX_poke rC_put rZ_poke
    rw [has_c a k3, wt_eq, ot_eq, ← k1]
    by_cases h1 : v1 < 0
    · have := h1; rw [lt_i, c0] at this
      rw [if_pos h1, if_neg (show ¬ (0 ≤ v1.toInt ∧ v1.toInt < (i 5).toInt) by omega), if_pos rfl]
    · have g1 := h1; rw [lt_i, c0] at g1
      rw [if_neg h1]
      by_cases h2 : i 5 ≤ v1
      · have g2 := h2; rw [le_i] at g2
        rw [if_pos h2, if_neg (show ¬ (0 ≤ v1.toInt ∧ v1.toInt < (i 5).toInt) by omega), if_pos rfl]
      · have g2 := h2; rw [le_i] at g2
        rw [if_neg h2, if_pos (show (0 ≤ v1.toInt ∧ v1.toInt < (i 5).toInt) by omega)]
        by_cases h3 : 0 ≤ v2 ∧ v2 ≤ 255
        · simp [h3]
        · simp only [if_neg h3]; simp
  · unfold aX_poke aC_put aZ_poke
    rw [has_c a k3, wt_eq, ot_eq, ← k1]
    by_cases h1 : v1 < 0
    · have := h1; rw [lt_i, c0] at this
      rw [if_pos h1, if_neg (show ¬ (0 ≤ v1.toInt ∧ v1.toInt < (i 5).toInt) by omega), if_pos rfl]
      exact h
    · have g1 := h1; rw [lt_i, c0] at g1
      rw [if_neg h1]
      by_cases h2 : i 5 ≤ v1
      · have g2 := h2; rw [le_i] at g2
        rw [if_pos h2, if_neg (show ¬ (0 ≤ v1.toInt ∧ v1.toInt < (i 5).toInt) by omega), if_pos rfl]
        exact h
      · have g2 := h2; rw [le_i] at g2
        rw [if_neg h2, if_pos (show (0 ≤ v1.toInt ∧ v1.toInt < (i 5).toInt) by omega), if_neg (by decide)]
        by_cases h3 : 0 ≤ v2 ∧ v2 ≤ 255
        · rw [if_pos h3, if_neg (by decide), if_pos h3, if_pos rfl]
          have g3 := h3
          rw [le_i, le_i, c0, show (255 : Int32).toInt = 255 from rfl] at g3
          have hk := tn_of (x := v1) (by omega)
          refine ⟨hP, hB, ⟨k1, k2, k3, ?_, ?_⟩, hI, hM, hT⟩
          · intro n hn
            show upd (a 12) (Int32.toNatClampNeg v1) v2 n = upd (c 11) (Int32.toNatClampNeg v1) v2 n ∧ 0 ≤ (upd (a 12) (Int32.toNatClampNeg v1) v2 n).toInt ∧ (upd (a 12) (Int32.toNatClampNeg v1) v2 n).toInt ≤ 255
            by_cases hq : n = Int32.toNatClampNeg v1
            · subst hq; rw [upd_at, upd_at]; exact ⟨rfl, g3⟩
            · rw [upd_ne _ _ hq, upd_ne _ _ hq]; exact k4 n hn
          · intro n hn hn2
            show upd (a 12) (Int32.toNatClampNeg v1) v2 n = 0
            rw [upd_ne _ _ (by have hn : (i 5).toInt ≤ (n : Int) := hn; omega)]
            exact k5 n hn hn2
        · rw [if_neg h3, if_pos rfl, if_neg h3, if_neg (by decide)]
          exact h
theorem op_peek (v1 : Int32) : OPK Inv sX_peek sZ_peek [.int v1] := by
  intro i a j c h
  obtain ⟨hP, hB, ⟨k1, k2, k3, k4, k5⟩, hI, hM, hT⟩ := id h
  refine op_of (eX_peek i a v1 _) (eZ_peek j c v1 _ _ (fun q1 q2 => ?_)) ?_ h
  · rw [← k1, le_i] at q2
    rw [lt_i, c0] at q1
    rw [vp_in_iff]
    omega
  · unfold rX_peek rC_byteAt rZ_peek
    rw [has_c a k3, ← k1]
    by_cases h0 : v1 = -1
    · rw [if_pos h0, if_pos h0]
    · rw [if_neg h0, if_neg h0]
      by_cases h1 : v1 < 0
      · have := h1; rw [lt_i, c0] at this
        rw [if_pos h1, if_neg (show ¬ (0 ≤ v1.toInt ∧ v1.toInt < (i 5).toInt) by omega), if_pos rfl]
      · have g1 := h1; rw [lt_i, c0] at g1
        rw [if_neg h1]
        by_cases h2 : v1 < i 5
        · have g2 := h2; rw [lt_i] at g2
          rw [if_pos h2, if_pos (show (0 ≤ v1.toInt ∧ v1.toInt < (i 5).toInt) by omega), if_neg (by decide)]
          exact (k4 _ (by rw [tn_of (by omega)]; exact g2)).1
        · have g2 := h2; rw [lt_i] at g2
          rw [if_neg h2, if_neg (show ¬ (0 ≤ v1.toInt ∧ v1.toInt < (i 5).toInt) by omega), if_pos rfl]
theorem op_input (v1 : Int32) : OPK Inv sX_input sZ_input [.int v1] := by
  intro i a j c h
  obtain ⟨hP, hB, hC, ⟨k1, k2, k3, k4⟩, hM, hT⟩ := id h
  have e7 : rI_add i a v1 = if i 7 = 20 then 0 else 1 := by
    unfold rI_add
    rw [if_neg (by rw [lt_i, c0]; omega)]
    by_cases hf : i 7 = 20
    · rw [if_pos hf, hf]; rfl
    · have : ¬ (i 7).toInt = 20 := fun e => hf (Int32.toInt_inj.mp e)
      rw [if_neg hf, if_pos (by rw [lt_i, c20]; omega)]
  refine op_of (eX_input i a v1 _) (eZ_input j c v1 _ _ (fun q => in20 (by rw [← k1]; exact k2) (by rw [← k1]; exact k3) q)) ?_ ?_
  · unfold rX_input rZ_input iI_add
    rw [e7, ← k1]
    by_cases hf : i 7 = 20
    · simp [hf]
    · have : ¬ (i 7).toInt = 20 := fun e => hf (Int32.toInt_inj.mp e)
      rw [if_neg hf, if_neg hf, if_neg (by decide), if_neg (by rw [lt_i, c0]; omega), if_pos (by rw [lt_i, c20]; omega)]
      rfl
  · unfold iX_input aX_input iZ_input aZ_input iI_add aI_add
    rw [e7]
    by_cases hf : i 7 = 20
    · have g1 : ¬ i 7 < 0 := by rw [lt_i, c0]; omega
      have g2 : ¬ i 7 < 20 := by rw [hf]; decide
      simp only [if_pos hf, if_pos (show j 5 = 20 by rw [← k1]; exact hf), if_neg g1, if_neg g2, if_true]
      exact h
    · have hne : ¬ (i 7).toInt = 20 := fun e => hf (Int32.toInt_inj.mp e)
      have g1 : ¬ i 7 < 0 := by rw [lt_i, c0]; omega
      have g2 : i 7 < 20 := by rw [lt_i, c20]; omega
      simp only [if_neg hf, if_neg (show ¬ j 5 = 20 by rw [← k1]; exact hf), if_neg g1, if_pos g2, if_neg (show ¬ (1 : Int32) = 0 by decide)]
      have e1 : (i 7 + 1).toInt = (i 7).toInt + 1 := add1 k2 k3 (by decide)
      refine ⟨hP, hB, hC, ⟨by show i 7 + 1 = j 5 + 1; rw [k1], by show 0 ≤ (i 7 + 1).toInt; omega, by show (i 7 + 1).toInt ≤ 20; omega, ?_⟩, hM, hT⟩
      show upd (a 14) (Int32.toNatClampNeg (i 7)) v1 = upd (c 13) (Int32.toNatClampNeg (j 5)) v1
      rw [k4, k1]
