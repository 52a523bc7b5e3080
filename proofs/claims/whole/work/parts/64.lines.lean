/-! build: a line as instructions, class and reference alike -/
theorem or_3 {x o : Int32} (h : o &&& 3 = 3) : (x ||| o) &&& 3 = 3 := by
  refine b_ext fun i hi => ?_
  have h1 : bt (o &&& 3) i = bt 3 i := by rw [h]
  rw [b_and] at h1
  rw [b_and, b_or]
  cases h2 : bt 3 i
  · rw [Bool.and_false]
  · rw [h2, Bool.and_true] at h1
    rw [h1, Bool.or_true, Bool.and_true]
theorem mlong {k : Int32} (h0 : 0 ≤ k) (h1 : k ≤ 12) (a b c : Int32) : szn (rZ_made k a b c) = 4 := by
  have h2 : k ≤ 14 := by rw [le_i] at *; rw [show (12 : Int32).toInt = 12 from rfl] at h1; rw [show (14 : Int32).toInt = 14 from rfl]; omega
  refine szn_4 ?_
  rw [long_3]
  rcases k_cases h0 h2 with e | e | e | e | e | e | e | e | e | e | e | e | e | e | e <;> subst e
  · rw [md0]; exact or_3 (by decide)
  · rw [md1]; exact or_3 (by decide)
  · rw [md2]; exact or_3 (by decide)
  · rw [md3]; exact or_3 (by decide)
  · rw [md4]; exact or_3 (by decide)
  · rw [md5]; exact or_3 (by decide)
  · rw [md6]; exact or_3 (by decide)
  · rw [md7]; exact or_3 (by decide)
  · rw [md8]; exact or_3 (by decide)
  · rw [md9]; exact or_3 (by decide)
  · rw [md10]; exact or_3 (by decide)
  · rw [md11]; exact or_3 (by decide)
  · rw [md12]; exact or_3 (by decide)
  · exact absurd h1 (by decide)
  · exact absurd h1 (by decide)
theorem sh_b1 (n : Nat) (hn : n < 32) (h : 2 ≤ n) (x : Int32) {i : Nat} (hi : i < 2) : bt (x <<< (nI n &&& 31)) i = false := by
  rw [b_shl n hn x (by omega), decide_eq_false (by omega), Bool.false_and]
theorem mshort {k : Int32} (h : k = 13 ∨ k = 14) (a b c : Int32) : szn (rZ_made k a b c) = 2 := by
  unfold szn
  rw [if_pos]
  refine Classical.byContradiction fun hl => ?_
  rw [long_3] at hl
  rcases h with e | e <;> subst e
  · have h1 : bt (rZ_made 13 a b c &&& 3) 1 = bt 3 1 := by rw [hl]
    rw [b_and, md13, b_or, b_or, b_or] at h1
    have e1 := sh_b1 12 (by omega) (by omega) ((b >>> ((5 : Int32) &&& 31)) &&& (1 : Int32)) (i := 1) (by omega)
    have e2 := sh_b1 7 (by omega) (by omega) a (i := 1) (by omega)
    have e3 := sh_b1 2 (by omega) (by omega) (b &&& (31 : Int32)) (i := 1) (by omega)
    have h2 : ((bt (((b >>> ((5 : Int32) &&& 31)) &&& (1 : Int32)) <<< (nI 12 &&& 31)) 1 || bt (a <<< (nI 7 &&& 31)) 1 || bt ((b &&& (31 : Int32)) <<< (nI 2 &&& 31)) 1 || bt 1 1) && bt 3 1) = bt 3 1 := h1
    rw [e1, e2, e3] at h2
    revert h2
    decide +kernel
  · have h1 : bt (rZ_made 14 a b c &&& 3) 0 = bt 3 0 := by rw [hl]
    rw [b_and, md14, b_or, b_or, b_or] at h1
    have e2 := sh_b1 7 (by omega) (by omega) a (i := 0) (by omega)
    have e3 := sh_b1 2 (by omega) (by omega) b (i := 0) (by omega)
    have h2 : ((bt 32768 0 || bt (a <<< (nI 7 &&& 31)) 0 || bt (b <<< (nI 2 &&& 31)) 0 || bt 2 0) && bt 3 0) = bt 3 0 := h1
    rw [e2, e3] at h2
    revert h2
    decide +kernel
/-- from (i, a), whose row stands at V, by writing l, to (i', a') -/
def XS (i : Nat → Int32) (a : Nat → Nat → Int32) (V : Nat) (l : List Int32) (i' : Nat → Int32) (a' : Nat → Nat → Int32) : Prop := ∃ v : Int32, v.toInt = ((V + LnS l : Nat) : Int) ∧ i' = sI i v 6 ∧ a' = sA a (WS (a 12) V l) 12
def ZS (j : Nat → Int32) (c : Nat → Nat → Int32) (V : Nat) (l : List Int32) (j' : Nat → Int32) (c' : Nat → Nat → Int32) : Prop := ∃ v : Int32, v.toInt = ((V + LnS l : Nat) : Int) ∧ j' = sI j v 4 ∧ c' = sA c (WS (c 11) V l) 11
theorem xs_nil {i : Nat → Int32} {a : Nat → Nat → Int32} {V : Nat} (h : (i 6).toInt = V) : XS i a V [] i a := ⟨i 6, by show _ = ((V + 0 : Nat) : Int); omega, sI_self.symm, sA_self.symm⟩
theorem zs_nil {j : Nat → Int32} {c : Nat → Nat → Int32} {V : Nat} (h : (j 4).toInt = V) : ZS j c V [] j c := ⟨j 4, by show _ = ((V + 0 : Nat) : Int); omega, sI_self.symm, sA_self.symm⟩
theorem sz_i (b : Int32) : (rF_sizeOf b).toInt = szn b := szn_i b
theorem xs_up {i i' : Nat → Int32} {a a' : Nat → Nat → Int32} {V : Nat} {l : List Int32} (h : XS i a V l i' a') {p q r s b : Int32} (hb : rF_pack p q r s = b) (h5 : (i 5).toInt ≤ 256) (hs : ((V + LnS l + szn b : Nat) : Int) ≤ (i 5).toInt) : XS i a V (l ++ [b]) (iR_write i' a' p q r s) (aR_write i' a' p q r s) := by
  obtain ⟨v, h1, h2, h3⟩ := h
  subst h2 h3
  obtain ⟨w1, w2⟩ := xwr (i := sI i v 6) (a := sA a (WS (a 12) V l) 12) hb (V := V + LnS l) h1 h5 hs
  rw [w1, w2, sI_sI, sA_sA, sA_eq]
  refine ⟨v + rF_sizeOf b, ?_, rfl, ?_⟩
  · rw [LS_app, LS_1, addc (sz_i b) (by omega) (by omega)]; omega
  · rw [WS_app, WS_1]
theorem zs_4 {j j' : Nat → Int32} {c c' : Nat → Nat → Int32} {V : Nat} {l : List Int32} (h : ZS j c V l j' c') {b : Int32} (hb : szn b = 4) (hs : V + LnS l + 4 ≤ 256) : ZS j c V (l ++ [b]) (iZ_put j' c' b 4) (aZ_put j' c' b 4) := by
  obtain ⟨v, h1, h2, h3⟩ := h
  subst h2 h3
  obtain ⟨w1, w2⟩ := zput4 (j := sI j v 4) (c := sA c (WS (c 11) V l) 11) b (V := V + LnS l) h1 (by omega)
  rw [w1, w2, sI_sI, sA_sA, sA_eq]
  refine ⟨v + 4, ?_, rfl, ?_⟩
  · rw [LS_app, LS_1, hb, addc c4 (by omega) (by omega)]; omega
  · rw [WS_app, WS_1]
    have hl : ¬ rZ_isLong b = 0 := fun e => by unfold szn at hb; rw [if_pos e] at hb; omega
    unfold WB
    rw [if_neg hl]
theorem zs_2 {j j' : Nat → Int32} {c c' : Nat → Nat → Int32} {V : Nat} {l : List Int32} (h : ZS j c V l j' c') {b : Int32} (hb : szn b = 2) (hs : V + LnS l + 2 ≤ 256) : ZS j c V (l ++ [b]) (iZ_put j' c' b 2) (aZ_put j' c' b 2) := by
  obtain ⟨v, h1, h2, h3⟩ := h
  subst h2 h3
  obtain ⟨w1, w2⟩ := zput2 (j := sI j v 4) (c := sA c (WS (c 11) V l) 11) b (V := V + LnS l) h1 (by omega)
  rw [w1, w2, sI_sI, sA_sA, sA_eq]
  refine ⟨v + 2, ?_, rfl, ?_⟩
  · rw [LS_app, LS_1, hb, addc c2 (by omega) (by omega)]; omega
  · rw [WS_app, WS_1]
    have hl : rZ_isLong b = 0 := Classical.byContradiction fun e => by unfold szn at hb; rw [if_neg e] at hb; omega
    unfold WB
    rw [if_pos hl]
/-- a line's instructions -/
noncomputable def LN (k x y z at_ : Int32) (adr : Nat → Int32) : List Int32 :=
  if k = 6 ∨ k = 7 then [rZ_made 4 31 y z, rZ_made 2 31 31 29, rZ_made 3 31 31 28, rZ_made k x 31 0]
  else if k = 12 then [rZ_made 2 31 y 27, rZ_made 12 x 31 0]
  else if k = 8 ∨ k = 9 ∨ k = 10 then [rZ_made k x y (adr z.toNatClampNeg - at_)]
  else if k = 11 then [rZ_made 11 x (adr y.toNatClampNeg - at_) 0]
  else if k = 15 then [rZ_made 11 1 (16 * x - at_) 0]
  else if k = 16 then [rZ_made 4 x 0 (adr y.toNatClampNeg)]
  else [rZ_made k x y z]
def lsz (k : Int32) : Nat := if k = 6 ∨ k = 7 then 16 else if k = 12 then 8 else if k = 13 ∨ k = 14 then 2 else 4
theorem LS_4 (a b c d : Int32) (ha : szn a = 4) (hb : szn b = 4) (hc : szn c = 4) (hd : szn d = 4) : LnS [a, b, c, d] = 16 := by
  show szn a + (szn b + (szn c + (szn d + 0))) = 16
  omega
theorem LS_2 (a b : Int32) (ha : szn a = 4) (hb : szn b = 4) : LnS [a, b] = 8 := by
  show szn a + (szn b + 0) = 8
  omega
theorem LS_3 (a b c : Int32) (ha : szn a = 4) (hb : szn b = 4) (hc : szn c = 4) : LnS [a, b, c] = 12 := by
  show szn a + (szn b + (szn c + 0)) = 12
  omega
theorem LS_LN {k x y z : Int32} (al : ¬ rP_allows k x y z = 0) (at_ : Int32) (adr : Nat → Int32) : LnS (LN k x y z at_ adr) = lsz k := by
  unfold LN lsz
  rcases al_k al with e | e | e | e | e | e | e | e | e | e | e | e | e | e | e | e | e <;> subst e <;> simp (config := { decide := true }) only [if_true, if_false]
  · rw [LS_1]; exact mlong (by decide) (by decide) _ _ _
  · rw [LS_1]; exact mlong (by decide) (by decide) _ _ _
  · rw [LS_1]; exact mlong (by decide) (by decide) _ _ _
  · rw [LS_1]; exact mlong (by decide) (by decide) _ _ _
  · rw [LS_1]; exact mlong (by decide) (by decide) _ _ _
  · rw [LS_1]; exact mlong (by decide) (by decide) _ _ _
  · exact LS_4 _ _ _ _ (mlong (by decide) (by decide) _ _ _) (mlong (by decide) (by decide) _ _ _) (mlong (by decide) (by decide) _ _ _) (mlong (by decide) (by decide) _ _ _)
  · exact LS_4 _ _ _ _ (mlong (by decide) (by decide) _ _ _) (mlong (by decide) (by decide) _ _ _) (mlong (by decide) (by decide) _ _ _) (mlong (by decide) (by decide) _ _ _)
  · rw [LS_1]; exact mlong (by decide) (by decide) _ _ _
  · rw [LS_1]; exact mlong (by decide) (by decide) _ _ _
  · rw [LS_1]; exact mlong (by decide) (by decide) _ _ _
  · rw [LS_1]; exact mlong (by decide) (by decide) _ _ _
  · exact LS_2 _ _ (mlong (by decide) (by decide) _ _ _) (mlong (by decide) (by decide) _ _ _)
  · rw [LS_1]; exact mshort (by decide) _ _ _
  · rw [LS_1]; exact mshort (by decide) _ _ _
  · rw [LS_1]; exact mlong (by decide) (by decide) _ _ _
  · rw [LS_1]; exact mlong (by decide) (by decide) _ _ _
set_option maxRecDepth 100000 in
theorem xline {i : Nat → Int32} {a : Nat → Nat → Int32} {k x y z : Int32} {V : Nat} (hv : (i 6).toInt = V) (h5 : (i 5).toInt ≤ 256) (h3 : (i 3).toInt ≤ 20) (hb : BL (i 3) k x y z) (hs : ((V + lsz k : Nat) : Int) ≤ (i 5).toInt) : XS i a V (LN k x y z (i 6) (a 10)) (iR_writeLine i a k x y z) (aR_writeLine i a k x y z) := by
  obtain ⟨al, t1, t2, t3⟩ := hb
  obtain ⟨-, lx, ly, lz, lt, lc, ls⟩ := al_of al
  have n := xs_nil (a := a) hv
  have pk : ∀ (k a b c : Int32), 0 ≤ k → k ≤ 14 → rF_pack k a b c = rZ_made k a b c := fun k a b c h0 h1 => pkm_eq h0 h1 a b c
  unfold iR_writeLine aR_writeLine LN
  unfold lsz at hs
  rcases al_k al with e | e | e | e | e | e | e | e | e | e | e | e | e | e | e | e | e <;> subst e <;> simp (config := { decide := true }) only [if_true, if_false] at hs ⊢
  · exact xs_up n (pk 0 x y z (by decide) (by decide)) h5 (by rw [mlong (by decide) (by decide)]; show ((V + 0 + 4 : Nat) : Int) ≤ _; omega)
  · exact xs_up n (pk 1 x y z (by decide) (by decide)) h5 (by rw [mlong (by decide) (by decide)]; show ((V + 0 + 4 : Nat) : Int) ≤ _; omega)
  · exact xs_up n (pk 2 x y z (by decide) (by decide)) h5 (by rw [mlong (by decide) (by decide)]; show ((V + 0 + 4 : Nat) : Int) ≤ _; omega)
  · exact xs_up n (pk 3 x y z (by decide) (by decide)) h5 (by rw [mlong (by decide) (by decide)]; show ((V + 0 + 4 : Nat) : Int) ≤ _; omega)
  · exact xs_up n (pk 4 x y z (by decide) (by decide)) h5 (by rw [mlong (by decide) (by decide)]; show ((V + 0 + 4 : Nat) : Int) ≤ _; omega)
  · exact xs_up n (pk 5 x y z (by decide) (by decide)) h5 (by rw [mlong (by decide) (by decide)]; show ((V + 0 + 4 : Nat) : Int) ≤ _; omega)
  · have m1 := mlong (by decide) (by decide) (k := 4) (a := 31) (b := y) (c := z)
    have m2 := mlong (by decide) (by decide) (k := 2) (a := 31) (b := 31) (c := 29)
    have m3 := mlong (by decide) (by decide) (k := 3) (a := 31) (b := 31) (c := 28)
    have m4 := mlong (by decide) (by decide) (k := 6) (a := x) (b := 31) (c := 0)
    have s1 := xs_up n (pk 4 31 y z (by decide) (by decide)) h5 (by rw [m1]; show ((V + 0 + 4 : Nat) : Int) ≤ _; omega)
    have s2 := xs_up s1 (pk 2 31 31 29 (by decide) (by decide)) h5 (by rw [m2]; show ((V + LnS [rZ_made 4 31 y z] + 4 : Nat) : Int) ≤ _; rw [LS_1, m1]; omega)
    have s3 := xs_up s2 (pk 3 31 31 28 (by decide) (by decide)) h5 (by rw [m3]; show ((V + LnS [rZ_made 4 31 y z, rZ_made 2 31 31 29] + 4 : Nat) : Int) ≤ _; rw [LS_2 _ _ m1 m2]; omega)
    exact xs_up s3 (pk 6 x 31 0 (by decide) (by decide)) h5 (by rw [m4]; show ((V + LnS [rZ_made 4 31 y z, rZ_made 2 31 31 29, rZ_made 3 31 31 28] + 4 : Nat) : Int) ≤ _; rw [LS_3 _ _ _ m1 m2 m3]; omega)
  · have m1 := mlong (by decide) (by decide) (k := 4) (a := 31) (b := y) (c := z)
    have m2 := mlong (by decide) (by decide) (k := 2) (a := 31) (b := 31) (c := 29)
    have m3 := mlong (by decide) (by decide) (k := 3) (a := 31) (b := 31) (c := 28)
    have m4 := mlong (by decide) (by decide) (k := 7) (a := x) (b := 31) (c := 0)
    have s1 := xs_up n (pk 4 31 y z (by decide) (by decide)) h5 (by rw [m1]; show ((V + 0 + 4 : Nat) : Int) ≤ _; omega)
    have s2 := xs_up s1 (pk 2 31 31 29 (by decide) (by decide)) h5 (by rw [m2]; show ((V + LnS [rZ_made 4 31 y z] + 4 : Nat) : Int) ≤ _; rw [LS_1, m1]; omega)
    have s3 := xs_up s2 (pk 3 31 31 28 (by decide) (by decide)) h5 (by rw [m3]; show ((V + LnS [rZ_made 4 31 y z, rZ_made 2 31 31 29] + 4 : Nat) : Int) ≤ _; rw [LS_2 _ _ m1 m2]; omega)
    exact xs_up s3 (pk 7 x 31 0 (by decide) (by decide)) h5 (by rw [m4]; show ((V + LnS [rZ_made 4 31 y z, rZ_made 2 31 31 29, rZ_made 3 31 31 28] + 4 : Nat) : Int) ≤ _; rw [LS_3 _ _ _ m1 m2 m3]; omega)
  · rw [addr_b (lc (by decide)).1 (t1 (by decide)) h3]
    exact xs_up n (pk 8 x y _ (by decide) (by decide)) h5 (by rw [mlong (by decide) (by decide)]; show ((V + 0 + 4 : Nat) : Int) ≤ _; omega)
  · rw [addr_b (lc (by decide)).1 (t1 (by decide)) h3]
    exact xs_up n (pk 9 x y _ (by decide) (by decide)) h5 (by rw [mlong (by decide) (by decide)]; show ((V + 0 + 4 : Nat) : Int) ≤ _; omega)
  · rw [addr_b (lc (by decide)).1 (t1 (by decide)) h3]
    exact xs_up n (pk 10 x y _ (by decide) (by decide)) h5 (by rw [mlong (by decide) (by decide)]; show ((V + 0 + 4 : Nat) : Int) ≤ _; omega)
  · rw [addr_b (lt (by decide)).1 (t2 (by decide)) h3]
    exact xs_up n (pk 11 x _ 0 (by decide) (by decide)) h5 (by rw [mlong (by decide) (by decide)]; show ((V + 0 + 4 : Nat) : Int) ≤ _; omega)
  · have m1 := mlong (by decide) (by decide) (k := 2) (a := 31) (b := y) (c := 27)
    have m2 := mlong (by decide) (by decide) (k := 12) (a := x) (b := 31) (c := 0)
    have s1 := xs_up n (pk 2 31 y 27 (by decide) (by decide)) h5 (by rw [m1]; show ((V + 0 + 4 : Nat) : Int) ≤ _; omega)
    exact xs_up s1 (pk 12 x 31 0 (by decide) (by decide)) h5 (by rw [m2]; show ((V + LnS [rZ_made 2 31 y 27] + 4 : Nat) : Int) ≤ _; rw [LS_1, m1]; omega)
  · exact xs_up n (pk 13 x y z (by decide) (by decide)) h5 (by rw [mshort (by decide)]; show ((V + 0 + 2 : Nat) : Int) ≤ _; omega)
  · exact xs_up n (pk 14 x y z (by decide) (by decide)) h5 (by rw [mshort (by decide)]; show ((V + 0 + 2 : Nat) : Int) ≤ _; omega)
  · rw [Int32.mul_comm 16 x]
    exact xs_up n (pk 11 1 _ 0 (by decide) (by decide)) h5 (by rw [mlong (by decide) (by decide)]; show ((V + 0 + 4 : Nat) : Int) ≤ _; omega)
  · rw [addr_b (lt (by decide)).1 (t3 (by decide)) h3]
    exact xs_up n (pk 4 x 0 _ (by decide) (by decide)) h5 (by rw [mlong (by decide) (by decide)]; show ((V + 0 + 4 : Nat) : Int) ≤ _; omega)
set_option maxRecDepth 100000 in
theorem zline {j : Nat → Int32} {c : Nat → Nat → Int32} {p : Int32} {V : Nat} (hv : (j 4).toInt = V) (al : ¬ rP_allows (c 0 p.toNatClampNeg) (c 1 p.toNatClampNeg) (c 2 p.toNatClampNeg) (c 3 p.toNatClampNeg) = 0) (hs : V + lsz (c 0 p.toNatClampNeg) ≤ 256) : ZS j c V (LN (c 0 p.toNatClampNeg) (c 1 p.toNatClampNeg) (c 2 p.toNatClampNeg) (c 3 p.toNatClampNeg) (j 4) (c 8)) (iZ_write j c p) (aZ_write j c p) := by
  have n := zs_nil (c := c) hv
  unfold iZ_write aZ_write LN
  generalize c 0 p.toNatClampNeg = k at *
  generalize c 1 p.toNatClampNeg = x at *
  generalize c 2 p.toNatClampNeg = y at *
  generalize c 3 p.toNatClampNeg = z at *
  unfold lsz at hs
  rcases al_k al with e | e | e | e | e | e | e | e | e | e | e | e | e | e | e | e | e <;> subst e <;> simp (config := { decide := true }) only [if_true, if_false] at hs ⊢
  · exact zs_4 n (mlong (by decide) (by decide) _ _ _) (by show V + 0 + 4 ≤ _; omega)
  · exact zs_4 n (mlong (by decide) (by decide) _ _ _) (by show V + 0 + 4 ≤ _; omega)
  · exact zs_4 n (mlong (by decide) (by decide) _ _ _) (by show V + 0 + 4 ≤ _; omega)
  · exact zs_4 n (mlong (by decide) (by decide) _ _ _) (by show V + 0 + 4 ≤ _; omega)
  · exact zs_4 n (mlong (by decide) (by decide) _ _ _) (by show V + 0 + 4 ≤ _; omega)
  · exact zs_4 n (mlong (by decide) (by decide) _ _ _) (by show V + 0 + 4 ≤ _; omega)
  · have m1 := mlong (by decide) (by decide) (k := 4) (a := 31) (b := y) (c := z)
    have m2 := mlong (by decide) (by decide) (k := 2) (a := 31) (b := 31) (c := 29)
    have m3 := mlong (by decide) (by decide) (k := 3) (a := 31) (b := 31) (c := 28)
    have m4 := mlong (by decide) (by decide) (k := 6) (a := x) (b := 31) (c := 0)
    have s1 := zs_4 n m1 (by show V + 0 + 4 ≤ _; omega)
    have s2 := zs_4 s1 m2 (by show V + LnS [rZ_made 4 31 y z] + 4 ≤ _; rw [LS_1, m1]; omega)
    have s3 := zs_4 s2 m3 (by show V + LnS [rZ_made 4 31 y z, rZ_made 2 31 31 29] + 4 ≤ _; rw [LS_2 _ _ m1 m2]; omega)
    exact zs_4 s3 m4 (by show V + LnS [rZ_made 4 31 y z, rZ_made 2 31 31 29, rZ_made 3 31 31 28] + 4 ≤ _; rw [LS_3 _ _ _ m1 m2 m3]; omega)
  · have m1 := mlong (by decide) (by decide) (k := 4) (a := 31) (b := y) (c := z)
    have m2 := mlong (by decide) (by decide) (k := 2) (a := 31) (b := 31) (c := 29)
    have m3 := mlong (by decide) (by decide) (k := 3) (a := 31) (b := 31) (c := 28)
    have m4 := mlong (by decide) (by decide) (k := 7) (a := x) (b := 31) (c := 0)
    have s1 := zs_4 n m1 (by show V + 0 + 4 ≤ _; omega)
    have s2 := zs_4 s1 m2 (by show V + LnS [rZ_made 4 31 y z] + 4 ≤ _; rw [LS_1, m1]; omega)
    have s3 := zs_4 s2 m3 (by show V + LnS [rZ_made 4 31 y z, rZ_made 2 31 31 29] + 4 ≤ _; rw [LS_2 _ _ m1 m2]; omega)
    exact zs_4 s3 m4 (by show V + LnS [rZ_made 4 31 y z, rZ_made 2 31 31 29, rZ_made 3 31 31 28] + 4 ≤ _; rw [LS_3 _ _ _ m1 m2 m3]; omega)
  · exact zs_4 n (mlong (by decide) (by decide) _ _ _) (by show V + 0 + 4 ≤ _; omega)
  · exact zs_4 n (mlong (by decide) (by decide) _ _ _) (by show V + 0 + 4 ≤ _; omega)
  · exact zs_4 n (mlong (by decide) (by decide) _ _ _) (by show V + 0 + 4 ≤ _; omega)
  · exact zs_4 n (mlong (by decide) (by decide) _ _ _) (by show V + 0 + 4 ≤ _; omega)
  · have m1 := mlong (by decide) (by decide) (k := 2) (a := 31) (b := y) (c := 27)
    have m2 := mlong (by decide) (by decide) (k := 12) (a := x) (b := 31) (c := 0)
    have s1 := zs_4 n m1 (by show V + 0 + 4 ≤ _; omega)
    exact zs_4 s1 m2 (by show V + LnS [rZ_made 2 31 y 27] + 4 ≤ _; rw [LS_1, m1]; omega)
  · exact zs_2 n (mshort (by decide) _ _ _) (by show V + 0 + 2 ≤ _; omega)
  · exact zs_2 n (mshort (by decide) _ _ _) (by show V + 0 + 2 ≤ _; omega)
  · exact zs_4 n (mlong (by decide) (by decide) _ _ _) (by show V + 0 + 4 ≤ _; omega)
  · exact zs_4 n (mlong (by decide) (by decide) _ _ _) (by show V + 0 + 4 ≤ _; omega)
