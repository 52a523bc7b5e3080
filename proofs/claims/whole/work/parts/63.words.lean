/-! build: rows of instructions, paddings and lines as rows -/
/-- a row of instructions written from V on -/
noncomputable def WS : (Nat → Int32) → Nat → List Int32 → Nat → Int32
  | g, _, [] => g
  | g, V, b :: l => WS (WB g V b) (V + szn b) l
noncomputable def LnS : List Int32 → Nat
  | [] => 0
  | b :: l => szn b + LnS l
theorem WS_app : ∀ (l m : List Int32) (g : Nat → Int32) (V : Nat), WS g V (l ++ m) = WS (WS g V l) (V + LnS l) m := by
  intro l
  induction l with
  | nil => intro m g V; rfl
  | cons b l ih =>
    intro m g V
    show WS (WB g V b) (V + szn b) (l ++ m) = WS (WS (WB g V b) (V + szn b) l) (V + (szn b + LnS l)) m
    rw [ih, Nat.add_assoc]
theorem LS_app : ∀ (l m : List Int32), LnS (l ++ m) = LnS l + LnS m := by
  intro l
  induction l with
  | nil => intro m; show LnS m = 0 + LnS m; omega
  | cons b l ih =>
    intro m
    show szn b + LnS (l ++ m) = szn b + LnS l + LnS m
    rw [ih]
    omega
theorem WS_1 (g : Nat → Int32) (V : Nat) (b : Int32) : WS g V [b] = WB g V b := rfl
theorem LS_1 (b : Int32) : LnS [b] = szn b := by show szn b + 0 = szn b; omega
/-- the two codes alike up to V, the class's 0 behind -/
def LK (g g' : Nat → Int32) (V : Nat) : Prop := (∀ m : Nat, m < V → g m = g' m ∧ 0 ≤ (g m).toInt ∧ (g m).toInt ≤ 255) ∧ ∀ m : Nat, V ≤ m → m < 256 → g m = 0
theorem LK_u {g g' : Nat → Int32} {V : Nat} (h : LK g g' V) {v : Int32} (v0 : 0 ≤ v.toInt) (v1 : v.toInt ≤ 255) : LK (upd g V v) (upd g' V v) (V + 1) := by
  refine ⟨fun m hm => ?_, fun m h1 h2 => ?_⟩
  · by_cases e : m = V
    · subst e; rw [upd_at, upd_at]; exact ⟨rfl, v0, v1⟩
    · rw [upd_ne _ _ e, upd_ne _ _ e]; exact h.1 m (by omega)
  · rw [upd_ne _ _ (by omega)]; exact h.2 m (by omega) h2
theorem LK_B {g g' : Nat → Int32} {V : Nat} (h : LK g g' V) (b : Int32) : LK (WB g V b) (WB g' V b) (V + szn b) := by
  unfold WB szn
  by_cases hl : rZ_isLong b = 0
  · rw [if_pos hl, if_pos hl, if_pos hl]
    exact LK_u (LK_u h (bz_r b 0).1 (bz_r b 0).2) (bz_r b 1).1 (bz_r b 1).2
  · rw [if_neg hl, if_neg hl, if_neg hl]
    exact LK_u (LK_u (LK_u (LK_u h (bz_r b 0).1 (bz_r b 0).2) (bz_r b 1).1 (bz_r b 1).2) (bz_r b 2).1 (bz_r b 2).2) (bz_r b 3).1 (bz_r b 3).2
theorem LK_S : ∀ (l : List Int32) (g g' : Nat → Int32) (V : Nat), LK g g' V → LK (WS g V l) (WS g' V l) (V + LnS l) := by
  intro l
  induction l with
  | nil => intro g g' V h; exact h
  | cons b l ih =>
    intro g g' V h
    have := ih _ _ _ (LK_B h b)
    show LK (WS (WB g V b) (V + szn b) l) (WS (WB g' V b) (V + szn b) l) (V + (szn b + LnS l))
    rw [← Nat.add_assoc]
    exact this
/-- a padding of d bytes -/
def PDL (d : Nat) : List Int32 := (if d % 4 = 0 then [] else [1]) ++ List.replicate (d / 4) 19
theorem szn_1 : szn 1 = 2 := by unfold szn; rw [if_pos]; decide +kernel
theorem szn_19 : szn 19 = 4 := by unfold szn; rw [if_neg]; decide +kernel
theorem LS_rep : ∀ k : Nat, LnS (List.replicate k 19) = 4 * k := by
  intro k
  induction k with
  | zero => rfl
  | succ k ih =>
    show szn 19 + LnS (List.replicate k 19) = _
    rw [ih, szn_19]
    omega
theorem LS_PDL {d : Nat} (h : d % 2 = 0) : LnS (PDL d) = d := by
  unfold PDL
  rw [LS_app, LS_rep]
  by_cases h4 : d % 4 = 0
  · rw [if_pos h4]; show 0 + _ = _; omega
  · rw [if_neg h4, LS_1, szn_1]; omega
theorem PDL_add {d e : Nat} (h : e % 4 = 0) : PDL d ++ PDL e = PDL (d + e) := by
  unfold PDL
  rw [if_pos h, List.nil_append, List.append_assoc, List.replicate_append_replicate, show (d + e) % 4 = d % 4 by omega, show (d + e) / 4 = d / 4 + e / 4 by omega]
theorem PDL_0 : PDL 0 = [] := rfl
theorem pk13 : rF_pack 13 0 0 0 = 1 := by decide +kernel
theorem pk4 : rF_pack 4 0 0 0 = 19 := by decide +kernel
theorem md13_0 : rZ_made 13 0 0 0 = 1 := by decide +kernel
theorem md4_0 : rZ_made 4 0 0 0 = 19 := by decide +kernel
theorem sz19 : rF_sizeOf 19 = 4 := by decide +kernel
theorem sz1 : rF_sizeOf 1 = 2 := by decide +kernel
theorem WB_19 (g : Nat → Int32) (V : Nat) : WB g V 19 = W4 g V 19 := by unfold WB; rw [if_neg]; decide +kernel
theorem WB_1 (g : Nat → Int32) (V : Nat) : WB g V 1 = W2 g V 1 := by unfold WB; rw [if_pos]; decide +kernel
theorem xpad_l : ∀ (f k V : Nat) (i : Nat → Int32) (a : Nat → Nat → Int32) (n : Int32), n.toInt = k → (i 6).toInt = V → (i 5).toInt ≤ 256 → ((V + 4 * k : Nat) : Int) ≤ (i 5).toInt → k < f → ∃ v : Int32, v.toInt = ((V + 4 * k : Nat) : Int) ∧ iR_pad_l f i a n = sI i v 6 ∧ aR_pad_l f i a n = sA a (WS (a 12) V (List.replicate k 19)) 12 := by
  intro f
  induction f with
  | zero => intro k V i a n _ _ _ _ h; exact absurd h (Nat.not_lt_zero _)
  | succ f ih =>
    intro k V i a n hn hv h5 hb hf
    rw [iR_pad_l, aR_pad_l]
    by_cases h : n ≤ 0
    · rw [if_pos h, if_pos h]
      rw [le_i, c0] at h
      have hk : k = 0 := by omega
      subst hk
      exact ⟨i 6, by omega, sI_self.symm, sA_self.symm⟩
    · rw [if_neg h, if_neg h]
      rw [le_i, c0] at h
      obtain ⟨k, rfl⟩ : ∃ q, k = q + 1 := ⟨k - 1, by omega⟩
      obtain ⟨w1, w2⟩ := xwr (i := i) (a := a) pk4 hv h5 (by rw [szn_19]; omega)
      rw [w1, w2, sz19]
      obtain ⟨v, v1, v2, v3⟩ := ih k (V + 4) (sI i (i 6 + 4) 6) (sA a (WB (a 12) V 19) 12) (n + -1) (by rw [addc (N := -1) rfl (by omega) (by omega)]; omega) (by show (i 6 + 4).toInt = _; rw [addc c4 (by omega) (by omega)]; omega) h5 (by show ((V + 4 + 4 * k : Nat) : Int) ≤ (i 5).toInt; omega) (by omega)
      refine ⟨v, by omega, by rw [v2, sI_sI], ?_⟩
      rw [v3, sA_sA, sA_eq]
      show sA a (WS (WB (a 12) V 19) (V + 4) (List.replicate k 19)) 12 = sA a (WS (WB (a 12) V 19) (V + szn 19) (List.replicate k 19)) 12
      rw [szn_19]
theorem eq_of_i {x y : Int32} {N : Int} (hx : x.toInt = N) (hy : y.toInt = N) : x = y := Int32.toInt_inj.mp (hx.trans hy.symm)
theorem xpad {i : Nat → Int32} {a : Nat → Nat → Int32} {p : Int32} {V E : Nat} (hv : (i 6).toInt = V) (hp : p.toInt = E) (h5 : (i 5).toInt ≤ 256) (hE : (E : Int) ≤ (i 5).toInt) (hVE : V ≤ E) (h2 : (E - V) % 2 = 0) : iR_pad i a p = sI i p 6 ∧ aR_pad i a p = sA a (WS (a 12) V (PDL (E - V))) 12 := by
  unfold iR_pad aR_pad
  have e1 : (p - i 6).toInt = ((E - V : Nat) : Int) := by rw [sub_i (by omega) (by omega)]; omega
  have ed := div4_i (x := p - i 6) (by omega)
  have er := rem4_i (p - i 6)
  rw [if_pos (by omega)] at er
  have ek : ((p - i 6) / 4).toInt = (((E - V) / 4 : Nat) : Int) := by rw [ed, e1]; omega
  by_cases h4 : (p - i 6) - (p - i 6) / 4 * 4 = 0
  · rw [if_pos h4, if_pos h4]
    rw [h4, c0] at er
    obtain ⟨v, v1, v2, v3⟩ := xpad_l ((Int32.toInt ((p - i 6) / 4)).toNat + 1) ((E - V) / 4) V i a ((p - i 6) / 4) ek hv h5 (by omega) (by omega)
    rw [v2, v3, eq_of_i v1 (show p.toInt = _ by omega)]
    refine ⟨rfl, ?_⟩
    unfold PDL
    rw [if_pos (by omega), List.nil_append]
  · rw [if_neg h4, if_neg h4]
    have h4' : ¬ (E - V) % 4 = 0 := fun e => h4 (Int32.toInt_inj.mp (by rw [er, e1, c0]; omega))
    obtain ⟨w1, w2⟩ := xwr (i := i) (a := a) pk13 hv h5 (by rw [szn_1]; omega)
    rw [w1, w2, sz1]
    obtain ⟨v, v1, v2, v3⟩ := xpad_l ((Int32.toInt ((p - i 6) / 4)).toNat + 1) ((E - V) / 4) (V + 2) (sI i (i 6 + 2) 6) (sA a (WB (a 12) V 1) 12) ((p - i 6) / 4) ek (by show (i 6 + 2).toInt = _; rw [addc c2 (by omega) (by omega)]; omega) h5 (by show _ ≤ (i 5).toInt; omega) (by omega)
    rw [v2, v3, eq_of_i v1 (show p.toInt = _ by omega), sI_sI, sA_sA, sA_eq]
    refine ⟨rfl, ?_⟩
    unfold PDL
    rw [if_neg h4']
    show _ = sA a (WS (WB (a 12) V 1) (V + szn 1) (List.replicate ((E - V) / 4) 19)) 12
    rw [szn_1]
theorem zpad_l : ∀ (f k V : Nat) (j : Nat → Int32) (c : Nat → Nat → Int32) (t : Int32), (j 4).toInt = V → t.toInt = ((V + 4 * k : Nat) : Int) → V + 4 * k ≤ 256 → 4 * k < f → iZ_pad_l f j c t = sI j t 4 ∧ aZ_pad_l f j c t = sA c (WS (c 11) V (List.replicate k 19)) 11 := by
  intro f
  induction f with
  | zero => intro k V j c t _ _ _ h; exact absurd h (Nat.not_lt_zero _)
  | succ f ih =>
    intro k V j c t hv ht hb hf
    rw [iZ_pad_l, aZ_pad_l]
    by_cases h : t ≤ j 4
    · rw [if_pos h, if_pos h]
      rw [le_i] at h
      have hk : k = 0 := by omega
      subst hk
      rw [eq_of_i ht (show (j 4).toInt = _ by omega), sI_self]
      exact ⟨rfl, sA_self.symm⟩
    · rw [if_neg h, if_neg h]
      rw [le_i] at h
      obtain ⟨k, rfl⟩ : ∃ q, k = q + 1 := ⟨k - 1, by omega⟩
      obtain ⟨w1, w2⟩ := zput4 (j := j) (c := c) (rZ_made 4 0 0 0) hv (by omega)
      rw [w1, w2, md4_0]
      obtain ⟨v2, v3⟩ := ih k (V + 4) (sI j (j 4 + 4) 4) (sA c (W4 (c 11) V 19) 11) t (by show (j 4 + 4).toInt = _; rw [addc c4 (by omega) (by omega)]; omega) (by omega) (by omega) (by omega)
      rw [v2, v3, sI_sI, sA_sA, sA_eq]
      refine ⟨rfl, ?_⟩
      show sA c (WS (W4 (c 11) V 19) (V + 4) (List.replicate k 19)) 11 = sA c (WS (WB (c 11) V 19) (V + szn 19) (List.replicate k 19)) 11
      rw [szn_19, WB_19]
theorem zpad {j : Nat → Int32} {c : Nat → Nat → Int32} {p : Int32} {V E : Nat} (hv : (j 4).toInt = V) (hp : p.toInt = E) (hE : E ≤ 256) (hVE : V ≤ E) (h2 : (E - V) % 2 = 0) : iZ_pad j c p = sI j p 4 ∧ aZ_pad j c p = sA c (WS (c 11) V (PDL (E - V))) 11 := by
  unfold iZ_pad aZ_pad
  have e1 : (p - j 4).toInt = ((E - V : Nat) : Int) := by rw [sub_i (by omega) (by omega)]; omega
  have er := rem4_i (p - j 4)
  rw [if_pos (by omega)] at er
  by_cases h4 : (p - j 4) - (p - j 4) / 4 * 4 = 0
  · rw [if_pos h4, if_pos h4]
    rw [h4, c0] at er
    obtain ⟨v2, v3⟩ := zpad_l ((Int32.toInt p - Int32.toInt (j 4)).toNat + 1) ((E - V) / 4) V j c p hv (by omega) (by omega) (by omega)
    rw [v2, v3]
    refine ⟨rfl, ?_⟩
    unfold PDL
    rw [if_pos (by omega), List.nil_append]
  · rw [if_neg h4, if_neg h4]
    have h4' : ¬ (E - V) % 4 = 0 := fun e => h4 (Int32.toInt_inj.mp (by rw [er, e1, c0]; omega))
    obtain ⟨w1, w2⟩ := zput2 (j := j) (c := c) (rZ_made 13 0 0 0) hv (by omega)
    rw [w1, w2, md13_0]
    have e2 : (j 4 + 2).toInt = ((V + 2 : Nat) : Int) := by rw [addc c2 (by omega) (by omega)]; omega
    obtain ⟨v2, v3⟩ := zpad_l ((Int32.toInt p - Int32.toInt ((sI j (j 4 + 2) 4) 4)).toNat + 1) ((E - V) / 4) (V + 2) (sI j (j 4 + 2) 4) (sA c (W2 (c 11) V 1) 11) p e2 (by omega) (by omega) (by show _ < (Int32.toInt p - Int32.toInt (j 4 + 2)).toNat + 1; omega)
    rw [v2, v3, sI_sI, sA_sA, sA_eq]
    refine ⟨rfl, ?_⟩
    unfold PDL
    rw [if_neg h4']
    show _ = sA c (WS (WB (c 11) V 1) (V + szn 1) (List.replicate ((E - V) / 4) 19)) 11
    rw [szn_1, WB_1]
