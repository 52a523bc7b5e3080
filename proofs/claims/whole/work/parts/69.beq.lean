/-! build: the writing, class and reference alike -/
theorem sA_swap {a : Nat → Nat → Int32} {u v : Nat → Int32} {k l : Nat} (h : k ≠ l) : sA (sA a u k) v l = sA (sA a v l) u k := by
  funext q
  unfold sA
  cases h1 : Nat.beq q l <;> cases h2 : Nat.beq q k
  · rfl
  · rfl
  · rfl
  · exact absurd ((Nat.eq_of_beq_eq_true h2).symm.trans (Nat.eq_of_beq_eq_true h1)) h
/-- the reference's code and built lines -/
noncomputable def ZN (c : Nat → Nat → Int32) (h4 h5 h6 h7 g : Nat → Int32) : Nat → Nat → Int32 := sA (sA (sA (sA (sA c g 11) h4 4) h5 5) h6 6) h7 7
theorem zn_11 {c : Nat → Nat → Int32} {h4 h5 h6 h7 g g2 : Nat → Int32} : sA (ZN c h4 h5 h6 h7 g) g2 11 = ZN c h4 h5 h6 h7 g2 := by
  unfold ZN
  rw [sA_swap (show 7 ≠ 11 by decide), sA_swap (show 6 ≠ 11 by decide), sA_swap (show 5 ≠ 11 by decide), sA_swap (show 4 ≠ 11 by decide), sA_sA]
theorem zn_4 {c : Nat → Nat → Int32} {h4 h5 h6 h7 g f4 f5 f6 f7 : Nat → Int32} : sA (sA (sA (sA (ZN c h4 h5 h6 h7 g) f4 4) f5 5) f6 6) f7 7 = ZN c f4 f5 f6 f7 g := by
  unfold ZN
  rw [sA_swap (show 7 ≠ 4 by decide), sA_swap (show 6 ≠ 4 by decide), sA_swap (show 5 ≠ 4 by decide), sA_sA, sA_swap (show 7 ≠ 5 by decide), sA_swap (show 6 ≠ 5 by decide), sA_sA, sA_swap (show 7 ≠ 6 by decide), sA_sA, sA_sA]
theorem zn_0 {c : Nat → Nat → Int32} {g : Nat → Int32} : sA c g 11 = ZN c (c 4) (c 5) (c 6) (c 7) g := by
  unfold ZN
  have e4 : sA (sA c g 11) (c 4) 4 = sA c g 11 := sA_self (a := sA c g 11) (k := 4)
  have e5 : sA (sA c g 11) (c 5) 5 = sA c g 11 := sA_self (a := sA c g 11) (k := 5)
  have e6 : sA (sA c g 11) (c 6) 6 = sA c g 11 := sA_self (a := sA c g 11) (k := 6)
  have e7 : sA (sA c g 11) (c 7) 7 = sA c g 11 := sA_self (a := sA c g 11) (k := 7)
  rw [e4, e5, e6, e7]
theorem LN_congr {N k x y z at_ : Int32} {A B : Nat → Int32} (h : BL N k x y z) (hA : ∀ m : Nat, (m : Int) ≤ N.toInt → A m = B m) : LN k x y z at_ A = LN k x y z at_ B := by
  obtain ⟨al, t1, t2, t3⟩ := h
  obtain ⟨-, lx, ly, lz, lt, lc, ls⟩ := al_of al
  unfold LN
  rcases al_k al with e | e | e | e | e | e | e | e | e | e | e | e | e | e | e | e | e <;> subst e <;> simp (config := { decide := true }) only [if_true, if_false]
  · rw [hA _ (by rw [tn_of (lc (by decide)).1]; exact t1 (by decide))]
  · rw [hA _ (by rw [tn_of (lc (by decide)).1]; exact t1 (by decide))]
  · rw [hA _ (by rw [tn_of (lc (by decide)).1]; exact t1 (by decide))]
  · rw [hA _ (by rw [tn_of (lt (by decide)).1]; exact t2 (by decide))]
  · rw [hA _ (by rw [tn_of (lt (by decide)).1]; exact t3 (by decide))]
theorem two_pads {V A P : Nat} (h1 : V ≤ A) (h2 : A ≤ P) (h3 : (A - V) % 2 = 0) (h : ¬ A = V → (P - A) % 4 = 0) (g : Nat → Int32) : WS (WS g V (PDL (A - V))) A (PDL (P - A)) = WS g V (PDL (P - V)) := by
  by_cases e : A = V
  · subst e
    rw [Nat.sub_self, PDL_0]
    rfl
  · have e2 := LS_PDL h3
    have e3 := WS_app (PDL (A - V)) (PDL (P - A)) g V
    rw [e2, show V + (A - V) = A by omega, PDL_add (h e), show A - V + (P - A) = P - V by omega] at e3
    exact e3.symm
set_option maxRecDepth 100000 in
theorem wal {i : Nat → Int32} {a : Nat → Nat → Int32} {j : Nat → Int32} {c : Nat → Nat → Int32} {N : Nat} {al : Int32} (b3 : (i 3).toInt = N) (hN : N ≤ 20) (b4 : i 4 = al) (b5 : i 5 = al) (h256 : al.toInt ≤ 256) (j0 : (j 0).toInt = N) (x6 : ∀ m : Nat, m < N → a 6 m = c 0 m ∧ a 7 m = c 1 m ∧ a 8 m = c 2 m ∧ a 9 m = c 3 m ∧ a 11 m = c 9 m ∧ BL (i 3) (c 0 m) (c 1 m) (c 2 m) (c 3 m)) (x10 : ∀ m : Nat, m ≤ N → a 10 m = c 10 m) (x8 : ∀ m : Nat, m ≤ N → c 8 m = c 10 m) :
    ∀ (d f f' n V : Nat) (p v : Int32) (g g' h4 h5 h6 h7 : Nat → Int32), n + d = N → p.toInt = n → v.toInt = V → CN (c 10) (c 9) (c 0) al.toInt d n V → LK g g' V → d < f → d < f' → (∀ m : Nat, m < n → h4 m = c 0 m ∧ h5 m = c 1 m ∧ h6 m = c 2 m ∧ h7 m = c 3 m) →
    ∃ G G' H4 H5 H6 H7 : Nat → Int32, iR_writeAll_l f (sI i v 6) (sA a g 12) p = sI i al 6 ∧ aR_writeAll_l f (sI i v 6) (sA a g 12) p = sA a G 12 ∧ rZ_build_4 f' (sI j v 4) (ZN c h4 h5 h6 h7 g') al p = al ∧ iZ_build_4 f' (sI j v 4) (ZN c h4 h5 h6 h7 g') al p = sI (sI (sI (sI j al 4) al 3) (j 0) 1) 1 2 ∧ aZ_build_4 f' (sI j v 4) (ZN c h4 h5 h6 h7 g') al p = ZN c H4 H5 H6 H7 G' ∧ LK G G' al.toInt.toNat ∧ (∀ m : Nat, m < N → H4 m = c 0 m ∧ H5 m = c 1 m ∧ H6 m = c 2 m ∧ H7 m = c 3 m) := by
  intro d
  induction d with
  | zero =>
    intro f f' n V p v g g' h4 h5 h6 h7 hd hp hv hc hl hf hf' hh
    obtain ⟨f, rfl⟩ : ∃ q, f = q + 1 := ⟨f - 1, by omega⟩
    obtain ⟨f', rfl⟩ : ∃ q, f' = q + 1 := ⟨f' - 1, by omega⟩
    have hn : n = N := by omega
    subst hn
    obtain ⟨y1, y2, y3, y4, y5⟩ := hc
    have hx : (sI i v 6) 3 ≤ p := by show i 3 ≤ p; rw [le_i]; omega
    have hz : (sI j v 4) 0 ≤ p := by show j 0 ≤ p; rw [le_i]; omega
    have t3 : (i 3).toNatClampNeg = n := tn_v b3
    have E1 : rP_addressOf_b (sI i v 6) (sA a g 12) ((sI i v 6) 3) = c 10 n := by
      show rP_addressOf_b i a (i 3) = c 10 n
      rw [addr_b (by omega) (by omega) (by omega), t3, x10 n (by omega)]
    have i5 : ((sI i v 6) 5).toInt = al.toInt := by show (i 5).toInt = _; rw [b5]
    obtain ⟨W1, W1'⟩ := xpad (i := sI i v 6) (a := sA a g 12) (p := c 10 n) (V := V) (E := (c 10 n).toInt.toNat) hv (by omega) (by omega) (by omega) (by omega) (by omega)
    rw [sI_sI] at W1
    rw [sA_sA, sA_eq] at W1'
    have i5' : ((sI i (c 10 n) 6) 5).toInt = al.toInt := by show (i 5).toInt = _; rw [b5]
    obtain ⟨W2, W2'⟩ := xpad (i := sI i (c 10 n) 6) (a := sA a (WS g V (PDL ((c 10 n).toInt.toNat - V))) 12) (p := al) (V := (c 10 n).toInt.toNat) (E := al.toInt.toNat) (by show (c 10 n).toInt = _; omega) (by omega) (by omega) (by omega) (by omega) (by omega)
    rw [sI_sI] at W2
    rw [sA_sA, sA_eq, two_pads (by omega) (by omega) (by omega) (fun e => by have := y4 (by omega); omega)] at W2'
    obtain ⟨Z1, Z1'⟩ := zpad (j := sI j v 4) (c := ZN c h4 h5 h6 h7 g') (p := al) (V := V) (E := al.toInt.toNat) hv (by omega) (by omega) (by omega) (by omega)
    rw [sI_sI] at Z1
    rw [zn_11] at Z1'
    have hlk := LK_S (PDL (al.toInt.toNat - V)) g g' V hl
    rw [LS_PDL (by omega), show V + (al.toInt.toNat - V) = al.toInt.toNat by omega] at hlk
    rw [iR_writeAll_l, aR_writeAll_l, rZ_build_4, iZ_build_4, aZ_build_4, if_pos hx, if_pos hx, if_pos hz, if_pos hz, if_pos hz]
    have e4 : (sI i (c 10 n) 6) 4 = al := b4
    rw [E1, W1, W1', e4, W2, W2', Z1, Z1']
    exact ⟨_, _, h4, h5, h6, h7, rfl, rfl, rfl, rfl, rfl, hlk, hh⟩
  | succ d ih =>
    intro f f' n V p v g g' h4 h5 h6 h7 hd hp hv hc hl hf hf' hh
    obtain ⟨f, rfl⟩ : ∃ q, f = q + 1 := ⟨f - 1, by omega⟩
    obtain ⟨f', rfl⟩ : ∃ q, f' = q + 1 := ⟨f' - 1, by omega⟩
    obtain ⟨y1, y2, y3, y4, y5, y6, y7⟩ := hc
    have hlt := CN_lt _ _ _ y7
    obtain ⟨l6, l7, l8, l9, l11, bl⟩ := x6 n (by omega)
    have tp : p.toNatClampNeg = n := tn_v hp
    have hx : ¬ (sI i v 6) 3 ≤ p := by show ¬ i 3 ≤ p; rw [le_i]; omega
    have hz : ¬ (sI j v 4) 0 ≤ p := by show ¬ j 0 ≤ p; rw [le_i]; omega
    have hh1 : rP_has p (i 3) = 1 := has_1 (by omega) (by omega) (by omega)
    have i5 : ((sI i v 6) 5).toInt = al.toInt := by show (i 5).toInt = _; rw [b5]
    have E1 : rP_addressOf_b (sI i v 6) (sA a g 12) p = c 10 n := by
      show rP_addressOf_b i a p = c 10 n
      rw [addr_b (by omega) (by omega) (by omega), tp, x10 n (by omega)]
    obtain ⟨W1, W1'⟩ := xpad (i := sI i v 6) (a := sA a g 12) (p := c 10 n) (V := V) (E := (c 10 n).toInt.toNat) hv (by omega) (by omega) (by omega) (by omega) (by omega)
    rw [sI_sI] at W1
    rw [sA_sA, sA_eq] at W1'
    have i5' : ((sI i (c 10 n) 6) 5).toInt = al.toInt := by show (i 5).toInt = _; rw [b5]
    have E2 : rP_startAt_b (sI i (c 10 n) 6) (sA a (WS g V (PDL ((c 10 n).toInt.toNat - V))) 12) p = c 9 n := by
      show rP_startAt_b i a p = c 9 n
      unfold rP_startAt_b
      rw [hh1, if_neg (by decide), tp, l11]
    obtain ⟨W2, W2'⟩ := xpad (i := sI i (c 10 n) 6) (a := sA a (WS g V (PDL ((c 10 n).toInt.toNat - V))) 12) (p := c 9 n) (V := (c 10 n).toInt.toNat) (E := (c 9 n).toInt.toNat) (by show (c 10 n).toInt = _; omega) (by omega) (by omega) (by omega) (by omega) (by omega)
    rw [sI_sI] at W2
    rw [sA_sA, sA_eq, two_pads (by omega) (by omega) (by omega) (fun e => by have := y6 (by omega); omega)] at W2'
    have E3 : ∀ u : Nat → Int32, rP_kindAt_b (sI i (c 9 n) 6) (sA a u 12) p = c 0 n := by
      intro u
      show rP_kindAt_b i a p = c 0 n
      unfold rP_kindAt_b
      rw [hh1, if_neg (by decide), tp, l6]
    have E4 : ∀ u : Nat → Int32, rP_firstAt_b (sI i (c 9 n) 6) (sA a u 12) p = c 1 n := by
      intro u
      show rP_firstAt_b i a p = c 1 n
      unfold rP_firstAt_b
      rw [hh1, if_neg (by decide), tp, l7]
    have E5 : ∀ u : Nat → Int32, rP_secondAt_b (sI i (c 9 n) 6) (sA a u 12) p = c 2 n := by
      intro u
      show rP_secondAt_b i a p = c 2 n
      unfold rP_secondAt_b
      rw [hh1, if_neg (by decide), tp, l8]
    have E6 : ∀ u : Nat → Int32, rP_thirdAt_b (sI i (c 9 n) 6) (sA a u 12) p = c 3 n := by
      intro u
      show rP_thirdAt_b i a p = c 3 n
      unfold rP_thirdAt_b
      rw [hh1, if_neg (by decide), tp, l9]
    have i5'' : ((sI i (c 9 n) 6) 5).toInt = al.toInt := by show (i 5).toInt = _; rw [b5]
    obtain ⟨v1, q1, q2, q3⟩ := xline (i := sI i (c 9 n) 6) (a := sA a (WS g V (PDL ((c 9 n).toInt.toNat - V))) 12) (k := c 0 n) (x := c 1 n) (y := c 2 n) (z := c 3 n) (V := (c 9 n).toInt.toNat) (by show (c 9 n).toInt = _; omega) (by omega) (by show (i 3).toInt ≤ 20; omega) bl (by omega)
    rw [sI_sI] at q2
    rw [sA_sA, sA_eq] at q3
    rw [LS_LN bl.1] at q1
    obtain ⟨Z1, Z1'⟩ := zpad (j := sI j v 4) (c := ZN c h4 h5 h6 h7 g') (p := c 9 n) (V := V) (E := (c 9 n).toInt.toNat) hv (by omega) (by omega) (by omega) (by omega)
    rw [sI_sI] at Z1
    rw [zn_11] at Z1'
    have Z1' : aZ_pad (sI j v 4) (ZN c h4 h5 h6 h7 g') (c 9 n) = ZN c h4 h5 h6 h7 (WS g' V (PDL ((c 9 n).toInt.toNat - V))) := Z1'
    have al' : ¬ rP_allows (ZN c h4 h5 h6 h7 (WS g' V (PDL ((c 9 n).toInt.toNat - V))) 0 p.toNatClampNeg) (ZN c h4 h5 h6 h7 (WS g' V (PDL ((c 9 n).toInt.toNat - V))) 1 p.toNatClampNeg) (ZN c h4 h5 h6 h7 (WS g' V (PDL ((c 9 n).toInt.toNat - V))) 2 p.toNatClampNeg) (ZN c h4 h5 h6 h7 (WS g' V (PDL ((c 9 n).toInt.toNat - V))) 3 p.toNatClampNeg) = 0 := by rw [tp]; exact bl.1
    obtain ⟨v2, r1, r2, r3⟩ := zline (j := sI j (c 9 n) 4) (c := ZN c h4 h5 h6 h7 (WS g' V (PDL ((c 9 n).toInt.toNat - V)))) (p := p) (V := (c 9 n).toInt.toNat) (by show (c 9 n).toInt = _; omega) al' (by rw [tp]; show (c 9 n).toInt.toNat + lsz (c 0 n) ≤ 256; omega)
    rw [LS_LN al', tp] at r1
    rw [sI_sI] at r2
    rw [zn_11, tp] at r3
    have r1 : v2.toInt = (((c 9 n).toInt.toNat + lsz (c 0 n) : Nat) : Int) := r1
    have r3 : aZ_write (sI j (c 9 n) 4) (ZN c h4 h5 h6 h7 (WS g' V (PDL ((c 9 n).toInt.toNat - V)))) p = ZN c h4 h5 h6 h7 (WS (WS g' V (PDL ((c 9 n).toInt.toNat - V))) (c 9 n).toInt.toNat (LN (c 0 n) (c 1 n) (c 2 n) (c 3 n) (c 9 n) (c 8))) := r3
    have ev : v1 = v2 := eq_of_i q1 r1
    have q3 : aR_writeLine (sI i (c 9 n) 6) (sA a (WS g V (PDL ((c 9 n).toInt.toNat - V))) 12) (c 0 n) (c 1 n) (c 2 n) (c 3 n) = sA a (WS (WS g V (PDL ((c 9 n).toInt.toNat - V))) (c 9 n).toInt.toNat (LN (c 0 n) (c 1 n) (c 2 n) (c 3 n) (c 9 n) (a 10))) 12 := q3
    rw [LN_congr (B := c 8) bl (fun m hm => by rw [x10 m (by omega), x8 m (by omega)])] at q3
    have hlk := LK_S (PDL ((c 9 n).toInt.toNat - V)) g g' V hl
    rw [LS_PDL (by omega), show V + ((c 9 n).toInt.toNat - V) = (c 9 n).toInt.toNat by omega] at hlk
    have hlk2 := LK_S (LN (c 0 n) (c 1 n) (c 2 n) (c 3 n) (c 9 n) (c 8)) _ _ _ hlk
    rw [LS_LN bl.1] at hlk2
    have e5 : (p + 1).toInt = ((n + 1 : Nat) : Int) := by rw [addc c1 (by omega) (by omega)]; omega
    have y7' : CN (c 10) (c 9) (c 0) al.toInt d (n + 1) (((c 9 n).toInt.toNat + lsz (c 0 n) : Nat) : Int) := by
      rw [show ((((c 9 n).toInt.toNat + lsz (c 0 n) : Nat) : Int)) = (c 9 n).toInt + lsz (c 0 n) by omega]
      exact y7
    obtain ⟨G, G', H4, H5, H6, H7, m1, m2, m3, m4, m5, m6, m7⟩ := ih f f' (n + 1) ((c 9 n).toInt.toNat + lsz (c 0 n)) (p + 1) v1 _ _ (upd h4 n (c 0 n)) (upd h5 n (c 1 n)) (upd h6 n (c 2 n)) (upd h7 n (c 3 n)) (by omega) e5 q1 y7' hlk2 (by omega) (by omega) (fun m hm => by
      by_cases e : m = n
      · subst e; rw [upd_at, upd_at, upd_at, upd_at]; exact ⟨rfl, rfl, rfl, rfl⟩
      · rw [upd_ne _ _ e, upd_ne _ _ e, upd_ne _ _ e, upd_ne _ _ e]; exact hh m (by omega))
    have c9 : (ZN c h4 h5 h6 h7 g') 9 = c 9 := rfl
    refine ⟨G, G', H4, H5, H6, H7, ?_, ?_, ?_, ?_, ?_, m6, m7⟩
    · rw [iR_writeAll_l, if_neg hx]
      simp only [E1, W1, W1', E2, W2, W2', E3, E4, E5, E6, q2, q3]
      exact m1
    · rw [aR_writeAll_l, if_neg hx]
      simp only [E1, W1, W1', E2, W2, W2', E3, E4, E5, E6, q2, q3]
      exact m2
    · rw [rZ_build_4, if_neg hz]
      simp only [c9, tp, Z1, Z1', r2, r3, zn_4]
      rw [← ev]
      exact m3
    · rw [iZ_build_4, if_neg hz]
      simp only [c9, tp, Z1, Z1', r2, r3, zn_4]
      rw [← ev]
      exact m4
    · rw [aZ_build_4, if_neg hz]
      simp only [c9, tp, Z1, Z1', r2, r3, zn_4]
      rw [← ev]
      exact m5
