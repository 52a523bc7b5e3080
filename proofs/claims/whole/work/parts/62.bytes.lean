/-! build: instructions as bytes, class and reference alike -/
theorem sI_sI {i : Nat → Int32} {u v : Int32} {k : Nat} : sI (sI i u k) v k = sI i v k := by
  funext q
  unfold sI
  cases Nat.beq q k <;> rfl
theorem sI_self {i : Nat → Int32} {k : Nat} : sI i (i k) k = i := by
  funext q
  unfold sI
  cases h : Nat.beq q k
  · rfl
  · rw [Nat.eq_of_beq_eq_true h]
def bz (b k : Int32) : Int32 := (b >>> (((8 : Int32) * k) &&& 31)) &&& 255
theorem bz_r (b k : Int32) : 0 ≤ (bz b k).toInt ∧ (bz b k).toInt ≤ 255 := by
  unfold bz
  generalize b >>> (((8 : Int32) * k) &&& 31) = x
  have h : (x &&& 255).toBitVec = x.toBitVec &&& 255#32 := rfl
  have h2 : (x &&& 255).toBitVec.toNat ≤ 255 := by
    rw [h, BitVec.toNat_and]
    exact Nat.and_le_right
  have h3 : (x &&& 255).toInt = (x &&& 255).toBitVec.toInt := rfl
  rw [h3, BitVec.toInt_eq_toNat_of_lt (by omega)]
  omega
theorem bx_eq (b : Int32) {k : Int32} (hk : k = 0 ∨ k = 1 ∨ k = 2 ∨ k = 3) : (Int32.toUInt32 b >>> (Int32.toUInt32 ((8 : Int32) * k) &&& Int32.toUInt32 31)).toInt32 &&& (255 : Int32) = bz b k := by
  have key : ∀ n, n ≤ 24 → (Int32.toUInt32 b >>> (Int32.toUInt32 (nI n) &&& Int32.toUInt32 31)).toInt32 &&& (255 : Int32) = (b >>> (nI n &&& 31)) &&& 255 := by
    intro n hn
    refine b_ext fun i hi => ?_
    rw [b_and, b_and, b_ushr n (by omega), b_sshr n (by omega) _ hi, b_255]
    by_cases h : i < 8
    · rw [if_pos (by omega)]
    · rw [decide_eq_false h, Bool.and_false, Bool.and_false]
  unfold bz
  rcases hk with e | e | e | e <;> subst e
  · exact key 0 (by omega)
  · exact key 8 (by omega)
  · exact key 16 (by omega)
  · exact key 24 (by omega)
/-- the class's byte -/
def bxx (b n : Int32) : Int32 := (Int32.toUInt32 b >>> (Int32.toUInt32 ((8 : Int32) * n) &&& Int32.toUInt32 31)).toInt32 &&& (255 : Int32)
def W2 (g : Nat → Int32) (V : Nat) (b : Int32) : Nat → Int32 := upd (upd g V (bz b 0)) (V + 1) (bz b 1)
def W4 (g : Nat → Int32) (V : Nat) (b : Int32) : Nat → Int32 := upd (upd (upd (upd g V (bz b 0)) (V + 1) (bz b 1)) (V + 2) (bz b 2)) (V + 3) (bz b 3)
noncomputable def WB (g : Nat → Int32) (V : Nat) (b : Int32) : Nat → Int32 := if rZ_isLong b = 0 then W2 g V b else W4 g V b
theorem tn_add {v k : Int32} {V K : Nat} (hv : v.toInt = V) (hk : k.toInt = K) (h : V + K ≤ 1000) : (v + k).toNatClampNeg = V + K := by
  have e : (v + k).toInt = v.toInt + K := addc hk (by omega) (by omega)
  have := tn_of (x := v + k) (by omega)
  omega
theorem tn_v {v : Int32} {V : Nat} (hv : v.toInt = V) : v.toNatClampNeg = V := by
  have := tn_of (x := v) (by omega)
  omega
theorem zput4 {j : Nat → Int32} {c : Nat → Nat → Int32} (b : Int32) {V : Nat} (hv : (j 4).toInt = V) (h : V ≤ 256) : iZ_put j c b 4 = sI j (j 4 + 4) 4 ∧ aZ_put j c b 4 = sA c (W4 (c 11) V b) 11 := by
  have e1 : (j 4 + 1).toInt = ((V + 1 : Nat) : Int) := by rw [addc c1 (by omega) (by omega)]; omega
  have e2 : (j 4 + 1 + 1).toInt = ((V + 2 : Nat) : Int) := by rw [addc c1 (by omega) (by omega)]; omega
  have e3 : (j 4 + 1 + 1 + 1).toInt = ((V + 3 : Nat) : Int) := by rw [addc c1 (by omega) (by omega)]; omega
  have e4 : j 4 + 1 + 1 + 1 + 1 = j 4 + 4 := by
    apply Int32.toInt_inj.mp
    rw [addc c1 (by omega) (by omega), addc c4 (by omega) (by omega)]; omega
  constructor
  · show sI (sI (sI (sI j (j 4 + 1) 4) (j 4 + 1 + 1) 4) (j 4 + 1 + 1 + 1) 4) (j 4 + 1 + 1 + 1 + 1) 4 = _
    rw [sI_sI, sI_sI, sI_sI, e4]
  · show sA (sA (sA (sA c (upd (c 11) (Int32.toNatClampNeg (j 4)) (bz b 0)) 11) (upd (upd (c 11) (Int32.toNatClampNeg (j 4)) (bz b 0)) (Int32.toNatClampNeg (j 4 + 1)) (bz b 1)) 11) (upd (upd (upd (c 11) (Int32.toNatClampNeg (j 4)) (bz b 0)) (Int32.toNatClampNeg (j 4 + 1)) (bz b 1)) (Int32.toNatClampNeg (j 4 + 1 + 1)) (bz b 2)) 11) (upd (upd (upd (upd (c 11) (Int32.toNatClampNeg (j 4)) (bz b 0)) (Int32.toNatClampNeg (j 4 + 1)) (bz b 1)) (Int32.toNatClampNeg (j 4 + 1 + 1)) (bz b 2)) (Int32.toNatClampNeg (j 4 + 1 + 1 + 1)) (bz b 3)) 11 = _
    rw [sA_sA, sA_sA, sA_sA, tn_v hv, tn_v e1, tn_v e2, tn_v e3]
    rfl
theorem zput2 {j : Nat → Int32} {c : Nat → Nat → Int32} (b : Int32) {V : Nat} (hv : (j 4).toInt = V) (h : V ≤ 256) : iZ_put j c b 2 = sI j (j 4 + 2) 4 ∧ aZ_put j c b 2 = sA c (W2 (c 11) V b) 11 := by
  have e1 : (j 4 + 1).toInt = ((V + 1 : Nat) : Int) := by rw [addc c1 (by omega) (by omega)]; omega
  have e4 : j 4 + 1 + 1 = j 4 + 2 := by
    apply Int32.toInt_inj.mp
    rw [addc c1 (by omega) (by omega), addc c2 (by omega) (by omega)]; omega
  constructor
  · show sI (sI j (j 4 + 1) 4) (j 4 + 1 + 1) 4 = _
    rw [sI_sI, e4]
  · show sA (sA c (upd (c 11) (Int32.toNatClampNeg (j 4)) (bz b 0)) 11) (upd (upd (c 11) (Int32.toNatClampNeg (j 4)) (bz b 0)) (Int32.toNatClampNeg (j 4 + 1)) (bz b 1)) 11 = _
    rw [sA_sA, tn_v hv, tn_v e1]
    rfl
theorem cput_in {i : Nat → Int32} {a : Nat → Nat → Int32} {p v : Int32} (h5 : (i 5).toInt ≤ 256) (h0 : 0 ≤ p.toInt) (h1 : p.toInt < (i 5).toInt) (v0 : 0 ≤ v.toInt) (v1 : v.toInt ≤ 255) : aC_put i a p v = sA a (upd (a 12) p.toNatClampNeg v) 12 := by
  unfold aC_put
  rw [has_c a h5, if_pos (show 0 ≤ p.toInt ∧ p.toInt < (i 5).toInt from ⟨h0, h1⟩), wt_eq, if_pos (show 0 ≤ v ∧ v ≤ 255 by rw [le_i, le_i, c0, show (255 : Int32).toInt = 255 from rfl]; exact ⟨v0, v1⟩), if_neg (by decide), if_neg (by decide)]
theorem xwr_l {i : Nat → Int32} {b : Int32} {V : Nat} (hv : (i 6).toInt = V) (h5 : (i 5).toInt ≤ 256) {n : Int32} {K : Nat} (hn : n.toInt = K) (hk : n = 0 ∨ n = 1 ∨ n = 2 ∨ n = 3) (hb : ((V + K : Nat) : Int) < (i 5).toInt) (a : Nat → Nat → Int32) : aC_put i a ((i 6) + n) (bxx b n) = sA a (upd (a 12) (V + K) (bz b n)) 12 := by
  have e : (i 6 + n).toInt = (i 6).toInt + K := addc hn (by omega) (by omega)
  rw [bxx, bx_eq b hk, cput_in h5 (by omega) (by omega) (bz_r b n).1 (bz_r b n).2, tn_add hv hn (by omega)]
theorem awl_s {f : Nat} {i : Nat → Int32} {a : Nat → Nat → Int32} {b s n : Int32} (h : ¬ s ≤ n) : aR_write_l (f + 1) i a b s n = aR_write_l f i (aC_put i a (i 6 + n) (bxx b n)) b s (n + 1) := by
  rw [aR_write_l, if_neg h]
  rfl
theorem awl_e {f : Nat} {i : Nat → Int32} {a : Nat → Nat → Int32} {b s n : Int32} (h : s ≤ n) : aR_write_l (f + 1) i a b s n = a := by rw [aR_write_l, if_pos h]
theorem iwl_s {f : Nat} {i : Nat → Int32} {a : Nat → Nat → Int32} {b s n : Int32} (h : ¬ s ≤ n) : iR_write_l (f + 1) i a b s n = iR_write_l f i (aC_put i a (i 6 + n) (bxx b n)) b s (n + 1) := by
  rw [iR_write_l, if_neg h]
  rfl
theorem iwl_e {f : Nat} {i : Nat → Int32} {a : Nat → Nat → Int32} {b s n : Int32} (h : s ≤ n) : iR_write_l (f + 1) i a b s n = sI i (i 6 + s) 6 := by rw [iR_write_l, if_pos h]
theorem n01 : (0 : Int32) + 1 = 1 := by decide
theorem n12 : (1 : Int32) + 1 = 2 := by decide
theorem n23 : (2 : Int32) + 1 = 3 := by decide
theorem n34 : (3 : Int32) + 1 = 4 := by decide
theorem xwr {i : Nat → Int32} {a : Nat → Nat → Int32} {p q r s b : Int32} (hb : rF_pack p q r s = b) {V : Nat} (hv : (i 6).toInt = V) (h5 : (i 5).toInt ≤ 256) (hs : ((V + szn b : Nat) : Int) ≤ (i 5).toInt) : iR_write i a p q r s = sI i (i 6 + rF_sizeOf b) 6 ∧ aR_write i a p q r s = sA a (WB (a 12) V b) 12 := by
  unfold iR_write aR_write
  rw [hb]
  unfold WB
  by_cases hl : rZ_isLong b = 0
  · have e : rF_sizeOf b = 2 := by unfold rF_sizeOf; rw [long_eq, if_pos hl]
    have e2 : szn b = 2 := by unfold szn; rw [if_pos hl]
    rw [e2] at hs
    rw [e, if_pos hl, show (Int32.toInt (2 : Int32) - Int32.toInt (0 : Int32)).toNat + 1 = 3 from rfl]
    constructor
    · rw [iwl_s (by decide), n01, iwl_s (by decide), n12, iwl_e (by decide)]
    · have u0 := xwr_l (b := b) hv h5 (n := 0) (K := 0) rfl (by decide) (by omega)
      have u1 := xwr_l (b := b) hv h5 (n := 1) (K := 1) rfl (by decide) (by omega)
      rw [awl_s (by decide), n01, awl_s (by decide), n12, awl_e (by decide), u0, u1, sA_sA, sA_eq]
      rfl
  · have e : rF_sizeOf b = 4 := by unfold rF_sizeOf; rw [long_eq, if_neg hl]
    have e2 : szn b = 4 := by unfold szn; rw [if_neg hl]
    rw [e2] at hs
    rw [e, if_neg hl, show (Int32.toInt (4 : Int32) - Int32.toInt (0 : Int32)).toNat + 1 = 5 from rfl]
    constructor
    · rw [iwl_s (by decide), n01, iwl_s (by decide), n12, iwl_s (by decide), n23, iwl_s (by decide), n34, iwl_e (by decide)]
    · have u0 := xwr_l (b := b) hv h5 (n := 0) (K := 0) rfl (by decide) (by omega)
      have u1 := xwr_l (b := b) hv h5 (n := 1) (K := 1) rfl (by decide) (by omega)
      have u2 := xwr_l (b := b) hv h5 (n := 2) (K := 2) rfl (by decide) (by omega)
      have u3 := xwr_l (b := b) hv h5 (n := 3) (K := 3) rfl (by decide) (by omega)
      rw [awl_s (by decide), n01, awl_s (by decide), n12, awl_s (by decide), n23, awl_s (by decide), n34, awl_e (by decide), u0, u1, u2, u3, sA_sA, sA_eq, sA_sA, sA_eq, sA_sA, sA_eq]
      rfl
