/-! bits: the pasted family, then symbolic words -/
/-! ===== Int32 by its bits: bt x i ===== -/
def bt (x : Int32) (i : Nat) : Bool := x.toBitVec.getLsbD i
theorem b_ext {x y : Int32} (h : ∀ i, i < 32 → bt x i = bt y i) : x = y := Int32.toBitVec_inj.mp (BitVec.eq_of_getLsbD_eq (fun i hi => h i hi))
theorem b_or (x y : Int32) (i : Nat) : bt (x ||| y) i = (bt x i || bt y i) := by unfold bt; rw [Int32.toBitVec_or, BitVec.getLsbD_or]
theorem b_and (x y : Int32) (i : Nat) : bt (x &&& y) i = (bt x i && bt y i) := by unfold bt; rw [Int32.toBitVec_and, BitVec.getLsbD_and]
theorem b_xor (x y : Int32) (i : Nat) : bt (x ^^^ y) i = (bt x i ^^ bt y i) := by unfold bt; rw [Int32.toBitVec_xor, BitVec.getLsbD_xor]
theorem b_big {x : Int32} {i : Nat} (h : 32 ≤ i) : bt x i = false := BitVec.getLsbD_of_ge _ _ h
theorem b_255 (i : Nat) : bt 255 i = decide (i < 8) := by
  rcases Nat.lt_or_ge i 32 with h | h
  · exact (by decide +kernel : ∀ i, i < 32 → bt 255 i = decide (i < 8)) i h
  · rw [b_big h, decide_eq_false (by omega)]
theorem b_65535 (i : Nat) : bt 65535 i = decide (i < 16) := by
  rcases Nat.lt_or_ge i 32 with h | h
  · exact (by decide +kernel : ∀ i, i < 32 → bt 65535 i = decide (i < 16)) i h
  · rw [b_big h, decide_eq_false (by omega)]
theorem b_m1 : ∀ i, i < 32 → bt (-1) i = true := by decide +kernel
theorem b_0 (i : Nat) : bt 0 i = false := BitVec.getLsbD_zero
theorem s_l : ∀ n, n < 32 → ((nI n &&& 31).toBitVec.smod 32).toNat = n := by decide +kernel
theorem s_u : ∀ n, n < 32 → (((nI n).toUInt32 &&& Int32.toUInt32 31).toBitVec % 32).toNat = n := by decide +kernel
theorem b_shl (n : Nat) (hn : n < 32) (x : Int32) {i : Nat} (hi : i < 32) : bt (x <<< (nI n &&& 31)) i = (decide (n ≤ i) && bt x (i - n)) := by
  unfold bt
  rw [Int32.toBitVec_shiftLeft]
  show (x.toBitVec <<< ((nI n &&& 31).toBitVec.smod 32).toNat).getLsbD i = _
  rw [s_l n hn, BitVec.getLsbD_shiftLeft]
  rcases Nat.lt_or_ge i n with h | h
  · simp [h, Nat.not_le.mpr h]
  · simp [hi, h, Nat.not_lt.mpr h]
theorem b_ushr (n : Nat) (hn : n < 32) (x : Int32) (i : Nat) : bt ((x.toUInt32 >>> ((nI n).toUInt32 &&& Int32.toUInt32 31)).toInt32) i = bt x (n + i) := by
  show (x.toUInt32 >>> ((nI n).toUInt32 &&& Int32.toUInt32 31)).toBitVec.getLsbD i = x.toUInt32.toBitVec.getLsbD (n + i)
  rw [UInt32.toBitVec_shiftRight]
  show (x.toUInt32.toBitVec >>> (((nI n).toUInt32 &&& Int32.toUInt32 31).toBitVec % 32).toNat).getLsbD i = _
  rw [s_u n hn, BitVec.getLsbD_ushiftRight]
theorem b_sshr (n : Nat) (hn : n < 32) (x : Int32) {i : Nat} (hi : i < 32) : bt (x >>> (nI n &&& 31)) i = if n + i < 32 then bt x (n + i) else bt x 31 := by
  unfold bt
  rw [Int32.toBitVec_shiftRight]
  show (x.toBitVec.sshiftRight ((nI n &&& 31).toBitVec.smod 32).toNat).getLsbD i = _
  rw [s_l n hn, BitVec.getLsbD_sshiftRight, BitVec.msb_eq_getLsbD_last]
  simp [hi]
theorem b_shl8 (x : Int32) {i : Nat} (hi : i < 32) : bt (x <<< ((8 : Int32) &&& 31)) i = (decide (8 ≤ i) && bt x (i - 8)) := b_shl 8 (by omega) x hi
theorem b_shl16 (x : Int32) {i : Nat} (hi : i < 32) : bt (x <<< ((16 : Int32) &&& 31)) i = (decide (16 ≤ i) && bt x (i - 16)) := b_shl 16 (by omega) x hi
theorem b_shl24 (x : Int32) {i : Nat} (hi : i < 32) : bt (x <<< ((24 : Int32) &&& 31)) i = (decide (24 ≤ i) && bt x (i - 24)) := b_shl 24 (by omega) x hi
theorem b_sshr8 (x : Int32) {i : Nat} (hi : i < 32) : bt (x >>> ((8 : Int32) &&& 31)) i = if 8 + i < 32 then bt x (8 + i) else bt x 31 := b_sshr 8 (by omega) x hi
def sv (w : Int32) : Nat → Bool
  | 0 => false
  | 1 => true
  | n + 2 => bt w n
/-- x by the bits of w: entry 0 is false, 1 true, n + 2 bit n of w -/
def SY (w x : Int32) (f : Nat → Nat) : Prop := ∀ i, i < 32 → bt x i = sv w (f i)
def orE (e f : Nat) : Nat := if e = 0 then f else if f = 0 then e else if e = 1 then 1 else if f = 1 then 1 else e
def orK (e f : Nat) : Bool := decide (e = 0) || decide (f = 0) || decide (e = 1) || decide (f = 1) || decide (e = f)
def anE (e f : Nat) : Nat := if e = 0 then 0 else if f = 0 then 0 else if e = 1 then f else if f = 1 then e else e
def anK (e f : Nat) : Bool := decide (e = 0) || decide (f = 0) || decide (e = 1) || decide (f = 1) || decide (e = f)
theorem sv_or (w : Int32) (e f : Nat) (h : orK e f = true) : (sv w e || sv w f) = sv w (orE e f) := by
  unfold orK at h
  unfold orE
  simp only [Bool.or_eq_true, decide_eq_true_eq] at h
  by_cases h1 : e = 0
  · subst h1; simp [sv]
  · by_cases h2 : f = 0
    · subst h2; simp [sv, h1]
    · by_cases h3 : e = 1
      · subst h3; simp [sv, h2]
      · by_cases h4 : f = 1
        · subst h4; simp [sv, h1, h3]
        · have h5 : e = f := by simp_all
          subst h5
          simp [h1, h3]
theorem sv_an (w : Int32) (e f : Nat) (h : anK e f = true) : (sv w e && sv w f) = sv w (anE e f) := by
  unfold anK at h
  unfold anE
  simp only [Bool.or_eq_true, decide_eq_true_eq] at h
  by_cases h1 : e = 0
  · subst h1; simp [sv]
  · by_cases h2 : f = 0
    · subst h2; simp [sv, h1]
    · by_cases h3 : e = 1
      · subst h3; simp [sv, h2]
      · by_cases h4 : f = 1
        · subst h4; simp [sv, h1, h3]
        · have h5 : e = f := by simp_all
          subst h5
          simp [h1, h2, h3]
theorem sy_or {w x y : Int32} {f g : Nat → Nat} (hx : SY w x f) (hy : SY w y g) (h : ∀ i, i < 32 → orK (f i) (g i) = true) : SY w (x ||| y) (fun i => orE (f i) (g i)) := fun i hi => by rw [b_or, hx i hi, hy i hi, sv_or w _ _ (h i hi)]
theorem sy_and {w x y : Int32} {f g : Nat → Nat} (hx : SY w x f) (hy : SY w y g) (h : ∀ i, i < 32 → anK (f i) (g i) = true) : SY w (x &&& y) (fun i => anE (f i) (g i)) := fun i hi => by rw [b_and, hx i hi, hy i hi, sv_an w _ _ (h i hi)]
theorem sy_var {w : Int32} : SY w w (fun i => i + 2) := fun i _ => rfl
theorem sy_lit {w : Int32} (c : Int32) : SY w c (fun i => cond (bt c i) 1 0) := fun i _ => by show bt c i = sv w (cond (bt c i) 1 0); cases bt c i <;> rfl
theorem sy_shl {w x : Int32} {f : Nat → Nat} (n : Nat) (hn : n < 32) (hx : SY w x f) : SY w (x <<< (nI n &&& 31)) (fun i => cond (Nat.ble n i) (f (i - n)) 0) := fun i hi => by
  show _ = sv w (cond (Nat.ble n i) (f (i - n)) 0)
  rw [b_shl n hn x hi]
  cases h : Nat.ble n i with
  | true =>
    have := Nat.le_of_ble_eq_true h
    rw [cond_true, ← hx (i - n) (by omega)]
    simp [this]
  | false =>
    have : ¬ n ≤ i := fun q => by rw [Nat.ble_eq_true_of_le q] at h; cases h
    rw [cond_false]
    simp [this, sv]
theorem sy_shr {w x : Int32} {f : Nat → Nat} (n : Nat) (hn : n < 32) (hx : SY w x f) : SY w (x >>> (nI n &&& 31)) (fun i => cond (Nat.ble 32 (n + i)) (f 31) (f (n + i))) := fun i hi => by
  show _ = sv w (cond (Nat.ble 32 (n + i)) (f 31) (f (n + i)))
  rw [b_sshr n hn x hi]
  cases h : Nat.ble 32 (n + i) with
  | true =>
    have := Nat.le_of_ble_eq_true h
    rw [if_neg (by omega), cond_true]
    exact hx 31 (by decide)
  | false =>
    have : ¬ 32 ≤ n + i := fun q => by rw [Nat.ble_eq_true_of_le q] at h; cases h
    rw [if_pos (by omega), cond_false]
    exact hx (n + i) (by omega)
theorem sy_ush {w x : Int32} {f : Nat → Nat} (n : Nat) (hn : n < 32) (hx : SY w x f) : SY w (x.toUInt32 >>> ((nI n).toUInt32 &&& Int32.toUInt32 31)).toInt32 (fun i => cond (Nat.ble 32 (n + i)) 0 (f (n + i))) := fun i hi => by
  show _ = sv w (cond (Nat.ble 32 (n + i)) 0 (f (n + i)))
  rw [b_ushr n hn x i]
  cases h : Nat.ble 32 (n + i) with
  | true =>
    have := Nat.le_of_ble_eq_true h
    rw [b_big (by omega), cond_true]
    rfl
  | false =>
    have : ¬ 32 ≤ n + i := fun q => by rw [Nat.ble_eq_true_of_le q] at h; cases h
    rw [cond_false]
    exact hx (n + i) (by omega)
theorem sy_eq {w x y : Int32} {f g : Nat → Nat} (hx : SY w x f) (hy : SY w y g) (h : ∀ i, i < 32 → f i = g i) : x = y := b_ext (fun i hi => by rw [hx i hi, hy i hi, h i hi])
/-- bits that w must have -/
def CS (w : Int32) (l : List (Nat × Bool)) : Prop := ∀ p, p ∈ l → bt w p.1 = p.2
def csP (e i : Nat) (t : Bool) : List (Nat × Bool) := match e with
  | 0 => []
  | 1 => []
  | n + 2 => [(n, t)]
def csK (e : Nat) (t : Bool) : Bool := match e with
  | 0 => !t
  | 1 => t
  | _ + 2 => true
def csl (f : Nat → Nat) (t : Int32) : List (Nat × Bool) := (List.range 32).flatMap (fun i => csP (f i) i (bt t i))
def cwP (e i : Nat) : List (Nat × Bool) := match e with
  | 0 => [(i, false)]
  | 1 => [(i, true)]
  | _ + 2 => []
def cwK (e i : Nat) : Bool := match e with
  | 0 => true
  | 1 => true
  | n + 2 => Nat.beq n i
def cwl (f : Nat → Nat) : List (Nat × Bool) := (List.range 32).flatMap (fun i => cwP (f i) i)
theorem cs_lit {w x t : Int32} {f : Nat → Nat} (hx : SY w x f) (h : ∀ i, i < 32 → csK (f i) (bt t i) = true) : x = t ↔ CS w (csl f t) := by
  constructor
  · intro e p hp
    obtain ⟨i, hi, hq⟩ := List.mem_flatMap.mp hp
    have hi := List.mem_range.mp hi
    have h1 := hx i hi
    rw [e] at h1
    unfold csP at hq
    split at hq
    · cases hq
    · cases hq
    · rename_i n he
      rw [he] at h1
      rw [List.mem_singleton.mp hq]
      exact h1.symm
  · intro hc
    refine b_ext (fun i hi => ?_)
    rw [hx i hi]
    have h2 := h i hi
    have h3 : ∀ p, p ∈ csP (f i) i (bt t i) → bt w p.1 = p.2 := fun p hp => hc p (List.mem_flatMap.mpr ⟨i, List.mem_range.mpr hi, hp⟩)
    generalize f i = e at h2 h3
    match e, h2, h3 with
    | 0, h2, _ => cases hb : bt t i <;> simp_all [csK, sv]
    | 1, h2, _ => cases hb : bt t i <;> simp_all [csK, sv]
    | n + 2, _, h3 => exact h3 (n, bt t i) (List.mem_singleton.mpr rfl)
theorem cs_self {w x : Int32} {f : Nat → Nat} (hx : SY w x f) (h : ∀ i, i < 32 → cwK (f i) i = true) : x = w ↔ CS w (cwl f) := by
  constructor
  · intro e p hp
    obtain ⟨i, hi, hq⟩ := List.mem_flatMap.mp hp
    have hi := List.mem_range.mp hi
    have h1 := hx i hi
    rw [e] at h1
    unfold cwP at hq
    split at hq
    · rename_i he
      rw [he] at h1
      rw [List.mem_singleton.mp hq]
      exact h1
    · rename_i he
      rw [he] at h1
      rw [List.mem_singleton.mp hq]
      exact h1
    · cases hq
  · intro hc
    refine b_ext (fun i hi => ?_)
    rw [hx i hi]
    have h2 := h i hi
    have h3 : ∀ p, p ∈ cwP (f i) i → bt w p.1 = p.2 := fun p hp => hc p (List.mem_flatMap.mpr ⟨i, List.mem_range.mpr hi, hp⟩)
    generalize f i = e at h2 h3
    match e, h2, h3 with
    | 0, _, h3 => exact (h3 (i, false) (List.mem_singleton.mpr rfl)).symm
    | 1, _, h3 => exact (h3 (i, true) (List.mem_singleton.mpr rfl)).symm
    | n + 2, h2, _ => rw [show n = i from Nat.eq_of_beq_eq_true h2]; rfl
def csI (l m : List (Nat × Bool)) : Bool := m.all (fun p => l.any (fun q => Nat.beq q.1 p.1 && (q.2 == p.2)))
theorem cs_imp {w : Int32} {l m : List (Nat × Bool)} (h : csI l m = true) (hl : CS w l) : CS w m := by
  intro p hp
  have h1 := List.all_eq_true.mp h p hp
  obtain ⟨q, hq, h2⟩ := List.any_eq_true.mp h1
  have h3 := (Bool.and_eq_true _ _).mp h2
  have e1 : q.1 = p.1 := Nat.eq_of_beq_eq_true h3.1
  have e2 : q.2 = p.2 := eq_of_beq h3.2
  rw [← e1, ← e2]
  exact hl q hq
theorem cs_iff {w : Int32} {l m : List (Nat × Bool)} (h1 : csI l m = true) (h2 : csI m l = true) : CS w l ↔ CS w m := ⟨cs_imp h1, cs_imp h2⟩
theorem cs_app {w : Int32} {l m : List (Nat × Bool)} : CS w (l ++ m) ↔ CS w l ∧ CS w m := by
  constructor
  · exact fun h => ⟨fun p hp => h p (List.mem_append.mpr (Or.inl hp)), fun p hp => h p (List.mem_append.mpr (Or.inr hp))⟩
  · intro h p hp
    rcases List.mem_append.mp hp with q | q
    · exact h.1 p q
    · exact h.2 p q
theorem yl1 {w x : Int32} {f : Nat → Nat} (hx : SY w x f) : SY w (x <<< ((1 : Int32) &&& 31)) (fun i => cond (Nat.ble 1 i) (f (i - 1)) 0) := sy_shl 1 (by decide) hx
theorem yr1 {w x : Int32} {f : Nat → Nat} (hx : SY w x f) : SY w (x >>> ((1 : Int32) &&& 31)) (fun i => cond (Nat.ble 32 (1 + i)) (f 31) (f (1 + i))) := sy_shr 1 (by decide) hx
theorem yu1 {w x : Int32} {f : Nat → Nat} (hx : SY w x f) : SY w (x.toUInt32 >>> (Int32.toUInt32 (1 : Int32) &&& Int32.toUInt32 31)).toInt32 (fun i => cond (Nat.ble 32 (1 + i)) 0 (f (1 + i))) := sy_ush 1 (by decide) hx
theorem yl2 {w x : Int32} {f : Nat → Nat} (hx : SY w x f) : SY w (x <<< ((2 : Int32) &&& 31)) (fun i => cond (Nat.ble 2 i) (f (i - 2)) 0) := sy_shl 2 (by decide) hx
theorem yr2 {w x : Int32} {f : Nat → Nat} (hx : SY w x f) : SY w (x >>> ((2 : Int32) &&& 31)) (fun i => cond (Nat.ble 32 (2 + i)) (f 31) (f (2 + i))) := sy_shr 2 (by decide) hx
theorem yu2 {w x : Int32} {f : Nat → Nat} (hx : SY w x f) : SY w (x.toUInt32 >>> (Int32.toUInt32 (2 : Int32) &&& Int32.toUInt32 31)).toInt32 (fun i => cond (Nat.ble 32 (2 + i)) 0 (f (2 + i))) := sy_ush 2 (by decide) hx
theorem yl3 {w x : Int32} {f : Nat → Nat} (hx : SY w x f) : SY w (x <<< ((3 : Int32) &&& 31)) (fun i => cond (Nat.ble 3 i) (f (i - 3)) 0) := sy_shl 3 (by decide) hx
theorem yr3 {w x : Int32} {f : Nat → Nat} (hx : SY w x f) : SY w (x >>> ((3 : Int32) &&& 31)) (fun i => cond (Nat.ble 32 (3 + i)) (f 31) (f (3 + i))) := sy_shr 3 (by decide) hx
theorem yu3 {w x : Int32} {f : Nat → Nat} (hx : SY w x f) : SY w (x.toUInt32 >>> (Int32.toUInt32 (3 : Int32) &&& Int32.toUInt32 31)).toInt32 (fun i => cond (Nat.ble 32 (3 + i)) 0 (f (3 + i))) := sy_ush 3 (by decide) hx
theorem yl4 {w x : Int32} {f : Nat → Nat} (hx : SY w x f) : SY w (x <<< ((4 : Int32) &&& 31)) (fun i => cond (Nat.ble 4 i) (f (i - 4)) 0) := sy_shl 4 (by decide) hx
theorem yr4 {w x : Int32} {f : Nat → Nat} (hx : SY w x f) : SY w (x >>> ((4 : Int32) &&& 31)) (fun i => cond (Nat.ble 32 (4 + i)) (f 31) (f (4 + i))) := sy_shr 4 (by decide) hx
theorem yu4 {w x : Int32} {f : Nat → Nat} (hx : SY w x f) : SY w (x.toUInt32 >>> (Int32.toUInt32 (4 : Int32) &&& Int32.toUInt32 31)).toInt32 (fun i => cond (Nat.ble 32 (4 + i)) 0 (f (4 + i))) := sy_ush 4 (by decide) hx
theorem yl5 {w x : Int32} {f : Nat → Nat} (hx : SY w x f) : SY w (x <<< ((5 : Int32) &&& 31)) (fun i => cond (Nat.ble 5 i) (f (i - 5)) 0) := sy_shl 5 (by decide) hx
theorem yr5 {w x : Int32} {f : Nat → Nat} (hx : SY w x f) : SY w (x >>> ((5 : Int32) &&& 31)) (fun i => cond (Nat.ble 32 (5 + i)) (f 31) (f (5 + i))) := sy_shr 5 (by decide) hx
theorem yu5 {w x : Int32} {f : Nat → Nat} (hx : SY w x f) : SY w (x.toUInt32 >>> (Int32.toUInt32 (5 : Int32) &&& Int32.toUInt32 31)).toInt32 (fun i => cond (Nat.ble 32 (5 + i)) 0 (f (5 + i))) := sy_ush 5 (by decide) hx
theorem yl6 {w x : Int32} {f : Nat → Nat} (hx : SY w x f) : SY w (x <<< ((6 : Int32) &&& 31)) (fun i => cond (Nat.ble 6 i) (f (i - 6)) 0) := sy_shl 6 (by decide) hx
theorem yr6 {w x : Int32} {f : Nat → Nat} (hx : SY w x f) : SY w (x >>> ((6 : Int32) &&& 31)) (fun i => cond (Nat.ble 32 (6 + i)) (f 31) (f (6 + i))) := sy_shr 6 (by decide) hx
theorem yu6 {w x : Int32} {f : Nat → Nat} (hx : SY w x f) : SY w (x.toUInt32 >>> (Int32.toUInt32 (6 : Int32) &&& Int32.toUInt32 31)).toInt32 (fun i => cond (Nat.ble 32 (6 + i)) 0 (f (6 + i))) := sy_ush 6 (by decide) hx
theorem yl7 {w x : Int32} {f : Nat → Nat} (hx : SY w x f) : SY w (x <<< ((7 : Int32) &&& 31)) (fun i => cond (Nat.ble 7 i) (f (i - 7)) 0) := sy_shl 7 (by decide) hx
theorem yr7 {w x : Int32} {f : Nat → Nat} (hx : SY w x f) : SY w (x >>> ((7 : Int32) &&& 31)) (fun i => cond (Nat.ble 32 (7 + i)) (f 31) (f (7 + i))) := sy_shr 7 (by decide) hx
theorem yu7 {w x : Int32} {f : Nat → Nat} (hx : SY w x f) : SY w (x.toUInt32 >>> (Int32.toUInt32 (7 : Int32) &&& Int32.toUInt32 31)).toInt32 (fun i => cond (Nat.ble 32 (7 + i)) 0 (f (7 + i))) := sy_ush 7 (by decide) hx
theorem yl8 {w x : Int32} {f : Nat → Nat} (hx : SY w x f) : SY w (x <<< ((8 : Int32) &&& 31)) (fun i => cond (Nat.ble 8 i) (f (i - 8)) 0) := sy_shl 8 (by decide) hx
theorem yr8 {w x : Int32} {f : Nat → Nat} (hx : SY w x f) : SY w (x >>> ((8 : Int32) &&& 31)) (fun i => cond (Nat.ble 32 (8 + i)) (f 31) (f (8 + i))) := sy_shr 8 (by decide) hx
theorem yu8 {w x : Int32} {f : Nat → Nat} (hx : SY w x f) : SY w (x.toUInt32 >>> (Int32.toUInt32 (8 : Int32) &&& Int32.toUInt32 31)).toInt32 (fun i => cond (Nat.ble 32 (8 + i)) 0 (f (8 + i))) := sy_ush 8 (by decide) hx
theorem yl9 {w x : Int32} {f : Nat → Nat} (hx : SY w x f) : SY w (x <<< ((9 : Int32) &&& 31)) (fun i => cond (Nat.ble 9 i) (f (i - 9)) 0) := sy_shl 9 (by decide) hx
theorem yr9 {w x : Int32} {f : Nat → Nat} (hx : SY w x f) : SY w (x >>> ((9 : Int32) &&& 31)) (fun i => cond (Nat.ble 32 (9 + i)) (f 31) (f (9 + i))) := sy_shr 9 (by decide) hx
theorem yu9 {w x : Int32} {f : Nat → Nat} (hx : SY w x f) : SY w (x.toUInt32 >>> (Int32.toUInt32 (9 : Int32) &&& Int32.toUInt32 31)).toInt32 (fun i => cond (Nat.ble 32 (9 + i)) 0 (f (9 + i))) := sy_ush 9 (by decide) hx
theorem yl10 {w x : Int32} {f : Nat → Nat} (hx : SY w x f) : SY w (x <<< ((10 : Int32) &&& 31)) (fun i => cond (Nat.ble 10 i) (f (i - 10)) 0) := sy_shl 10 (by decide) hx
theorem yr10 {w x : Int32} {f : Nat → Nat} (hx : SY w x f) : SY w (x >>> ((10 : Int32) &&& 31)) (fun i => cond (Nat.ble 32 (10 + i)) (f 31) (f (10 + i))) := sy_shr 10 (by decide) hx
theorem yu10 {w x : Int32} {f : Nat → Nat} (hx : SY w x f) : SY w (x.toUInt32 >>> (Int32.toUInt32 (10 : Int32) &&& Int32.toUInt32 31)).toInt32 (fun i => cond (Nat.ble 32 (10 + i)) 0 (f (10 + i))) := sy_ush 10 (by decide) hx
theorem yl11 {w x : Int32} {f : Nat → Nat} (hx : SY w x f) : SY w (x <<< ((11 : Int32) &&& 31)) (fun i => cond (Nat.ble 11 i) (f (i - 11)) 0) := sy_shl 11 (by decide) hx
theorem yr11 {w x : Int32} {f : Nat → Nat} (hx : SY w x f) : SY w (x >>> ((11 : Int32) &&& 31)) (fun i => cond (Nat.ble 32 (11 + i)) (f 31) (f (11 + i))) := sy_shr 11 (by decide) hx
theorem yu11 {w x : Int32} {f : Nat → Nat} (hx : SY w x f) : SY w (x.toUInt32 >>> (Int32.toUInt32 (11 : Int32) &&& Int32.toUInt32 31)).toInt32 (fun i => cond (Nat.ble 32 (11 + i)) 0 (f (11 + i))) := sy_ush 11 (by decide) hx
theorem yl12 {w x : Int32} {f : Nat → Nat} (hx : SY w x f) : SY w (x <<< ((12 : Int32) &&& 31)) (fun i => cond (Nat.ble 12 i) (f (i - 12)) 0) := sy_shl 12 (by decide) hx
theorem yr12 {w x : Int32} {f : Nat → Nat} (hx : SY w x f) : SY w (x >>> ((12 : Int32) &&& 31)) (fun i => cond (Nat.ble 32 (12 + i)) (f 31) (f (12 + i))) := sy_shr 12 (by decide) hx
theorem yu12 {w x : Int32} {f : Nat → Nat} (hx : SY w x f) : SY w (x.toUInt32 >>> (Int32.toUInt32 (12 : Int32) &&& Int32.toUInt32 31)).toInt32 (fun i => cond (Nat.ble 32 (12 + i)) 0 (f (12 + i))) := sy_ush 12 (by decide) hx
theorem yl13 {w x : Int32} {f : Nat → Nat} (hx : SY w x f) : SY w (x <<< ((13 : Int32) &&& 31)) (fun i => cond (Nat.ble 13 i) (f (i - 13)) 0) := sy_shl 13 (by decide) hx
theorem yr13 {w x : Int32} {f : Nat → Nat} (hx : SY w x f) : SY w (x >>> ((13 : Int32) &&& 31)) (fun i => cond (Nat.ble 32 (13 + i)) (f 31) (f (13 + i))) := sy_shr 13 (by decide) hx
theorem yu13 {w x : Int32} {f : Nat → Nat} (hx : SY w x f) : SY w (x.toUInt32 >>> (Int32.toUInt32 (13 : Int32) &&& Int32.toUInt32 31)).toInt32 (fun i => cond (Nat.ble 32 (13 + i)) 0 (f (13 + i))) := sy_ush 13 (by decide) hx
theorem yl14 {w x : Int32} {f : Nat → Nat} (hx : SY w x f) : SY w (x <<< ((14 : Int32) &&& 31)) (fun i => cond (Nat.ble 14 i) (f (i - 14)) 0) := sy_shl 14 (by decide) hx
theorem yr14 {w x : Int32} {f : Nat → Nat} (hx : SY w x f) : SY w (x >>> ((14 : Int32) &&& 31)) (fun i => cond (Nat.ble 32 (14 + i)) (f 31) (f (14 + i))) := sy_shr 14 (by decide) hx
theorem yu14 {w x : Int32} {f : Nat → Nat} (hx : SY w x f) : SY w (x.toUInt32 >>> (Int32.toUInt32 (14 : Int32) &&& Int32.toUInt32 31)).toInt32 (fun i => cond (Nat.ble 32 (14 + i)) 0 (f (14 + i))) := sy_ush 14 (by decide) hx
theorem yl15 {w x : Int32} {f : Nat → Nat} (hx : SY w x f) : SY w (x <<< ((15 : Int32) &&& 31)) (fun i => cond (Nat.ble 15 i) (f (i - 15)) 0) := sy_shl 15 (by decide) hx
theorem yr15 {w x : Int32} {f : Nat → Nat} (hx : SY w x f) : SY w (x >>> ((15 : Int32) &&& 31)) (fun i => cond (Nat.ble 32 (15 + i)) (f 31) (f (15 + i))) := sy_shr 15 (by decide) hx
theorem yu15 {w x : Int32} {f : Nat → Nat} (hx : SY w x f) : SY w (x.toUInt32 >>> (Int32.toUInt32 (15 : Int32) &&& Int32.toUInt32 31)).toInt32 (fun i => cond (Nat.ble 32 (15 + i)) 0 (f (15 + i))) := sy_ush 15 (by decide) hx
theorem yl16 {w x : Int32} {f : Nat → Nat} (hx : SY w x f) : SY w (x <<< ((16 : Int32) &&& 31)) (fun i => cond (Nat.ble 16 i) (f (i - 16)) 0) := sy_shl 16 (by decide) hx
theorem yr16 {w x : Int32} {f : Nat → Nat} (hx : SY w x f) : SY w (x >>> ((16 : Int32) &&& 31)) (fun i => cond (Nat.ble 32 (16 + i)) (f 31) (f (16 + i))) := sy_shr 16 (by decide) hx
theorem yu16 {w x : Int32} {f : Nat → Nat} (hx : SY w x f) : SY w (x.toUInt32 >>> (Int32.toUInt32 (16 : Int32) &&& Int32.toUInt32 31)).toInt32 (fun i => cond (Nat.ble 32 (16 + i)) 0 (f (16 + i))) := sy_ush 16 (by decide) hx
theorem yl17 {w x : Int32} {f : Nat → Nat} (hx : SY w x f) : SY w (x <<< ((17 : Int32) &&& 31)) (fun i => cond (Nat.ble 17 i) (f (i - 17)) 0) := sy_shl 17 (by decide) hx
theorem yr17 {w x : Int32} {f : Nat → Nat} (hx : SY w x f) : SY w (x >>> ((17 : Int32) &&& 31)) (fun i => cond (Nat.ble 32 (17 + i)) (f 31) (f (17 + i))) := sy_shr 17 (by decide) hx
theorem yu17 {w x : Int32} {f : Nat → Nat} (hx : SY w x f) : SY w (x.toUInt32 >>> (Int32.toUInt32 (17 : Int32) &&& Int32.toUInt32 31)).toInt32 (fun i => cond (Nat.ble 32 (17 + i)) 0 (f (17 + i))) := sy_ush 17 (by decide) hx
theorem yl18 {w x : Int32} {f : Nat → Nat} (hx : SY w x f) : SY w (x <<< ((18 : Int32) &&& 31)) (fun i => cond (Nat.ble 18 i) (f (i - 18)) 0) := sy_shl 18 (by decide) hx
theorem yr18 {w x : Int32} {f : Nat → Nat} (hx : SY w x f) : SY w (x >>> ((18 : Int32) &&& 31)) (fun i => cond (Nat.ble 32 (18 + i)) (f 31) (f (18 + i))) := sy_shr 18 (by decide) hx
theorem yu18 {w x : Int32} {f : Nat → Nat} (hx : SY w x f) : SY w (x.toUInt32 >>> (Int32.toUInt32 (18 : Int32) &&& Int32.toUInt32 31)).toInt32 (fun i => cond (Nat.ble 32 (18 + i)) 0 (f (18 + i))) := sy_ush 18 (by decide) hx
theorem yl19 {w x : Int32} {f : Nat → Nat} (hx : SY w x f) : SY w (x <<< ((19 : Int32) &&& 31)) (fun i => cond (Nat.ble 19 i) (f (i - 19)) 0) := sy_shl 19 (by decide) hx
theorem yr19 {w x : Int32} {f : Nat → Nat} (hx : SY w x f) : SY w (x >>> ((19 : Int32) &&& 31)) (fun i => cond (Nat.ble 32 (19 + i)) (f 31) (f (19 + i))) := sy_shr 19 (by decide) hx
theorem yu19 {w x : Int32} {f : Nat → Nat} (hx : SY w x f) : SY w (x.toUInt32 >>> (Int32.toUInt32 (19 : Int32) &&& Int32.toUInt32 31)).toInt32 (fun i => cond (Nat.ble 32 (19 + i)) 0 (f (19 + i))) := sy_ush 19 (by decide) hx
theorem yl20 {w x : Int32} {f : Nat → Nat} (hx : SY w x f) : SY w (x <<< ((20 : Int32) &&& 31)) (fun i => cond (Nat.ble 20 i) (f (i - 20)) 0) := sy_shl 20 (by decide) hx
theorem yr20 {w x : Int32} {f : Nat → Nat} (hx : SY w x f) : SY w (x >>> ((20 : Int32) &&& 31)) (fun i => cond (Nat.ble 32 (20 + i)) (f 31) (f (20 + i))) := sy_shr 20 (by decide) hx
theorem yu20 {w x : Int32} {f : Nat → Nat} (hx : SY w x f) : SY w (x.toUInt32 >>> (Int32.toUInt32 (20 : Int32) &&& Int32.toUInt32 31)).toInt32 (fun i => cond (Nat.ble 32 (20 + i)) 0 (f (20 + i))) := sy_ush 20 (by decide) hx
theorem yl21 {w x : Int32} {f : Nat → Nat} (hx : SY w x f) : SY w (x <<< ((21 : Int32) &&& 31)) (fun i => cond (Nat.ble 21 i) (f (i - 21)) 0) := sy_shl 21 (by decide) hx
theorem yr21 {w x : Int32} {f : Nat → Nat} (hx : SY w x f) : SY w (x >>> ((21 : Int32) &&& 31)) (fun i => cond (Nat.ble 32 (21 + i)) (f 31) (f (21 + i))) := sy_shr 21 (by decide) hx
theorem yu21 {w x : Int32} {f : Nat → Nat} (hx : SY w x f) : SY w (x.toUInt32 >>> (Int32.toUInt32 (21 : Int32) &&& Int32.toUInt32 31)).toInt32 (fun i => cond (Nat.ble 32 (21 + i)) 0 (f (21 + i))) := sy_ush 21 (by decide) hx
theorem yl22 {w x : Int32} {f : Nat → Nat} (hx : SY w x f) : SY w (x <<< ((22 : Int32) &&& 31)) (fun i => cond (Nat.ble 22 i) (f (i - 22)) 0) := sy_shl 22 (by decide) hx
theorem yr22 {w x : Int32} {f : Nat → Nat} (hx : SY w x f) : SY w (x >>> ((22 : Int32) &&& 31)) (fun i => cond (Nat.ble 32 (22 + i)) (f 31) (f (22 + i))) := sy_shr 22 (by decide) hx
theorem yu22 {w x : Int32} {f : Nat → Nat} (hx : SY w x f) : SY w (x.toUInt32 >>> (Int32.toUInt32 (22 : Int32) &&& Int32.toUInt32 31)).toInt32 (fun i => cond (Nat.ble 32 (22 + i)) 0 (f (22 + i))) := sy_ush 22 (by decide) hx
theorem yl23 {w x : Int32} {f : Nat → Nat} (hx : SY w x f) : SY w (x <<< ((23 : Int32) &&& 31)) (fun i => cond (Nat.ble 23 i) (f (i - 23)) 0) := sy_shl 23 (by decide) hx
theorem yr23 {w x : Int32} {f : Nat → Nat} (hx : SY w x f) : SY w (x >>> ((23 : Int32) &&& 31)) (fun i => cond (Nat.ble 32 (23 + i)) (f 31) (f (23 + i))) := sy_shr 23 (by decide) hx
theorem yu23 {w x : Int32} {f : Nat → Nat} (hx : SY w x f) : SY w (x.toUInt32 >>> (Int32.toUInt32 (23 : Int32) &&& Int32.toUInt32 31)).toInt32 (fun i => cond (Nat.ble 32 (23 + i)) 0 (f (23 + i))) := sy_ush 23 (by decide) hx
theorem yl24 {w x : Int32} {f : Nat → Nat} (hx : SY w x f) : SY w (x <<< ((24 : Int32) &&& 31)) (fun i => cond (Nat.ble 24 i) (f (i - 24)) 0) := sy_shl 24 (by decide) hx
theorem yr24 {w x : Int32} {f : Nat → Nat} (hx : SY w x f) : SY w (x >>> ((24 : Int32) &&& 31)) (fun i => cond (Nat.ble 32 (24 + i)) (f 31) (f (24 + i))) := sy_shr 24 (by decide) hx
theorem yu24 {w x : Int32} {f : Nat → Nat} (hx : SY w x f) : SY w (x.toUInt32 >>> (Int32.toUInt32 (24 : Int32) &&& Int32.toUInt32 31)).toInt32 (fun i => cond (Nat.ble 32 (24 + i)) 0 (f (24 + i))) := sy_ush 24 (by decide) hx
theorem yl25 {w x : Int32} {f : Nat → Nat} (hx : SY w x f) : SY w (x <<< ((25 : Int32) &&& 31)) (fun i => cond (Nat.ble 25 i) (f (i - 25)) 0) := sy_shl 25 (by decide) hx
theorem yr25 {w x : Int32} {f : Nat → Nat} (hx : SY w x f) : SY w (x >>> ((25 : Int32) &&& 31)) (fun i => cond (Nat.ble 32 (25 + i)) (f 31) (f (25 + i))) := sy_shr 25 (by decide) hx
theorem yu25 {w x : Int32} {f : Nat → Nat} (hx : SY w x f) : SY w (x.toUInt32 >>> (Int32.toUInt32 (25 : Int32) &&& Int32.toUInt32 31)).toInt32 (fun i => cond (Nat.ble 32 (25 + i)) 0 (f (25 + i))) := sy_ush 25 (by decide) hx
theorem yl26 {w x : Int32} {f : Nat → Nat} (hx : SY w x f) : SY w (x <<< ((26 : Int32) &&& 31)) (fun i => cond (Nat.ble 26 i) (f (i - 26)) 0) := sy_shl 26 (by decide) hx
theorem yr26 {w x : Int32} {f : Nat → Nat} (hx : SY w x f) : SY w (x >>> ((26 : Int32) &&& 31)) (fun i => cond (Nat.ble 32 (26 + i)) (f 31) (f (26 + i))) := sy_shr 26 (by decide) hx
theorem yu26 {w x : Int32} {f : Nat → Nat} (hx : SY w x f) : SY w (x.toUInt32 >>> (Int32.toUInt32 (26 : Int32) &&& Int32.toUInt32 31)).toInt32 (fun i => cond (Nat.ble 32 (26 + i)) 0 (f (26 + i))) := sy_ush 26 (by decide) hx
theorem yl27 {w x : Int32} {f : Nat → Nat} (hx : SY w x f) : SY w (x <<< ((27 : Int32) &&& 31)) (fun i => cond (Nat.ble 27 i) (f (i - 27)) 0) := sy_shl 27 (by decide) hx
theorem yr27 {w x : Int32} {f : Nat → Nat} (hx : SY w x f) : SY w (x >>> ((27 : Int32) &&& 31)) (fun i => cond (Nat.ble 32 (27 + i)) (f 31) (f (27 + i))) := sy_shr 27 (by decide) hx
theorem yu27 {w x : Int32} {f : Nat → Nat} (hx : SY w x f) : SY w (x.toUInt32 >>> (Int32.toUInt32 (27 : Int32) &&& Int32.toUInt32 31)).toInt32 (fun i => cond (Nat.ble 32 (27 + i)) 0 (f (27 + i))) := sy_ush 27 (by decide) hx
theorem yl28 {w x : Int32} {f : Nat → Nat} (hx : SY w x f) : SY w (x <<< ((28 : Int32) &&& 31)) (fun i => cond (Nat.ble 28 i) (f (i - 28)) 0) := sy_shl 28 (by decide) hx
theorem yr28 {w x : Int32} {f : Nat → Nat} (hx : SY w x f) : SY w (x >>> ((28 : Int32) &&& 31)) (fun i => cond (Nat.ble 32 (28 + i)) (f 31) (f (28 + i))) := sy_shr 28 (by decide) hx
theorem yu28 {w x : Int32} {f : Nat → Nat} (hx : SY w x f) : SY w (x.toUInt32 >>> (Int32.toUInt32 (28 : Int32) &&& Int32.toUInt32 31)).toInt32 (fun i => cond (Nat.ble 32 (28 + i)) 0 (f (28 + i))) := sy_ush 28 (by decide) hx
theorem yl29 {w x : Int32} {f : Nat → Nat} (hx : SY w x f) : SY w (x <<< ((29 : Int32) &&& 31)) (fun i => cond (Nat.ble 29 i) (f (i - 29)) 0) := sy_shl 29 (by decide) hx
theorem yr29 {w x : Int32} {f : Nat → Nat} (hx : SY w x f) : SY w (x >>> ((29 : Int32) &&& 31)) (fun i => cond (Nat.ble 32 (29 + i)) (f 31) (f (29 + i))) := sy_shr 29 (by decide) hx
theorem yu29 {w x : Int32} {f : Nat → Nat} (hx : SY w x f) : SY w (x.toUInt32 >>> (Int32.toUInt32 (29 : Int32) &&& Int32.toUInt32 31)).toInt32 (fun i => cond (Nat.ble 32 (29 + i)) 0 (f (29 + i))) := sy_ush 29 (by decide) hx
theorem yl30 {w x : Int32} {f : Nat → Nat} (hx : SY w x f) : SY w (x <<< ((30 : Int32) &&& 31)) (fun i => cond (Nat.ble 30 i) (f (i - 30)) 0) := sy_shl 30 (by decide) hx
theorem yr30 {w x : Int32} {f : Nat → Nat} (hx : SY w x f) : SY w (x >>> ((30 : Int32) &&& 31)) (fun i => cond (Nat.ble 32 (30 + i)) (f 31) (f (30 + i))) := sy_shr 30 (by decide) hx
theorem yu30 {w x : Int32} {f : Nat → Nat} (hx : SY w x f) : SY w (x.toUInt32 >>> (Int32.toUInt32 (30 : Int32) &&& Int32.toUInt32 31)).toInt32 (fun i => cond (Nat.ble 32 (30 + i)) 0 (f (30 + i))) := sy_ush 30 (by decide) hx
theorem yl31 {w x : Int32} {f : Nat → Nat} (hx : SY w x f) : SY w (x <<< ((31 : Int32) &&& 31)) (fun i => cond (Nat.ble 31 i) (f (i - 31)) 0) := sy_shl 31 (by decide) hx
theorem yr31 {w x : Int32} {f : Nat → Nat} (hx : SY w x f) : SY w (x >>> ((31 : Int32) &&& 31)) (fun i => cond (Nat.ble 32 (31 + i)) (f 31) (f (31 + i))) := sy_shr 31 (by decide) hx
theorem yu31 {w x : Int32} {f : Nat → Nat} (hx : SY w x f) : SY w (x.toUInt32 >>> (Int32.toUInt32 (31 : Int32) &&& Int32.toUInt32 31)).toInt32 (fun i => cond (Nat.ble 32 (31 + i)) 0 (f (31 + i))) := sy_ush 31 (by decide) hx
