/-! walks that stop at loops' heads -/
def am_wt (S : am_Sg) (cd : am_Cd) (stops : List Nat) (r : Option Value) (ab' : List am_Cl) : Nat → am_Ps
  | 0 => am_T S r ab'
  | f + 1 => fun pc L st ab k n => cond (am_in stops pc) (am_T S r ab' pc L st ab k n) (match am_lk pc cd with
    | some q => am_s1 S r ab' (am_T S r ab') (am_wt S cd stops r ab' f) q.2 q.1 L st ab k n
    | none => False)
def am_wu (S : am_Sg) (cd : am_Cd) (stops : List Nat) (r : Option Value) (ab' : List am_Cl) (f : Nat) : am_Ps := fun pc L st ab k n => match am_lk pc cd with
    | some q => am_s1 S r ab' (am_T S r ab') (am_wt S cd stops r ab' f) q.2 q.1 L st ab k n
    | none => False
theorem am_wt_T {S : am_Sg} {r : Option Value} {ab' : List am_Cl} {cd : am_Cd} (hg : am_Good S cd) (stops : List Nat) : ∀ (f : Nat) {pc : Nat} {L st : List Value} {ab : List am_Cl} {k n : Nat}, am_wt S cd stops r ab' f pc L st ab k n → am_T S r ab' pc L st ab k n
  | 0, pc, L, st, ab, k, n, h => h
  | f + 1, pc, L, st, ab, k, n, h => by
    rw [am_wt] at h
    cases hs : am_in stops pc with
    | true => rw [hs] at h; exact h
    | false =>
      rw [hs] at h
      simp only [cond_false] at h
      split at h
      · rename_i q hq
        obtain ⟨h1, h2⟩ := am_Good_row hg hq
        rw [h2] at h h1
        exact am_s1_T (fun pc L st ab k n hh => am_wt_T hg stops f hh) h1 h
      · exact h.elim
theorem am_wu_T {S : am_Sg} {r : Option Value} {ab' : List am_Cl} {cd : am_Cd} (hg : am_Good S cd) (stops : List Nat) (f : Nat) {pc : Nat} {L st : List Value} {ab : List am_Cl} {k n : Nat} (h : am_wu S cd stops r ab' f pc L st ab k n) : am_T S r ab' pc L st ab k n := by
  unfold am_wu at h
  split at h
  · rename_i q hq
    obtain ⟨h1, h2⟩ := am_Good_row hg hq
    rw [h2] at h h1
    exact am_s1_T (fun pc L st ab k n hh => am_wt_T hg stops f hh) h1 h
  · exact h.elim
theorem am_Tc {S : am_Sg} {r r1 : Option Value} {w w1 : List am_Cl} {pc : Nat} {L st : List Value} {ab : List am_Cl} {k n : Nat} (h : am_T S r1 w1 pc L st ab k n) (e1 : r = r1) (e2 : w = w1) : am_T S r w pc L st ab k n := by
  rw [e1, e2]; exact h
/-- fewer locals known -/
def am_lle : List Value → List Value → Prop
  | [], [] => True
  | a :: l, b :: m => (a = .retAddr 0 ∨ a = b) ∧ am_lle l m
  | _, _ => False
theorem am_lle_ok : ∀ {l m : List Value}, am_lle l m → l.length = m.length ∧ ∀ (i : Nat) (v : Value), l[i]? = some v → am_ok v = true → m[i]? = some v
  | [], [], _ => ⟨rfl, fun i v h => by simp at h⟩
  | a :: l, b :: m, h => by
    obtain ⟨h1, h2⟩ := am_lle_ok h.2
    refine ⟨by simp [h1], fun i v hv ho => ?_⟩
    cases i with
    | zero =>
      simp at hv
      subst hv
      rcases h.1 with e | e
      · rw [e] at ho; cases ho
      · simp [e]
    | succ i =>
      simp at hv ⊢
      exact h2 i v hv ho
  | [], _ :: _, h => h.elim
  | _ :: _, [], h => h.elim
theorem am_Tw {S : am_Sg} {r : Option Value} {w : List am_Cl} {pc : Nat} {L0 L st : List Value} {ab : List am_Cl} {k n : Nat} (h : am_T S r w pc L0 st ab k n) (hl : am_lle L0 L) : am_T S r w pc L st ab k n := by
  intro l D cI cZ b p e s m args below meth c H locs ls hC hH hS hL hlen
  obtain ⟨h1, h2⟩ := am_lle_ok hl
  refine h l D cI cZ b p e s m args below meth c H locs ls hC hH hS ⟨hL.1, hL.2.1, fun q hq => ?_⟩ (h1.trans hlen)
  obtain ⟨v, g1, g2, g3⟩ := am_lv_inv hq
  have := hL.2.2 _ (am_lv_mem (b := b) (h2 _ _ g1 g2) g2)
  rw [g3]; exact this
theorem ms_up {n M : Int32} {f : Nat} (h : ¬ M ≤ n) (hm : (M.toInt - n.toInt).toNat < f + 1) : (M.toInt - (n + 1).toInt).toNat < f := by
  rw [le_i] at h
  have h1 : M.toInt ≤ 2147483647 := by have := Int32.toInt_lt M; omega
  have h2 : -2147483648 ≤ n.toInt := Int32.le_toInt n
  rw [add_i (x := n) (y := 1) (by rw [show (1 : Int32).toInt = 1 from rfl]; omega) (by rw [show (1 : Int32).toInt = 1 from rfl]; omega), show (1 : Int32).toInt = 1 from rfl]
  omega
