theorem fill_s (f : Nat → Int32) (i : Nat) (v : Int32) : va_up (fun j => if j < i then v else f j) i v = fun j => if j < i + 1 then v else f j := by
  funext j
  unfold va_up
  by_cases h : j = i
  · subst h; rw [if_pos rfl, if_pos (Nat.lt_succ_self j)]
  · rw [if_neg h]
    show (if j < i then v else f j) = _
    by_cases h2 : j < i
    · rw [if_pos h2, if_pos (by omega)]
    · rw [if_neg h2, if_neg (by omega)]
theorem fill_0 (z : xSt) (o : Nat) (v : Int32) : z = ur z o (fun j => if j < 0 then v else z.1 o j) := by
  have e : (fun j => if j < 0 then v else z.1 o j) = z.1 o := funext (fun j => if_neg (Nat.not_lt_zero j))
  rw [e, ur_id]
/-- a member copied from another -/
def cpN (z : xSt) (b m c n : Nat) : xSt := ur (ur (ur (ur (ur z (oM b m) (z.1 (oM c n))) (oPt b m) (z.1 (oPt c n))) (oLf b m) (z.1 (oLf c n))) (oKd b m) (z.1 (oKd c n))) (oPd b m) (z.1 (oPd c n))
/-- the greatest of the places 0 to i, the first of equal ones -/
def am (r : Nat → Int64) : Nat → Nat
  | 0 => 0
  | i + 1 => if r (am r i) < r (i + 1) then i + 1 else am r i
theorem am_le (r : Nat → Int64) : ∀ i, am r i ≤ i
  | 0 => Nat.le_refl 0
  | i + 1 => by
    have h := am_le r i
    unfold am
    split <;> omega
/-- units given to the greatest remainders, k of them -/
def gv (n : Nat) : Nat → (Nat → Int32) × (Nat → Int64) → (Nat → Int32) × (Nat → Int64)
  | 0, s => s
  | k + 1, s => gv n k (va_up s.1 (am s.2 (n - 1)) (s.1 (am s.2 (n - 1)) + 1), va_up s.2 (am s.2 (n - 1)) (-1))
/-- how often the giving goes round -/
def gvn (o : Int32) (n : Nat) : Nat := if o < nI n then o.toNatClampNeg else n
def shT (f : Nat → Int32) (n : Nat) : Int64 := xls (fun i => (f i).toInt64) n
def shQ (a : Int32) (f : Nat → Int32) (t : Int64) (i : Nat) : Int32 := (a.toInt64 * (f i).toInt64 / t).toInt32
def shR (a : Int32) (f : Nat → Int32) (t : Int64) (i : Nat) : Int64 := a.toInt64 * (f i).toInt64 - a.toInt64 * (f i).toInt64 / t * t
/-- the first k places by a function, the others as they were -/
def pre {α : Type} (k : Nat) (f g : Nat → α) : Nat → α := fun j => if j < k then f j else g j
theorem pre_0 {α : Type} (f g : Nat → α) : pre 0 f g = g := funext (fun j => if_neg (Nat.not_lt_zero j))
theorem pre_s {α : Type} (k : Nat) (f g : Nat → α) : va_up (pre k f g) k (f k) = pre (k + 1) f g := by
  funext j
  unfold va_up pre
  by_cases h : j = k
  · subst h; rw [if_pos rfl, if_pos (Nat.lt_succ_self j)]
  · rw [if_neg h]
    by_cases h2 : j < k
    · rw [if_pos h2, if_pos (by omega)]
    · rw [if_neg h2, if_neg (by omega)]
theorem pre_lt {α : Type} {k j : Nat} {f g : Nat → α} (h : j < k) : pre k f g j = f j := if_pos h
def iopen (a : Int32) (f : Nat → Int32) : Nat → Int32
  | 0 => a
  | i + 1 => iopen a f i - f i
/-- what sharing leaves in the rows of shares and remainders -/
def shS (z : xSt) (a : Int32) (n : Nat) : (Nat → Int32) × (Nat → Int64) :=
  gv n (gvn (iopen a (shQ a (z.1 6) (shT (z.1 6) n)) n) n) (pre n (shQ a (z.1 6) (shT (z.1 6) n)) (z.1 7), pre n (shR a (z.1 6) (shT (z.1 6) n)) (z.2 8))
def shZ (z : xSt) (a : Int32) (n : Nat) : xSt := if 0 < shT (z.1 6) n then (va_up z.1 7 (shS z a n).1, va_up z.2 8 (shS z a n).2) else z
/-- the state with other rows of shares and remainders -/
def zSR (z : xSt) (s : (Nat → Int32) × (Nat → Int64)) : xSt := (va_up z.1 7 s.1, va_up z.2 8 s.2)
theorem zSR_id (z : xSt) : zSR z (z.1 7, z.2 8) = z := by unfold zSR; rw [va_up_id, va_up_id]
theorem zSR_u (z : xSt) (s : (Nat → Int32) × (Nat → Int64)) (i j : Nat) (v : Int32) (x : Int64) : u2 (u1 (zSR z s) 7 i v) 8 j x = zSR z (va_up s.1 i v, va_up s.2 j x) := by
  unfold u2 u1 zSR
  simp only [va_up_self, bx_uu]
theorem gv_s {n k j : Nat} {s : (Nat → Int32) × (Nat → Int64)} (h : k = j + 1) : gv n k s = gv n j (va_up s.1 (am s.2 (n - 1)) (s.1 (am s.2 (n - 1)) + 1), va_up s.2 (am s.2 (n - 1)) (-1)) := by rw [h]; rfl
theorem gvn_le (o : Int32) {n : Nat} (hn : n < 2147483648) : gvn o n ≤ n := by
  unfold gvn
  by_cases h : o < nI n
  · rw [if_pos h]
    by_cases h0 : o < 0
    · have : o.toNatClampNeg = 0 := by
        have h1 := Int32.lt_iff_toInt_lt.mp h0
        show o.toInt.toNat = 0
        have h2 : (0 : Int32).toInt = 0 := by decide
        omega
      omega
    · obtain ⟨j, hj, rfl⟩ := nI_of h0
      rw [nI_clamp hj]
      exact Nat.le_of_lt ((nI_ltI hj hn).mp h)
  · rw [if_neg h]; exact Nat.le_refl _
theorem gvn_end {o : Int32} {n g : Nat} (hn : n < 2147483648) (hg : g < 2147483648) (h : o ≤ nI g) : gvn o n ≤ g := by
  unfold gvn
  by_cases h2 : o < nI n
  · rw [if_pos h2]
    by_cases h0 : o < 0
    · have : o.toNatClampNeg = 0 := by
        have h1 := Int32.lt_iff_toInt_lt.mp h0
        show o.toInt.toNat = 0
        have h2 : (0 : Int32).toInt = 0 := by decide
        omega
      omega
    · obtain ⟨j, hj, rfl⟩ := nI_of h0
      rw [nI_clamp hj]
      exact (nI_leI hj hg).mp h
  · rw [if_neg h2]
    exact (nI_leI hn hg).mp (Int32.le_trans (Int32.not_lt.mp h2) h)
theorem gvn_lt {o : Int32} {n g : Nat} (hn : n < 2147483648) (hg : g < n) (h : ¬ o ≤ nI g) : g < gvn o n := by
  unfold gvn
  have h1 : nI g < o := Int32.not_le.mp h
  by_cases h2 : o < nI n
  · rw [if_pos h2]
    have h0 : ¬ o < 0 := fun h3 => by
      have h4 := Int32.lt_trans h1 h3
      exact absurd h4 (nI_pos (by omega))
    obtain ⟨j, hj, rfl⟩ := nI_of h0
    rw [nI_clamp hj]
    exact (nI_ltI (by omega) hj).mp h1
  · rw [if_neg h2]; exact hg
