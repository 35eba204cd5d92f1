/-! PURE WORDS for what the methods reckon -/
def xls (f : Nat → Int64) : Nat → Int64
  | 0 => 0
  | n + 1 => xls f n + f n
/-- the first of the next n places from i on that has p; -1: none -/
def xff (p : Nat → Bool) : Nat → Nat → Int32
  | 0, _ => -1
  | n + 1, i => if p i = true then nI i else xff p n (i + 1)
/-- whether one of the next n places from i on has p, as a boolean's int -/
def xan (p : Nat → Bool) : Nat → Nat → Int32
  | 0, _ => 0
  | n + 1, i => if p i = true then 1 else xan p n (i + 1)
theorem xff_s {p : Nat → Bool} {n i k : Nat} (h : n = k + 1) : xff p n i = if p i = true then nI i else xff p k (i + 1) := by rw [h]; rfl
theorem xan_s {p : Nat → Bool} {n i k : Nat} (h : n = k + 1) : xan p n i = if p i = true then 1 else xan p k (i + 1) := by rw [h]; rfl
theorem i32_add_zero (x : Int32) : x + 0 = x := Int32.add_zero x
/-- an amount by parts, rounded up -/
def rup (a n : Int32) : Int32 := if 0 < n then (a + n - 1) / n else a
def imin (a b : Int32) : Int32 := if b < a then b else a
/-- a loss taken from the places below n, the last first: what is left, what is open -/
def rcp : Nat → (Nat → Int32) → Int32 → (Nat → Int32) × Int32
  | 0, f, o => (f, o)
  | n + 1, f, o => if 0 < o then rcp n (va_up f n (f n - imin o (f n))) (o - imin o (f n)) else (f, o)
/-- an amount taken from n places from i on, the first first -/
def ipy : Nat → Nat → (Nat → Int32) → Int32 → (Nat → Int32) × Int32
  | 0, _, f, o => (f, o)
  | n + 1, i, f, o => if 0 < o then ipy n (i + 1) (va_up f i (f i - imin o (f i))) (o - imin o (f i)) else (f, o)
theorem ipy_s {n k i : Nat} {f : Nat → Int32} {o : Int32} (h : n = k + 1) : ipy n i f o = if 0 < o then ipy k (i + 1) (va_up f i (f i - imin o (f i))) (o - imin o (f i)) else (f, o) := by rw [h]; rfl
theorem rcp_no {n : Nat} {f : Nat → Int32} {o : Int32} (h : ¬ 0 < o) : rcp n f o = (f, o) := by
  cases n with
  | zero => rfl
  | succ n => exact if_neg h
theorem ipy_no {n i : Nat} {f : Nat → Int32} {o : Int32} (h : ¬ 0 < o) : ipy n i f o = (f, o) := by
  cases n with
  | zero => rfl
  | succ n => exact if_neg h
/-- what is open behind n installments -/
def insA (e t : Int32) : Nat → Int32
  | 0 => e
  | n + 1 => insA e t n - rup (insA e t n) (t - nI n)
theorem ur_at (z : xSt) (o : Nat) (f : Nat → Int32) : (ur z o f).1 o = f := va_up_self ..
theorem ur_ne (z : xSt) {o q : Nat} (f : Nat → Int32) (h : q ≠ o) : (ur z o f).1 q = z.1 q := va_up_ne _ _ h
theorem u1_ur (z : xSt) (o k : Nat) (f : Nat → Int32) (v : Int32) : u1 (ur z o f) o k v = ur z o (va_up f k v) := by
  unfold u1 ur
  simp only [va_up_self, bx_uu]
theorem ur_id (z : xSt) (o : Nat) : ur z o (z.1 o) = z := by unfold ur; rw [va_up_id]
theorem u1_ne (z : xSt) {o q k : Nat} {v : Int32} (h : q ≠ o) : (u1 z o k v).1 q = z.1 q := va_up_ne _ _ h
theorem u1_at (z : xSt) (o k : Nat) (v : Int32) : (u1 z o k v).1 o = va_up (z.1 o) k v := va_up_self ..
theorem u1_self (z : xSt) (o k : Nat) (v : Int32) : (u1 z o k v).1 o k = v := by rw [u1_at, va_up_self]
theorem u1_sne (z : xSt) (o : Nat) {k j : Nat} (v : Int32) (h : j ≠ k) : (u1 z o k v).1 o j = z.1 o j := by rw [u1_at, va_up_ne _ _ h]
theorem pred_neg {n : Nat} (h : n < 1000) (h2 : nI n - 1 < 0) : n = 0 := by
  cases n with
  | zero => rfl
  | succ k => rw [nI_pred] at h2; exact absurd h2 (nI_pos (by omega))
theorem pred_pos {n : Nat} (h : n < 1000) (h2 : ¬ nI n - 1 < 0) : ∃ k, n = k + 1 := by
  cases n with
  | zero => exact absurd (by decide) h2
  | succ k => exact ⟨k, rfl⟩
theorem nI_m1 (k : Nat) : nI k + (-1) = nI k - 1 := (Int32.sub_eq_add_neg _ _).symm
/-- an installment is paid -/
def pIns (z : xSt) (b m : Nat) : xSt :=
  let A := rup (bx_sum (z.1 (oLf b m)) 25) (z.1 (oM b m) 3)
  let z1 := ur z (oLf b m) (ipy 25 0 (z.1 (oLf b m)) A).1
  let z2 := u1 z1 (oPd b m) 2 (z1.1 (oPd b m) 2 + A)
  let z3 := u1 z2 (oM b m) 3 (z2.1 (oM b m) 3 - 1)
  if 0 < z3.1 (oM b m) 3 then z3 else u1 (u1 z3 (oM b m) 3 0) (oM b m) 2 2
/-- a member starts anew, by its rows -/
def mSt (z : xSt) (b m : Nat) (nm : Int32) : xSt :=
  ur (ur (ur (ur (u1 (u1 (u1 (u1 (u1 (u1 z (oM b m) 0 nm) (oM b m) 1 0) (oM b m) 2 0) (oM b m) 3 0) (oM b m) 4 0) (oM b m) 5 0) (oPt b m) (fun _ => 0)) (oLf b m) (fun _ => 0)) (oKd b m) (fun _ => 0)) (oPd b m) (fun _ => 0)
