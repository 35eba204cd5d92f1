/-! WHAT OF A ROW COUNTS: places that no cell shows may be anything -/
def xrel (h : xSh) (k : Nat) : Prop := match h with
  | .inl (_, ps) => ps[k]? = some none
  | .inr (.inl (_, n)) => k < n
  | .inr (.inr _) => False
theorem arrV_cong {cA : ClassId} {n : Nat} {f g : Nat → Value} (h : ∀ k, k < n → f k = g k) : arrV cA n f = arrV cA n g := by
  unfold arrV
  congr 1
  apply Array.ext
  · simp
  · intro i h1 h2
    have hi : i < n := by simpa using h1
    simp [h i hi]
theorem xent_rel {G : xGl} {ad : Nat → Nat} {f f2 : Nat → Int32} {g g2 : Nat → Int64} {a : Nat} {h : xSh} {H : Heap} (hf : ∀ k, xrel h k → f k = f2 k) (hg : ∀ k, xrel h k → g k = g2 k) (hP : va_at G.1 vwCl (a, xent G ad f g h) H) : va_at G.1 vwCl (a, xent G ad f2 g2 h) H := by
  match h, hP with
  | .inl (ci, ps), hP =>
    have e : xfs ad f ps = xfs ad f2 ps := by
      unfold xfs
      apply List.ext_getElem?
      intro i
      simp only [List.getElem?_mapIdx]
      cases hp : ps[i]? with
      | none => rfl
      | some q =>
        cases q with
        | none => simp [xfv, hf i hp]
        | some q => simp [xfv]
    show va_at G.1 vwCl (a, .inr (ci, xfs ad f2 ps)) H
    rw [← e]; exact hP
  | .inr (.inl (t, n)), hP =>
    have e : vp_cell (G.2 t) (n, xarr t f g) = vp_cell (G.2 t) (n, xarr t f2 g2) := by
      unfold xarr
      by_cases ht : t = 3
      · rw [if_pos ht, if_pos ht, vp_cell_l, vp_cell_l]
        exact arrV_cong (fun k hk => by rw [hg k hk])
      · rw [if_neg ht, if_neg ht, vp_cell_i, vp_cell_i]
        exact arrV_cong (fun k hk => by rw [hf k hk])
    show H[a]? = some (vp_cell (G.2 t) (n, xarr t f2 g2))
    rw [← e]; exact hP
  | .inr (.inr (t, qs)), hP => exact hP
/-- the same world with another state that shows the same -/
theorem Rh.rel {G : xGl} {w : xWd} {z z2 : xSt} {H : Heap} (h : Rh G w z H) (h1 : ∀ o, o < w.1 → ∀ k, xrel (w.2.1 o) k → z.1 o k = z2.1 o k) (h2 : ∀ o, o < w.1 → ∀ k, xrel (w.2.1 o) k → z.2 o k = z2.2 o k) : Rh G w z2 H := ⟨fun o ho => xent_rel (h1 o ho) (h2 o ho) (h.1 o ho), h.2⟩
theorem Rh.row {G : xGl} {w : xWd} {z : xSt} {H : Heap} {o : Nat} {f g : Nat → Int32} {s : xSh} (h : Rh G w (ur z o f) H) (hs : w.2.1 o = s) (hf : ∀ k, xrel s k → f k = g k) : Rh G w (ur z o g) H := by
  refine h.rel (fun q _ k hk => ?_) (fun _ _ _ _ => rfl)
  by_cases e : q = o
  · subst e
    rw [hs] at hk
    rw [ur_at, ur_at]; exact hf k hk
  · rw [ur_ne _ _ e, ur_ne _ _ e]
theorem u1_rd (z : xSt) (o k : Nat) (v : Int32) (q j : Nat) : (u1 z o k v).1 q j = if q = o ∧ j = k then v else z.1 q j := by
  by_cases h : q = o
  · subst h
    rw [u1_at]
    by_cases h2 : j = k
    · subst h2; rw [va_up_self, if_pos ⟨rfl, rfl⟩]
    · rw [va_up_ne _ _ h2, if_neg (fun h => h2 h.2)]
  · rw [u1_ne _ h, if_neg (fun h9 => h h9.1)]
theorem ur_rd (z : xSt) (o : Nat) (f : Nat → Int32) (q j : Nat) : (ur z o f).1 q j = if q = o then f j else z.1 q j := by
  by_cases h : q = o
  · subst h; rw [ur_at, if_pos rfl]
  · rw [ur_ne _ _ h, if_neg h]
theorem u2_rd (z : xSt) (o k : Nat) (v : Int64) (q j : Nat) : (u2 z o k v).2 q j = if q = o ∧ j = k then v else z.2 q j := by
  show va_up z.2 o (va_up (z.2 o) k v) q j = _
  by_cases h : q = o
  · subst h
    rw [va_up_self]
    by_cases h2 : j = k
    · subst h2; rw [va_up_self, if_pos ⟨rfl, rfl⟩]
    · rw [va_up_ne _ _ h2, if_neg (fun h => h2 h.2)]
  · rw [va_up_ne _ _ h, if_neg (fun h9 => h h9.1)]
theorem u1_is (z : xSt) (o k : Nat) (v : Int32) : u1 z o k v = ur z o (va_up (z.1 o) k v) := rfl
theorem ur_ur (z : xSt) (o : Nat) (f g : Nat → Int32) : ur (ur z o f) o g = ur z o g := by
  unfold ur
  simp only [bx_uu]
theorem relM {b m k : Nat} (h : xrel (.inl (5, [none, none, none, none, none, none, some (oPt b m), some (oLf b m), some (oKd b m), some (oPd b m)])) k) : k < 6 := by
  match k, h with
  | 0, _ | 1, _ | 2, _ | 3, _ | 4, _ | 5, _ => omega
  | 6, h | 7, h | 8, h | 9, h => cases h
  | k + 10, h => cases h
theorem relB {b k : Nat} (h : xrel (.inl (0, [some (oMs b), some (oDs b), some (oSt b), none, none, none, none, none, none])) k) : 3 ≤ k ∧ k < 9 := by
  match k, h with
  | 3, _ | 4, _ | 5, _ | 6, _ | 7, _ | 8, _ => omega
  | 0, h | 1, h | 2, h => cases h
  | k + 9, h => cases h
theorem relD {k : Nat} (h : xrel (.inl (2, [none, none, none])) k) : k < 3 := by
  match k, h with
  | 0, _ | 1, _ | 2, _ => omega
  | k + 3, h => cases h
/-- a member copied from another book's -/
def cpM (z : xSt) (b c m : Nat) : xSt := ur (ur (ur (ur (ur z (oM b m) (z.1 (oM c m))) (oPt b m) (z.1 (oPt c m))) (oLf b m) (z.1 (oLf c m))) (oKd b m) (z.1 (oKd c m))) (oPd b m) (z.1 (oPd c m))
def cpD (z : xSt) (b c d : Nat) : xSt := ur z (oD b d) (z.1 (oD c d))
/-- a member that starts, a department -/
def stM (z : xSt) (b m : Nat) (nm : Int32) : xSt := ur (ur (ur (ur (ur z (oM b m) (fun k => if k = 0 then nm else 0)) (oPt b m) (fun _ => 0)) (oLf b m) (fun _ => 0)) (oKd b m) (fun _ => 0)) (oPd b m) (fun _ => 0)
def stD (z : xSt) (b d : Nat) (nm : Int32) : xSt := ur z (oD b d) (fun k => if k = 0 then nm else 0)
theorem up6 {f : Nat → Int32} {a0 a1 a2 a3 a4 a5 : Int32} {g : Nat → Int32} (h0 : a0 = g 0) (h1 : a1 = g 1) (h2 : a2 = g 2) (h3 : a3 = g 3) (h4 : a4 = g 4) (h5 : a5 = g 5) {k : Nat} (hk : k < 6) : va_up (va_up (va_up (va_up (va_up (va_up f 0 a0) 1 a1) 2 a2) 3 a3) 4 a4) 5 a5 k = g k := by
  match k, hk with
  | 0, _ => exact h0
  | 1, _ => exact h1
  | 2, _ => exact h2
  | 3, _ => exact h3
  | 4, _ => exact h4
  | 5, _ => exact h5
  | k + 6, h => exact absurd h (by omega)
theorem up3 {f : Nat → Int32} {a0 a1 a2 : Int32} {g : Nat → Int32} (h0 : a0 = g 0) (h1 : a1 = g 1) (h2 : a2 = g 2) {k : Nat} (hk : k < 3) : va_up (va_up (va_up f 0 a0) 1 a1) 2 a2 k = g k := by
  match k, hk with
  | 0, _ => exact h0
  | 1, _ => exact h1
  | 2, _ => exact h2
  | k + 3, h => exact absurd h (by omega)
theorem cpy0 {f g : Nat → Int32} {n k : Nat} (h : k < n) : va_cpy f g 0 0 n k = f k := by rw [pk_cpy_in (Nat.zero_le _) (by omega)]; congr 1; omega
