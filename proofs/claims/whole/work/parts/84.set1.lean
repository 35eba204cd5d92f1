/-! PURE: losses taken from certificates, what stays -/
theorem rcF_hi : ∀ (n : Nat) (x : Int32) (f : Nat → Int32), ∀ i, n ≤ i → (rcF n f x).1 i = f i
  | 0, _, _, _, _ => rfl
  | n + 1, x, f, i, h => by
    show (rcF n (va_up f n (f n - imin x (f n))) (x - imin x (f n))).1 i = f i
    rw [rcF_hi n _ _ i (by omega), va_up_ne _ _ (by omega)]
/-! BOTH ANSWER ALIKE: what a closing does to a member -/
/-- the books and the row, but for what a member got and gave last -/
def eqC (z : xSt) (b mc dc : Nat) (t r : Nat → Int32) : Prop :=
  (z.1 (oB b) 3 = t 12 ∧ z.1 (oB b) 4 = t 13 ∧ z.1 (oB b) 5 = r 494 ∧ z.1 (oB b) 6 = r 493 ∧ z.1 (oB b) 8 = r 496 ∧ z.1 (oB b) 7 - bx_sum (fun m => z.1 (oPd b m) 0) mc = r 495) ∧
  (∀ k, k < 5 → z.1 (oSt b) k = r k) ∧
  (∀ m, m < mc → z.1 (oM b m) 0 = t m ∧ z.1 (oM b m) 1 = r (13 + m) ∧ z.1 (oM b m) 2 = r (5 + m) ∧ z.1 (oM b m) 3 = r (21 + m)) ∧
  (∀ m d, m < mc → d < 4 → z.1 (oPt b m) d = r (29 + 4 * m + d)) ∧
  (∀ m y, m < mc → y < 24 → z.1 (oLf b m) y = r (61 + 24 * m + y) ∧ z.1 (oKd b m) y = r (253 + 24 * m + y)) ∧
  (∀ m, m < mc → z.1 (oLf b m) 24 = 0) ∧
  (∀ m j, m < mc → j < 3 → z.1 (oPd b m) j = r (445 + 3 * m + j)) ∧
  (∀ d, d < dc → z.1 (oD b d) 0 = t (8 + d) ∧ z.1 (oD b d) 1 = r (485 + d) ∧ z.1 (oD b d) 2 = r (489 + d))
theorem eqB.C {z : xSt} {b mc dc : Nat} {t r : Nat → Int32} (h : eqB z b mc dc t r) : eqC z b mc dc t r := ⟨h.1, h.2.1, fun m hm => ⟨(h.2.2.1 m hm).1, (h.2.2.1 m hm).2.1, (h.2.2.1 m hm).2.2.1, (h.2.2.1 m hm).2.2.2.1⟩, h.2.2.2⟩
theorem eqC.B {z : xSt} {b mc dc : Nat} {t r : Nat → Int32} (h : eqC z b mc dc t r) (h2 : ∀ m, m < mc → z.1 (oM b m) 4 = r (469 + m) ∧ z.1 (oM b m) 5 = r (477 + m)) : eqB z b mc dc t r := ⟨h.1, h.2.1, fun m hm => ⟨(h.2.2.1 m hm).1, (h.2.2.1 m hm).2.1, (h.2.2.1 m hm).2.2.1, (h.2.2.1 m hm).2.2.2, h2 m hm⟩, h.2.2.2⟩
/-- settled with a surplus n, of which c in cash -/
def rowP (r : Nat → Int32) (m Y : Nat) (n c kd : Int32) : Nat → Int32 := fun j => if j = 495 then r 495 + (n - c) else if j = 253 + 24 * m + Y then kd else if j = 61 + 24 * m + Y then n - c else if j = 445 + 3 * m then r (445 + 3 * m) + c else if j = 477 + m then 0 else if j = 469 + m then n else r j
/-- with a loss -n: certificates q.1 are left, q.2 is still open -/
def rowN (r : Nat → Int32) (m : Nat) (n : Int32) (q : (Nat → Int32) × Int32) : Nat → Int32 := fun j => if j = 493 then r 493 - q.2 else if j = 496 then r 496 + (-n - q.2) else if j = 477 + m then -n - q.2 else if j = 469 + m then n else if 61 + 24 * m ≤ j ∧ j < 61 + 24 * m + 24 then q.1 (j - (61 + 24 * m)) else r j
def row0 (r : Nat → Int32) (m : Nat) (n : Int32) : Nat → Int32 := fun j => if j = 477 + m then 0 else if j = 469 + m then n else r j
theorem setl_0 {z : xSt} {b m yr : Nat} (h : z.1 (oM b m) 4 = 0) : setl z b m yr = z := by
  unfold setl
  rw [h, if_neg (by decide), if_neg (by decide)]
theorem bx_up {f g : Nat → Int32} {k : Nat} {c : Int32} : ∀ {n : Nat}, k < n → g k = f k + c → (∀ i, i ≠ k → g i = f i) → bx_sum g n = bx_sum f n + c
  | 0, h, _, _ => absurd h (Nat.not_lt_zero k)
  | n + 1, h, h1, h2 => by
    show bx_sum g n + g n = bx_sum f n + f n + c
    by_cases e : k = n
    · rw [← e, h1, bx_cong (n := k) (g := f) (fun i hi => h2 i (by omega)), Int32.add_assoc]
    · rw [h2 n (Ne.symm e), bx_up (n := n) (by omega) h1 h2, Int32.add_assoc, Int32.add_comm c, ← Int32.add_assoc]
theorem i32_al (a n s c : Int32) : a + n - (s + c) = a - s + (n - c) := by
  simp only [Int32.sub_eq_add_neg, Int32.neg_add]
  rw [Int32.add_assoc, Int32.add_assoc, ← Int32.add_assoc n, Int32.add_comm n (-s), Int32.add_assoc]
theorem setl_p {z : xSt} {b m Y : Nat} {n c kd : Int32} (hn : z.1 (oM b m) 4 = n) (h0 : 0 < n) (hc : cashOf z b m = c) (hkd : (if z.1 (oM b m) 1 = 0 then (1 : Int32) else 0) = kd) (hl : z.1 (oLf b m) Y = 0) (hk : z.1 (oKd b m) Y = 0) (hz : ¬ 0 < n - c → n - c = 0 ∧ kd = 0) :
    (∀ o, o ≠ oB b → o ≠ oPd b m → o ≠ oLf b m → o ≠ oKd b m → (setl z b m Y).1 o = z.1 o) ∧ (∀ j, (setl z b m Y).1 (oB b) j = if j = 7 then z.1 (oB b) 7 + n else z.1 (oB b) j) ∧ (∀ j, (setl z b m Y).1 (oPd b m) j = if j = 0 then z.1 (oPd b m) 0 + c else z.1 (oPd b m) j) ∧ (∀ y, (setl z b m Y).1 (oLf b m) y = if y = Y then n - c else z.1 (oLf b m) y) ∧ (∀ y, (setl z b m Y).1 (oKd b m) y = if y = Y then kd else z.1 (oKd b m) y) := by
  unfold setl
  rw [hn, if_pos h0, hc, hkd]
  dsimp only
  by_cases c1 : 0 < n - c
  · rw [if_pos c1]
    refine ⟨fun o h1 h2 h3 h4 => by rw [u1_ne _ h1, u1_ne _ h4, u1_ne _ h3, u1_ne _ h2], fun j => ?_, fun j => ?_, fun y => ?_, fun y => ?_⟩
    · rw [u1_rd2, u1_ne _ (by unfold oB oKd; omega), u1_ne _ (by unfold oB oLf; omega), u1_ne _ (by unfold oB oPd; omega)]
    · rw [u1_ne _ (by unfold oPd oB; omega), u1_ne _ (by unfold oPd oKd; omega), u1_ne _ (by unfold oPd oLf; omega), u1_rd2]
    · rw [u1_ne _ (by unfold oLf oB; omega), u1_ne _ (by unfold oLf oKd; omega), u1_rd2, u1_ne _ (by unfold oLf oPd; omega)]
    · rw [u1_ne _ (by unfold oKd oB; omega), u1_rd2, u1_ne _ (by unfold oKd oLf; omega), u1_ne _ (by unfold oKd oPd; omega)]
  · rw [if_neg c1]
    obtain ⟨z1, z2⟩ := hz c1
    refine ⟨fun o h1 h2 h3 h4 => by rw [u1_ne _ h1, u1_ne _ h2], fun j => ?_, fun j => ?_, fun y => ?_, fun y => ?_⟩
    · rw [u1_rd2, u1_ne _ (by unfold oB oPd; omega)]
    · rw [u1_ne _ (by unfold oPd oB; omega), u1_rd2]
    · rw [u1_ne _ (by unfold oLf oB; omega), u1_ne _ (by unfold oLf oPd; omega), z1]
      by_cases e : y = Y
      · rw [if_pos e, e]; exact hl
      · rw [if_neg e]
    · rw [u1_ne _ (by unfold oKd oB; omega), u1_ne _ (by unfold oKd oPd; omega), z2]
      by_cases e : y = Y
      · rw [if_pos e, e]; exact hk
      · rw [if_neg e]
theorem setl_n {z : xSt} {b m Y : Nat} {n : Int32} {q : (Nat → Int32) × Int32} (hn : z.1 (oM b m) 4 = n) (h0 : n < 0) (hq : rcp 25 (z.1 (oLf b m)) (-n) = q) :
    (∀ o, o ≠ oB b → o ≠ oM b m → o ≠ oLf b m → (setl z b m Y).1 o = z.1 o) ∧ (∀ j, (setl z b m Y).1 (oB b) j = if j = 6 then z.1 (oB b) 6 - q.2 else if j = 8 then z.1 (oB b) 8 + (-n - q.2) else z.1 (oB b) j) ∧ (∀ j, (setl z b m Y).1 (oM b m) j = if j = 5 then -n - q.2 else z.1 (oM b m) j) ∧ (setl z b m Y).1 (oLf b m) = q.1 := by
  unfold setl
  rw [hn, if_neg (fun h => Int32.lt_irrefl (Int32.lt_trans h h0)), if_pos h0, hq]
  dsimp only
  refine ⟨fun o h1 h2 h3 => by rw [u1_ne _ h1, u1_ne _ h1, u1_ne _ h2, ur_ne _ _ h3], fun j => ?_, fun j => ?_, ?_⟩
  · rw [u1_rd2, u1_rd2, u1_ne _ (by unfold oB oM; omega), ur_ne _ _ (by unfold oB oLf; omega)]
    rw [show -n - (-n - q.2) = q.2 by rw [Int32.sub_eq_add_neg (-n) q.2, Int32.sub_eq_add_neg, Int32.neg_add, Int32.neg_neg, Int32.sub_neg, ← Int32.add_assoc, Int32.add_left_neg, Int32.zero_add]]
  · rw [u1_ne _ (by unfold oM oB; omega), u1_ne _ (by unfold oM oB; omega), u1_rd2, ur_ne _ _ (by unfold oM oLf; omega)]
  · rw [u1_ne _ (by unfold oLf oB; omega), u1_ne _ (by unfold oLf oB; omega), u1_ne _ (by unfold oLf oM; omega), ur_at]
theorem eqC.pos {z z2 : xSt} {b mc dc m Y : Nat} {t r : Nat → Int32} {n c kd : Int32} (hE : eqC z b mc dc t r) (hm : m < mc) (h8 : mc ≤ 8) (h4 : dc ≤ 4) (hY : Y < 24)
    (h : (∀ o, o ≠ oB b → o ≠ oPd b m → o ≠ oLf b m → o ≠ oKd b m → z2.1 o = z.1 o) ∧ (∀ j, z2.1 (oB b) j = if j = 7 then z.1 (oB b) 7 + n else z.1 (oB b) j) ∧ (∀ j, z2.1 (oPd b m) j = if j = 0 then z.1 (oPd b m) 0 + c else z.1 (oPd b m) j) ∧ (∀ y, z2.1 (oLf b m) y = if y = Y then n - c else z.1 (oLf b m) y) ∧ (∀ y, z2.1 (oKd b m) y = if y = Y then kd else z.1 (oKd b m) y)) : eqC z2 b mc dc t (rowP r m Y n c kd) := by
  obtain ⟨⟨a1, a2, a3, a4, a5, a6⟩, h2, h3, hp, h5, h6, h7, h9⟩ := hE
  obtain ⟨p1, p2, p3, p4, p5⟩ := h
  have pd0 : ∀ m', m' < mc → z2.1 (oPd b m') 0 = if m' = m then z.1 (oPd b m) 0 + c else z.1 (oPd b m') 0 := fun m' hm' => by
    by_cases e : m' = m
    · rw [e, p3, if_pos rfl, if_pos rfl]
    · rw [if_neg e, p1 _ (by unfold oPd oB; omega) (by unfold oPd; omega) (by unfold oPd oLf; omega) (by unfold oPd oKd; omega)]
  have rw0 : ∀ j, j ≠ 495 → j ≠ 253 + 24 * m + Y → j ≠ 61 + 24 * m + Y → j ≠ 445 + 3 * m → j ≠ 477 + m → j ≠ 469 + m → rowP r m Y n c kd j = r j := fun j c1 c2 c3 c4 c5 c6 => by unfold rowP; rw [if_neg c1, if_neg c2, if_neg c3, if_neg c4, if_neg c5, if_neg c6]
  refine ⟨⟨?_, ?_, ?_, ?_, ?_, ?_⟩, fun k hk => ?_, fun m' hm' => ?_, fun m' d' hm' hd' => ?_, fun m' y hm' hy => ?_, fun m' hm' => ?_, fun m' j hm' hj => ?_, fun d' hd' => ?_⟩
  · rw [p2, if_neg (by omega)]; exact a1
  · rw [p2, if_neg (by omega)]; exact a2
  · rw [p2, if_neg (by omega), rw0 _ (by omega) (by omega) (by omega) (by omega) (by omega) (by omega)]; exact a3
  · rw [p2, if_neg (by omega), rw0 _ (by omega) (by omega) (by omega) (by omega) (by omega) (by omega)]; exact a4
  · rw [p2, if_neg (by omega), rw0 _ (by omega) (by omega) (by omega) (by omega) (by omega) (by omega)]; exact a5
  · rw [p2, if_pos rfl, bx_cong (g := fun m' => if m' = m then z.1 (oPd b m) 0 + c else z.1 (oPd b m') 0) (fun m' hm' => pd0 m' hm'), bx_up (f := fun m' => z.1 (oPd b m') 0) (k := m) (c := c) hm (by show (if m = m then _ else _) = _; rw [if_pos rfl]) (fun i hi => by show (if i = m then _ else _) = _; rw [if_neg hi]), i32_al, a6]
    unfold rowP
    rw [if_pos rfl]
  · rw [p1 _ (by unfold oSt oB; omega) (by unfold oSt oPd; omega) (by unfold oSt oLf; omega) (by unfold oSt oKd; omega), rw0 _ (by omega) (by omega) (by omega) (by omega) (by omega) (by omega)]; exact h2 k hk
  · rw [p1 _ (by unfold oM oB; omega) (by unfold oM oPd; omega) (by unfold oM oLf; omega) (by unfold oM oKd; omega), rw0 _ (by omega) (by omega) (by omega) (by omega) (by omega) (by omega), rw0 _ (by omega) (by omega) (by omega) (by omega) (by omega) (by omega), rw0 _ (by omega) (by omega) (by omega) (by omega) (by omega) (by omega)]; exact h3 m' hm'
  · rw [p1 _ (by unfold oPt oB; omega) (by unfold oPt oPd; omega) (by unfold oPt oLf; omega) (by unfold oPt oKd; omega), rw0 _ (by omega) (by omega) (by omega) (by omega) (by omega) (by omega)]; exact hp m' d' hm' hd'
  · by_cases e : m' = m
    · subst e
      rw [p4, p5]
      by_cases ey : y = Y
      · subst ey
        rw [if_pos rfl, if_pos rfl]
        unfold rowP
        exact ⟨by rw [if_neg (by omega), if_neg (by omega), if_pos rfl], by rw [if_neg (by omega), if_pos rfl]⟩
      · rw [if_neg ey, if_neg ey, rw0 _ (by omega) (by omega) (by omega) (by omega) (by omega) (by omega), rw0 _ (by omega) (by omega) (by omega) (by omega) (by omega) (by omega)]; exact h5 m' y hm' hy
    · rw [p1 _ (by unfold oLf oB; omega) (by unfold oLf oPd; omega) (by unfold oLf; omega) (by unfold oLf oKd; omega), p1 _ (by unfold oKd oB; omega) (by unfold oKd oPd; omega) (by unfold oKd oLf; omega) (by unfold oKd; omega), rw0 _ (by omega) (by omega) (by omega) (by omega) (by omega) (by omega), rw0 _ (by omega) (by omega) (by omega) (by omega) (by omega) (by omega)]; exact h5 m' y hm' hy
  · by_cases e : m' = m
    · subst e
      rw [p4, if_neg (by omega)]; exact h6 m' hm'
    · rw [p1 _ (by unfold oLf oB; omega) (by unfold oLf oPd; omega) (by unfold oLf; omega) (by unfold oLf oKd; omega)]; exact h6 m' hm'
  · by_cases e : m' = m
    · subst e
      rw [p3]
      by_cases ej : j = 0
      · subst ej
        rw [if_pos rfl, h7 m' 0 hm' hj]
        unfold rowP
        rw [if_neg (by omega), if_neg (by omega), if_neg (by omega), if_pos (by omega)]
        rfl
      · rw [if_neg ej, rw0 _ (by omega) (by omega) (by omega) (by omega) (by omega) (by omega)]; exact h7 m' j hm' hj
    · rw [p1 _ (by unfold oPd oB; omega) (by unfold oPd; omega) (by unfold oPd oLf; omega) (by unfold oPd oKd; omega), rw0 _ (by omega) (by omega) (by omega) (by omega) (by omega) (by omega)]; exact h7 m' j hm' hj
  · rw [p1 _ (by unfold oD oB; omega) (by unfold oD oPd; omega) (by unfold oD oLf; omega) (by unfold oD oKd; omega), rw0 _ (by omega) (by omega) (by omega) (by omega) (by omega) (by omega), rw0 _ (by omega) (by omega) (by omega) (by omega) (by omega) (by omega)]; exact h9 d' hd'
theorem eqC.neg {z z2 : xSt} {b mc dc m : Nat} {t r : Nat → Int32} {n : Int32} {q : (Nat → Int32) × Int32} (hE : eqC z b mc dc t r) (hm : m < mc) (h8 : mc ≤ 8) (h4 : dc ≤ 4) (hq : q.1 24 = 0)
    (h : (∀ o, o ≠ oB b → o ≠ oM b m → o ≠ oLf b m → z2.1 o = z.1 o) ∧ (∀ j, z2.1 (oB b) j = if j = 6 then z.1 (oB b) 6 - q.2 else if j = 8 then z.1 (oB b) 8 + (-n - q.2) else z.1 (oB b) j) ∧ (∀ j, z2.1 (oM b m) j = if j = 5 then -n - q.2 else z.1 (oM b m) j) ∧ z2.1 (oLf b m) = q.1) : eqC z2 b mc dc t (rowN r m n q) := by
  obtain ⟨⟨a1, a2, a3, a4, a5, a6⟩, h2, h3, hp, h5, h6, h7, h9⟩ := hE
  obtain ⟨p1, p2, p3, p4⟩ := h
  have rw0 : ∀ j, j ≠ 493 → j ≠ 496 → j ≠ 477 + m → j ≠ 469 + m → (j < 61 + 24 * m ∨ 61 + 24 * m + 24 ≤ j) → rowN r m n q j = r j := fun j c1 c2 c3 c4 c5 => by unfold rowN; rw [if_neg c1, if_neg c2, if_neg c3, if_neg c4, if_neg (by omega)]
  refine ⟨⟨?_, ?_, ?_, ?_, ?_, ?_⟩, fun k hk => ?_, fun m' hm' => ?_, fun m' d' hm' hd' => ?_, fun m' y hm' hy => ?_, fun m' hm' => ?_, fun m' j hm' hj => ?_, fun d' hd' => ?_⟩
  · rw [p2, if_neg (by omega), if_neg (by omega)]; exact a1
  · rw [p2, if_neg (by omega), if_neg (by omega)]; exact a2
  · rw [p2, if_neg (by omega), if_neg (by omega), rw0 _ (by omega) (by omega) (by omega) (by omega) (by omega)]; exact a3
  · rw [p2, if_pos rfl, a4]; unfold rowN; rw [if_pos rfl]
  · rw [p2, if_neg (by omega), if_pos rfl, a5]; unfold rowN; rw [if_neg (by omega), if_pos rfl]
  · rw [p2, if_neg (by omega), if_neg (by omega), rw0 _ (by omega) (by omega) (by omega) (by omega) (by omega), bx_cong (g := fun m => z.1 (oPd b m) 0) (fun m' hm' => by show z2.1 (oPd b m') 0 = _; rw [p1 _ (by unfold oPd oB; omega) (by unfold oPd oM; omega) (by unfold oPd oLf; omega)])]; exact a6
  · rw [p1 _ (by unfold oSt oB; omega) (by unfold oSt oM; omega) (by unfold oSt oLf; omega), rw0 _ (by omega) (by omega) (by omega) (by omega) (by omega)]; exact h2 k hk
  · have e4 : ∀ k, k < 4 → z2.1 (oM b m') k = z.1 (oM b m') k := fun k hk => by
      by_cases e : m' = m
      · subst e; rw [p3, if_neg (by omega)]
      · rw [p1 _ (by unfold oM oB; omega) (by unfold oM; omega) (by unfold oM oLf; omega)]
    rw [e4 0 (by omega), e4 1 (by omega), e4 2 (by omega), e4 3 (by omega), rw0 _ (by omega) (by omega) (by omega) (by omega) (by omega), rw0 _ (by omega) (by omega) (by omega) (by omega) (by omega), rw0 _ (by omega) (by omega) (by omega) (by omega) (by omega)]; exact h3 m' hm'
  · rw [p1 _ (by unfold oPt oB; omega) (by unfold oPt oM; omega) (by unfold oPt oLf; omega), rw0 _ (by omega) (by omega) (by omega) (by omega) (by omega)]; exact hp m' d' hm' hd'
  · rw [p1 (oKd b m') (by unfold oKd oB; omega) (by unfold oKd oM; omega) (by unfold oKd oLf; omega), rw0 (253 + 24 * m' + y) (by omega) (by omega) (by omega) (by omega) (by omega)]
    by_cases e : m' = m
    · subst e
      rw [p4]
      refine ⟨?_, (h5 m' y hm' hy).2⟩
      unfold rowN
      rw [if_neg (by omega), if_neg (by omega), if_neg (by omega), if_neg (by omega), if_pos (by omega), show 61 + 24 * m' + y - (61 + 24 * m') = y by omega]
    · rw [p1 _ (by unfold oLf oB; omega) (by unfold oLf oM; omega) (by unfold oLf; omega), rw0 _ (by omega) (by omega) (by omega) (by omega) (by omega)]; exact h5 m' y hm' hy
  · by_cases e : m' = m
    · subst e; rw [p4]; exact hq
    · rw [p1 _ (by unfold oLf oB; omega) (by unfold oLf oM; omega) (by unfold oLf; omega)]; exact h6 m' hm'
  · rw [p1 _ (by unfold oPd oB; omega) (by unfold oPd oM; omega) (by unfold oPd oLf; omega), rw0 _ (by omega) (by omega) (by omega) (by omega) (by omega)]; exact h7 m' j hm' hj
  · rw [p1 _ (by unfold oD oB; omega) (by unfold oD oM; omega) (by unfold oD oLf; omega), rw0 _ (by omega) (by omega) (by omega) (by omega) (by omega), rw0 _ (by omega) (by omega) (by omega) (by omega) (by omega)]; exact h9 d' hd'
theorem eqC.zer {z : xSt} {b mc dc m : Nat} {t r : Nat → Int32} {n : Int32} (hE : eqC z b mc dc t r) (hm : m < mc) (h8 : mc ≤ 8) (h4 : dc ≤ 4) : eqC z b mc dc t (row0 r m n) := by
  obtain ⟨⟨a1, a2, a3, a4, a5, a6⟩, h2, h3, hp, h5, h6, h7, h9⟩ := hE
  have rw0 : ∀ j, j ≠ 477 + m → j ≠ 469 + m → row0 r m n j = r j := fun j c1 c2 => by unfold row0; rw [if_neg c1, if_neg c2]
  exact ⟨⟨a1, a2, by rw [rw0 _ (by omega) (by omega)]; exact a3, by rw [rw0 _ (by omega) (by omega)]; exact a4, by rw [rw0 _ (by omega) (by omega)]; exact a5, by rw [rw0 _ (by omega) (by omega)]; exact a6⟩, fun k hk => by rw [rw0 _ (by omega) (by omega)]; exact h2 k hk, fun m' hm' => by rw [rw0 _ (by omega) (by omega), rw0 _ (by omega) (by omega), rw0 _ (by omega) (by omega)]; exact h3 m' hm', fun m' d' hm' hd' => by rw [rw0 _ (by omega) (by omega)]; exact hp m' d' hm' hd', fun m' y hm' hy => by rw [rw0 _ (by omega) (by omega), rw0 _ (by omega) (by omega)]; exact h5 m' y hm' hy, h6, fun m' j hm' hj => by rw [rw0 _ (by omega) (by omega)]; exact h7 m' j hm' hj, fun d' hd' => by rw [rw0 _ (by omega) (by omega), rw0 _ (by omega) (by omega)]; exact h9 d' hd'⟩
