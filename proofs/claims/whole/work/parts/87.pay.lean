/-! BOTH ANSWER ALIKE: who leaves is paid -/
theorem ipF_0 : ∀ {n i : Nat} {f : Nat → Int32}, (∀ j, i ≤ j → j < i + n → ∃ g : Nat, g < 2147483648 ∧ f j = nI g) → ipF n i f (nI 0) = (f, nI 0)
  | 0, _, _, _ => rfl
  | n + 1, i, f, h => by
    obtain ⟨g, hg, e⟩ := h i (Nat.le_refl i) (by omega)
    have e1 : imin (nI 0) (f i) = nI 0 := by rw [e, imin_nat (by omega) hg, Nat.zero_min]
    show ipF n (i + 1) (va_up f i (f i - imin (nI 0) (f i))) (nI 0 - imin (nI 0) (f i)) = _
    rw [e1, show f i - nI 0 = f i from Int32.sub_zero _, va_up_id, show nI 0 - nI 0 = nI 0 from rfl]
    exact ipF_0 (fun j h1 h2 => h j (by omega) (by omega))
theorem ipy_ipF : ∀ {n i : Nat} {f : Nat → Int32} {x : Nat}, x < 2147483648 → (∀ j, i ≤ j → j < i + n → ∃ g : Nat, g < 2147483648 ∧ f j = nI g) → ipy n i f (nI x) = ipF n i f (nI x)
  | 0, _, _, _, _, _ => rfl
  | n + 1, i, f, x, hx, h => by
    by_cases c : x = 0
    · rw [c, ipF_0 h]
      exact if_neg (by decide)
    · show (if 0 < nI x then ipy n (i + 1) (va_up f i (f i - imin (nI x) (f i))) (nI x - imin (nI x) (f i)) else (f, nI x)) = ipF n (i + 1) (va_up f i (f i - imin (nI x) (f i))) (nI x - imin (nI x) (f i))
      rw [if_pos (nI_0lt (by omega) hx)]
      obtain ⟨g, hg, e⟩ := h i (Nat.le_refl i) (by omega)
      rw [e, imin_nat hx hg, nI_sub (by omega), nI_sub (by omega)]
      exact ipy_ipF (by omega) (fun j h1 h2 => by rw [va_up_ne _ _ (by omega)]; exact h j (by omega) (by omega))
theorem ipF_z : ∀ {n i : Nat} {f : Nat → Int32} {x : Nat}, x < 2147483648 → (∀ j, i ≤ j → j < i + n → f j = 0) → ipF n i f (nI x) = (f, nI x)
  | 0, _, _, _, _, _ => rfl
  | n + 1, i, f, x, hx, h => by
    have e : f i = nI 0 := h i (Nat.le_refl i) (by omega)
    have e1 : imin (nI x) (f i) = nI 0 := by rw [e, imin_nat hx (by omega), Nat.min_zero]
    show ipF n (i + 1) (va_up f i (f i - imin (nI x) (f i))) (nI x - imin (nI x) (f i)) = _
    rw [e1, show f i - nI 0 = f i from Int32.sub_zero _, va_up_id, show nI x - nI 0 = nI x from Int32.sub_zero _]
    exact ipF_z hx (fun j h1 h2 => h j (by omega) (by omega))
theorem ipF_cut {r : Nat} : ∀ {k i : Nat} {f : Nat → Int32} {x : Nat}, x < 2147483648 → (∀ j, i ≤ j → j < i + k → ∃ g : Nat, g < 2147483648 ∧ f j = nI g) → (∀ j, i + k ≤ j → j < i + k + r → f j = 0) → ipF (k + r) i f (nI x) = ipF k i f (nI x)
  | 0, i, f, x, hx, _, h => by rw [Nat.zero_add]; exact ipF_z hx (fun j h1 h2 => h j (by omega) (by omega))
  | k + 1, i, f, x, hx, h, h0 => by
    rw [show k + 1 + r = (k + r) + 1 by omega]
    show ipF (k + r) (i + 1) (va_up f i (f i - imin (nI x) (f i))) (nI x - imin (nI x) (f i)) = ipF k (i + 1) (va_up f i (f i - imin (nI x) (f i))) (nI x - imin (nI x) (f i))
    obtain ⟨g, hg, e⟩ := h i (Nat.le_refl i) (by omega)
    rw [e, imin_nat hx hg, nI_sub (by omega), nI_sub (by omega)]
    exact ipF_cut (by omega) (fun j h1 h2 => by rw [va_up_ne _ _ (by omega)]; exact h j (by omega) (by omega)) (fun j h1 h2 => by rw [va_up_ne _ _ (by omega)]; exact h0 j (by omega) (by omega))
theorem ipF_out : ∀ (n i : Nat) (x : Int32) (f : Nat → Int32) (j : Nat), (j < i ∨ i + n ≤ j) → (ipF n i f x).1 j = f j
  | 0, _, _, _, _, _ => rfl
  | n + 1, i, x, f, j, h => by
    show (ipF n (i + 1) (va_up f i (f i - imin x (f i))) (x - imin x (f i))).1 j = f j
    rw [ipF_out n (i + 1) _ _ j (by omega), va_up_ne _ _ (by omega)]
theorem ipF_cong : ∀ {n i : Nat} {x : Int32} {f g : Nat → Int32}, (∀ j, i ≤ j → j < i + n → f j = g j) → ∀ j, i ≤ j → j < i + n → (ipF n i f x).1 j = (ipF n i g x).1 j
  | 0, i, _, _, _, _, j, h1, h2 => absurd h2 (by omega)
  | n + 1, i, x, f, g, h, j, h1, h2 => by
    show (ipF n (i + 1) (va_up f i (f i - imin x (f i))) (x - imin x (f i))).1 j = (ipF n (i + 1) (va_up g i (g i - imin x (g i))) (x - imin x (g i))).1 j
    rw [h i (Nat.le_refl i) (by omega)]
    by_cases c : j = i
    · rw [ipF_out n (i + 1) _ _ j (by omega), ipF_out n (i + 1) _ _ j (by omega), c, va_up_self, va_up_self]
    · exact ipF_cong (fun k h3 h4 => by rw [va_up_ne _ _ (by omega), va_up_ne _ _ (by omega)]; exact h k (by omega) (by omega)) j (by omega) (by omega)
theorem ipF_nat : ∀ {n i : Nat} {f : Nat → Int32} {g : Nat → Nat} {x : Nat}, x < 2147483648 → (∀ j, i ≤ j → j < i + n → g j < 2147483648 ∧ f j = nI (g j)) → ∀ j, i ≤ j → j < i + n → ∃ a, a ≤ g j ∧ (ipF n i f (nI x)).1 j = nI a
  | 0, i, _, _, _, _, _, j, h1, h2 => absurd h2 (by omega)
  | n + 1, i, f, g, x, hx, h, j, h1, h2 => by
    obtain ⟨k1, k2⟩ := h i (Nat.le_refl i) (by omega)
    have e : ipF (n + 1) i f (nI x) = ipF n (i + 1) (va_up f i (nI (g i - min x (g i)))) (nI (x - min x (g i))) := by
      show ipF n (i + 1) (va_up f i (f i - imin (nI x) (f i))) (nI x - imin (nI x) (f i)) = _
      rw [k2, imin_nat hx k1, nI_sub (by omega), nI_sub (by omega)]
    rw [e]
    by_cases c : j = i
    · rw [ipF_out n (i + 1) _ _ j (by omega), c, va_up_self]
      exact ⟨g i - min x (g i), by omega, rfl⟩
    · exact ipF_nat (by omega) (fun k h3 h4 => by rw [va_up_ne _ _ (by omega)]; exact h k (by omega) (by omega)) j (by omega) (by omega)
theorem ipQ_o {m o : Nat} (h : o ≠ 4) : ∀ (k y : Nat) (z : xSt) (x : Int32), (ipQ m k y z x).1 o = z.1 o
  | 0, _, _, _ => rfl
  | k + 1, y, z, x => by
    show (ipQ m k (y + 1) (u1 z 4 (61 + 24 * m + y) (lfQ z m y - imin x (lfQ z m y))) (x - imin x (lfQ z m y))).1 o = _
    rw [ipQ_o h k, u1_ne _ h]
theorem ipQ_F {m : Nat} : ∀ (k y : Nat) (z : xSt) (x : Int32), ∀ j, (ipQ m k y z x).1 4 j = if 61 + 24 * m + y ≤ j ∧ j < 61 + 24 * m + y + k then (ipF k y (lfQ z m) x).1 (j - (61 + 24 * m)) else z.1 4 j
  | 0, y, z, x, j => by rw [if_neg (by omega)]; rfl
  | k + 1, y, z, x, j => by
    have e2 : lfQ (u1 z 4 (61 + 24 * m + y) (lfQ z m y - imin x (lfQ z m y))) m = va_up (lfQ z m) y (lfQ z m y - imin x (lfQ z m y)) := by
      funext k
      unfold lfQ
      rw [u1_rd2, va_rd]
      by_cases e : k = y
      · rw [if_pos (by omega), if_pos e]
      · rw [if_neg (by omega), if_neg e]
    show (ipQ m k (y + 1) (u1 z 4 (61 + 24 * m + y) (lfQ z m y - imin x (lfQ z m y))) (x - imin x (lfQ z m y))).1 4 j = if 61 + 24 * m + y ≤ j ∧ j < 61 + 24 * m + y + (k + 1) then (ipF k (y + 1) (va_up (lfQ z m) y (lfQ z m y - imin x (lfQ z m y))) (x - imin x (lfQ z m y))).1 (j - (61 + 24 * m)) else z.1 4 j
    rw [ipQ_F k (y + 1), e2]
    by_cases c : 61 + 24 * m + (y + 1) ≤ j ∧ j < 61 + 24 * m + (y + 1) + k
    · rw [if_pos c, if_pos (by omega)]
    · rw [if_neg c, u1_rd2]
      by_cases c2 : j = 61 + 24 * m + y
      · rw [if_pos c2, if_pos (by omega), c2, show 61 + 24 * m + y - (61 + 24 * m) = y by omega, ipF_out k (y + 1) _ _ y (by omega), va_up_self]
      · rw [if_neg c2, if_neg (by omega)]
/-- an installment A paid, i were left, the certificates are now f -/
def rowY (r : Nat → Int32) (m i : Nat) (A : Int32) (f : Nat → Int32) : Nat → Int32 := fun j => if j = 5 + m ∧ i = 1 then 2 else if j = 21 + m then nI (i - 1) else if 61 + 24 * m ≤ j ∧ j < 61 + 24 * m + 24 then f (j - (61 + 24 * m)) else if j = 445 + 3 * m + 2 then r (445 + 3 * m + 2) + A else r j
theorem pIns_r {z : xSt} {b m i : Nat} {A : Int32} {f : Nat → Int32} (hi : z.1 (oM b m) 3 = nI i) (h1 : 1 ≤ i) (h10 : i ≤ 10) (hA : rup (bx_sum (z.1 (oLf b m)) 25) (z.1 (oM b m) 3) = A) (hf : (ipy 25 0 (z.1 (oLf b m)) A).1 = f) :
    (∀ o, o ≠ oM b m → o ≠ oLf b m → o ≠ oPd b m → (pIns z b m).1 o = z.1 o) ∧ (∀ j, (pIns z b m).1 (oM b m) j = if j = 2 ∧ i = 1 then 2 else if j = 3 then nI (i - 1) else z.1 (oM b m) j) ∧ (pIns z b m).1 (oLf b m) = f ∧ (∀ j, (pIns z b m).1 (oPd b m) j = if j = 2 then z.1 (oPd b m) 2 + A else z.1 (oPd b m) j) := by
  unfold pIns
  dsimp only
  rw [hA, hf]
  have e3 : ∀ v, (u1 (ur z (oLf b m) f) (oPd b m) 2 v).1 (oM b m) 3 = nI i := fun v => by rw [u1_ne _ (by unfold oM oPd; omega), ur_ne _ _ (by unfold oM oLf; omega)]; exact hi
  rw [u1_self, e3, show nI i - 1 = nI (i - 1) from nI_sub h1, ur_ne _ _ (by unfold oPd oLf; omega)]
  by_cases c : 0 < nI (i - 1)
  · have hi1 : ¬ i = 1 := fun h => by rw [h] at c; exact absurd c (by decide)
    rw [if_pos c]
    refine ⟨fun o k1 k2 k3 => by rw [u1_ne _ k1, u1_ne _ k3, ur_ne _ _ k2], fun j => ?_, ?_, fun j => ?_⟩
    · rw [if_neg (fun h => hi1 h.2), u1_rd2, u1_ne _ (by unfold oM oPd; omega), ur_ne _ _ (by unfold oM oLf; omega)]
    · rw [u1_ne _ (by unfold oLf oM; omega), u1_ne _ (by unfold oLf oPd; omega), ur_at]
    · rw [u1_ne _ (by unfold oPd oM; omega), u1_rd2, ur_ne _ _ (by unfold oPd oLf; omega)]
  · have hi1 : i = 1 := by
      rcases Nat.eq_zero_or_pos (i - 1) with q | q
      · omega
      · exact absurd (nI_0lt q (by omega)) c
    rw [if_neg c]
    refine ⟨fun o k1 k2 k3 => by rw [u1_ne _ k1, u1_ne _ k1, u1_ne _ k1, u1_ne _ k3, ur_ne _ _ k2], fun j => ?_, ?_, fun j => ?_⟩
    · rw [u1_rd2]
      by_cases e2 : j = 2
      · rw [if_pos e2, if_pos ⟨e2, hi1⟩]
      · rw [if_neg e2, if_neg (fun h => e2 h.1), u1_rd2]
        by_cases e4 : j = 3
        · rw [if_pos e4, if_pos e4, hi1]; rfl
        · rw [if_neg e4, if_neg e4, u1_sne _ _ _ e4, u1_ne _ (by unfold oM oPd; omega), ur_ne _ _ (by unfold oM oLf; omega)]
    · rw [u1_ne _ (by unfold oLf oM; omega), u1_ne _ (by unfold oLf oM; omega), u1_ne _ (by unfold oLf oM; omega), u1_ne _ (by unfold oLf oPd; omega), ur_at]
    · rw [u1_ne _ (by unfold oPd oM; omega), u1_ne _ (by unfold oPd oM; omega), u1_ne _ (by unfold oPd oM; omega), u1_rd2, ur_ne _ _ (by unfold oPd oLf; omega)]
theorem pyQ_o {s : xSt} {m o : Nat} (h : o ≠ 4) : (pyQ s m).1 o = s.1 o := by
  unfold pyQ
  split
  · rw [u1_ne _ h, u1_ne _ h, ipQ_o h, u1_ne _ h]
  · rw [u1_ne _ h, ipQ_o h, u1_ne _ h]
theorem pyQ_4 {s : xSt} {m i : Nat} {A : Int32} {f : Nat → Int32} (hm : m < 8) (hY : yQ s ≤ 24) (hi : s.1 4 (21 + m) = nI i) (h1 : 1 ≤ i) (h10 : i ≤ 10) (hA : (eqQ s m + s.1 4 (21 + m) - 1) / s.1 4 (21 + m) = A) (hf : ∀ y, y < 24 → f y = if y < yQ s then (ipF (yQ s) 0 (lfQ s m) A).1 y else lfQ s m y) : ∀ j, (pyQ s m).1 4 j = rowY (s.1 4) m i A f j := by
  intro j
  have el : lfQ (u1 s 4 (445 + 3 * m + 2) (s.1 4 (445 + 3 * m + 2) + A)) m = lfQ (u1 s 4 (445 + 3 * m + 2) (s.1 4 (445 + 3 * m + 2) + A)) m := rfl
  have e2 : ∀ y, y < 24 → lfQ (u1 s 4 (445 + 3 * m + 2) (s.1 4 (445 + 3 * m + 2) + A)) m y = lfQ s m y := fun y hy => by unfold lfQ; rw [u1_sne _ _ _ (by omega)]
  have hq : ∀ j, (ipQ m (yQ s) 0 (u1 s 4 (445 + 3 * m + 2) (s.1 4 (445 + 3 * m + 2) + A)) A).1 4 j = if 61 + 24 * m ≤ j ∧ j < 61 + 24 * m + 24 then f (j - (61 + 24 * m)) else if j = 445 + 3 * m + 2 then s.1 4 (445 + 3 * m + 2) + A else s.1 4 j := fun j => by
    rw [ipQ_F, u1_rd2]
    by_cases c : 61 + 24 * m + 0 ≤ j ∧ j < 61 + 24 * m + 0 + yQ s
    · rw [if_pos c, if_pos (by omega), hf _ (by omega), if_pos (by omega)]
      exact ipF_cong (fun k _ h2 => e2 k (by omega)) _ (by omega) (by omega)
    · rw [if_neg c]
      by_cases c2 : 61 + 24 * m ≤ j ∧ j < 61 + 24 * m + 24
      · rw [if_pos c2, if_neg (by omega), hf _ (by omega), if_neg (by omega)]
        show s.1 4 j = s.1 4 (61 + 24 * m + (j - (61 + 24 * m)))
        rw [show 61 + 24 * m + (j - (61 + 24 * m)) = j by omega]
      · rw [if_neg c2]
  have e21 : (ipQ m (yQ s) 0 (u1 s 4 (445 + 3 * m + 2) (s.1 4 (445 + 3 * m + 2) + A)) A).1 4 (21 + m) = nI i := by rw [hq, if_neg (by omega), if_neg (by omega)]; exact hi
  unfold pyQ
  rw [hA, e21, show nI i - nI 1 = nI (i - 1) from nI_sub h1, hi]
  unfold rowY
  by_cases c : nI i = nI 1
  · have i1 : i = 1 := (nI_eq (by omega) (by omega)).mp c
    rw [if_pos c, u1_rd2]
    by_cases c1 : j = 5 + m
    · rw [if_pos c1, if_pos ⟨c1, i1⟩]
    · rw [if_neg c1, if_neg (fun h => c1 h.1), u1_rd2]
      by_cases c2 : j = 21 + m
      · rw [if_pos c2, if_pos c2]
      · rw [if_neg c2, if_neg c2, hq j]
  · have i1 : ¬ i = 1 := fun h => c (by rw [h])
    rw [if_neg c, u1_rd2, if_neg (fun h : j = 5 + m ∧ i = 1 => i1 h.2)]
    by_cases c2 : j = 21 + m
    · rw [if_pos c2, if_pos c2]
    · rw [if_neg c2, if_neg c2, hq j]
theorem eqC.pay {z z2 : xSt} {b mc dc m i : Nat} {t r f : Nat → Int32} {A : Int32} (hE : eqC z b mc dc t r) (hm : m < mc) (h8 : mc ≤ 8) (h4 : dc ≤ 4) (hf : f 24 = 0)
    (h : (∀ o, o ≠ oM b m → o ≠ oLf b m → o ≠ oPd b m → z2.1 o = z.1 o) ∧ (∀ j, z2.1 (oM b m) j = if j = 2 ∧ i = 1 then 2 else if j = 3 then nI (i - 1) else z.1 (oM b m) j) ∧ z2.1 (oLf b m) = f ∧ (∀ j, z2.1 (oPd b m) j = if j = 2 then z.1 (oPd b m) 2 + A else z.1 (oPd b m) j)) : eqC z2 b mc dc t (rowY r m i A f) := by
  obtain ⟨⟨a1, a2, a3, a4, a5, a6⟩, h2, h3, hp, h5, h6, h7, h9⟩ := hE
  obtain ⟨p1, p2, p3, p4⟩ := h
  have rw0 : ∀ j, j ≠ 5 + m → j ≠ 21 + m → (j < 61 + 24 * m ∨ 61 + 24 * m + 24 ≤ j) → j ≠ 445 + 3 * m + 2 → rowY r m i A f j = r j := fun j c1 c2 c3 c4 => by unfold rowY; rw [if_neg (fun h => c1 h.1), if_neg c2, if_neg (by omega), if_neg c4]
  have eB : z2.1 (oB b) = z.1 (oB b) := p1 _ (by unfold oB oM; omega) (by unfold oB oLf; omega) (by unfold oB oPd; omega)
  refine ⟨⟨?_, ?_, ?_, ?_, ?_, ?_⟩, fun k hk => ?_, fun m' hm' => ?_, fun m' d' hm' hd' => ?_, fun m' y hm' hy => ?_, fun m' hm' => ?_, fun m' j hm' hj => ?_, fun d' hd' => ?_⟩
  · rw [eB]; exact a1
  · rw [eB]; exact a2
  · rw [eB, rw0 _ (by omega) (by omega) (by omega) (by omega)]; exact a3
  · rw [eB, rw0 _ (by omega) (by omega) (by omega) (by omega)]; exact a4
  · rw [eB, rw0 _ (by omega) (by omega) (by omega) (by omega)]; exact a5
  · rw [eB, rw0 _ (by omega) (by omega) (by omega) (by omega), bx_cong (g := fun m => z.1 (oPd b m) 0) (fun m' hm' => ?_)]
    · exact a6
    · show z2.1 (oPd b m') 0 = z.1 (oPd b m') 0
      by_cases e : m' = m
      · subst e; rw [p4, if_neg (by omega)]
      · rw [p1 _ (by unfold oPd oM; omega) (by unfold oPd oLf; omega) (by unfold oPd; omega)]
  · rw [p1 _ (by unfold oSt oM; omega) (by unfold oSt oLf; omega) (by unfold oSt oPd; omega), rw0 _ (by omega) (by omega) (by omega) (by omega)]; exact h2 k hk
  · by_cases e : m' = m
    · subst e
      obtain ⟨b0, b1, b2, b3⟩ := h3 m' hm'
      refine ⟨by rw [p2, if_neg (by omega), if_neg (by omega)]; exact b0, by rw [p2, if_neg (by omega), if_neg (by omega), rw0 _ (by omega) (by omega) (by omega) (by omega)]; exact b1, ?_, ?_⟩
      · rw [p2]
        unfold rowY
        by_cases c : i = 1
        · rw [if_pos ⟨rfl, c⟩, if_pos ⟨rfl, c⟩]
        · rw [if_neg (fun h => c h.2), if_neg (by omega : ¬ (2 : Nat) = 3), if_neg (fun h : 5 + m' = 5 + m' ∧ i = 1 => c h.2), if_neg (by omega), if_neg (by omega), if_neg (by omega)]; exact b2
      · rw [p2, if_neg (by omega), if_pos rfl]
        unfold rowY
        rw [if_neg (by omega), if_pos rfl]
    · rw [p1 _ (by unfold oM; omega) (by unfold oM oLf; omega) (by unfold oM oPd; omega), rw0 _ (by omega) (by omega) (by omega) (by omega), rw0 _ (by omega) (by omega) (by omega) (by omega), rw0 _ (by omega) (by omega) (by omega) (by omega)]; exact h3 m' hm'
  · rw [p1 _ (by unfold oPt oM; omega) (by unfold oPt oLf; omega) (by unfold oPt oPd; omega), rw0 _ (by omega) (by omega) (by omega) (by omega)]; exact hp m' d' hm' hd'
  · rw [p1 (oKd b m') (by unfold oKd oM; omega) (by unfold oKd oLf; omega) (by unfold oKd oPd; omega), rw0 (253 + 24 * m' + y) (by omega) (by omega) (by omega) (by omega)]
    by_cases e : m' = m
    · subst e
      rw [p3]
      refine ⟨?_, (h5 m' y hm' hy).2⟩
      unfold rowY
      rw [if_neg (by omega), if_neg (by omega), if_pos (by omega), show 61 + 24 * m' + y - (61 + 24 * m') = y by omega]
    · rw [p1 _ (by unfold oLf oM; omega) (by unfold oLf; omega) (by unfold oLf oPd; omega), rw0 _ (by omega) (by omega) (by omega) (by omega)]; exact h5 m' y hm' hy
  · by_cases e : m' = m
    · subst e; rw [p3]; exact hf
    · rw [p1 _ (by unfold oLf oM; omega) (by unfold oLf; omega) (by unfold oLf oPd; omega)]; exact h6 m' hm'
  · by_cases e : m' = m
    · subst e
      rw [p4]
      by_cases ej : j = 2
      · subst ej
        rw [if_pos rfl, h7 m' 2 hm' hj]
        unfold rowY
        rw [if_neg (by omega), if_neg (by omega), if_neg (by omega), if_pos rfl]
      · rw [if_neg ej, rw0 _ (by omega) (by omega) (by omega) (by omega)]; exact h7 m' j hm' hj
    · rw [p1 _ (by unfold oPd oM; omega) (by unfold oPd oLf; omega) (by unfold oPd; omega), rw0 _ (by omega) (by omega) (by omega) (by omega)]; exact h7 m' j hm' hj
  · rw [p1 _ (by unfold oD oM; omega) (by unfold oD oLf; omega) (by unfold oD oPd; omega), rw0 _ (by omega) (by omega) (by omega) (by omega), rw0 _ (by omega) (by omega) (by omega) (by omega)]; exact h9 d' hd'
/-- the patronage of a member is cleared -/
theorem eqC.clp {z : xSt} {b mc dc m : Nat} {t r : Nat → Int32} (hE : eqC z b mc dc t r) (hm : m < mc) (h8 : mc ≤ 8) (h4 : dc ≤ 4) : eqC (ur z (oPt b m) (fun _ => 0)) b mc dc t (fun j => if 29 + 4 * m ≤ j ∧ j < 33 + 4 * m then 0 else r j) := by
  obtain ⟨⟨a1, a2, a3, a4, a5, a6⟩, h2, h3, hp, h5, h6, h7, h9⟩ := hE
  have rw0 : ∀ j, (j < 29 + 4 * m ∨ 33 + 4 * m ≤ j) → (fun j => if 29 + 4 * m ≤ j ∧ j < 33 + 4 * m then 0 else r j) j = r j := fun j c1 => if_neg (by omega)
  refine ⟨⟨?_, ?_, ?_, ?_, ?_, ?_⟩, fun k hk => ?_, fun m' hm' => ?_, fun m' d' hm' hd' => ?_, fun m' y hm' hy => ?_, fun m' hm' => ?_, fun m' j hm' hj => ?_, fun d' hd' => ?_⟩
  · rw [ur_ne _ _ (by unfold oB oPt; omega)]; exact a1
  · rw [ur_ne _ _ (by unfold oB oPt; omega)]; exact a2
  · rw [ur_ne _ _ (by unfold oB oPt; omega), rw0 _ (by omega)]; exact a3
  · rw [ur_ne _ _ (by unfold oB oPt; omega), rw0 _ (by omega)]; exact a4
  · rw [ur_ne _ _ (by unfold oB oPt; omega), rw0 _ (by omega)]; exact a5
  · rw [ur_ne _ _ (by unfold oB oPt; omega), rw0 _ (by omega), bx_cong (g := fun m => z.1 (oPd b m) 0) (fun m' hm' => by show (ur z (oPt b m) (fun _ => 0)).1 (oPd b m') 0 = _; rw [ur_ne _ _ (by unfold oPd oPt; omega)])]; exact a6
  · rw [ur_ne _ _ (by unfold oSt oPt; omega), rw0 _ (by omega)]; exact h2 k hk
  · rw [ur_ne _ _ (by unfold oM oPt; omega), rw0 _ (by omega), rw0 _ (by omega), rw0 _ (by omega)]; exact h3 m' hm'
  · by_cases e : m' = m
    · subst e
      rw [ur_at]
      exact (if_pos (by omega)).symm
    · rw [ur_ne _ _ (by unfold oPt; omega), rw0 _ (by omega)]; exact hp m' d' hm' hd'
  · rw [ur_ne _ _ (by unfold oLf oPt; omega), ur_ne _ _ (by unfold oKd oPt; omega), rw0 _ (by omega), rw0 _ (by omega)]; exact h5 m' y hm' hy
  · rw [ur_ne _ _ (by unfold oLf oPt; omega)]; exact h6 m' hm'
  · rw [ur_ne _ _ (by unfold oPd oPt; omega), rw0 _ (by omega)]; exact h7 m' j hm' hj
  · rw [ur_ne _ _ (by unfold oD oPt; omega), rw0 _ (by omega), rw0 _ (by omega)]; exact h9 d' hd'
/-- after k members: who leaves among them is paid, their patronage is cleared -/
def sC (b mc dc k : Nat) (F : Nat → Nat) (s0 z s : xSt) : Prop :=
  eqC z b mc dc (s0.1 2) (fun j => if 29 ≤ j ∧ j < 29 + 4 * k then 0 else s.1 4 j) ∧
  (∀ m, m < mc → z.1 (oM b m) 4 = s0.1 4 (469 + m) ∧ z.1 (oM b m) 5 = s0.1 4 (477 + m)) ∧
  (∀ m, k ≤ m → m < 8 → s.1 4 (5 + m) = s0.1 4 (5 + m) ∧ s.1 4 (21 + m) = s0.1 4 (21 + m)) ∧
  (∀ m, m < 8 → isN (s.1 4 (5 + m)) 2 ∧ isN (s.1 4 (21 + m)) 10 ∧ (s.1 4 (5 + m) = nI 1 → s.1 4 (21 + m) ≠ 0)) ∧
  rL F (s.1 4) ∧ (∀ j, (j < 5 ∨ (13 ≤ j ∧ j < 21) ∨ (29 ≤ j ∧ j < 61) ∨ (253 ≤ j ∧ j < 445) ∨ 469 ≤ j) → s.1 4 j = s0.1 4 j) ∧ (∀ o, o ≠ 4 → s.1 o = s0.1 o)
theorem sC_s {b mc dc Y k : Nat} {F : Nat → Nat} {s0 z s : xSt} (h8 : mc ≤ 8) (h4 : dc ≤ 4) (hY : s0.1 4 494 = nI Y) (hY24 : Y ≤ 24) (hk : k < mc) (hF : ∀ m, m < mc → s0.1 4 (5 + m) = nI 1 → F m = Y) (h : sC b mc dc k F s0 z s) : sC b mc dc (k + 1) F s0 (ur (if z.1 (oM b k) 2 = 1 then pIns z b k else z) (oPt b k) (fun _ => 0)) (cpS s k) := by
  obtain ⟨hE, e45, e3, e4, hL, hc, ho⟩ := h
  have pat : ∀ {z2 : xSt} {r2 : Nat → Int32}, eqC z2 b mc dc (s0.1 2) (fun j => if 29 ≤ j ∧ j < 29 + 4 * k then 0 else r2 j) → eqC (ur z2 (oPt b k) (fun _ => 0)) b mc dc (s0.1 2) (fun j => if 29 ≤ j ∧ j < 29 + 4 * (k + 1) then 0 else r2 j) := fun {z2} {r2} hh => (hh.clp hk h8 h4).row (fun j _ _ => by
    by_cases c : 29 + 4 * k ≤ j ∧ j < 33 + 4 * k
    · rw [if_pos c, if_pos (by omega)]
    · rw [if_neg c]
      by_cases c2 : 29 ≤ j ∧ j < 29 + 4 * k
      · rw [if_pos c2, if_pos (by omega)]
      · rw [if_neg c2, if_neg (by omega)]) h8 h4
  have oMr : ∀ (z2 : xSt) m, (ur z2 (oPt b k) (fun _ => 0)).1 (oM b m) = z2.1 (oM b m) := fun z2 m => ur_ne _ _ (by unfold oM oPt; omega)
  obtain ⟨-, m1, m2, m3⟩ := hE.2.2.1 k hk
  have m2 : z.1 (oM b k) 2 = s.1 4 (5 + k) := m2.trans (if_neg (by omega))
  have m3 : z.1 (oM b k) 3 = s.1 4 (21 + k) := m3.trans (if_neg (by omega))
  unfold cpS
  rw [m2]
  by_cases c : s.1 4 (5 + k) = 1
  · rw [if_pos c, if_pos (show s.1 4 (5 + k) = nI 1 from c)]
    obtain ⟨q1, q2, q3⟩ := e4 k (by omega)
    obtain ⟨i, hi, ei⟩ := q2
    have i1 : 1 ≤ i := by
      rcases Nat.eq_zero_or_pos i with q | q
      · exact absurd (by rw [ei, q]; rfl) (q3 c)
      · exact q
    have yY : yQ s = Y := by unfold yQ; rw [hc 494 (by omega), hY, nI_clamp (by omega)]
    have hFk : F k = Y := hF k hk (by rw [← (e3 k (Nat.le_refl k) (by omega)).1]; exact c)
    have hlf : ∀ y, y < 24 → z.1 (oLf b k) y = lfQ s k y := fun y hy => ((hE.2.2.2.2.1 k y hk hy).1).trans (if_neg (by omega))
    have hl24 := hE.2.2.2.2.2.1 k hk
    have hF0 : ∀ y, Y ≤ y → y < 24 → lfQ s k y = 0 := fun y h1 h2 => ((hL k y (by omega) h2).2 (by rw [hFk]; exact h1)).1
    have hgn : ∀ y : Nat, ∃ g : Nat, y < 24 → g ≤ 5000000 ∧ lfQ s k y = nI g := fun y => by
      by_cases q : y < 24
      · obtain ⟨g, hg, e⟩ := (hL k y (by omega) q).1
        exact ⟨g, fun _ => ⟨hg, e⟩⟩
      · exact ⟨0, fun q2 => absurd q2 q⟩
    obtain ⟨g, hg⟩ := Classical.axiomOfChoice hgn
    have eqe : bx_sum (z.1 (oLf b k)) 25 = eqQ s k := by
      show bx_sum (z.1 (oLf b k)) 24 + z.1 (oLf b k) 24 = _
      rw [hl24, Int32.add_zero]
      exact bx_cong hlf
    obtain ⟨e, he, ee⟩ : ∃ e, e ≤ 120000000 ∧ eqQ s k = nI e := by
      obtain ⟨a, ha, e⟩ := bx_nat (f := lfQ s k) (B := 5000000) (n := 24) (fun y hy => ⟨g y, hg y hy⟩)
      exact ⟨a, by omega, e⟩
    have eA : (eqQ s k + s.1 4 (21 + k) - 1) / s.1 4 (21 + k) = nI ((e + i - 1) / i) := by
      rw [ee, ei, nI_add, show nI (e + i) - 1 = nI (e + i - 1) from nI_sub (b := 1) (by omega), nI_div (by omega) (by omega)]
    have eA2 : rup (bx_sum (z.1 (oLf b k)) 25) (z.1 (oM b k) 3) = nI ((e + i - 1) / i) := by
      rw [eqe, m3, ← eA]
      unfold rup
      rw [if_pos (by rw [ei]; exact nI_0lt (by omega) (by omega))]
    have hAle : (e + i - 1) / i ≤ e + i - 1 := Nat.div_le_self _ _
    have hnat : ∀ j, 0 ≤ j → j < 0 + 25 → ∃ g : Nat, g < 2147483648 ∧ z.1 (oLf b k) j = nI g := fun j _ hj => by
      by_cases q : j = 24
      · exact ⟨0, by omega, by rw [q]; exact hl24⟩
      · exact ⟨g j, by have := (hg j (by omega)).1; omega, by rw [hlf j (by omega)]; exact (hg j (by omega)).2⟩
    have e25 : ipy 25 0 (z.1 (oLf b k)) (nI ((e + i - 1) / i)) = ipF Y 0 (z.1 (oLf b k)) (nI ((e + i - 1) / i)) := by
      rw [ipy_ipF (by omega) hnat, show 25 = Y + (25 - Y) by omega]
      refine ipF_cut (by omega) (fun j h1 h2 => hnat j h1 (by omega)) (fun j h1 h2 => ?_)
      by_cases q : j = 24
      · rw [q]; exact hl24
      · rw [hlf j (by omega)]; exact hF0 j (by omega) (by omega)
    have hP := pIns_r (z := z) (b := b) (m := k) (i := i) (A := nI ((e + i - 1) / i)) (f := (ipF Y 0 (z.1 (oLf b k)) (nI ((e + i - 1) / i))).1) (m3.trans ei) i1 hi eA2 (by rw [e25])
    have f24 : (ipF Y 0 (z.1 (oLf b k)) (nI ((e + i - 1) / i))).1 24 = 0 := by rw [ipF_out Y 0 _ _ 24 (by omega)]; exact hl24
    have hfy : ∀ y, y < 24 → (ipF Y 0 (z.1 (oLf b k)) (nI ((e + i - 1) / i))).1 y = if y < Y then (ipF Y 0 (lfQ s k) (nI ((e + i - 1) / i))).1 y else lfQ s k y := fun y hy => by
      by_cases q : y < Y
      · rw [if_pos q]; exact ipF_cong (fun j _ h2 => hlf j (by omega)) y (by omega) (by omega)
      · rw [if_neg q, ipF_out Y 0 _ _ y (by omega)]; exact hlf y hy
    have hrow := pyQ_4 (s := s) (m := k) (i := i) (A := nI ((e + i - 1) / i)) (f := (ipF Y 0 (z.1 (oLf b k)) (nI ((e + i - 1) / i))).1) (by omega) (by omega) ei i1 hi eA (by rw [yY]; exact hfy)
    have hE2 := hE.pay hk h8 h4 f24 hP
    have hE3 : eqC (pIns z b k) b mc dc (s0.1 2) (fun j => if 29 ≤ j ∧ j < 29 + 4 * k then 0 else (pyQ s k).1 4 j) := hE2.row (fun j _ _ => by
      rw [hrow]
      unfold rowY
      dsimp only
      by_cases c2 : 29 ≤ j ∧ j < 29 + 4 * k
      · rw [if_pos c2, if_neg (by omega), if_neg (by omega), if_neg (by omega), if_neg (by omega), if_pos c2]
      · rw [if_neg c2]
        by_cases d1 : j = 5 + k ∧ i = 1
        · rw [if_pos d1, if_pos d1]
        · rw [if_neg d1, if_neg d1]
          by_cases d2 : j = 21 + k
          · rw [if_pos d2, if_pos d2]
          · rw [if_neg d2, if_neg d2]
            by_cases d3 : 61 + 24 * k ≤ j ∧ j < 61 + 24 * k + 24
            · rw [if_pos d3, if_pos d3]
            · rw [if_neg d3, if_neg d3]
              by_cases d4 : j = 445 + 3 * k + 2
              · rw [if_pos d4, if_pos d4, if_neg (by omega)]
              · rw [if_neg d4, if_neg d4, if_neg c2]) h8 h4
    refine ⟨pat hE3, fun m hm => ?_, fun m h1 h2 => ?_, fun m hm => ?_, fun m y hm hy => ?_, fun j hj => ?_, fun o hoo => by rw [pyQ_o hoo]; exact ho o hoo⟩
    · rw [oMr]
      have e9 : ∀ j, (j = 4 ∨ j = 5) → (pIns z b k).1 (oM b m) j = z.1 (oM b m) j := fun j hj => by
        by_cases q : m = k
        · rw [q, hP.2.1, if_neg (by omega), if_neg (by omega)]
        · rw [hP.1 _ (by unfold oM; omega) (by unfold oM oLf; omega) (by unfold oM oPd; omega)]
      rw [e9 4 (by omega), e9 5 (by omega)]; exact e45 m hm
    · rw [hrow, hrow]
      unfold rowY
      rw [if_neg (by omega), if_neg (by omega), if_neg (by omega), if_neg (by omega), if_neg (by omega), if_neg (by omega), if_neg (by omega), if_neg (by omega)]
      exact e3 m (by omega) h2
    · rw [hrow, hrow]
      unfold rowY
      by_cases q : m = k
      · subst q
        rw [if_neg (by omega : ¬ (21 + m = 5 + m ∧ i = 1)), if_pos (rfl : 21 + m = 21 + m)]
        by_cases i9 : i = 1
        · rw [if_pos ⟨rfl, i9⟩]
          exact ⟨⟨2, by omega, rfl⟩, ⟨i - 1, by omega, rfl⟩, fun h => absurd h (by decide)⟩
        · rw [if_neg (fun h => i9 h.2), if_neg (by omega), if_neg (by omega), if_neg (by omega)]
          exact ⟨q1, ⟨i - 1, by omega, rfl⟩, fun _ => nI_ne0 (by omega) (by omega)⟩
      · rw [if_neg (by omega), if_neg (by omega), if_neg (by omega), if_neg (by omega), if_neg (by omega), if_neg (by omega), if_neg (by omega), if_neg (by omega)]
        exact e4 m hm
    · rw [hrow, hrow]
      obtain ⟨l1, l2⟩ := hL m y hm hy
      unfold rowY
      by_cases q : m = k
      · subst q
        rw [if_neg (by omega), if_neg (by omega), if_pos (by omega), show 61 + 24 * m + y - (61 + 24 * m) = y by omega, if_neg (by omega), if_neg (by omega), if_neg (by omega), if_neg (by omega), hfy y hy]
        by_cases qy : y < Y
        · rw [if_pos qy]
          obtain ⟨a, ha, ea⟩ := ipF_nat (n := Y) (i := 0) (f := lfQ s m) (g := g) (x := (e + i - 1) / i) (by omega) (fun j _ h2 => ⟨by have := (hg j (by omega)).1; omega, (hg j (by omega)).2⟩) y (by omega) (by omega)
          exact ⟨⟨a, by have := (hg y hy).1; omega, ea⟩, fun h => by rw [hFk] at h; omega⟩
        · rw [if_neg qy]; exact ⟨l1, l2⟩
      · rw [if_neg (by omega), if_neg (by omega), if_neg (by omega), if_neg (by omega), if_neg (by omega), if_neg (by omega), if_neg (by omega), if_neg (by omega)]
        exact ⟨l1, l2⟩
    · rw [hrow]
      unfold rowY
      rw [if_neg (by omega), if_neg (by omega), if_neg (by omega), if_neg (by omega)]
      exact hc j hj
  · rw [if_neg c, if_neg (fun h : s.1 4 (5 + k) = nI 1 => c h)]
    exact ⟨pat hE, fun m hm => by rw [oMr]; exact e45 m hm, fun m h1 h2 => e3 m (by omega) h2, e4, hL, hc, ho⟩
theorem sC_all {b mc dc Y : Nat} {F : Nat → Nat} {s0 z : xSt} (h8 : mc ≤ 8) (h4 : dc ≤ 4) (hY : s0.1 4 494 = nI Y) (hY24 : Y ≤ 24) (hF : ∀ m, m < mc → s0.1 4 (5 + m) = nI 1 → F m = Y) (h : sC b mc dc 0 F s0 z s0) : ∀ k, k ≤ mc → sC b mc dc k F s0 (inL z b k) (cpQ s0 k)
  | 0, _ => h
  | k + 1, hk => sC_s h8 h4 hY hY24 (by omega) hF (sC_all h8 h4 hY hY24 hF h k (by omega))
theorem cdQ_o {s : xSt} {o : Nat} (h : o ≠ 4) : ∀ d, (cdQ s d).1 o = s.1 o
  | 0 => rfl
  | d + 1 => by
    show (u1 (u1 (cdQ s d) 4 (485 + d) _) 4 (489 + d) _).1 o = _
    rw [u1_ne _ h, u1_ne _ h, cdQ_o h d]
theorem cdQ_4 {s : xSt} : ∀ (d : Nat), d ≤ 4 → mQ s 12 ≤ 8 → ∀ j, (cdQ s d).1 4 j = if 485 ≤ j ∧ j < 485 + d then s.1 12 (j - 485) else if 489 ≤ j ∧ j < 489 + d then bx_sum (fun m => s.1 4 (29 + 4 * m + (j - 489))) (mQ s 12) else s.1 4 j
  | 0, _, _, j => by rw [if_neg (by omega), if_neg (by omega)]; rfl
  | d + 1, hd, hm, j => by
    have ih := cdQ_4 (s := s) d (by omega) hm
    have eq : mQ (u1 (cdQ s d) 4 (485 + d) ((cdQ s d).1 12 d)) 12 = mQ s 12 := by unfold mQ; rw [u1_ne _ (by omega), cdQ_o (by omega)]
    have es : bx_sum (fun m => (u1 (cdQ s d) 4 (485 + d) ((cdQ s d).1 12 d)).1 4 (29 + 4 * m + d)) (mQ s 12) = bx_sum (fun m => s.1 4 (29 + 4 * m + d)) (mQ s 12) := bx_cong (fun m hm' => by rw [u1_sne _ _ _ (by omega), ih, if_neg (by omega), if_neg (by omega)])
    show (u1 (u1 (cdQ s d) 4 (485 + d) ((cdQ s d).1 12 d)) 4 (489 + d) (bx_sum (fun m => (u1 (cdQ s d) 4 (485 + d) ((cdQ s d).1 12 d)).1 4 (29 + 4 * m + d)) (mQ (u1 (cdQ s d) 4 (485 + d) ((cdQ s d).1 12 d)) 12))).1 4 j = _
    rw [eq, es, cdQ_o (by omega), u1_rd2]
    by_cases c1 : j = 489 + d
    · rw [if_pos c1, if_neg (by omega), if_pos (by omega), show j - 489 = d by omega]
    · rw [if_neg c1, u1_rd2]
      by_cases c2 : j = 485 + d
      · rw [if_pos c2, if_pos (by omega), show j - 485 = d by omega]
      · rw [if_neg c2, ih]
        by_cases c3 : 485 ≤ j ∧ j < 485 + d
        · rw [if_pos c3, if_pos (by omega)]
        · rw [if_neg c3, if_neg (by omega : ¬ (485 ≤ j ∧ j < 485 + (d + 1)))]
          by_cases c4 : 489 ≤ j ∧ j < 489 + d
          · rw [if_pos c4, if_pos (by omega)]
          · rw [if_neg c4, if_neg (by omega)]
