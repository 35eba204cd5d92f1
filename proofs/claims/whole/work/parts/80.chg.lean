/-! BOTH ANSWER ALIKE: the small changes -/
theorem u1_rd2 (z : xSt) (o k : Nat) (v : Int32) (j : Nat) : (u1 z o k v).1 o j = if j = k then v else z.1 o j := by rw [u1_at]; rfl
/-- one cell of the books and of the row -/
theorem eqB.pt {z : xSt} {b mc dc : Nat} {t r : Nat → Int32} (h : eqB z b mc dc t r) {m d : Nat} (hm : m < mc) (hd : d < 4) (h8 : mc ≤ 8) (h4 : dc ≤ 4) (v : Int32) : eqB (u1 z (oPt b m) d v) b mc dc t (va_up r (29 + 4 * m + d) v) := by
  obtain ⟨⟨a1, a2, a3, a4, a5, a6⟩, h2, h3, hp, h5, h6, h7, h9⟩ := h
  refine ⟨⟨?_, ?_, ?_, ?_, ?_, ?_⟩, fun k hk => ?_, fun m' hm' => ?_, fun m' d' hm' hd' => ?_, fun m' y hm' hy => ?_, fun m' hm' => ?_, fun m' j hm' hj => ?_, fun d' hd' => ?_⟩
  · rw [u1_ne _ (by unfold oPt oB; omega)]; exact a1
  · rw [u1_ne _ (by unfold oPt oB; omega)]; exact a2
  · rw [u1_ne _ (by unfold oPt oB; omega), va_rd, if_neg (by omega)]; exact a3
  · rw [u1_ne _ (by unfold oPt oB; omega), va_rd, if_neg (by omega)]; exact a4
  · rw [u1_ne _ (by unfold oPt oB; omega), va_rd, if_neg (by omega)]; exact a5
  · rw [u1_ne _ (by unfold oPt oB; omega), va_rd, if_neg (by omega), bx_cong (g := fun m => z.1 (oPd b m) 0) (fun m' hm' => by show (u1 z (oPt b m) d v).1 (oPd b m') 0 = _; rw [u1_ne _ (by unfold oPt oPd; omega)])]; exact a6
  · rw [u1_ne _ (by unfold oPt oSt; omega), va_rd, if_neg (by omega)]; exact h2 k hk
  · rw [u1_ne _ (by unfold oPt oM; omega), va_rd, if_neg (by omega), va_rd, if_neg (by omega), va_rd, if_neg (by omega), va_rd, if_neg (by omega), va_rd, if_neg (by omega)]; exact h3 m' hm'
  · by_cases e : m' = m
    · subst e
      rw [u1_rd2, va_rd]
      by_cases e2 : d' = d
      · rw [if_pos e2, if_pos (by omega)]
      · rw [if_neg e2, if_neg (by omega)]; exact hp m' d' hm' hd'
    · rw [u1_ne _ (by unfold oPt; omega), va_rd, if_neg (by omega)]; exact hp m' d' hm' hd'
  · rw [u1_ne _ (by unfold oPt oLf; omega), u1_ne _ (by unfold oPt oKd; omega), va_rd, if_neg (by omega), va_rd, if_neg (by omega)]; exact h5 m' y hm' hy
  · rw [u1_ne _ (by unfold oPt oLf; omega)]; exact h6 m' hm'
  · rw [u1_ne _ (by unfold oPt oPd; omega), va_rd, if_neg (by omega)]; exact h7 m' j hm' hj
  · rw [u1_ne _ (by unfold oPt oD; omega), va_rd, if_neg (by omega), va_rd, if_neg (by omega)]; exact h9 d' hd'
theorem eqB.st {z : xSt} {b mc dc : Nat} {t r : Nat → Int32} (h : eqB z b mc dc t r) {k : Nat} (hk : k < 5) (h8 : mc ≤ 8) (h4 : dc ≤ 4) (v : Int32) : eqB (u1 z (oSt b) k v) b mc dc t (va_up r k v) := by
  obtain ⟨⟨a1, a2, a3, a4, a5, a6⟩, h2, h3, hp, h5, h6, h7, h9⟩ := h
  refine ⟨⟨?_, ?_, ?_, ?_, ?_, ?_⟩, fun k' hk' => ?_, fun m' hm' => ?_, fun m' d' hm' hd' => ?_, fun m' y hm' hy => ?_, fun m' hm' => ?_, fun m' j hm' hj => ?_, fun d' hd' => ?_⟩
  · rw [u1_ne _ (by unfold oSt oB; omega)]; exact a1
  · rw [u1_ne _ (by unfold oSt oB; omega)]; exact a2
  · rw [u1_ne _ (by unfold oSt oB; omega), va_rd, if_neg (by omega)]; exact a3
  · rw [u1_ne _ (by unfold oSt oB; omega), va_rd, if_neg (by omega)]; exact a4
  · rw [u1_ne _ (by unfold oSt oB; omega), va_rd, if_neg (by omega)]; exact a5
  · rw [u1_ne _ (by unfold oSt oB; omega), va_rd, if_neg (by omega), bx_cong (g := fun m => z.1 (oPd b m) 0) (fun m' hm' => by show (u1 z (oSt b) k v).1 (oPd b m') 0 = _; rw [u1_ne _ (by unfold oSt oPd; omega)])]; exact a6
  · rw [u1_rd2, va_rd]
    by_cases e2 : k' = k
    · rw [if_pos e2, if_pos e2]
    · rw [if_neg e2, if_neg e2]; exact h2 k' hk'
  · rw [u1_ne _ (by unfold oSt oM; omega), va_rd, if_neg (by omega), va_rd, if_neg (by omega), va_rd, if_neg (by omega), va_rd, if_neg (by omega), va_rd, if_neg (by omega)]; exact h3 m' hm'
  · rw [u1_ne _ (by unfold oSt oPt; omega), va_rd, if_neg (by omega)]; exact hp m' d' hm' hd'
  · rw [u1_ne _ (by unfold oSt oLf; omega), u1_ne _ (by unfold oSt oKd; omega), va_rd, if_neg (by omega), va_rd, if_neg (by omega)]; exact h5 m' y hm' hy
  · rw [u1_ne _ (by unfold oSt oLf; omega)]; exact h6 m' hm'
  · rw [u1_ne _ (by unfold oSt oPd; omega), va_rd, if_neg (by omega)]; exact h7 m' j hm' hj
  · rw [u1_ne _ (by unfold oSt oD; omega), va_rd, if_neg (by omega), va_rd, if_neg (by omega)]; exact h9 d' hd'
/-- where a member's field k lies in the row -/
def mRow (m : Nat) : Nat → Nat
  | 1 => 13 + m
  | 2 => 5 + m
  | 3 => 21 + m
  | 4 => 469 + m
  | _ => 477 + m
theorem eqB.mb {z : xSt} {b mc dc : Nat} {t r : Nat → Int32} (h : eqB z b mc dc t r) {m k : Nat} (hm : m < mc) (hk : k = 1 ∨ k = 2 ∨ k = 3 ∨ k = 4 ∨ k = 5) (h8 : mc ≤ 8) (h4 : dc ≤ 4) (v : Int32) : eqB (u1 z (oM b m) k v) b mc dc t (va_up r (mRow m k) v) := by
  have hr : mRow m k = 13 + m ∨ mRow m k = 5 + m ∨ mRow m k = 21 + m ∨ mRow m k = 469 + m ∨ mRow m k = 477 + m := by rcases hk with rfl | rfl | rfl | rfl | rfl <;> simp [mRow]
  obtain ⟨⟨a1, a2, a3, a4, a5, a6⟩, h2, h3, hp, h5, h6, h7, h9⟩ := h
  refine ⟨⟨?_, ?_, ?_, ?_, ?_, ?_⟩, fun k' hk' => ?_, fun m' hm' => ?_, fun m' d' hm' hd' => ?_, fun m' y hm' hy => ?_, fun m' hm' => ?_, fun m' j hm' hj => ?_, fun d' hd' => ?_⟩
  · rw [u1_ne _ (by unfold oM oB; omega)]; exact a1
  · rw [u1_ne _ (by unfold oM oB; omega)]; exact a2
  · rw [u1_ne _ (by unfold oM oB; omega), va_rd, if_neg (by omega)]; exact a3
  · rw [u1_ne _ (by unfold oM oB; omega), va_rd, if_neg (by omega)]; exact a4
  · rw [u1_ne _ (by unfold oM oB; omega), va_rd, if_neg (by omega)]; exact a5
  · rw [u1_ne _ (by unfold oM oB; omega), va_rd, if_neg (by omega), bx_cong (g := fun m => z.1 (oPd b m) 0) (fun m' hm' => by show (u1 z (oM b m) k v).1 (oPd b m') 0 = _; rw [u1_ne _ (by unfold oM oPd; omega)])]; exact a6
  · rw [u1_ne _ (by unfold oM oSt; omega), va_rd, if_neg (by omega)]; exact h2 k' hk'
  · by_cases e : m' = m
    · subst e
      obtain ⟨b0, b1, b2, b3, b4, b5⟩ := h3 m' hm'
      rcases hk with rfl | rfl | rfl | rfl | rfl
      · exact ⟨by rw [u1_rd2, if_neg (by omega)]; exact b0, by rw [u1_rd2, if_pos rfl, show mRow m' 1 = 13 + m' from rfl, va_rd, if_pos rfl], by rw [u1_rd2, if_neg (by omega), show mRow m' 1 = 13 + m' from rfl, va_rd, if_neg (by omega)]; exact b2, by rw [u1_rd2, if_neg (by omega), show mRow m' 1 = 13 + m' from rfl, va_rd, if_neg (by omega)]; exact b3, by rw [u1_rd2, if_neg (by omega), show mRow m' 1 = 13 + m' from rfl, va_rd, if_neg (by omega)]; exact b4, by rw [u1_rd2, if_neg (by omega), show mRow m' 1 = 13 + m' from rfl, va_rd, if_neg (by omega)]; exact b5⟩
      · exact ⟨by rw [u1_rd2, if_neg (by omega)]; exact b0, by rw [u1_rd2, if_neg (by omega), show mRow m' 2 = 5 + m' from rfl, va_rd, if_neg (by omega)]; exact b1, by rw [u1_rd2, if_pos rfl, show mRow m' 2 = 5 + m' from rfl, va_rd, if_pos rfl], by rw [u1_rd2, if_neg (by omega), show mRow m' 2 = 5 + m' from rfl, va_rd, if_neg (by omega)]; exact b3, by rw [u1_rd2, if_neg (by omega), show mRow m' 2 = 5 + m' from rfl, va_rd, if_neg (by omega)]; exact b4, by rw [u1_rd2, if_neg (by omega), show mRow m' 2 = 5 + m' from rfl, va_rd, if_neg (by omega)]; exact b5⟩
      · exact ⟨by rw [u1_rd2, if_neg (by omega)]; exact b0, by rw [u1_rd2, if_neg (by omega), show mRow m' 3 = 21 + m' from rfl, va_rd, if_neg (by omega)]; exact b1, by rw [u1_rd2, if_neg (by omega), show mRow m' 3 = 21 + m' from rfl, va_rd, if_neg (by omega)]; exact b2, by rw [u1_rd2, if_pos rfl, show mRow m' 3 = 21 + m' from rfl, va_rd, if_pos rfl], by rw [u1_rd2, if_neg (by omega), show mRow m' 3 = 21 + m' from rfl, va_rd, if_neg (by omega)]; exact b4, by rw [u1_rd2, if_neg (by omega), show mRow m' 3 = 21 + m' from rfl, va_rd, if_neg (by omega)]; exact b5⟩
      · exact ⟨by rw [u1_rd2, if_neg (by omega)]; exact b0, by rw [u1_rd2, if_neg (by omega), show mRow m' 4 = 469 + m' from rfl, va_rd, if_neg (by omega)]; exact b1, by rw [u1_rd2, if_neg (by omega), show mRow m' 4 = 469 + m' from rfl, va_rd, if_neg (by omega)]; exact b2, by rw [u1_rd2, if_neg (by omega), show mRow m' 4 = 469 + m' from rfl, va_rd, if_neg (by omega)]; exact b3, by rw [u1_rd2, if_pos rfl, show mRow m' 4 = 469 + m' from rfl, va_rd, if_pos rfl], by rw [u1_rd2, if_neg (by omega), show mRow m' 4 = 469 + m' from rfl, va_rd, if_neg (by omega)]; exact b5⟩
      · exact ⟨by rw [u1_rd2, if_neg (by omega)]; exact b0, by rw [u1_rd2, if_neg (by omega), show mRow m' 5 = 477 + m' from rfl, va_rd, if_neg (by omega)]; exact b1, by rw [u1_rd2, if_neg (by omega), show mRow m' 5 = 477 + m' from rfl, va_rd, if_neg (by omega)]; exact b2, by rw [u1_rd2, if_neg (by omega), show mRow m' 5 = 477 + m' from rfl, va_rd, if_neg (by omega)]; exact b3, by rw [u1_rd2, if_neg (by omega), show mRow m' 5 = 477 + m' from rfl, va_rd, if_neg (by omega)]; exact b4, by rw [u1_rd2, if_pos rfl, show mRow m' 5 = 477 + m' from rfl, va_rd, if_pos rfl]⟩
    · rw [u1_ne _ (by unfold oM; omega), va_rd, if_neg (by omega), va_rd, if_neg (by omega), va_rd, if_neg (by omega), va_rd, if_neg (by omega), va_rd, if_neg (by omega)]; exact h3 m' hm'
  · rw [u1_ne _ (by unfold oM oPt; omega), va_rd, if_neg (by omega)]; exact hp m' d' hm' hd'
  · rw [u1_ne _ (by unfold oM oLf; omega), u1_ne _ (by unfold oM oKd; omega), va_rd, if_neg (by omega), va_rd, if_neg (by omega)]; exact h5 m' y hm' hy
  · rw [u1_ne _ (by unfold oM oLf; omega)]; exact h6 m' hm'
  · rw [u1_ne _ (by unfold oM oPd; omega), va_rd, if_neg (by omega)]; exact h7 m' j hm' hj
  · rw [u1_ne _ (by unfold oM oD; omega), va_rd, if_neg (by omega), va_rd, if_neg (by omega)]; exact h9 d' hd'
/-- a row's cell set within its range -/
theorem rI.pt {mc dc Y : Nat} {t r : Nat → Int32} (h : rI mc dc Y t r) {m d a : Nat} (hm : m < 8) (hd : d < 4) (ha : a ≤ 1000000) (hs : r (5 + m) = 0) : rI mc dc Y t (va_up r (29 + 4 * m + d) (nI a)) := by
  obtain ⟨⟨a1, a2, a3, a4, a5⟩, ⟨b1, b2, b3, b4, b5⟩, h3, h4, h5, h6⟩ := h
  refine ⟨⟨a1, a2, a3, a4, by rw [va_rd, if_neg (by omega)]; exact a5⟩, ⟨by rw [va_rd, if_neg (by omega)]; exact b1, by rw [va_rd, if_neg (by omega)]; exact b2, by rw [va_rd, if_neg (by omega)]; exact b3, by rw [va_rd, if_neg (by omega)]; exact b4, by rw [va_rd, if_neg (by omega)]; exact b5⟩, fun m' hm' => ?_, fun m' d' hm' hd' => ?_, fun m' y hm' hy => ?_, fun d' hd' => ?_⟩
  · rw [va_rd, if_neg (by omega), va_rd, if_neg (by omega), va_rd, if_neg (by omega)]; exact h3 m' hm'
  · rw [va_rd _ _ _ (5 + m'), if_neg (by omega), va_rd]
    by_cases e : 29 + 4 * m' + d' = 29 + 4 * m + d
    · rw [if_pos e]
      have em : m' = m := by omega
      exact ⟨⟨a, ha, rfl⟩, fun h => absurd hs (by rw [← em]; exact h)⟩
    · rw [if_neg e]; exact h4 m' d' hm' hd'
  · rw [va_rd, if_neg (by omega), va_rd, if_neg (by omega)]; exact h5 m' y hm' hy
  · rw [va_rd, if_neg (by omega)]; exact h6 d' hd'
theorem rI.st {mc dc Y : Nat} {t r : Nat → Int32} (h : rI mc dc Y t r) {k : Nat} (hk : k < 5) {v : Int32} (h1 : xLea k ≤ v) (h2 : v ≤ xGre k) : rI mc dc Y t (va_up r k v) := by
  obtain ⟨⟨a1, a2, a3, a4, a5⟩, ⟨b1, b2, b3, b4, b5⟩, h3, h4, h5, h6⟩ := h
  have h0 : ¬ v < 0 := fun h => absurd (Int32.lt_of_le_of_lt h1 h) (by rcases (show k = 0 ∨ k = 1 ∨ k = 2 ∨ k = 3 ∨ k = 4 by omega) with rfl | rfl | rfl | rfl | rfl <;> decide)
  obtain ⟨j, hj, e⟩ := nI_of h0
  refine ⟨⟨a1, a2, a3, a4, by rw [va_rd, if_neg (by omega)]; exact a5⟩, ?_, fun m' hm' => ?_, fun m' d' hm' hd' => ?_, fun m' y hm' hy => ?_, fun d' hd' => ?_⟩
  · rw [va_rd, va_rd, va_rd, va_rd, va_rd]
    rcases (show k = 0 ∨ k = 1 ∨ k = 2 ∨ k = 3 ∨ k = 4 by omega) with rfl | rfl | rfl | rfl | rfl
    · rw [if_pos rfl, if_neg (by omega), if_neg (by omega), if_neg (by omega), if_neg (by omega)]
      rw [e] at h1 h2
      exact ⟨⟨j, (nI_leI (a := 20) (by omega) hj).mp h1, (nI_leI (b := 100) hj (by omega)).mp h2, e⟩, b2, b3, b4, b5⟩
    · rw [if_neg (by omega), if_pos rfl, if_neg (by omega), if_neg (by omega), if_neg (by omega)]
      rw [e] at h1 h2
      exact ⟨b1, ⟨j, (nI_leI (b := 50) hj (by omega)).mp h2, e⟩, b3, b4, b5⟩
    · rw [if_neg (by omega), if_neg (by omega), if_pos rfl, if_neg (by omega), if_neg (by omega)]
      rw [e] at h1 h2
      exact ⟨b1, b2, ⟨j, (nI_leI (a := 1) (by omega) hj).mp h1, (nI_leI (b := 10) hj (by omega)).mp h2, e⟩, b4, b5⟩
    · rw [if_neg (by omega), if_neg (by omega), if_neg (by omega), if_pos rfl, if_neg (by omega)]
      rw [e] at h1 h2
      exact ⟨b1, b2, b3, ⟨j, (nI_leI (b := 20) hj (by omega)).mp h2, e⟩, b5⟩
    · rw [if_neg (by omega), if_neg (by omega), if_neg (by omega), if_neg (by omega), if_pos rfl]
      rw [e] at h1 h2
      exact ⟨b1, b2, b3, b4, ⟨j, (nI_leI (b := 2) hj (by omega)).mp h2, e⟩⟩
  · rw [va_rd, if_neg (by omega), va_rd, if_neg (by omega), va_rd, if_neg (by omega)]; exact h3 m' hm'
  · rw [va_rd, if_neg (by omega), va_rd, if_neg (by omega)]; exact h4 m' d' hm' hd'
  · rw [va_rd, if_neg (by omega), va_rd, if_neg (by omega)]; exact h5 m' y hm' hy
  · rw [va_rd, if_neg (by omega)]; exact h6 d' hd'
theorem rI.cn {mc dc Y : Nat} {t r : Nat → Int32} (h : rI mc dc Y t r) {m : Nat} (hm : m < 8) {v : Int32} (hv : isN v 1) : rI mc dc Y t (va_up r (13 + m) v) := by
  obtain ⟨⟨a1, a2, a3, a4, a5⟩, ⟨b1, b2, b3, b4, b5⟩, h3, h4, h5, h6⟩ := h
  refine ⟨⟨a1, a2, a3, a4, by rw [va_rd, if_neg (by omega)]; exact a5⟩, ⟨by rw [va_rd, if_neg (by omega)]; exact b1, by rw [va_rd, if_neg (by omega)]; exact b2, by rw [va_rd, if_neg (by omega)]; exact b3, by rw [va_rd, if_neg (by omega)]; exact b4, by rw [va_rd, if_neg (by omega)]; exact b5⟩, fun m' hm' => ?_, fun m' d' hm' hd' => ?_, fun m' y hm' hy => ?_, fun d' hd' => ?_⟩
  · rw [va_rd _ _ _ (5 + m'), if_neg (by omega), va_rd _ _ _ (21 + m'), if_neg (by omega), va_rd _ _ _ (13 + m')]
    obtain ⟨c1, c2, c3⟩ := h3 m' hm'
    refine ⟨c1, ?_, c3⟩
    by_cases e : 13 + m' = 13 + m
    · rw [if_pos e]; exact hv
    · rw [if_neg e]; exact c2
  · rw [va_rd, if_neg (by omega), va_rd, if_neg (by omega)]; exact h4 m' d' hm' hd'
  · rw [va_rd, if_neg (by omega), va_rd, if_neg (by omega)]; exact h5 m' y hm' hy
  · rw [va_rd, if_neg (by omega)]; exact h6 d' hd'
/-- a member leaves: state and installments -/
theorem rI.lv {mc dc Y : Nat} {t r : Nat → Int32} (h : rI mc dc Y t r) {m : Nat} (hm : m < 8) {v x : Int32} (hv : isN v 2) (hx : isN x 10) (h1 : v = nI 1 → x ≠ 0) (h0 : ∀ d, d < 4 → r (29 + 4 * m + d) = 0) : rI mc dc Y t (va_up (va_up r (5 + m) v) (21 + m) x) := by
  obtain ⟨⟨a1, a2, a3, a4, a5⟩, ⟨b1, b2, b3, b4, b5⟩, h3, h4, h5, h6⟩ := h
  refine ⟨⟨a1, a2, a3, a4, by rw [va_rd, if_neg (by omega), va_rd, if_neg (by omega)]; exact a5⟩, ⟨by rw [va_rd, if_neg (by omega), va_rd, if_neg (by omega)]; exact b1, by rw [va_rd, if_neg (by omega), va_rd, if_neg (by omega)]; exact b2, by rw [va_rd, if_neg (by omega), va_rd, if_neg (by omega)]; exact b3, by rw [va_rd, if_neg (by omega), va_rd, if_neg (by omega)]; exact b4, by rw [va_rd, if_neg (by omega), va_rd, if_neg (by omega)]; exact b5⟩, fun m' hm' => ?_, fun m' d' hm' hd' => ?_, fun m' y hm' hy => ?_, fun d' hd' => ?_⟩
  · rw [va_rd _ _ _ (5 + m'), if_neg (by omega), va_rd _ _ _ (13 + m'), if_neg (by omega), va_rd _ _ _ (21 + m'), va_rd _ _ _ (5 + m'), va_rd _ _ _ (13 + m'), if_neg (by omega : ¬ 13 + m' = 5 + m), va_rd _ _ _ (21 + m'), if_neg (by omega : ¬ 21 + m' = 5 + m)]
    by_cases e : m' = m
    · subst e
      rw [if_pos rfl, if_pos rfl]
      exact ⟨hv, (h3 m' hm').2.1, hx, h1⟩
    · rw [if_neg (by omega), if_neg (by omega)]; exact h3 m' hm'
  · rw [va_rd, if_neg (by omega), va_rd, if_neg (by omega), va_rd, if_neg (by omega), va_rd]
    by_cases e : m' = m
    · subst e
      exact ⟨(h4 m' d' hm' hd').1, fun _ => h0 d' hd'⟩
    · rw [if_neg (by omega)]; exact h4 m' d' hm' hd'
  · rw [va_rd, if_neg (by omega), va_rd, if_neg (by omega), va_rd, if_neg (by omega), va_rd, if_neg (by omega)]; exact h5 m' y hm' hy
  · rw [va_rd, if_neg (by omega), va_rd, if_neg (by omega)]; exact h6 d' hd'
theorem cn_lo {K f u mc dc : Nat} {z : xSt} (h : cnB z 0) : cnB (keZ K z f u 0 mc dc) 0 := fun m hm => by rw [keZ_o (by unfold oM; omega) (by unfold oM; omega)]; exact h m hm
theorem cn_lo1 {K f u mc dc : Nat} {z : xSt} (h : cnB z 1) : cnB (keZ K z f u 0 mc dc) 1 := fun m hm => by rw [keZ_o (by unfold oM; omega) (by unfold oM; omega)]; exact h m hm
theorem kixK {K f u : Nat} (h1 : u ≤ K) (h2 : K < 10 → f = 0) (h3 : f < 10) (hK : K ≤ 10) : kix f u ≤ K := by
  by_cases e : K < 10
  · unfold kix kf kc
    rw [if_neg (by omega), if_neg (by omega), h2 e, Nat.zero_add, Nat.mod_eq_of_lt (by omega)]
    exact h1
  · have : kix f u < 10 := Nat.mod_lt _ (by omega)
    omega
/-- the small changes: one cell of block 0 and one of the row -/
theorem jH.one {K mc dc Y u f : Nat} {zc zm : xSt} (hH : jH K mc dc Y u f zc zm) (hQ : jQb zc zm) (h8 : zc.1 0 8 = zm.1 0 28) (hc : cnB zc 0 ∧ cnB zc 1) {c2 : xSt} {r2 : Nat → Int32} {x : Int32} {Y2 : Nat}
    (h1 : ∀ o, (o < 19 ∨ 67 ≤ o) → c2.1 o = (keZ K zc f u 0 mc dc).1 o) (hc0 : cnB c2 0) (hE : eqB c2 0 mc dc (zm.1 2) r2) (hI : rI mc dc Y2 (zm.1 2) r2) (hY : Y2 ≤ 24) : jJ (keK K f u) c2 (ur (kpS (u1 zm 0 0 x) u) 4 r2) := by
  have hu10 : u ≤ 10 := Nat.le_trans hH.1.2.2.2.2.1 hH.1.2.2.2.2.2.2
  refine jH.chg (Y := Y) (zm := u1 zm 0 0 x) ?_ ?_ ?_ (fun o ho => h1 o (by omega)) hc0 ?_ (fun o ho => ?_) ⟨?_, ?_, ?_⟩ ?_ ?_ hY
  · obtain ⟨⟨d1, d2, d3⟩, ⟨f1, f2, f3⟩, g1⟩ := hH
    refine ⟨⟨d1, by rw [u1_sne _ _ _ (by omega)]; exact d2, d3⟩, ⟨by rw [u1_ne _ (by omega), u1_ne _ (by omega)]; exact f1, by rw [u1_ne _ (by omega), u1_ne _ (by omega)]; exact f2, f3⟩, fun j hj => ?_⟩
    rw [u1_ne _ (by omega), u1_ne _ (by omega)]
    exact g1 j hj
  · obtain ⟨q, a1, a2, a3, a4⟩ := hQ
    exact ⟨q, a1, by rw [u1_sne _ _ _ (by omega)]; exact a2, a3, fun j hj => by rw [u1_ne _ (by omega)]; exact a4 j hj⟩
  · rw [u1_sne _ _ _ (by omega)]; exact h8
  · intro m hm
    rw [h1 (oM 1 m) (by unfold oM; omega)]
    exact cn_lo1 hc.2 m hm
  · rw [ur_ne _ _ (by omega)]
  · rw [ur_ne _ _ (by omega), kpS_0 (by omega)]
  · rw [ur_ne _ _ (by omega)]; exact kpS_8
  · rw [ur_ne _ _ (by omega), kpS_0 (by omega)]
  · rw [u1_ne _ (by omega), ur_at]; exact hE
  · rw [u1_ne _ (by omega), ur_at]; exact hI
theorem u1_ur4 (z : xSt) (k : Nat) (v : Int32) : u1 z 4 k v = ur z 4 (va_up (z.1 4) k v) := rfl
theorem kp4 {z : xSt} {u : Nat} {x : Int32} : (kpS (u1 z 0 0 x) u).1 4 = z.1 4 := by rw [kpS_o (by omega) (by omega), u1_ne _ (by omega)]
theorem u1_2r4 (z : xSt) (a b : Nat) (x y : Int32) : u1 (u1 z 4 a x) 4 b y = ur z 4 (va_up (va_up (z.1 4) a x) b y) := by rw [u1_ur4 z, u1_ur]
set_option maxRecDepth 100000 in
set_option maxHeartbeats 1000000 in
theorem s_trade (l : Launch) (x y a1 : Int32) : lG l jJ yX9_trade cX9_trade 5 (some FieldType.int) rm_X9_trade yX10_trade cX10_trade 5 (some FieldType.int) rm_X10_trade [.int x, .int y, .int a1] := by
  intro G w v K zc zm sz hw hv hJ
  obtain ⟨hQ, h28, hcn, mc, dc, Y, u, f, hH⟩ := id hJ
  obtain ⟨⟨d1, d2, d3, d4, d5, d6, d7⟩, ⟨hE, hI, hY⟩, -⟩ := id hH
  obtain ⟨hB, em, ed, eY⟩ := hE.ok hI hY
  obtain ⟨hO, qm, qd, qY⟩ := hI.ok hY
  have h8 : mc ≤ 8 := hI.1.2.1
  have h4 : dc ≤ 4 := hI.1.2.2.2.1
  have hu10 : u ≤ 10 := Nat.le_trans d5 d7
  have hix := kixK d5 d6 d4 d7
  refine ⟨_, _, c_X9_trade l G w K hw zc sz x y a1 f u hB hcn.1 d3 d1 d4 hu10 hix , fun sz => c_X10_trade l G v hv zm sz x y a1 u hO d2 hu10, fun r u h => ?_, ?_⟩
  · obtain ⟨K2, -, hX, -⟩ := h; exact hX
  rintro a u1v b z2 ⟨K2, hK2, -, e1⟩ e2
  rw [em, ed] at e1
  rw [qm, qd] at e2
  by_cases c1 : inR x mc ∧ inR y dc
  · rw [if_neg (not_not_intro c1)] at e1 e2
    obtain ⟨m, hm, rfl⟩ := inR_nat c1.1 (by omega)
    obtain ⟨d, hd, rfl⟩ := inR_nat c1.2 (by omega)
    rw [nI_clamp (by omega), nI_clamp (by omega)] at e1 e2
    have eS := (hE.2.2.1 m hm).2.2.1
    have eP := hE.2.2.2.1 m d hm (by omega)
    rw [eS, eP] at e1
    by_cases c2 : a1 < nI 1 ∨ ¬ a1 ≤ nI 100000
    · rw [if_pos c2] at e1 e2
      obtain ⟨ea, e3⟩ := Prod.mk.inj e1
      obtain ⟨eK, ez⟩ := Prod.mk.inj e3
      obtain ⟨eb, em2⟩ := Prod.mk.inj e2
      exact ⟨ea.trans eb.symm, K, eK ▸ hK2, by rw [ez, em2]; exact hJ.u0 _⟩
    · rw [if_neg c2] at e1 e2
      by_cases c3 : ¬ zm.1 4 (5 + m) = 0
      · rw [if_pos c3] at e1 e2
        obtain ⟨ea, e3⟩ := Prod.mk.inj e1
        obtain ⟨eK, ez⟩ := Prod.mk.inj e3
        obtain ⟨eb, em2⟩ := Prod.mk.inj e2
        exact ⟨ea.trans eb.symm, K, eK ▸ hK2, by rw [ez, em2]; exact hJ.u0 _⟩
      · rw [if_neg c3] at e1 e2
        by_cases c4 : ¬ zm.1 4 (29 + 4 * m + d) + a1 ≤ nI 1000000
        · rw [if_pos c4] at e1 e2
          obtain ⟨ea, e3⟩ := Prod.mk.inj e1
          obtain ⟨eK, ez⟩ := Prod.mk.inj e3
          obtain ⟨eb, em2⟩ := Prod.mk.inj e2
          exact ⟨ea.trans eb.symm, K, eK ▸ hK2, by rw [ez, em2]; exact hJ.u0 _⟩
        · rw [if_neg c4] at e1 e2
          obtain ⟨ea, e3⟩ := Prod.mk.inj e1
          obtain ⟨eK, ez⟩ := Prod.mk.inj e3
          obtain ⟨eb, em2⟩ := Prod.mk.inj e2
          obtain ⟨p0, hp0, ep⟩ := (hI.2.2.2.1 m d (by omega) (by omega)).1
          obtain ⟨k0, hk0, rfl⟩ := nI_of2 (x := a1) (M := nI 100000) (n := 100000) rfl (fun h => c2 (Or.inl (Int32.lt_trans h (by decide)))) (Decidable.of_not_not (fun h => c2 (Or.inr h)))
          rw [ep, nI_add] at c4 ez em2
          have hle : p0 + k0 ≤ 1000000 := (nI_leI (by omega) (by omega)).mp (Decidable.of_not_not c4)
          refine ⟨ea.trans eb.symm, keK K f u, eK ▸ hK2, ?_⟩
          rw [ez, em2, u1_ur4, kp4]
          refine hH.one hQ h28 hcn (fun o ho => u1_ne _ (by unfold oPt; omega)) (fun m2 hm2 => ?_) ?_ ?_ hY
          · rw [u1_ne _ (by unfold oPt oM; omega)]; exact cn_lo hcn.1 m2 hm2
          · exact (hE.fr (fun o h1 h2 => keZ_o (by omega) (by omega)) h8 h4).pt hm (by omega) h8 h4 _
          · exact hI.pt (by omega) (by omega) hle (Decidable.of_not_not c3)
  · rw [if_pos c1] at e1 e2
    obtain ⟨ea, e3⟩ := Prod.mk.inj e1
    obtain ⟨eK, ez⟩ := Prod.mk.inj e3
    obtain ⟨eb, em2⟩ := Prod.mk.inj e2
    exact ⟨ea.trans eb.symm, K, eK ▸ hK2, by rw [ez, em2]; exact hJ.u0 _⟩
set_option maxRecDepth 100000 in
set_option maxHeartbeats 1000000 in
theorem s_setSetting (l : Launch) (x y : Int32) : lG l jJ yX9_setSetting cX9_setSetting 4 (some FieldType.int) rm_X9_setSetting yX10_setSetting cX10_setSetting 4 (some FieldType.int) rm_X10_setSetting [.int x, .int y] := by
  intro G w v K zc zm sz hw hv hJ
  obtain ⟨hQ, h28, hcn, mc, dc, Y, u, f, hH⟩ := id hJ
  obtain ⟨⟨d1, d2, d3, d4, d5, d6, d7⟩, ⟨hE, hI, hY⟩, -⟩ := id hH
  obtain ⟨hB, em, ed, eY⟩ := hE.ok hI hY
  obtain ⟨hO, qm, qd, qY⟩ := hI.ok hY
  have h8 : mc ≤ 8 := hI.1.2.1
  have h4 : dc ≤ 4 := hI.1.2.2.2.1
  have hu10 : u ≤ 10 := Nat.le_trans d5 d7
  have hix := kixK d5 d6 d4 d7
  refine ⟨_, _, c_X9_setSetting l G w K hw zc sz x y f u hB hcn.1 d3 d1 d4 hu10 hix , fun sz => c_X10_setSetting l G v hv zm sz x y u  d2 hu10, fun r u h => ?_, ?_⟩
  · obtain ⟨K2, -, hX, -⟩ := h; exact hX
  rintro a u1v b z2 ⟨K2, hK2, -, e1⟩ e2
  rw [em, ed] at e1
  by_cases c1 : ¬ inR x 5 ∨ ¬ (xLea x.toNatClampNeg ≤ y ∧ y ≤ xGre x.toNatClampNeg)
  · have c2 : ¬ inR x 5 ∨ y < xLea x.toNatClampNeg ∨ ¬ y ≤ xGre x.toNatClampNeg := by
      rcases c1 with h | h
      · exact Or.inl h
      · by_cases h2 : xLea x.toNatClampNeg ≤ y
        · exact Or.inr (Or.inr (fun h3 => h ⟨h2, h3⟩))
        · exact Or.inr (Or.inl (Int32.not_le.mp h2))
    rw [if_pos c1] at e1
    rw [if_pos c2] at e2
    obtain ⟨ea, e3⟩ := Prod.mk.inj e1
    obtain ⟨eK, ez⟩ := Prod.mk.inj e3
    obtain ⟨eb, em2⟩ := Prod.mk.inj e2
    exact ⟨ea.trans eb.symm, K, eK ▸ hK2, by rw [ez, em2]; exact hJ.u0 _⟩
  · have c2 : ¬ (¬ inR x 5 ∨ y < xLea x.toNatClampNeg ∨ ¬ y ≤ xGre x.toNatClampNeg) := by
      rintro (h | h | h)
      · exact c1 (Or.inl h)
      · exact c1 (Or.inr (fun h2 => absurd h (Int32.not_lt.mpr h2.1)))
      · exact c1 (Or.inr (fun h2 => h h2.2))
    rw [if_neg c1] at e1
    rw [if_neg c2] at e2
    obtain ⟨k, hk, rfl⟩ := inR_nat (Decidable.of_not_not (fun h => c1 (Or.inl h)) : inR x 5) (by omega)
    rw [nI_clamp (by omega)] at e1 e2 c1
    rw [Nat.zero_add] at e2
    obtain ⟨ea, e3⟩ := Prod.mk.inj e1
    obtain ⟨eK, ez⟩ := Prod.mk.inj e3
    obtain ⟨eb, em2⟩ := Prod.mk.inj e2
    have hr : xLea k ≤ y ∧ y ≤ xGre k := Decidable.of_not_not (fun h => c1 (Or.inr h))
    refine ⟨ea.trans ((hE.2.1 k hk).trans eb.symm), keK K f u, eK ▸ hK2, ?_⟩
    rw [ez, em2, u1_ur4, kp4]
    refine hH.one hQ h28 hcn (fun o ho => u1_ne _ (by unfold oSt; omega)) (fun m2 hm2 => ?_) ?_ ?_ hY
    · rw [u1_ne _ (by unfold oSt oM; omega)]; exact cn_lo hcn.1 m2 hm2
    · exact (hE.fr (fun o h1 h2 => keZ_o (by omega) (by omega)) h8 h4).st hk h8 h4 _
    · exact hI.st hk hr.1 hr.2
theorem ct_sum {g h : Nat → Int32} : ∀ {n : Nat}, n ≤ 8 → (∀ j, j < n → g j = h j) → (∀ j, j < n → isN (h j) 1) → nI (ctN (fun m => decide (¬ g m = 0)) n) = bx_sum h n
  | 0, _, _, _ => rfl
  | n + 1, hn, h1, h2 => by
    show nI (if decide (¬ g n = 0) = true then ctN (fun m => decide (¬ g m = 0)) n + 1 else ctN (fun m => decide (¬ g m = 0)) n) = bx_sum h n + h n
    rw [← ct_sum (n := n) (by omega) (fun j hj => h1 j (by omega)) (fun j hj => h2 j (by omega)), h1 n (by omega)]
    obtain ⟨a, ha, e⟩ := h2 n (by omega)
    rw [e]
    rcases (show a = 0 ∨ a = 1 by omega) with rfl | rfl
    · rw [if_neg (by decide)]; exact (Int32.add_zero _).symm
    · rw [if_pos (by decide), nI_add]
set_option maxRecDepth 100000 in
set_option maxHeartbeats 1000000 in
theorem s_setConsent (l : Launch) (x y : Int32) (hy : y = 0 ∨ y = 1) : lG l jJ yX9_setConsent cX9_setConsent 5 (some FieldType.int) rm_X9_setConsent yX10_setConsent cX10_setConsent 5 (some FieldType.int) rm_X10_setConsent [.int x, .int y] := by
  intro G w v K zc zm sz hw hv hJ
  obtain ⟨hQ, h28, hcn, mc, dc, Y, u, f, hH⟩ := id hJ
  obtain ⟨⟨d1, d2, d3, d4, d5, d6, d7⟩, ⟨hE, hI, hY⟩, -⟩ := id hH
  obtain ⟨hB, em, ed, eY⟩ := hE.ok hI hY
  obtain ⟨hO, qm, qd, qY⟩ := hI.ok hY
  have h8 : mc ≤ 8 := hI.1.2.1
  have h4 : dc ≤ 4 := hI.1.2.2.2.1
  have hu10 : u ≤ 10 := Nat.le_trans d5 d7
  have hix := kixK d5 d6 d4 d7
  refine ⟨_, _, c_X9_setConsent l G w K hw zc sz x y f u hB hcn.1 d3 d1 d4 hu10 hix hy, fun sz => c_X10_setConsent l G v hv zm sz x y u hO d2 hu10, fun r u h => ?_, ?_⟩
  · obtain ⟨K2, -, hX, -⟩ := h; exact hX
  rintro a u1v b z2 ⟨K2, hK2, -, e1⟩ e2
  rw [em, ed] at e1
  rw [qm] at e2
  by_cases c1 : inR x mc
  · rw [if_neg (not_not_intro c1)] at e1 e2
    obtain ⟨m, hm, rfl⟩ := inR_nat c1 (by omega)
    rw [nI_clamp (by omega)] at e1 e2
    obtain ⟨ea, e3⟩ := Prod.mk.inj e1
    obtain ⟨eK, ez⟩ := Prod.mk.inj e3
    obtain ⟨eb, em2⟩ := Prod.mk.inj e2
    have ev : cbQ y = y := by rcases hy with rfl | rfl <;> rfl
    rw [ev] at eb em2
    have hE2 : eqB (u1 (keZ K zc f u 0 mc dc) (oM 0 m) 1 y) 0 mc dc (zm.1 2) (va_up (zm.1 4) (13 + m) y) := (hE.fr (fun o h1 h2 => keZ_o (by omega) (by omega)) h8 h4).mb hm (Or.inl rfl) h8 h4 _
    have hI2 : rI mc dc Y (zm.1 2) (va_up (zm.1 4) (13 + m) y) := hI.cn (by omega) (by rcases hy with rfl | rfl; exact ⟨0, by omega, rfl⟩; exact ⟨1, by omega, rfl⟩)
    refine ⟨?_, keK K f u, eK ▸ hK2, ?_⟩
    · rw [ea, eb, u1_ur4, kp4, ur_at]
      exact ct_sum (by omega) (fun j hj => (hE2.2.2.1 j hj).2.1) (fun j hj => (hI2.2.2.1 j (by omega)).2.1)
    rw [ez, em2, u1_ur4, kp4]
    refine hH.one hQ h28 hcn (fun o ho => u1_ne _ (by unfold oM; omega)) (fun m2 hm2 => ?_) hE2 hI2 hY
    by_cases e : m2 = m
    · rw [e, u1_self]; exact hy
    · rw [u1_ne _ (by unfold oM; omega)]; exact cn_lo hcn.1 m2 hm2
  · rw [if_pos c1] at e1 e2
    obtain ⟨ea, e3⟩ := Prod.mk.inj e1
    obtain ⟨eK, ez⟩ := Prod.mk.inj e3
    obtain ⟨eb, em2⟩ := Prod.mk.inj e2
    exact ⟨ea.trans eb.symm, K, eK ▸ hK2, by rw [ez, em2]; exact hJ.u0 _⟩
theorem xan_01 (p : Nat → Bool) : ∀ n i, xan p n i = 0 ∨ xan p n i = 1
  | 0, _ => Or.inl rfl
  | n + 1, i => by
    show (if p i = true then (1 : Int32) else xan p n (i + 1)) = 0 ∨ (if p i = true then (1 : Int32) else xan p n (i + 1)) = 1
    by_cases h : p i = true
    · rw [if_pos h]; exact Or.inr rfl
    · rw [if_neg h]; exact xan_01 p n (i + 1)
theorem xan_0 {p : Nat → Bool} : ∀ {n i : Nat}, xan p n i = 0 → ∀ j, i ≤ j → j < i + n → p j = false
  | 0, i, _, j, h1, h2 => absurd h2 (by omega)
  | n + 1, i, h, j, h1, h2 => by
    have h : (if p i = true then (1 : Int32) else xan p n (i + 1)) = 0 := h
    by_cases hp : p i = true
    · rw [if_pos hp] at h; exact absurd h (by decide)
    · rw [if_neg hp] at h
      by_cases e : j = i
      · rw [e]; exact Bool.eq_false_iff.mpr hp
      · exact xan_0 h j (by omega) (by omega)
theorem bx_nat {f : Nat → Int32} {B : Nat} : ∀ {n : Nat}, (∀ i, i < n → isN (f i) B) → ∃ a, a ≤ n * B ∧ bx_sum f n = nI a
  | 0, _ => ⟨0, by omega, rfl⟩
  | n + 1, h => by
    obtain ⟨a, ha, e⟩ := bx_nat (n := n) (fun i hi => h i (by omega))
    obtain ⟨c, hc, e2⟩ := h n (by omega)
    refine ⟨a + c, by rw [Nat.add_mul]; omega, ?_⟩
    show bx_sum f n + f n = _
    rw [e, e2, nI_add]
theorem eq_nat {z : xSt} {mc dc Y : Nat} (hI : rI mc dc Y (z.1 2) (z.1 4)) {m : Nat} (hm : m < 8) : ∃ q, q ≤ 120000000 ∧ eqQ z m = nI q := by
  obtain ⟨a, ha, e⟩ := bx_nat (f := lfQ z m) (B := 5000000) (n := 24) (fun y hy => (hI.2.2.2.2.1 m y hm hy).1)
  exact ⟨a, by omega, e⟩
theorem cn_2 {z : xSt} {b m m2 j k : Nat} {x y : Int32} (h : j ≠ 1 ∧ k ≠ 1 := by omega) : (u1 (u1 z (oM b m) j x) (oM b m) k y).1 (oM b m2) 1 = z.1 (oM b m2) 1 := by
  rw [u1_rd, if_neg (fun h2 => h.2 h2.2.symm), u1_rd, if_neg (fun h2 => h.1 h2.2.symm)]
set_option maxRecDepth 100000 in
set_option maxHeartbeats 1000000 in
theorem s_leave (l : Launch) (x : Int32) : lG l jJ yX9_leave cX9_leave 3 (some FieldType.int) rm_X9_leave yX10_leave cX10_leave 3 (some FieldType.int) rm_X10_leave [.int x] := by
  intro G w v K zc zm sz hw hv hJ
  obtain ⟨hQ, h28, hcn, mc, dc, Y, u, f, hH⟩ := id hJ
  obtain ⟨⟨d1, d2, d3, d4, d5, d6, d7⟩, ⟨hE, hI, hY⟩, -⟩ := id hH
  obtain ⟨hB, em, ed, eY⟩ := hE.ok hI hY
  obtain ⟨hO, qm, qd, qY⟩ := hI.ok hY
  have h8 : mc ≤ 8 := hI.1.2.1
  have h4 : dc ≤ 4 := hI.1.2.2.2.1
  have hu10 : u ≤ 10 := Nat.le_trans d5 d7
  have hix := kixK d5 d6 d4 d7
  refine ⟨_, _, c_X9_leave l G w K hw zc sz x f u hB hcn.1 d3 d1 d4 hu10 hix , fun sz => c_X10_leave l G v hv zm sz x u hO d2 hu10, fun r u h => ?_, ?_⟩
  · obtain ⟨K2, -, hX, -⟩ := h; exact hX
  rintro a u1v b z2 ⟨K2, hK2, -, e1⟩ e2
  rw [em, ed] at e1
  rw [qm] at e2
  by_cases c1 : inR x mc
  · rw [if_neg (not_not_intro c1)] at e1 e2
    obtain ⟨m, hm, rfl⟩ := inR_nat c1 (by omega)
    rw [nI_clamp (by omega)] at e1 e2
    have eS := (hE.2.2.1 m hm).2.2.1
    have eX : xan (fun y => decide (0 < zc.1 (oPt 0 m) y)) 4 0 = xan (fun y => decide (0 < zm.1 4 (29 + 4 * m + y))) 4 0 := xan_cong (fun j _ h2 => by rw [hE.2.2.2.1 m j hm (by omega)])
    rw [eS, eX] at e1
    by_cases c2 : ¬ zm.1 4 (5 + m) = 0
    · rw [if_pos (Or.inl c2)] at e1
      rw [if_pos c2] at e2
      obtain ⟨ea, e3⟩ := Prod.mk.inj e1
      obtain ⟨eK, ez⟩ := Prod.mk.inj e3
      obtain ⟨eb, em2⟩ := Prod.mk.inj e2
      exact ⟨ea.trans eb.symm, K, eK ▸ hK2, by rw [ez, em2]; exact hJ.u0 _⟩
    · rw [if_neg c2] at e2
      rcases xan_01 (fun y => decide (0 < zm.1 4 (29 + 4 * m + y))) 4 0 with c3 | c3
      · rw [c3, if_neg (fun h => h.elim c2 (fun h => h rfl))] at e1
        rw [c3, if_neg (by decide)] at e2
        obtain ⟨ea, e3⟩ := Prod.mk.inj e1
        obtain ⟨eK, ez⟩ := Prod.mk.inj e3
        have hE1 := hE.fr (z2 := keZ K zc f u 0 mc dc) (fun o h1 h2 => keZ_o (by omega) (by omega)) h8 h4
        have hp0 : ∀ d, d < 4 → zm.1 4 (29 + 4 * m + d) = 0 := fun d hd => by
          obtain ⟨p0, hp0, ep⟩ := (hI.2.2.2.1 m d (by omega) hd).1
          have hn := xan_0 c3 d (by omega) (by omega)
          rw [ep] at hn ⊢
          by_cases e : p0 = 0
          · rw [e]; rfl
          · exact absurd (nI_0lt (by omega) (by omega)) (of_decide_eq_false hn)
        obtain ⟨s2, hs1, hs2, es⟩ := hI.2.1.2.2.1
        have e5 := hE.2.1 2 (by omega)
        have hq : bx_sum ((keZ K zc f u 0 mc dc).1 (oLf 0 m)) 25 = eqQ zm m := by rw [keZ_o (by unfold oLf; omega) (by unfold oLf; omega)]; exact eq_eq hE hm
        obtain ⟨q, hq9, eq9⟩ := eq_nat hI (by omega : m < 8)
        unfold slv at ez ea
        unfold lvQ at e2
        rw [hq, eq9] at ez ea
        rw [eq9] at e2
        by_cases c4 : q = 0
        · rw [c4, if_neg (by decide)] at ez ea
          rw [c4, if_pos (by decide)] at e2
          obtain ⟨eb, em2⟩ := Prod.mk.inj e2
          refine ⟨?_, keK K f u, eK ▸ hK2, ?_⟩
          · rw [ea, eb, u1_self]; rfl
          rw [ez, em2, u1_2r4, kp4]
          refine hH.one hQ h28 hcn (fun o ho => by rw [u1_ne _ (by unfold oM; omega), u1_ne _ (by unfold oM; omega)]) (fun m2 hm2 => ?_) ((hE1.mb hm (k := 2) (by omega) h8 h4 _).mb hm (k := 3) (by omega) h8 h4 _) (hI.lv (by omega) ⟨2, by omega, rfl⟩ ⟨0, by omega, rfl⟩ (fun h => absurd h (by decide)) hp0) hY
          rw [cn_2 (by omega)]; exact cn_lo hcn.1 m2 hm2
        · rw [if_pos (nI_0lt (by omega) (by omega)), e5, es] at ez ea
          rw [if_neg (nI_ne0 (by omega) (by omega)), es] at e2
          obtain ⟨eb, em2⟩ := Prod.mk.inj e2
          refine ⟨?_, keK K f u, eK ▸ hK2, ?_⟩
          · rw [ea, eb, u1_self]
          rw [ez, em2, u1_2r4, kp4]
          refine hH.one hQ h28 hcn (fun o ho => by rw [u1_ne _ (by unfold oM; omega), u1_ne _ (by unfold oM; omega)]) (fun m2 hm2 => ?_) ((hE1.mb hm (k := 2) (by omega) h8 h4 _).mb hm (k := 3) (by omega) h8 h4 _) (hI.lv (by omega) ⟨1, by omega, rfl⟩ ⟨s2, by omega, rfl⟩ (fun _ => nI_ne0 (by omega) (by omega)) hp0) hY
          rw [cn_2 (by omega)]; exact cn_lo hcn.1 m2 hm2
      · rw [c3, if_pos (Or.inr (by decide))] at e1
        rw [c3, if_pos rfl] at e2
        obtain ⟨ea, e3⟩ := Prod.mk.inj e1
        obtain ⟨eK, ez⟩ := Prod.mk.inj e3
        obtain ⟨eb, em2⟩ := Prod.mk.inj e2
        exact ⟨ea.trans eb.symm, K, eK ▸ hK2, by rw [ez, em2]; exact hJ.u0 _⟩
  · rw [if_pos c1] at e1 e2
    obtain ⟨ea, e3⟩ := Prod.mk.inj e1
    obtain ⟨eK, ez⟩ := Prod.mk.inj e3
    obtain ⟨eb, em2⟩ := Prod.mk.inj e2
    exact ⟨ea.trans eb.symm, K, eK ▸ hK2, by rw [ez, em2]; exact hJ.u0 _⟩
