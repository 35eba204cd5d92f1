/-! WHAT A CLOSING WOULD GIVE -/
theorem i32_ss (a c : Int32) : a - (a - c) = c := by
  rw [Int32.sub_eq_add_neg a (a - c), Int32.sub_eq_add_neg a c, Int32.neg_add, Int32.sub_neg, ← Int32.add_assoc, Int32.add_right_neg, Int32.zero_add]
theorem i32_lc (a c d : Int32) : a + (c + d) = c + (a + d) := by rw [← Int32.add_assoc, Int32.add_comm a c, Int32.add_assoc]
theorem nI_inj {a c : Nat} (ha : a < 2147483648) (hc : c < 2147483648) (h : nI a = nI c) : a = c := by
  have h2 := congrArg Int32.toNatClampNeg h
  rw [nI_clamp ha, nI_clamp hc] at h2
  exact h2
theorem i32_s2 (a c d : Int32) : a - c - d = a - (c + d) := by
  simp only [Int32.sub_eq_add_neg, Int32.neg_add, Int32.add_assoc]
theorem setl_o {z : xSt} {b k Y o : Nat} (h0 : o ≠ oB b) (h1 : o ≠ oM b k) (h2 : o ≠ oPd b k) (h3 : o ≠ oLf b k) (h4 : o ≠ oKd b k) : (setl z b k Y).1 o = z.1 o := by
  unfold setl
  dsimp only
  split
  · rw [u1_ne _ h0]
    split
    · rw [u1_ne _ h4, u1_ne _ h3, u1_ne _ h2]
    · rw [u1_ne _ h2]
  · split
    · rw [u1_ne _ h0, u1_ne _ h0, u1_ne _ h1, ur_ne _ _ h3]
    · rfl
theorem setl_M {z : xSt} {b k Y j : Nat} (hj : j ≠ 5) : (setl z b k Y).1 (oM b k) j = z.1 (oM b k) j := by
  unfold setl
  dsimp only
  split
  · rw [u1_ne _ (by unfold oM oB; omega)]
    split
    · rw [u1_ne _ (by unfold oM oKd; omega), u1_ne _ (by unfold oM oLf; omega), u1_ne _ (by unfold oM oPd; omega)]
    · rw [u1_ne _ (by unfold oM oPd; omega)]
  · split
    · rw [u1_ne _ (by unfold oM oB; omega), u1_ne _ (by unfold oM oB; omega), u1_sne _ _ _ hj, ur_ne _ _ (by unfold oM oLf; omega)]
    · rfl
def rsT (z : xSt) (b k : Nat) : Int32 := if z.1 (oM b k) 4 < 0 then (rcp 25 (z.1 (oLf b k)) (-z.1 (oM b k) 4)).2 else 0
def csT (z : xSt) (b k : Nat) : Int32 := if 0 < z.1 (oM b k) 4 then cashOf z b k else 0
def plT (z : xSt) (b k : Nat) : Int32 := if z.1 (oM b k) 2 = 1 then rup (bx_sum (z.1 (oLf b k)) 25) (z.1 (oM b k) 3) else 0
theorem setl_6 {z : xSt} {b k Y : Nat} : (setl z b k Y).1 (oB b) 6 = z.1 (oB b) 6 - rsT z b k := by
  unfold setl rsT
  dsimp only
  split
  · rename_i h
    rw [u1_sne _ _ _ (by omega), if_neg (fun h2 => Int32.lt_irrefl (Int32.lt_trans h h2)), Int32.sub_zero]
    split
    · rw [u1_ne _ (by unfold oB oKd; omega), u1_ne _ (by unfold oB oLf; omega), u1_ne _ (by unfold oB oPd; omega)]
    · rw [u1_ne _ (by unfold oB oPd; omega)]
  · split
    · rw [u1_self, i32_ss]
    · rw [Int32.sub_zero]
theorem setl_Pd {z : xSt} {b k Y j : Nat} : (setl z b k Y).1 (oPd b k) j = z.1 (oPd b k) j + (if j = 0 then csT z b k else 0) := by
  unfold setl csT
  dsimp only
  split
  · rw [u1_ne _ (by unfold oPd oB; omega)]
    by_cases hj : j = 0
    · rw [if_pos hj, hj]
      split
      · rw [u1_ne _ (by unfold oPd oKd; omega), u1_ne _ (by unfold oPd oLf; omega), u1_self]
      · rw [u1_self]
    · rw [if_neg hj, Int32.add_zero]
      split
      · rw [u1_ne _ (by unfold oPd oKd; omega), u1_ne _ (by unfold oPd oLf; omega), u1_sne _ _ _ hj]
      · rw [u1_sne _ _ _ hj]
  · have e0 : (if j = 0 then (0 : Int32) else 0) = 0 := by split <;> rfl
    rw [e0, Int32.add_zero]
    split
    · rw [u1_ne _ (by unfold oPd oB; omega), u1_ne _ (by unfold oPd oB; omega), u1_ne _ (by unfold oPd oM; omega), ur_ne _ _ (by unfold oPd oLf; omega)]
    · rfl
def tS (z : xSt) (b n : Nat) (s : xSt) : Prop :=
  (∀ o, o ≠ oB b → (∀ k, k < n → o ≠ oM b k ∧ o ≠ oPd b k ∧ o ≠ oLf b k ∧ o ≠ oKd b k) → s.1 o = z.1 o) ∧
  (∀ m j, j ≠ 5 → s.1 (oM b m) j = z.1 (oM b m) j) ∧
  (∀ m, m < n → ∀ j, s.1 (oPd b m) j = z.1 (oPd b m) j + (if j = 0 then csT z b m else 0)) ∧
  (∀ m, z.1 (oM b m) 4 = 0 → s.1 (oLf b m) = z.1 (oLf b m)) ∧
  s.1 (oB b) 6 = z.1 (oB b) 6 - bx_sum (rsT z b) n
theorem tS_all {z : xSt} {b Y : Nat} : ∀ n, tS z b n (stL z b Y n)
  | 0 => ⟨fun _ _ _ => rfl, fun _ _ _ => rfl, fun m hm => absurd hm (Nat.not_lt_zero m), fun _ _ => rfl, (Int32.sub_zero _).symm⟩
  | n + 1 => by
    obtain ⟨h1, h2, h3, h4, h5⟩ := tS_all (z := z) (b := b) (Y := Y) n
    have hM : ∀ j, j ≠ 5 → (stL z b Y n).1 (oM b n) j = z.1 (oM b n) j := fun j hj => h2 n j hj
    have hL : (stL z b Y n).1 (oLf b n) = z.1 (oLf b n) := h1 _ (by unfold oLf oB; omega) (fun k hk => by unfold oLf oM oPd oKd; omega)
    have hP : (stL z b Y n).1 (oPd b n) = z.1 (oPd b n) := h1 _ (by unfold oPd oB; omega) (fun k hk => by unfold oLf oM oPd oKd; omega)
    have hS : (stL z b Y n).1 (oSt b) = z.1 (oSt b) := h1 _ (by unfold oSt oB; omega) (fun k hk => by unfold oSt oLf oM oPd oKd; omega)
    have hr : rsT (stL z b Y n) b n = rsT z b n := by unfold rsT; rw [hM 4 (by omega), hL]
    have hc : csT (stL z b Y n) b n = csT z b n := by unfold csT cashOf; rw [hM 4 (by omega), hM 1 (by omega), hS]
    show tS z b (n + 1) (setl (stL z b Y n) b n Y)
    refine ⟨fun o a1 a2 => ?_, fun m j hj => ?_, fun m hm j => ?_, fun m hm => ?_, ?_⟩
    · obtain ⟨c1, c2, c3, c4⟩ := a2 n (by omega)
      rw [setl_o a1 c1 c2 c3 c4]
      exact h1 o a1 (fun k hk => a2 k (by omega))
    · by_cases e : m = n
      · rw [e, setl_M hj]; exact hM j hj
      · rw [setl_o (by unfold oM oB; omega) (by unfold oM; omega) (by unfold oM oPd; omega) (by unfold oM oLf; omega) (by unfold oM oKd; omega)]
        exact h2 m j hj
    · by_cases e : m = n
      · rw [e, setl_Pd, hP, hc]
      · rw [setl_o (by unfold oPd oB; omega) (by unfold oM oPd; omega) (by unfold oPd; omega) (by unfold oPd oLf; omega) (by unfold oPd oKd; omega)]
        exact h3 m (by omega) j
    · by_cases e : m = n
      · rw [e] at hm ⊢
        rw [setl_0 (by rw [hM 4 (by omega)]; exact hm)]
        exact hL
      · rw [setl_o (by unfold oLf oB; omega) (by unfold oM oLf; omega) (by unfold oPd oLf; omega) (by unfold oLf; omega) (by unfold oLf oKd; omega)]
        exact h4 m hm
    · rw [setl_6, h5, hr, i32_s2]
      rfl
theorem pIns_o {z : xSt} {b m o : Nat} (h1 : o ≠ oM b m) (h2 : o ≠ oPd b m) (h3 : o ≠ oLf b m) : (pIns z b m).1 o = z.1 o := by
  unfold pIns
  dsimp only
  split
  · rw [u1_ne _ h1, u1_ne _ h2, ur_ne _ _ h3]
  · rw [u1_ne _ h1, u1_ne _ h1, u1_ne _ h1, u1_ne _ h2, ur_ne _ _ h3]
theorem pIns_M4 {z : xSt} {b m : Nat} : (pIns z b m).1 (oM b m) 4 = z.1 (oM b m) 4 := by
  unfold pIns
  dsimp only
  split
  · rw [u1_sne _ _ _ (by omega), u1_ne _ (by unfold oM oPd; omega), ur_ne _ _ (by unfold oM oLf; omega)]
  · rw [u1_sne _ _ _ (by omega), u1_sne _ _ _ (by omega), u1_sne _ _ _ (by omega), u1_ne _ (by unfold oM oPd; omega), ur_ne _ _ (by unfold oM oLf; omega)]
theorem pIns_Pd {z : xSt} {b m j : Nat} : (pIns z b m).1 (oPd b m) j = z.1 (oPd b m) j + (if j = 2 then rup (bx_sum (z.1 (oLf b m)) 25) (z.1 (oM b m) 3) else 0) := by
  have key : ∀ s : xSt, (u1 s (oPd b m) 2 (s.1 (oPd b m) 2 + rup (bx_sum (z.1 (oLf b m)) 25) (z.1 (oM b m) 3))).1 (oPd b m) j = s.1 (oPd b m) j + (if j = 2 then rup (bx_sum (z.1 (oLf b m)) 25) (z.1 (oM b m) 3) else 0) := fun s => by
    by_cases e : j = 2
    · rw [if_pos e, e, u1_self]
    · rw [if_neg e, u1_sne _ _ _ e, Int32.add_zero]
  unfold pIns
  dsimp only
  split
  · rw [u1_ne _ (by unfold oPd oM; omega), key, ur_ne _ _ (by unfold oPd oLf; omega)]
  · rw [u1_ne _ (by unfold oPd oM; omega), u1_ne _ (by unfold oPd oM; omega), u1_ne _ (by unfold oPd oM; omega), key, ur_ne _ _ (by unfold oPd oLf; omega)]
def tP (z : xSt) (b n : Nat) (s : xSt) : Prop :=
  (∀ o, (∀ k, k < n → o ≠ oM b k ∧ o ≠ oPd b k ∧ o ≠ oLf b k ∧ o ≠ oPt b k) → s.1 o = z.1 o) ∧
  (∀ m, s.1 (oM b m) 4 = z.1 (oM b m) 4) ∧
  (∀ m, m < n → ∀ j, s.1 (oPd b m) j = z.1 (oPd b m) j + (if j = 2 then plT z b m else 0))
theorem tP_all {z : xSt} {b : Nat} : ∀ n, tP z b n (inL z b n)
  | 0 => ⟨fun _ _ => rfl, fun _ => rfl, fun m hm => absurd hm (Nat.not_lt_zero m)⟩
  | n + 1 => by
    obtain ⟨h1, h2, h3⟩ := tP_all (z := z) (b := b) n
    have hM : (inL z b n).1 (oM b n) = z.1 (oM b n) := h1 _ (fun k hk => by unfold oLf oM oPd oPt; omega)
    have hL : (inL z b n).1 (oLf b n) = z.1 (oLf b n) := h1 _ (fun k hk => by unfold oLf oM oPd oPt; omega)
    have hP : (inL z b n).1 (oPd b n) = z.1 (oPd b n) := h1 _ (fun k hk => by unfold oLf oM oPd oPt; omega)
    show tP z b (n + 1) (ur (if (inL z b n).1 (oM b n) 2 = 1 then pIns (inL z b n) b n else inL z b n) (oPt b n) (fun _ => 0))
    refine ⟨fun o a2 => ?_, fun m => ?_, fun m hm j => ?_⟩
    · obtain ⟨c1, c2, c3, c4⟩ := a2 n (by omega)
      rw [ur_ne _ _ c4, ← h1 o (fun k hk => a2 k (by omega))]
      split
      · exact pIns_o c1 c2 c3
      · rfl
    · rw [ur_ne _ _ (by unfold oM oPt; omega), ← h2 m]
      split
      · by_cases e : m = n
        · rw [e]; exact pIns_M4
        · rw [pIns_o (by unfold oM; omega) (by unfold oM oPd; omega) (by unfold oM oLf; omega)]
      · rfl
    · rw [ur_ne _ _ (by unfold oPd oPt; omega)]
      by_cases e : m = n
      · rw [e]
        unfold plT
        rw [← hM, ← hL, ← hP]
        split
        · exact pIns_Pd
        · rw [show (if j = 2 then (0 : Int32) else 0) = 0 by split <;> rfl, Int32.add_zero]
      · rw [← h3 m (by omega) j]
        split
        · rw [pIns_o (by unfold oM oPd; omega) (by unfold oPd; omega) (by unfold oPd oLf; omega)]
        · rfl
def chC (y : xSt) (m : Nat) : Int32 := if 0 < y.1 11 m ∧ y.1 4 (13 + m) = nI 1 then y.1 11 m * y.1 4 0 / nI 100 else nI 0
def chP (y : xSt) (m : Nat) : Int32 := if y.1 4 (5 + m) = nI 1 then (eqQ y m + y.1 4 (21 + m) - nI 1) / y.1 4 (21 + m) else nI 0
def wrR (y : xSt) (m : Nat) : Int32 := if nI 0 < -(y.1 11 m) - eqQ y m then -(y.1 11 m) - eqQ y m else nI 0
theorem wrQ_is (y : xSt) : ∀ n, wrQ y n = y.1 4 493 + y.1 0 15 - bx_sum (wrR y) n
  | 0 => (Int32.sub_zero _).symm
  | n + 1 => by
    show wrQ y n - wrR y n = _ - (bx_sum (wrR y) n + wrR y n)
    rw [wrQ_is y n, i32_s2]
theorem i32_ch (f g c d x h k : Int32) : f + c - f + (g + d) - g = c + d := by
  rw [Int32.add_comm f c, Int32.add_sub_cancel, Int32.add_comm g d, ← Int32.add_assoc, Int32.add_sub_cancel]
theorem bx_plus {f g h : Nat → Int32} : ∀ {n : Nat}, (∀ i, i < n → f i = g i + h i) → bx_sum f n = bx_sum g n + bx_sum h n
  | 0, _ => rfl
  | n + 1, e => by
    show bx_sum f n + f n = bx_sum g n + g n + (bx_sum h n + h n)
    rw [bx_plus (fun i hi => e i (by omega)), e n (by omega)]
    simp only [Int32.add_assoc, i32_lc, Int32.add_comm]
theorem chQ_is (y : xSt) : ∀ n, chQ y n = bx_sum (chC y) n + bx_sum (chP y) n
  | 0 => rfl
  | n + 1 => by
    show chQ y n + chC y n + chP y n = bx_sum (chC y) n + chC y n + (bx_sum (chP y) n + chP y n)
    rw [chQ_is y n]
    simp only [Int32.add_assoc, i32_lc, Int32.add_comm]
