/-! BOTH ANSWER ALIKE: the members are settled -/
theorem nI_div {a b : Nat} (ha : a < 2147483648) (hb : b < 2147483648) : nI a / nI b = nI (a / b) := by
  apply Int32.toInt_inj.mp
  have hq : a / b ≤ a := Nat.div_le_self a b
  rw [Int32.toInt_div, nI_toInt ha, nI_toInt hb, nI_toInt (by omega), show (a : Int).tdiv b = ((a / b : Nat) : Int) from (Int.ofNat_tdiv a b).symm]
  generalize a / b = q at hq
  exact Int.bmod_eq_of_le (by omega) (by omega)
theorem cm0_4 {s : xSt} {m : Nat} (j : Nat) : (cm0 s m).1 4 j = if j = 477 + m then 0 else if j = 469 + m then s.1 11 m else s.1 4 j := by
  unfold cm0; rw [u1_rd2, u1_rd2]
theorem cm0_e {s : xSt} {m j : Nat} (h1 : j ≠ 477 + m) (h2 : j ≠ 469 + m) : (cm0 s m).1 4 j = s.1 4 j := by rw [cm0_4, if_neg h1, if_neg h2]
theorem cm0_o {s : xSt} {m o : Nat} (h : o ≠ 4) : (cm0 s m).1 o = s.1 o := by unfold cm0; rw [u1_ne _ h, u1_ne _ h]
theorem cfQ_o {z : xSt} {m o : Nat} {n : Int32} (h : o ≠ 4) : (cfQ z m n).1 o = z.1 o := by
  unfold cfQ
  dsimp only
  rw [u1_ne _ h, u1_ne _ h, u1_ne _ h, u1_ne _ h]
theorem cfQ_4 {z : xSt} {m : Nat} {n : Int32} (hm : m < 8) (hY : yQ z < 24) (j : Nat) : (cfQ z m n).1 4 j = if j = 495 then z.1 4 495 + (n - csQ z m n) else if j = 253 + 24 * m + yQ z then kdQ z m else if j = 61 + 24 * m + yQ z then n - csQ z m n else if j = 445 + 3 * m then z.1 4 (445 + 3 * m) + csQ z m n else z.1 4 j := by
  unfold cfQ
  dsimp only
  rw [u1_rd2]
  by_cases e : j = 495
  · rw [if_pos e, if_pos e, u1_sne _ _ _ (by omega), u1_sne _ _ _ (by omega), u1_sne _ _ _ (by omega)]
  · rw [if_neg e, if_neg e, u1_rd2, u1_rd2, u1_rd2]
    rfl
theorem rcQ_o {m o : Nat} (h : o ≠ 4) : ∀ (k : Nat) (z : xSt) (x : Int32), (rcQ m k z x).1.1 o = z.1 o
  | 0, _, _ => rfl
  | k + 1, z, x => by
    show (rcQ m k (u1 z 4 (61 + 24 * m + k) (lfQ z m k - imin x (lfQ z m k))) (x - imin x (lfQ z m k))).1.1 o = _
    rw [rcQ_o h k, u1_ne _ h]
theorem rcQ_F {m : Nat} : ∀ (k : Nat) (z : xSt) (x : Int32), (rcQ m k z x).2 = (rcF k (lfQ z m) x).2 ∧ ∀ j, (rcQ m k z x).1.1 4 j = if 61 + 24 * m ≤ j ∧ j < 61 + 24 * m + k then (rcF k (lfQ z m) x).1 (j - (61 + 24 * m)) else z.1 4 j
  | 0, z, x => ⟨rfl, fun j => by rw [if_neg (by omega)]; rfl⟩
  | k + 1, z, x => by
    have e1 : rcQ m (k + 1) z x = rcQ m k (u1 z 4 (61 + 24 * m + k) (lfQ z m k - imin x (lfQ z m k))) (x - imin x (lfQ z m k)) := rfl
    have e2 : lfQ (u1 z 4 (61 + 24 * m + k) (lfQ z m k - imin x (lfQ z m k))) m = va_up (lfQ z m) k (lfQ z m k - imin x (lfQ z m k)) := by
      funext y
      unfold lfQ
      rw [u1_rd2, va_rd]
      by_cases e : y = k
      · rw [if_pos (by omega), if_pos e]
      · rw [if_neg (by omega), if_neg e]
    obtain ⟨h1, h2⟩ := rcQ_F (m := m) k (u1 z 4 (61 + 24 * m + k) (lfQ z m k - imin x (lfQ z m k))) (x - imin x (lfQ z m k))
    rw [e2] at h1 h2
    refine ⟨by rw [e1]; exact h1, fun j => ?_⟩
    rw [e1, h2 j]
    show (if 61 + 24 * m ≤ j ∧ j < 61 + 24 * m + k then (rcF k (va_up (lfQ z m) k (lfQ z m k - imin x (lfQ z m k))) (x - imin x (lfQ z m k))).1 (j - (61 + 24 * m)) else (u1 z 4 (61 + 24 * m + k) (lfQ z m k - imin x (lfQ z m k))).1 4 j) = if 61 + 24 * m ≤ j ∧ j < 61 + 24 * m + (k + 1) then (rcF k (va_up (lfQ z m) k (lfQ z m k - imin x (lfQ z m k))) (x - imin x (lfQ z m k))).1 (j - (61 + 24 * m)) else z.1 4 j
    by_cases c : 61 + 24 * m ≤ j ∧ j < 61 + 24 * m + k
    · rw [if_pos c, if_pos (by omega)]
    · rw [if_neg c, u1_rd2]
      by_cases c2 : j = 61 + 24 * m + k
      · rw [if_pos c2, if_pos (by omega), c2, show 61 + 24 * m + k - (61 + 24 * m) = k by omega, rcF_hi k _ _ k (Nat.le_refl k), va_up_self]
      · rw [if_neg c2, if_neg (by omega)]
theorem rcZ_4 {z : xSt} {m : Nat} {n : Int32} (hm : m < 8) (hY : yQ z ≤ 24) (j : Nat) : (rcZ z m n).1 4 j = if j = 493 then z.1 4 493 - (rcF (yQ z) (lfQ z m) n).2 else if j = 496 then z.1 4 496 + (n - (rcF (yQ z) (lfQ z m) n).2) else if j = 477 + m then n - (rcF (yQ z) (lfQ z m) n).2 else if 61 + 24 * m ≤ j ∧ j < 61 + 24 * m + yQ z then (rcF (yQ z) (lfQ z m) n).1 (j - (61 + 24 * m)) else z.1 4 j := by
  obtain ⟨h1, h2⟩ := rcQ_F (m := m) (yQ z) z n
  unfold rcZ
  dsimp only
  rw [h1]
  by_cases c1 : j = 493
  · rw [if_pos c1, c1, u1_self, u1_sne _ _ _ (by omega), u1_sne _ _ _ (by omega), h2 493, if_neg (by omega)]
  · rw [if_neg c1, u1_sne _ _ _ c1]
    by_cases c2 : j = 496
    · rw [if_pos c2, c2, u1_self, u1_sne _ _ _ (by omega), h2 496, if_neg (by omega)]
    · rw [if_neg c2, u1_sne _ _ _ c2]
      by_cases c3 : j = 477 + m
      · rw [if_pos c3, c3, u1_self]
      · rw [if_neg c3, u1_sne _ _ _ c3, h2 j]
theorem rcZ_o {z : xSt} {m o : Nat} {n : Int32} (h : o ≠ 4) : (rcZ z m n).1 o = z.1 o := by
  unfold rcZ
  dsimp only
  rw [u1_ne _ h, u1_ne _ h, u1_ne _ h, rcQ_o h]
theorem cmS_o {s : xSt} {m o : Nat} (h : o ≠ 4) : (cmS s m).1 o = s.1 o := by
  unfold cmS cmT
  split
  · rw [rcZ_o h]
    split
    · rw [cfQ_o h, cm0_o h]
    · rw [cm0_o h]
  · split
    · rw [cfQ_o h, cm0_o h]
    · rw [cm0_o h]
theorem yQ_cm0 {s : xSt} {m : Nat} (hm : m < 8) : yQ (cm0 s m) = yQ s := by unfold yQ; rw [cm0_e (by omega) (by omega)]
theorem csQ_cm0 {s : xSt} {m : Nat} {n : Int32} (hm : m < 8) : csQ (cm0 s m) m n = csQ s m n := by
  unfold csQ
  rw [cm0_e (j := 13 + m) (by omega) (by omega), cm0_e (j := 0) (by omega) (by omega)]
theorem kdQ_cm0 {s : xSt} {m : Nat} (hm : m < 8) : kdQ (cm0 s m) m = kdQ s m := by
  unfold kdQ
  rw [cm0_e (j := 13 + m) (by omega) (by omega)]
theorem cmS_p {s : xSt} {m : Nat} (hm : m < 8) (hY : yQ s < 24) (h : 0 < s.1 11 m) : ∀ j, (cmS s m).1 4 j = rowP (s.1 4) m (yQ s) (s.1 11 m) (csQ s m (s.1 11 m)) (kdQ s m) j := by
  intro j
  unfold cmS cmT
  rw [if_neg (fun h2 => Int32.lt_irrefl (Int32.lt_trans h h2)), if_pos h, cfQ_4 hm (by rw [yQ_cm0 hm]; exact hY), yQ_cm0 hm, csQ_cm0 hm, kdQ_cm0 hm]
  unfold rowP
  rw [cm0_e (j := 495) (by omega) (by omega), cm0_e (j := 445 + 3 * m) (by omega) (by omega), cm0_4]
theorem cmS_n {s : xSt} {m : Nat} (hm : m < 8) (hY : yQ s ≤ 24) (h : s.1 11 m < 0) {q : (Nat → Int32) × Int32} (hq2 : (rcF (yQ s) (lfQ s m) (-(s.1 11 m))).2 = q.2) (hq1 : ∀ y, y < 24 → q.1 y = if y < yQ s then (rcF (yQ s) (lfQ s m) (-(s.1 11 m))).1 y else lfQ s m y) : ∀ j, (cmS s m).1 4 j = rowN (s.1 4) m (s.1 11 m) q j := by
  intro j
  have el : lfQ (cm0 s m) m = lfQ (cm0 s m) m := rfl
  have e2 : ∀ y, y < 24 → lfQ (cm0 s m) m y = lfQ s m y := fun y hy => by unfold lfQ; rw [cm0_e (by omega) (by omega)]
  obtain ⟨c1, c2⟩ := rcF_cong (x := -(s.1 11 m)) (n := yQ s) (f := lfQ (cm0 s m) m) (g := lfQ s m) (fun i hi => e2 i (by omega))
  unfold cmS cmT
  rw [if_pos h, if_neg (fun h2 => Int32.lt_irrefl (Int32.lt_trans h h2)), rcZ_4 hm (by rw [yQ_cm0 hm]; exact hY), yQ_cm0 hm, c1, hq2]
  unfold rowN
  rw [cm0_e (j := 493) (by omega) (by omega), cm0_e (j := 496) (by omega) (by omega), cm0_4 j]
  by_cases d1 : j = 493
  · rw [if_pos d1, if_pos d1]
  · rw [if_neg d1, if_neg d1]
    by_cases d2 : j = 496
    · rw [if_pos d2, if_pos d2]
    · rw [if_neg d2, if_neg d2]
      by_cases d3 : j = 477 + m
      · rw [if_pos d3, if_pos d3]
      · rw [if_neg d3, if_neg d3, if_neg d3]
        by_cases d4 : 61 + 24 * m ≤ j ∧ j < 61 + 24 * m + yQ s
        · rw [if_pos d4, if_neg (by omega), if_pos (by omega), hq1 _ (by omega), if_pos (by omega), c2 _ (by omega)]
        · rw [if_neg d4]
          by_cases d5 : j = 469 + m
          · rw [if_pos d5, if_pos d5]
          · rw [if_neg d5, if_neg d5]
            by_cases d6 : 61 + 24 * m ≤ j ∧ j < 61 + 24 * m + 24
            · rw [if_pos d6, hq1 _ (by omega), if_neg (by omega)]
              show s.1 4 j = s.1 4 (61 + 24 * m + (j - (61 + 24 * m)))
              rw [show 61 + 24 * m + (j - (61 + 24 * m)) = j by omega]
            · rw [if_neg d6]
theorem cmS_z {s : xSt} {m : Nat} (h : s.1 11 m = 0) : ∀ j, (cmS s m).1 4 j = row0 (s.1 4) m (s.1 11 m) j := by
  intro j
  unfold cmS cmT
  rw [h, if_neg (by decide), if_neg (by decide), cm0_4, h]
  rfl
theorem eqC.row {z : xSt} {b mc dc : Nat} {t r r2 : Nat → Int32} (h : eqC z b mc dc t r) (hr : ∀ k, k < 497 → (k < 29 + 4 * mc ∨ 61 ≤ k) → r2 k = r k) (hm : mc ≤ 8) (hd : dc ≤ 4) : eqC z b mc dc t r2 := by
  obtain ⟨⟨a1, a2, a3, a4, a5, a6⟩, h2, h3, h4, h5, h6, h7, h8⟩ := h
  refine ⟨⟨a1, a2, by rw [hr _ (by omega) (by omega)]; exact a3, by rw [hr _ (by omega) (by omega)]; exact a4, by rw [hr _ (by omega) (by omega)]; exact a5, by rw [hr _ (by omega) (by omega)]; exact a6⟩, fun k hk => by rw [hr _ (by omega) (by omega)]; exact h2 k hk, fun m hm => ?_, fun m d hm hd => by rw [hr _ (by omega) (by omega)]; exact h4 m d hm hd, fun m y hm hy => ?_, h6, fun m j hm hj => by rw [hr _ (by omega) (by omega)]; exact h7 m j hm hj, fun d hd => ?_⟩
  · rw [hr _ (by omega) (by omega), hr _ (by omega) (by omega), hr _ (by omega) (by omega)]; exact h3 m hm
  · rw [hr _ (by omega) (by omega), hr _ (by omega) (by omega)]; exact h5 m y hm hy
  · rw [hr _ (by omega) (by omega), hr _ (by omega) (by omega)]; exact h8 d hd
