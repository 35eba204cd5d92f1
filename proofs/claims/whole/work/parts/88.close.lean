/-! BOTH ANSWER ALIKE: a closing -/
theorem eqC.yr {z : xSt} {b mc dc : Nat} {t r : Nat → Int32} (hE : eqC z b mc dc t r) (h8 : mc ≤ 8) (h4 : dc ≤ 4) (v : Int32) : eqC (u1 z (oB b) 5 v) b mc dc t (va_up r 494 v) := by
  obtain ⟨⟨a1, a2, a3, a4, a5, a6⟩, h2, h3, hp, h5, h6, h7, h9⟩ := hE
  refine ⟨⟨?_, ?_, ?_, ?_, ?_, ?_⟩, fun k hk => ?_, fun m' hm' => ?_, fun m' d' hm' hd' => ?_, fun m' y hm' hy => ?_, fun m' hm' => ?_, fun m' j hm' hj => ?_, fun d' hd' => ?_⟩
  · rw [u1_sne _ _ _ (by omega)]; exact a1
  · rw [u1_sne _ _ _ (by omega)]; exact a2
  · rw [u1_self, va_up_self]
  · rw [u1_sne _ _ _ (by omega), va_rd, if_neg (by omega)]; exact a4
  · rw [u1_sne _ _ _ (by omega), va_rd, if_neg (by omega)]; exact a5
  · rw [u1_sne _ _ _ (by omega), va_rd, if_neg (by omega), bx_cong (g := fun m => z.1 (oPd b m) 0) (fun m' hm' => by show (u1 z (oB b) 5 v).1 (oPd b m') 0 = _; rw [u1_ne _ (by unfold oPd oB; omega)])]; exact a6
  · rw [u1_ne _ (by unfold oSt oB; omega), va_rd, if_neg (by omega)]; exact h2 k hk
  · rw [u1_ne _ (by unfold oM oB; omega), va_rd, if_neg (by omega), va_rd, if_neg (by omega), va_rd, if_neg (by omega)]; exact h3 m' hm'
  · rw [u1_ne _ (by unfold oPt oB; omega), va_rd, if_neg (by omega)]; exact hp m' d' hm' hd'
  · rw [u1_ne _ (by unfold oLf oB; omega), u1_ne _ (by unfold oKd oB; omega), va_rd, if_neg (by omega), va_rd, if_neg (by omega)]; exact h5 m' y hm' hy
  · rw [u1_ne _ (by unfold oLf oB; omega)]; exact h6 m' hm'
  · rw [u1_ne _ (by unfold oPd oB; omega), va_rd, if_neg (by omega)]; exact h7 m' j hm' hj
  · rw [u1_ne _ (by unfold oD oB; omega), va_rd, if_neg (by omega), va_rd, if_neg (by omega)]; exact h9 d' hd'
theorem dlQ_o {y : xSt} {d o : Nat} (h0 : o ≠ 0) (h1 : o ≠ 11) (h2 : o ≠ 12) : (dlQ y d).1 o = y.1 o := by
  unfold dlQ
  split
  · rw [u1_ne _ h0]; show (u1 y 0 15 _).1 o = _; rw [u1_ne _ h0]
  · unfold d11; rw [ur_ne _ _ h1, u1_ne _ h2]; unfold dgQ; show (u1 y 0 15 _).1 o = _; rw [u1_ne _ h0]
theorem daL_o {y : xSt} {o : Nat} (h0 : o ≠ 0) (h1 : o ≠ 11) (h2 : o ≠ 12) : ∀ d, (daL y d).1 o = y.1 o
  | 0 => by show (ur (ur (u1 y 0 15 0) 11 (fun _ => 0)) 12 (fun _ => 0)).1 o = _; rw [ur_ne _ _ h2, ur_ne _ _ h1, u1_ne _ h0]
  | d + 1 => by show (dlQ (daL y d) d).1 o = _; rw [dlQ_o h0 h1 h2, daL_o h0 h1 h2 d]
theorem cmQ_o {y : xSt} {o : Nat} (h : o ≠ 4) : ∀ n, (cmQ y n).1 o = y.1 o
  | 0 => rfl
  | n + 1 => by show (cmS (cmQ y n) n).1 o = _; rw [cmS_o h, cmQ_o h n]
theorem cpQ_o {y : xSt} {o : Nat} (h : o ≠ 4) : ∀ n, (cpQ y n).1 o = y.1 o
  | 0 => rfl
  | n + 1 => by
    show (cpS (cpQ y n) n).1 o = _
    unfold cpS
    split
    · rw [pyQ_o h, cpQ_o h n]
    · rw [cpQ_o h n]
theorem clB_o {y : xSt} {o : Nat} (h : o ≠ 4) : (clB y).1 o = (daL y (mQ y 13)).1 o := by
  unfold clB clA
  rw [cdQ_o h, u1_ne _ h]
theorem clQ_oo {y : xSt} {o : Nat} (h : o ≠ 4) : (clQ y).1 o = (daL y (mQ y 13)).1 o := by
  unfold clQ clE clD
  rw [u1_ne _ h, ur_ne _ _ h, cpQ_o h, cmQ_o h, clB_o h]
theorem clQ_4 {y : xSt} {Y : Nat} (h : (clD y).1 4 494 = nI Y) : ∀ j, (clQ y).1 4 j = if j = 494 then nI (Y + 1) else if 29 ≤ j ∧ j < 61 then 0 else (clD y).1 4 j := by
  intro j
  unfold clQ clE
  rw [u1_rd2, ur_at]
  unfold bkR
  by_cases c : j = 494
  · rw [if_pos c, if_pos c, if_neg (by omega), h, nI_add]
  · rw [if_neg c, if_neg c]
theorem clos_eq {z y : xSt} {b oR mc dc Y : Nat} (hb : oR < 5 ∨ (8 ≤ oR ∧ oR < 19)) (hE : eqB z b mc dc (y.1 2) (y.1 4)) (hI : rI mc dc Y (y.1 2) (y.1 4)) (hY : Y < 24) (hr : ∀ d, d < dc → z.1 oR d = y.1 10 d ∧ -1000000 ≤ (y.1 10 d).toInt ∧ (y.1 10 d).toInt ≤ 1000000) :
    eqB (clos z b oR mc dc Y) b mc dc (y.1 2) ((clQ y).1 4) ∧ rI mc dc (Y + 1) (y.1 2) ((clQ y).1 4) := by
  have h8 : mc ≤ 8 := hI.1.2.1
  have h4 : dc ≤ 4 := hI.1.2.2.2.1
  obtain ⟨hO, qm, qd, qY⟩ := rI.ok (z := y) hI (by omega)
  obtain ⟨a1, a2, a3, a4, a5, a6, a7, a8⟩ := dA_all hb hE hI hr dc (Nat.le_refl dc)
  have hb4 : ∀ m, m < mc → -4000000 ≤ ((daL y dc).1 11 m).toInt ∧ ((daL y dc).1 11 m).toInt ≤ 4000000 := fun m hm => by
    obtain ⟨-, -, b3, b4⟩ := a4 m hm
    omega
  have y02 : (clB y).1 2 = y.1 2 := by rw [clB_o (by omega), daL_2]
  have y011 : (clB y).1 11 = (daL y dc).1 11 := by rw [clB_o (by omega), qd]
  have mA : mQ (clA y) 12 = mc := by unfold mQ clA; rw [u1_ne _ (by omega), daL_2]; exact qm
  have y04 : ∀ j, (clB y).1 4 j = if 485 ≤ j ∧ j < 485 + dc then (daL y dc).1 12 (j - 485) else if 489 ≤ j ∧ j < 489 + dc then bx_sum (fun m => y.1 4 (29 + 4 * m + (j - 489))) mc else if j = 493 then y.1 4 493 + (daL y dc).1 0 15 else y.1 4 j := fun j => by
    have eA : ∀ j, (clA y).1 4 j = if j = 493 then y.1 4 493 + (daL y dc).1 0 15 else y.1 4 j := fun j => by unfold clA; rw [qd, u1_rd2, daL_4]
    unfold clB
    rw [qd, cdQ_4 dc h4 (by rw [mA]; exact h8), mA, eA]
    have e12 : (clA y).1 12 = (daL y dc).1 12 := by unfold clA; rw [u1_ne _ (by omega), qd]
    have es : (fun m => (clA y).1 4 (29 + 4 * m + (j - 489))) = fun m => (clA y).1 4 (29 + 4 * m + (j - 489)) := rfl
    rw [e12]
    by_cases c : 489 ≤ j ∧ j < 489 + dc
    · rw [if_pos c, if_pos c, bx_cong (g := fun m => y.1 4 (29 + 4 * m + (j - 489))) (fun m hm => by rw [eA, if_neg (by omega)])]
    · rw [if_neg c, if_neg c]
  have y0c : ∀ j, (j < 485 ∨ j = 494 ∨ j = 495 ∨ j = 496) → (clB y).1 4 j = y.1 4 j := fun j hj => by rw [y04, if_neg (by omega), if_neg (by omega), if_neg (by omega)]
  -- the start of settling
  have eM : ∀ m k, m < mc → k < 4 → (dpL (clr z b mc) b oR mc dc).1 (oM b m) k = z.1 (oM b m) k := fun m k hm hk => a3 m k (by omega) (by omega) (by omega)
  have nLf : ∀ m, m < 8 → nM2 b (oLf b m) := fun m hm => ⟨by unfold oLf; omega, by unfold oLf oB; omega, fun k hk => by unfold oLf oM; omega, fun d hd => by unfold oLf oD; omega⟩
  have nKd : ∀ m, m < 8 → nM2 b (oKd b m) := fun m hm => ⟨by unfold oKd; omega, by unfold oKd oB; omega, fun k hk => by unfold oKd oM; omega, fun d hd => by unfold oKd oD; omega⟩
  have nPd : ∀ m, m < 8 → nM2 b (oPd b m) := fun m hm => ⟨by unfold oPd; omega, by unfold oPd oB; omega, fun k hk => by unfold oPd oM; omega, fun d hd => by unfold oPd oD; omega⟩
  have hEC : eqC (dpL (clr z b mc) b oR mc dc) b mc dc ((clB y).1 2) ((clB y).1 4) := by
    obtain ⟨⟨b1, b2, b3, b4, b5, b6⟩, h2, h3, hp, h5, h6, h7, h9⟩ := hE
    rw [y02]
    refine ⟨⟨?_, ?_, ?_, ?_, ?_, ?_⟩, fun k hk => ?_, fun m hm => ?_, fun m d hm hd => ?_, fun m y' hm hy => ?_, fun m hm => ?_, fun m j hm hj => ?_, fun d hd => ?_⟩
    · rw [a2 3 (by omega)]; exact b1
    · rw [a2 4 (by omega)]; exact b2
    · rw [a2 5 (by omega), y0c 494 (by omega)]; exact b3
    · rw [a8, y04, if_neg (by omega), if_neg (by omega), if_pos rfl, b4]
    · rw [a2 8 (by omega), y0c 496 (by omega)]; exact b5
    · rw [a2 7 (by omega), y0c 495 (by omega), bx_cong (g := fun m => z.1 (oPd b m) 0) (fun m hm => by show (dpL (clr z b mc) b oR mc dc).1 (oPd b m) 0 = _; rw [a1 _ (nPd m (by omega))])]; exact b6
    · rw [a1 _ nM2.St, y0c k (by omega)]; exact h2 k hk
    · obtain ⟨c1, c2, c3, c4, -⟩ := h3 m hm
      exact ⟨by rw [eM m 0 hm (by omega)]; exact c1, by rw [eM m 1 hm (by omega), y0c _ (by omega)]; exact c2, by rw [eM m 2 hm (by omega), y0c _ (by omega)]; exact c3, by rw [eM m 3 hm (by omega), y0c _ (by omega)]; exact c4⟩
    · rw [a1 _ (nM2.Pt (by omega)), y0c _ (by omega)]; exact hp m d hm hd
    · rw [a1 _ (nLf m (by omega)), a1 _ (nKd m (by omega)), y0c _ (by omega), y0c _ (by omega)]; exact h5 m y' hm hy
    · rw [a1 _ (nLf m (by omega))]; exact h6 m hm
    · rw [a1 _ (nPd m (by omega)), y0c _ (by omega)]; exact h7 m j hm hj
    · obtain ⟨c1, c2⟩ := a6 d hd
      refine ⟨by rw [a5 d (by omega)]; exact (h9 d hd).1, ?_, ?_⟩
      · rw [c1, y04, if_pos (by omega), show 485 + d - 485 = d by omega]
      · rw [c2, y04, if_neg (by omega), if_pos (by omega), show 489 + d - 489 = d by omega]
        exact bx_cong (fun m hm => hp m d hm (by omega))
  have hI0 : rI mc dc Y ((clB y).1 2) ((clB y).1 4) := by
    rw [y02]
    obtain ⟨⟨b1, b2, b3, b4, b5⟩, ⟨c1, c2, c3, c4, c5⟩, h3, hp, h5, h6⟩ := id hI
    refine ⟨⟨b1, b2, b3, b4, by rw [y0c _ (by omega)]; exact b5⟩, ⟨by rw [y0c _ (by omega)]; exact c1, by rw [y0c _ (by omega)]; exact c2, by rw [y0c _ (by omega)]; exact c3, by rw [y0c _ (by omega)]; exact c4, by rw [y0c _ (by omega)]; exact c5⟩, fun m hm => by rw [y0c _ (by omega), y0c _ (by omega), y0c _ (by omega)]; exact h3 m hm, fun m d hm hd => by rw [y0c _ (by omega), y0c _ (by omega)]; exact hp m d hm hd, fun m y' hm hy => by rw [y0c _ (by omega), y0c _ (by omega)]; exact h5 m y' hm hy, fun d hd => ?_⟩
    rw [y04, if_neg (by omega)]
    by_cases c : 489 ≤ 489 + d ∧ 489 + d < 489 + dc
    · rw [if_pos c, show 489 + d - 489 = d by omega]
      obtain ⟨a, ha, e⟩ := bx_nat (f := fun m => y.1 4 (29 + 4 * m + d)) (B := 1000000) (n := mc) (fun m hm => (hp m d (by omega) hd).1)
      have : mc * 1000000 ≤ 8 * 1000000 := Nat.mul_le_mul_right _ h8
      exact ⟨a, by omega, e⟩
    · rw [if_neg c, if_neg (by omega)]; exact h6 d hd
  have hb40 : ∀ m, m < mc → -4000000 ≤ ((clB y).1 11 m).toInt ∧ ((clB y).1 11 m).toInt ≤ 4000000 := fun m hm => by rw [y011]; exact hb4 m hm
  have S0 : sB b mc dc Y 0 (clB y) (dpL (clr z b mc) b oR mc dc) (clB y) :=
    ⟨hEC, fun m hm => by rw [y011]; exact (a4 m hm).2.1, fun m hm => absurd hm (Nat.not_lt_zero m), fun m _ hm => (a4 m hm).1, fun m y' hm hy => ⟨(hI0.2.2.2.2.1 m y' hm hy).1, fun h => (hI0.2.2.2.2.1 m y' hm hy).2 (by have h : (if m < 0 ∧ 0 < (clB y).1 11 m then Y + 1 else Y) ≤ y' := h; rw [if_neg (by omega)] at h; exact h)⟩, fun _ _ => rfl, fun _ _ => rfl⟩
  obtain ⟨g1, g2, g3, -, g5, g6, g7⟩ := sB_all hI0 hY hb40 S0 mc (Nat.le_refl mc)
  -- the start of paying
  have s2 : (cmQ (clB y) mc).1 2 = y.1 2 := by rw [g7 2 (by omega), y02]
  have S1 : sC b mc dc 0 (fun m => if m < mc ∧ 0 < (clB y).1 11 m then Y + 1 else Y) (cmQ (clB y) mc) (stL (dpL (clr z b mc) b oR mc dc) b Y mc) (cmQ (clB y) mc) :=
    ⟨by rw [s2, ← y02]; exact g1.row (fun j _ _ => if_neg (by omega)) h8 h4, fun m hm => ⟨(g2 m hm).trans (g3 m hm).1.symm, (g3 m hm).2⟩, fun _ _ _ => ⟨rfl, rfl⟩, fun m hm => by rw [g6 _ (by omega), g6 _ (by omega)]; exact ⟨(hI0.2.2.1 m hm).1, (hI0.2.2.1 m hm).2.2⟩, g5, fun _ _ => rfl, fun _ _ => rfl⟩
  have s494 : (cmQ (clB y) mc).1 4 494 = nI Y := by rw [g6 494 (by omega)]; exact hI0.1.2.2.2.2
  have hF : ∀ m, m < mc → (cmQ (clB y) mc).1 4 (5 + m) = nI 1 → (fun m => if m < mc ∧ 0 < (clB y).1 11 m then Y + 1 else Y) m = Y := fun m hm h => by
    rw [g6 _ (by omega), y0c _ (by omega)] at h
    have hz : ∀ d, d < 4 → y.1 4 (29 + 4 * m + d) = 0 := fun d hd => (hI.2.2.2.1 m d (by omega) hd).2 (by rw [h]; decide)
    have h0 := daL_11 hI hm (fun d hd => (hr d hd).2) hz dc (Nat.le_refl dc)
    show (if m < mc ∧ 0 < (clB y).1 11 m then Y + 1 else Y) = Y
    rw [y011, h0, if_neg (fun h => absurd h.2 (by decide))]
  obtain ⟨k1, k2, -, k4, k5, k6, k7⟩ := sC_all h8 h4 s494 (by omega) hF S1 mc (Nat.le_refl mc)
  have eD : clD y = cpQ (cmQ (clB y) mc) mc := by unfold clD; rw [qm]
  have d494 : (clD y).1 4 494 = nI Y := by rw [eD, k6 494 (by omega)]; exact s494
  have fin := clQ_4 d494
  have eCl : clos z b oR mc dc Y = u1 (inL (stL (dpL (clr z b mc) b oR mc dc) b Y mc) b mc) (oB b) 5 (nI (Y + 1)) := rfl
  rw [eCl]
  constructor
  · refine eqC.B ?_ (fun m hm => ?_)
    · rw [s2] at k1
      refine (k1.yr h8 h4 (nI (Y + 1))).row (fun j _ hj => ?_) h8 h4
      rw [fin, va_rd]
      by_cases c : j = 494
      · rw [if_pos c, if_pos c]
      · rw [if_neg c, if_neg c, ← eD]
        by_cases c2 : 29 ≤ j ∧ j < 61
        · rw [if_pos c2, if_pos (by omega)]
        · rw [if_neg c2, if_neg (by omega)]
    · rw [u1_ne _ (by unfold oM oB; omega), fin, fin, if_neg (by omega), if_neg (by omega), if_neg (by omega), if_neg (by omega), eD, k6 _ (by omega), k6 _ (by omega)]
      exact k2 m hm
  · obtain ⟨⟨b1, b2, b3, b4, b5⟩, ⟨c1, c2, c3, c4, c5⟩, h3, hp, h5, h6⟩ := id hI0
    have low : ∀ j, j < 5 → (clQ y).1 4 j = (clB y).1 4 j := fun j hj => by rw [fin, if_neg (by omega), if_neg (by omega), eD, k6 _ (by omega), g6 _ (by omega)]
    refine ⟨⟨hI.1.1, h8, hI.1.2.2.1, h4, by rw [fin, if_pos rfl]⟩, ⟨by rw [low _ (by omega)]; exact c1, by rw [low _ (by omega)]; exact c2, by rw [low _ (by omega)]; exact c3, by rw [low _ (by omega)]; exact c4, by rw [low _ (by omega)]; exact c5⟩, fun m hm => ?_, fun m d hm hd => ?_, fun m y' hm hy => ?_, fun d hd => ?_⟩
    · rw [fin, fin, fin, if_neg (by omega), if_neg (by omega), if_neg (by omega), if_neg (by omega), if_neg (by omega), if_neg (by omega), eD, k6 (13 + m) (by omega), g6 (13 + m) (by omega)]
      obtain ⟨x1, x2, x3⟩ := k4 m hm
      exact ⟨x1, (h3 m hm).2.1, x2, x3⟩
    · rw [fin, if_neg (by omega), if_pos (by omega)]
      exact ⟨⟨0, by omega, rfl⟩, fun _ => rfl⟩
    · rw [fin, fin, if_neg (by omega), if_neg (by omega), if_neg (by omega), if_neg (by omega), eD]
      obtain ⟨x1, x2⟩ := k5 m y' hm hy
      refine ⟨x1, fun h => x2 ?_⟩
      show (if m < mc ∧ 0 < (clB y).1 11 m then Y + 1 else Y) ≤ y'
      split <;> omega
    · rw [fin, if_neg (by omega), if_neg (by omega), eD, k6 _ (by omega), g6 _ (by omega)]
      exact h6 d hd
