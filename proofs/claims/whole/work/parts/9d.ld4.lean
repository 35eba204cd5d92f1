/-! A TEXT IS LOADED ALIKE: what a closing leaves, new members and sections -/
def hiZ (mc dc : Nat) (r : Nat → Int32) : Prop := (∀ m, m < 8 → r (5 + m) = 0) ∧ (∀ m, mc ≤ m → m < 8 → r (13 + m) = 0 ∧ r (21 + m) = 0 ∧ r (469 + m) = 0 ∧ r (477 + m) = 0 ∧ (∀ d, d < 4 → r (29 + 4 * m + d) = 0) ∧ (∀ y, y < 24 → r (61 + 24 * m + y) = 0 ∧ r (253 + 24 * m + y) = 0) ∧ (∀ j, j < 3 → r (445 + 3 * m + j) = 0)) ∧ (∀ d, dc ≤ d → d < 4 → r (485 + d) = 0 ∧ r (489 + d) = 0)
/-- places that belong to no member below mc, to no department below dc, and to no sum -/
def hiP (mc dc j : Nat) : Prop := (∀ m, m < mc → j ≠ 469 + m ∧ j ≠ 477 + m ∧ ¬ (445 + 3 * m ≤ j ∧ j < 448 + 3 * m) ∧ ¬ (61 + 24 * m ≤ j ∧ j < 85 + 24 * m) ∧ ¬ (253 + 24 * m ≤ j ∧ j < 277 + 24 * m)) ∧ j ≠ 493 ∧ j ≠ 495 ∧ j ≠ 496 ∧ ¬ (485 ≤ j ∧ j < 485 + dc) ∧ ¬ (489 ≤ j ∧ j < 489 + dc)
theorem cmS_out {s : xSt} {m j : Nat} (hm : m < 8) (hY : yQ s < 24) (h : j ≠ 493 ∧ j ≠ 495 ∧ j ≠ 496 ∧ j ≠ 469 + m ∧ j ≠ 477 + m ∧ ¬ (445 + 3 * m ≤ j ∧ j < 448 + 3 * m) ∧ ¬ (61 + 24 * m ≤ j ∧ j < 85 + 24 * m) ∧ ¬ (253 + 24 * m ≤ j ∧ j < 277 + 24 * m)) : (cmS s m).1 4 j = s.1 4 j := by
  obtain ⟨h1, h2, h3, h4, h5, h6, h7, h8⟩ := h
  by_cases c : 0 < s.1 11 m
  · rw [cmS_p hm hY c]
    unfold rowP
    rw [if_neg h2, if_neg (by omega), if_neg (by omega), if_neg (by omega), if_neg h5, if_neg h4]
  · by_cases d : s.1 11 m < 0
    · rw [cmS_n hm (by omega) d (q := (fun y => if y < yQ s then (rcF (yQ s) (lfQ s m) (-(s.1 11 m))).1 y else lfQ s m y, (rcF (yQ s) (lfQ s m) (-(s.1 11 m))).2)) rfl (fun y _ => rfl)]
      unfold rowN
      rw [if_neg h1, if_neg h3, if_neg h5, if_neg h4, if_neg (by omega)]
    · rw [cmS_z (Int32.le_antisymm (Int32.not_lt.mp c) (Int32.not_lt.mp d))]
      unfold row0
      rw [if_neg h5, if_neg h4]
theorem cmQ_out {y : xSt} {j : Nat} (hY : yQ y < 24) (h0 : j ≠ 493 ∧ j ≠ 495 ∧ j ≠ 496) : ∀ n, n ≤ 8 → (∀ m, m < n → j ≠ 469 + m ∧ j ≠ 477 + m ∧ ¬ (445 + 3 * m ≤ j ∧ j < 448 + 3 * m) ∧ ¬ (61 + 24 * m ≤ j ∧ j < 85 + 24 * m) ∧ ¬ (253 + 24 * m ≤ j ∧ j < 277 + 24 * m)) → (cmQ y n).1 4 j = y.1 4 j
  | 0, _, _ => rfl
  | n + 1, hn, h => by
    have eY : yQ (cmQ y n) = yQ y := by unfold yQ; rw [cmQ_out hY (by decide) n (by omega) (fun m hm => by omega)]
    show (cmS (cmQ y n) n).1 4 j = _
    have hh := h n (by omega)
    rw [cmS_out (by omega) (by rw [eY]; exact hY) ⟨h0.1, h0.2.1, h0.2.2, hh⟩]
    exact cmQ_out hY h0 n (by omega) (fun m hm => h m (by omega))
theorem cpQ_no {y : xSt} : ∀ n, (∀ m, m < n → ¬ y.1 4 (5 + m) = nI 1) → cpQ y n = y
  | 0, _ => rfl
  | n + 1, h => by
    show cpS (cpQ y n) n = y
    rw [cpQ_no n (fun m hm => h m (by omega))]
    unfold cpS
    rw [if_neg (h n (by omega))]
theorem clB_4 {y : xSt} {mc dc Y : Nat} (hI : rI mc dc Y (y.1 2) (y.1 4)) (hY : Y ≤ 24) {j : Nat} (h : j ≠ 493 ∧ ¬ (485 ≤ j ∧ j < 485 + dc) ∧ ¬ (489 ≤ j ∧ j < 489 + dc)) : (clB y).1 4 j = y.1 4 j := by
  have h8 : mc ≤ 8 := hI.1.2.1
  have h4 : dc ≤ 4 := hI.1.2.2.2.1
  obtain ⟨hO, qm, qd, qY⟩ := rI.ok (z := y) hI hY
  have mA : mQ (clA y) 12 = mc := by unfold mQ clA; rw [u1_ne _ (by omega), daL_2]; exact qm
  unfold clB
  rw [qd, cdQ_4 dc h4 (by rw [mA]; exact h8), if_neg h.2.1, if_neg h.2.2]
  unfold clA
  rw [u1_rd2, if_neg h.1, daL_4]
/-- a closing leaves them alone -/
theorem clQ_hi {y : xSt} {mc dc Y : Nat} (hI : rI mc dc Y (y.1 2) (y.1 4)) (hY : Y < 24) (hz : hiZ mc dc (y.1 4)) : hiZ mc dc ((clQ y).1 4) := by
  have h8 : mc ≤ 8 := hI.1.2.1
  have h4 : dc ≤ 4 := hI.1.2.2.2.1
  obtain ⟨hO, qm, qd, qY⟩ := rI.ok (z := y) hI (by omega)
  have yB : yQ (clB y) = Y := by unfold yQ; rw [clB_4 hI (by omega) (by omega)]; exact qY
  have eM : ∀ j, hiP mc dc j → (cmQ (clB y) mc).1 4 j = y.1 4 j := fun j hj => by
    rw [cmQ_out (by rw [yB]; exact hY) ⟨hj.2.1, hj.2.2.1, hj.2.2.2.1⟩ mc h8 hj.1]
    exact clB_4 hI (by omega) ⟨hj.2.1, hj.2.2.2.2.1, hj.2.2.2.2.2⟩
  have eD : clD y = cmQ (clB y) mc := by
    unfold clD
    rw [qm]
    refine cpQ_no mc (fun m hm q => ?_)
    rw [eM _ ⟨fun k hk => by omega, by omega⟩, hz.1 m (by omega)] at q
    exact absurd q (by decide)
  have e494 : (clD y).1 4 494 = nI Y := by rw [eD, eM _ ⟨fun k hk => by omega, by omega⟩]; exact hI.1.2.2.2.2
  have eQ : ∀ j, j ≠ 494 → hiP mc dc j → y.1 4 j = 0 → (clQ y).1 4 j = 0 := fun j h1 h2 h3 => by
    rw [clQ_4 e494, if_neg h1]
    split
    · rfl
    · rw [eD, eM j h2]; exact h3
  obtain ⟨z1, z2, z3⟩ := hz
  refine ⟨fun m hm => eQ _ (by omega) ⟨fun k hk => by omega, by omega⟩ (z1 m hm), fun m hm h9 => ?_, fun d hd h9 => ?_⟩
  · obtain ⟨a1, a2, a3, a4, a5, a6, a7⟩ := z2 m hm h9
    exact ⟨eQ _ (by omega) ⟨fun k hk => by omega, by omega⟩ a1, eQ _ (by omega) ⟨fun k hk => by omega, by omega⟩ a2, eQ _ (by omega) ⟨fun k hk => by omega, by omega⟩ a3, eQ _ (by omega) ⟨fun k hk => by omega, by omega⟩ a4, fun d hd => eQ _ (by omega) ⟨fun k hk => by omega, by omega⟩ (a5 d hd), fun y hy => ⟨eQ _ (by omega) ⟨fun k hk => by omega, by omega⟩ (a6 y hy).1, eQ _ (by omega) ⟨fun k hk => by omega, by omega⟩ (a6 y hy).2⟩, fun j hj => eQ _ (by omega) ⟨fun k hk => by omega, by omega⟩ (a7 j hj)⟩
  · exact ⟨eQ _ (by omega) ⟨fun k hk => by omega, by omega⟩ (z3 d hd h9).1, eQ _ (by omega) ⟨fun k hk => by omega, by omega⟩ (z3 d hd h9).2⟩
theorem hiZ.up {mc dc : Nat} {r : Nat → Int32} (h : hiZ mc dc r) (h8 : mc ≤ 8) {k : Nat} {v : Int32} (hk : (k < 5 ∨ ∃ m d, m < mc ∧ d < 4 ∧ k = 29 + 4 * m + d)) : hiZ mc dc (va_up r k v) := by
  obtain ⟨z1, z2, z3⟩ := h
  have n2 : ∀ j, 5 ≤ j → (29 ≤ j → 29 + 4 * mc ≤ j) → va_up r k v j = r j := fun j h1 h2 => va_up_ne _ _ (by
    rcases hk with q | ⟨m, d, q1, q2, q3⟩
    · omega
    · omega)
  refine ⟨fun m hm => by rw [n2 _ (by omega) (by omega)]; exact z1 m hm, fun m hm h9 => ?_, fun d hd h9 => by rw [n2 _ (by omega) (by omega), n2 _ (by omega) (by omega)]; exact z3 d hd h9⟩
  obtain ⟨a1, a2, a3, a4, a5, a6, a7⟩ := z2 m hm h9
  exact ⟨by rw [n2 _ (by omega) (by omega)]; exact a1, by rw [n2 _ (by omega) (by omega)]; exact a2, by rw [n2 _ (by omega) (by omega)]; exact a3, by rw [n2 _ (by omega) (by omega)]; exact a4, fun d hd => by rw [n2 _ (by omega) (by omega)]; exact a5 d hd, fun y hy => by rw [n2 _ (by omega) (by omega), n2 _ (by omega) (by omega)]; exact a6 y hy, fun j hj => by rw [n2 _ (by omega) (by omega)]; exact a7 j hj⟩
/-- a new member -/
theorem eqB.mem {z z2 : xSt} {mc dc : Nat} {t r t2 : Nat → Int32} {nm : Int32} (h : eqB z 1 mc dc t r) (hz : hiZ mc dc r) (hm : mc < 8) (hd : dc ≤ 4)
    (h1 : ∀ o, 67 ≤ o → o < 115 → o ≠ oB 1 → o ≠ oM 1 mc → o ≠ oPt 1 mc → o ≠ oLf 1 mc → o ≠ oKd 1 mc → o ≠ oPd 1 mc → z2.1 o = z.1 o) (h2 : ∀ k, k ≠ 3 → z2.1 (oB 1) k = z.1 (oB 1) k) (h3 : z2.1 (oB 1) 3 = nI (mc + 1))
    (hM : z2.1 (oM 1 mc) = fun k => if k = 0 then nm else 0) (hP : z2.1 (oPt 1 mc) = fun _ => 0) (hL : z2.1 (oLf 1 mc) = fun _ => 0) (hK : z2.1 (oKd 1 mc) = fun _ => 0) (hD : z2.1 (oPd 1 mc) = fun _ => 0)
    (ht : ∀ k, k < 14 → t2 k = if k = 12 then nI (mc + 1) else if k = mc then nm else t k) : eqB z2 1 (mc + 1) dc t2 r := by
  obtain ⟨⟨a1, a2, a3, a4, a5, a6⟩, b1, c1, d1, e1, f1, g1, k1⟩ := h
  obtain ⟨u1_, u2_, u3_, u4_, u5_, u6_, u7_⟩ := hz.2.1 mc (Nat.le_refl _) hm
  have oMm : ∀ m, m < mc → z2.1 (oM 1 m) = z.1 (oM 1 m) := fun m q => h1 _ (by unfold oM; omega) (by unfold oM; omega) (by unfold oM oB; omega) (by unfold oM; omega) (by unfold oM oPt; omega) (by unfold oM oLf; omega) (by unfold oM oKd; omega) (by unfold oM oPd; omega)
  have oPtm : ∀ m, m < mc → z2.1 (oPt 1 m) = z.1 (oPt 1 m) := fun m q => h1 _ (by unfold oPt; omega) (by unfold oPt; omega) (by unfold oPt oB; omega) (by unfold oPt oM; omega) (by unfold oPt; omega) (by unfold oPt oLf; omega) (by unfold oPt oKd; omega) (by unfold oPt oPd; omega)
  have oLfm : ∀ m, m < mc → z2.1 (oLf 1 m) = z.1 (oLf 1 m) := fun m q => h1 _ (by unfold oLf; omega) (by unfold oLf; omega) (by unfold oLf oB; omega) (by unfold oLf oM; omega) (by unfold oLf oPt; omega) (by unfold oLf; omega) (by unfold oLf oKd; omega) (by unfold oLf oPd; omega)
  have oKdm : ∀ m, m < mc → z2.1 (oKd 1 m) = z.1 (oKd 1 m) := fun m q => h1 _ (by unfold oKd; omega) (by unfold oKd; omega) (by unfold oKd oB; omega) (by unfold oKd oM; omega) (by unfold oKd oPt; omega) (by unfold oKd oLf; omega) (by unfold oKd; omega) (by unfold oKd oPd; omega)
  have oPdm : ∀ m, m < mc → z2.1 (oPd 1 m) = z.1 (oPd 1 m) := fun m q => h1 _ (by unfold oPd; omega) (by unfold oPd; omega) (by unfold oPd oB; omega) (by unfold oPd oM; omega) (by unfold oPd oPt; omega) (by unfold oPd oLf; omega) (by unfold oPd oKd; omega) (by unfold oPd; omega)
  have oSt_ : z2.1 (oSt 1) = z.1 (oSt 1) := h1 _ (by unfold oSt; omega) (by unfold oSt; omega) (by unfold oSt oB; omega) (by unfold oSt oM; omega) (by unfold oSt oPt; omega) (by unfold oSt oLf; omega) (by unfold oSt oKd; omega) (by unfold oSt oPd; omega)
  have oDd : ∀ d, d < dc → z2.1 (oD 1 d) = z.1 (oD 1 d) := fun d q => h1 _ (by unfold oD; omega) (by unfold oD; omega) (by unfold oD oB; omega) (by unfold oD oM; omega) (by unfold oD oPt; omega) (by unfold oD oLf; omega) (by unfold oD oKd; omega) (by unfold oD oPd; omega)
  refine ⟨⟨by rw [h3, ht 12 (by decide), if_pos rfl], by rw [h2 4 (by decide), ht 13 (by decide), if_neg (by decide), if_neg (by omega)]; exact a2, by rw [h2 5 (by decide)]; exact a3, by rw [h2 6 (by decide)]; exact a4, by rw [h2 8 (by decide)]; exact a5, ?_⟩, fun k hk => by rw [oSt_]; exact b1 k hk, fun m q => ?_, fun m d q q2 => ?_, fun m y q q2 => ?_, fun m q => ?_, fun m j q q2 => ?_, fun d q => ?_⟩
  · show z2.1 (oB 1) 7 - (bx_sum (fun m => z2.1 (oPd 1 m) 0) mc + z2.1 (oPd 1 mc) 0) = r 495
    rw [h2 7 (by decide), bx_cong (g := fun m => z.1 (oPd 1 m) 0) (fun m q => by show z2.1 (oPd 1 m) 0 = _; rw [oPdm m q]), hD]
    show _ - (_ + (0 : Int32)) = _
    rw [Int32.add_zero]; exact a6
  · by_cases e : m = mc
    · subst e
      rw [hM, ht m (by omega), if_neg (by omega), if_pos rfl, u1_, hz.1 m hm, u2_, u3_, u4_]
      exact ⟨rfl, rfl, rfl, rfl, rfl, rfl⟩
    · rw [oMm m (by omega), ht m (by omega), if_neg (by omega), if_neg e]; exact c1 m (by omega)
  · by_cases e : m = mc
    · rw [e, hP, u5_ d q2]
    · rw [oPtm m (by omega)]; exact d1 m d (by omega) q2
  · by_cases e : m = mc
    · rw [e, hL, hK, (u6_ y q2).1, (u6_ y q2).2]; exact ⟨rfl, rfl⟩
    · rw [oLfm m (by omega), oKdm m (by omega)]; exact e1 m y (by omega) q2
  · by_cases e : m = mc
    · rw [e, hL]
    · rw [oLfm m (by omega)]; exact f1 m (by omega)
  · by_cases e : m = mc
    · rw [e, hD, u7_ j q2]
    · rw [oPdm m (by omega)]; exact g1 m j (by omega) q2
  · rw [oDd d q, ht (8 + d) (by omega), if_neg (by omega), if_neg (by omega)]; exact k1 d q
/-- a new department -/
theorem eqB.sec {z z2 : xSt} {mc dc : Nat} {t r t2 : Nat → Int32} {nm : Int32} (h : eqB z 1 mc dc t r) (hz : hiZ mc dc r) (hm : mc ≤ 8) (hd : dc < 4)
    (h1 : ∀ o, 67 ≤ o → o < 115 → o ≠ oB 1 → o ≠ oD 1 dc → z2.1 o = z.1 o) (h2 : ∀ k, k ≠ 4 → z2.1 (oB 1) k = z.1 (oB 1) k) (h3 : z2.1 (oB 1) 4 = nI (dc + 1)) (hD : z2.1 (oD 1 dc) = fun k => if k = 0 then nm else 0)
    (ht : ∀ k, k < 14 → t2 k = if k = 13 then nI (dc + 1) else if k = 8 + dc then nm else t k) : eqB z2 1 mc (dc + 1) t2 r := by
  obtain ⟨⟨a1, a2, a3, a4, a5, a6⟩, b1, c1, d1, e1, f1, g1, k1⟩ := h
  obtain ⟨u1_, u2_⟩ := hz.2.2 dc (Nat.le_refl _) hd
  have oMm : ∀ m, m < mc → z2.1 (oM 1 m) = z.1 (oM 1 m) := fun m q => h1 _ (by unfold oM; omega) (by unfold oM; omega) (by unfold oM oB; omega) (by unfold oM oD; omega)
  have oPtm : ∀ m, m < mc → z2.1 (oPt 1 m) = z.1 (oPt 1 m) := fun m q => h1 _ (by unfold oPt; omega) (by unfold oPt; omega) (by unfold oPt oB; omega) (by unfold oPt oD; omega)
  have oLfm : ∀ m, m < mc → z2.1 (oLf 1 m) = z.1 (oLf 1 m) := fun m q => h1 _ (by unfold oLf; omega) (by unfold oLf; omega) (by unfold oLf oB; omega) (by unfold oLf oD; omega)
  have oKdm : ∀ m, m < mc → z2.1 (oKd 1 m) = z.1 (oKd 1 m) := fun m q => h1 _ (by unfold oKd; omega) (by unfold oKd; omega) (by unfold oKd oB; omega) (by unfold oKd oD; omega)
  have oPdm : ∀ m, m < mc → z2.1 (oPd 1 m) = z.1 (oPd 1 m) := fun m q => h1 _ (by unfold oPd; omega) (by unfold oPd; omega) (by unfold oPd oB; omega) (by unfold oPd oD; omega)
  have oSt_ : z2.1 (oSt 1) = z.1 (oSt 1) := h1 _ (by unfold oSt; omega) (by unfold oSt; omega) (by unfold oSt oB; omega) (by unfold oSt oD; omega)
  have oDd : ∀ d, d < dc → z2.1 (oD 1 d) = z.1 (oD 1 d) := fun d q => h1 _ (by unfold oD; omega) (by unfold oD; omega) (by unfold oD oB; omega) (by unfold oD; omega)
  refine ⟨⟨by rw [h2 3 (by decide), ht 12 (by decide), if_neg (by decide), if_neg (by omega)]; exact a1, by rw [h3, ht 13 (by decide), if_pos rfl], by rw [h2 5 (by decide)]; exact a3, by rw [h2 6 (by decide)]; exact a4, by rw [h2 8 (by decide)]; exact a5, ?_⟩, fun k hk => by rw [oSt_]; exact b1 k hk, fun m q => by rw [oMm m q, ht m (by omega), if_neg (by omega), if_neg (by omega)]; exact c1 m q, fun m d q q2 => by rw [oPtm m q]; exact d1 m d q q2, fun m y q q2 => by rw [oLfm m q, oKdm m q]; exact e1 m y q q2, fun m q => by rw [oLfm m q]; exact f1 m q, fun m j q q2 => by rw [oPdm m q]; exact g1 m j q q2, fun d q => ?_⟩
  · rw [h2 7 (by decide), bx_cong (g := fun m => z.1 (oPd 1 m) 0) (fun m q => by show z2.1 (oPd 1 m) 0 = _; rw [oPdm m q])]
    exact a6
  · by_cases e : d = dc
    · subst e
      rw [hD, ht (8 + d) (by omega), if_neg (by omega), if_pos rfl, u1_, u2_]
      exact ⟨rfl, rfl, rfl⟩
    · rw [oDd d (by omega), ht (8 + d) (by omega), if_neg (by omega), if_neg (by omega)]; exact k1 d (by omega)
theorem rI.cnt {mc dc Y mc2 dc2 : Nat} {t r t2 : Nat → Int32} (h : rI mc dc Y t r) (h1 : t2 12 = nI mc2) (h2 : mc2 ≤ 8) (h3 : t2 13 = nI dc2) (h4 : dc2 ≤ 4) : rI mc2 dc2 Y t2 r := ⟨⟨h1, h2, h3, h4, h.1.2.2.2.2⟩, h.2⟩
theorem hiZ.mono {mc dc mc2 dc2 : Nat} {r : Nat → Int32} (h : hiZ mc dc r) (h1 : mc ≤ mc2) (h2 : dc ≤ dc2) : hiZ mc2 dc2 r := ⟨h.1, fun m a b => h.2.1 m (by omega) b, fun d a b => h.2.2 d (by omega) b⟩
theorem hiZ.cn {mc dc : Nat} {r : Nat → Int32} (h : hiZ mc dc r) {k : Nat} (hk : k < mc) (h8 : mc ≤ 8) (v : Int32) : hiZ mc dc (va_up r (13 + k) v) := by
  obtain ⟨z1, z2, z3⟩ := h
  have n2 : ∀ j, j ≠ 13 + k → va_up r (13 + k) v j = r j := fun j h => va_up_ne _ _ h
  refine ⟨fun m hm => by rw [n2 _ (by omega)]; exact z1 m hm, fun m hm h9 => ?_, fun d hd h9 => by rw [n2 _ (by omega), n2 _ (by omega)]; exact z3 d hd h9⟩
  obtain ⟨a1, a2, a3, a4, a5, a6, a7⟩ := z2 m hm h9
  exact ⟨by rw [n2 _ (by omega)]; exact a1, by rw [n2 _ (by omega)]; exact a2, by rw [n2 _ (by omega)]; exact a3, by rw [n2 _ (by omega)]; exact a4, fun d hd => by rw [n2 _ (by omega)]; exact a5 d hd, fun y hy => by rw [n2 _ (by omega), n2 _ (by omega)]; exact a6 y hy, fun j hj => by rw [n2 _ (by omega)]; exact a7 j hj⟩
