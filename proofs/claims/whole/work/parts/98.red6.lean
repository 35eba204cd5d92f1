/-! BOTH ANSWER ALIKE: a redemption is carried out -/
theorem eqB.lf {z : xSt} {b mc dc : Nat} {t r : Nat → Int32} (h : eqB z b mc dc t r) {m y : Nat} (hm : m < mc) (hy : y < 24) (h8 : mc ≤ 8) (h4 : dc ≤ 4) (v : Int32) : eqB (u1 z (oLf b m) y v) b mc dc t (va_up r (61 + 24 * m + y) v) := by
  obtain ⟨⟨a1, a2, a3, a4, a5, a6⟩, h2, h3, hp, h5, h6, h7, h9⟩ := h
  refine ⟨⟨?_, ?_, ?_, ?_, ?_, ?_⟩, fun k hk => ?_, fun m' hm' => ?_, fun m' d' hm' hd' => ?_, fun m' y' hm' hy' => ?_, fun m' hm' => ?_, fun m' j hm' hj => ?_, fun d' hd' => ?_⟩
  · rw [u1_ne _ (by unfold oLf oB; omega)]; exact a1
  · rw [u1_ne _ (by unfold oLf oB; omega)]; exact a2
  · rw [u1_ne _ (by unfold oLf oB; omega), va_rd, if_neg (by omega)]; exact a3
  · rw [u1_ne _ (by unfold oLf oB; omega), va_rd, if_neg (by omega)]; exact a4
  · rw [u1_ne _ (by unfold oLf oB; omega), va_rd, if_neg (by omega)]; exact a5
  · rw [u1_ne _ (by unfold oLf oB; omega), va_rd, if_neg (by omega), bx_cong (g := fun m => z.1 (oPd b m) 0) (fun m' hm' => by show (u1 z (oLf b m) y v).1 (oPd b m') 0 = _; rw [u1_ne _ (by unfold oLf oPd; omega)])]; exact a6
  · rw [u1_ne _ (by unfold oLf oSt; omega), va_rd, if_neg (by omega)]; exact h2 k hk
  · rw [u1_ne _ (by unfold oLf oM; omega), va_rd, if_neg (by omega), va_rd, if_neg (by omega), va_rd, if_neg (by omega), va_rd, if_neg (by omega), va_rd, if_neg (by omega)]; exact h3 m' hm'
  · rw [u1_ne _ (by unfold oLf oPt; omega), va_rd, if_neg (by omega)]; exact hp m' d' hm' hd'
  · rw [u1_ne z (o := oLf b m) (q := oKd b m') (by unfold oLf oKd; omega), va_rd _ _ _ (253 + 24 * m' + y'), if_neg (by omega)]
    by_cases e : m' = m
    · subst e
      rw [u1_rd2, va_rd]
      by_cases e2 : y' = y
      · rw [if_pos e2, if_pos (by omega)]; exact ⟨rfl, (h5 m' y' hm' hy').2⟩
      · rw [if_neg e2, if_neg (by omega)]; exact h5 m' y' hm' hy'
    · rw [u1_ne _ (by unfold oLf; omega), va_rd, if_neg (by omega)]; exact h5 m' y' hm' hy'
  · by_cases e : m' = m
    · subst e
      rw [u1_rd2, if_neg (by omega)]; exact h6 m' hm'
    · rw [u1_ne _ (by unfold oLf; omega)]; exact h6 m' hm'
  · rw [u1_ne _ (by unfold oLf oPd; omega), va_rd, if_neg (by omega)]; exact h7 m' j hm' hj
  · rw [u1_ne _ (by unfold oLf oD; omega), va_rd, if_neg (by omega), va_rd, if_neg (by omega)]; exact h9 d' hd'
theorem eqB.pd {z : xSt} {b mc dc : Nat} {t r : Nat → Int32} (h : eqB z b mc dc t r) {m : Nat} (hm : m < mc) (h8 : mc ≤ 8) (h4 : dc ≤ 4) (v : Int32) : eqB (u1 z (oPd b m) 1 v) b mc dc t (va_up r (445 + 3 * m + 1) v) := by
  obtain ⟨⟨a1, a2, a3, a4, a5, a6⟩, h2, h3, hp, h5, h6, h7, h9⟩ := h
  refine ⟨⟨?_, ?_, ?_, ?_, ?_, ?_⟩, fun k hk => ?_, fun m' hm' => ?_, fun m' d' hm' hd' => ?_, fun m' y' hm' hy' => ?_, fun m' hm' => ?_, fun m' j hm' hj => ?_, fun d' hd' => ?_⟩
  · rw [u1_ne _ (by unfold oPd oB; omega)]; exact a1
  · rw [u1_ne _ (by unfold oPd oB; omega)]; exact a2
  · rw [u1_ne _ (by unfold oPd oB; omega), va_rd, if_neg (by omega)]; exact a3
  · rw [u1_ne _ (by unfold oPd oB; omega), va_rd, if_neg (by omega)]; exact a4
  · rw [u1_ne _ (by unfold oPd oB; omega), va_rd, if_neg (by omega)]; exact a5
  · rw [u1_ne _ (by unfold oPd oB; omega), va_rd, if_neg (by omega), bx_cong (g := fun m => z.1 (oPd b m) 0) (fun m' hm' => by
      show (u1 z (oPd b m) 1 v).1 (oPd b m') 0 = _
      rw [u1_rd, if_neg (by omega)])]
    exact a6
  · rw [u1_ne _ (by unfold oPd oSt; omega), va_rd, if_neg (by omega)]; exact h2 k hk
  · rw [u1_ne _ (by unfold oPd oM; omega), va_rd, if_neg (by omega), va_rd, if_neg (by omega), va_rd, if_neg (by omega), va_rd, if_neg (by omega), va_rd, if_neg (by omega)]; exact h3 m' hm'
  · rw [u1_ne _ (by unfold oPd oPt; omega), va_rd, if_neg (by omega)]; exact hp m' d' hm' hd'
  · rw [u1_ne _ (by unfold oPd oLf; omega), u1_ne _ (by unfold oPd oKd; omega), va_rd, if_neg (by omega), va_rd, if_neg (by omega)]; exact h5 m' y' hm' hy'
  · rw [u1_ne _ (by unfold oPd oLf; omega)]; exact h6 m' hm'
  · by_cases e : m' = m
    · subst e
      rw [u1_rd2, va_rd]
      by_cases e2 : j = 1
      · rw [if_pos e2, if_pos (by omega)]
      · rw [if_neg e2, if_neg (by omega)]; exact h7 m' j hm' hj
    · rw [u1_ne _ (by unfold oPd; omega), va_rd, if_neg (by omega)]; exact h7 m' j hm' hj
  · rw [u1_ne _ (by unfold oPd oD; omega), va_rd, if_neg (by omega), va_rd, if_neg (by omega)]; exact h9 d' hd'
theorem eqB.yr {z : xSt} {b mc dc : Nat} {t r : Nat → Int32} (hE : eqB z b mc dc t r) (h8 : mc ≤ 8) (h4 : dc ≤ 4) (v : Int32) : eqB (u1 z (oB b) 5 v) b mc dc t (va_up r 494 v) := by
  refine (hE.C.yr h8 h4 v).B (fun m hm => ?_)
  rw [u1_ne _ (by unfold oM oB; omega), va_rd, if_neg (by omega), va_rd, if_neg (by omega)]
  exact (hE.2.2.1 m hm).2.2.2.2
theorem rI.lf {mc dc Y : Nat} {t r : Nat → Int32} (h : rI mc dc Y t r) {m y : Nat} {v : Int32} (hm : m < 8) (hy : y < 24) (hv : isN v 5000000) (h0 : Y ≤ y → v = 0) : rI mc dc Y t (va_up r (61 + 24 * m + y) v) := by
  obtain ⟨⟨a1, a2, a3, a4, a5⟩, ⟨b1, b2, b3, b4, b5⟩, h3, h4, h5, h6⟩ := h
  refine ⟨⟨a1, a2, a3, a4, by rw [va_rd, if_neg (by omega)]; exact a5⟩, ⟨by rw [va_rd, if_neg (by omega)]; exact b1, by rw [va_rd, if_neg (by omega)]; exact b2, by rw [va_rd, if_neg (by omega)]; exact b3, by rw [va_rd, if_neg (by omega)]; exact b4, by rw [va_rd, if_neg (by omega)]; exact b5⟩, fun m' hm' => ?_, fun m' d' hm' hd' => ?_, fun m' y' hm' hy' => ?_, fun d' hd' => ?_⟩
  · rw [va_rd, if_neg (by omega), va_rd, if_neg (by omega), va_rd, if_neg (by omega)]; exact h3 m' hm'
  · rw [va_rd _ _ _ (5 + m'), if_neg (by omega), va_rd, if_neg (by omega)]; exact h4 m' d' hm' hd'
  · rw [va_rd _ _ _ (253 + 24 * m' + y'), if_neg (by omega), va_rd]
    by_cases e : 61 + 24 * m' + y' = 61 + 24 * m + y
    · rw [if_pos e]
      have ey : y' = y := by omega
      exact ⟨hv, fun h => ⟨h0 (by omega), ((h5 m' y' hm' hy').2 h).2⟩⟩
    · rw [if_neg e]; exact h5 m' y' hm' hy'
  · rw [va_rd, if_neg (by omega)]; exact h6 d' hd'
theorem rI.pd {mc dc Y : Nat} {t r : Nat → Int32} (h : rI mc dc Y t r) {m : Nat} {v : Int32} (hm : m < 8) : rI mc dc Y t (va_up r (445 + 3 * m + 1) v) := by
  obtain ⟨⟨a1, a2, a3, a4, a5⟩, ⟨b1, b2, b3, b4, b5⟩, h3, h4, h5, h6⟩ := h
  refine ⟨⟨a1, a2, a3, a4, by rw [va_rd, if_neg (by omega)]; exact a5⟩, ⟨by rw [va_rd, if_neg (by omega)]; exact b1, by rw [va_rd, if_neg (by omega)]; exact b2, by rw [va_rd, if_neg (by omega)]; exact b3, by rw [va_rd, if_neg (by omega)]; exact b4, by rw [va_rd, if_neg (by omega)]; exact b5⟩, fun m' hm' => ?_, fun m' d' hm' hd' => ?_, fun m' y' hm' hy' => ?_, fun d' hd' => ?_⟩
  · rw [va_rd, if_neg (by omega), va_rd, if_neg (by omega), va_rd, if_neg (by omega)]; exact h3 m' hm'
  · rw [va_rd _ _ _ (5 + m'), if_neg (by omega), va_rd, if_neg (by omega)]; exact h4 m' d' hm' hd'
  · rw [va_rd _ _ _ (253 + 24 * m' + y'), if_neg (by omega), va_rd, if_neg (by omega)]; exact h5 m' y' hm' hy'
  · rw [va_rd, if_neg (by omega)]; exact h6 d' hd'
theorem rI.yr {mc dc Y : Nat} {t r : Nat → Int32} (h : rI mc dc Y t r) : rI mc dc (Y + 1) t (va_up r 494 (nI (Y + 1))) := by
  obtain ⟨⟨a1, a2, a3, a4, a5⟩, ⟨b1, b2, b3, b4, b5⟩, h3, h4, h5, h6⟩ := h
  refine ⟨⟨a1, a2, a3, a4, by rw [va_up_self]⟩, ⟨by rw [va_rd, if_neg (by omega)]; exact b1, by rw [va_rd, if_neg (by omega)]; exact b2, by rw [va_rd, if_neg (by omega)]; exact b3, by rw [va_rd, if_neg (by omega)]; exact b4, by rw [va_rd, if_neg (by omega)]; exact b5⟩, fun m' hm' => ?_, fun m' d' hm' hd' => ?_, fun m' y' hm' hy' => ?_, fun d' hd' => ?_⟩
  · rw [va_rd, if_neg (by omega), va_rd, if_neg (by omega), va_rd, if_neg (by omega)]; exact h3 m' hm'
  · rw [va_rd _ _ _ (5 + m'), if_neg (by omega), va_rd, if_neg (by omega)]; exact h4 m' d' hm' hd'
  · rw [va_rd _ _ _ (253 + 24 * m' + y'), if_neg (by omega), va_rd, if_neg (by omega)]; exact ⟨(h5 m' y' hm' hy').1, fun q => (h5 m' y' hm' hy').2 (by omega)⟩
  · rw [va_rd, if_neg (by omega)]; exact h6 d' hd'
/-- the payments go out, one certificate after the other -/
theorem pay_go {zc z : xSt} {b mc dc Y : Nat} {L : List (Nat × Nat)} {A : Nat → Nat} (hE : eqB zc b mc dc (z.1 2) (z.1 4)) (hI : rI mc dc Y (z.1 2) (z.1 4)) (hL : L.Pairwise lxR) (hb : ∀ i, i < L.length → (L.getD i (0, 0)).2 < mc ∧ (L.getD i (0, 0)).1 < 24) (hA : ∀ i, i < L.length → amt z L i = nI (A i) ∧ A i ≤ 5000000)
    (h13 : ∀ i, i < L.length → zc.1 13 i = z.1 13 i ∧ isN (z.1 13 i) (A i)) : ∀ i, i ≤ L.length → eqB (crO zc b (fun i => (L.getD i (0, 0)).2) (fun i => (L.getD i (0, 0)).1) i) b mc dc (z.1 2) ((paQ z L i).1 4) ∧ rI mc dc Y (z.1 2) ((paQ z L i).1 4) ∧ ∀ j, i ≤ j → j < L.length → lfQ (paQ z L i) (L.getD j (0, 0)).2 (L.getD j (0, 0)).1 = nI (A j)
  | 0, _ => ⟨hE, hI, fun j _ hj => (hA j hj).1⟩
  | i + 1, hi => by
    obtain ⟨e1, e2, e3⟩ := pay_go hE hI hL hb hA h13 i (by omega)
    have h8 : mc ≤ 8 := hI.1.2.1
    have h4 : dc ≤ 4 := hI.1.2.2.2.1
    obtain ⟨m1, m2⟩ := hb i (by omega)
    obtain ⟨p1, P, hP, p2⟩ := h13 i (by omega)
    have a1 := e3 i (Nat.le_refl _) (by omega)
    have a2 := (hA i (by omega)).2
    have q13 : (paQ z L i).1 13 i = nI P := by rw [paQ_1 (by decide)]; exact p2
    have eLf : (crO zc b (fun i => (L.getD i (0, 0)).2) (fun i => (L.getD i (0, 0)).1) i).1 (oLf b (L.getD i (0, 0)).2) (L.getD i (0, 0)).1 = nI (A i) := by rw [(e1.2.2.2.2.1 _ _ m1 m2).1]; exact a1
    have ePd := e1.2.2.2.2.2.2.1 _ 1 m1 (by omega)
    have eC : crO zc b (fun i => (L.getD i (0, 0)).2) (fun i => (L.getD i (0, 0)).1) (i + 1) = u1 (u1 (crO zc b (fun i => (L.getD i (0, 0)).2) (fun i => (L.getD i (0, 0)).1) i) (oLf b (L.getD i (0, 0)).2) (L.getD i (0, 0)).1 (nI (A i - P))) (oPd b (L.getD i (0, 0)).2) 1 ((crO zc b (fun i => (L.getD i (0, 0)).2) (fun i => (L.getD i (0, 0)).1) i).1 (oPd b (L.getD i (0, 0)).2) 1 + nI P) := by
      show u1 (u1 _ _ _ (_ - zc.1 13 i)) _ _ (_ + zc.1 13 i) = _
      rw [eLf, p1, p2, nI_sub hP]
    have eQ : paQ z L (i + 1) = u1 (u1 (paQ z L i) 4 (61 + 24 * (L.getD i (0, 0)).2 + (L.getD i (0, 0)).1) (nI (A i - P))) 4 (445 + 3 * (L.getD i (0, 0)).2 + 1) ((crO zc b (fun i => (L.getD i (0, 0)).2) (fun i => (L.getD i (0, 0)).1) i).1 (oPd b (L.getD i (0, 0)).2) 1 + nI P) := by
      have s1 : (u1 (paQ z L i) 4 (61 + 24 * (L.getD i (0, 0)).2 + (L.getD i (0, 0)).1) (nI (A i - P))).1 4 (445 + 3 * (L.getD i (0, 0)).2 + 1) = (crO zc b (fun i => (L.getD i (0, 0)).2) (fun i => (L.getD i (0, 0)).1) i).1 (oPd b (L.getD i (0, 0)).2) 1 := by rw [u1_sne _ _ _ (by omega), ePd]
      rw [← s1]
      show u1 (u1 _ _ _ (lfQ (paQ z L i) _ _ - (paQ z L i).1 13 i)) 4 _ ((u1 (paQ z L i) 4 _ (lfQ (paQ z L i) _ _ - (paQ z L i).1 13 i)).1 4 _ + (paQ z L i).1 13 i) = _
      rw [q13, a1, nI_sub hP]
    rw [eC, eQ, u1_at, u1_at]
    refine ⟨(e1.lf m1 m2 h8 h4 _).pd m1 h8 h4 _, (e2.lf (by omega) m2 ⟨_, by omega, rfl⟩ (fun hY => ?_)).pd (by omega), fun j hj hj2 => ?_⟩
    · have z0 := ((e2.2.2.2.2.1 _ _ (show (L.getD i (0, 0)).2 < 8 by omega) m2).2 hY).1
      have a3 : nI (A i) = 0 := by rw [← a1]; exact z0
      have a4 : A i = 0 := nI_inj (by omega) (by omega) a3
      rw [a4, Nat.zero_sub]; rfl
    · obtain ⟨n1, n2⟩ := hb j hj2
      have ho := ord_at hL (i := i) (j := j) (by omega) hj2
      unfold lxR at ho
      show va_up (va_up ((paQ z L i).1 4) _ _) _ _ (61 + 24 * (L.getD j (0, 0)).2 + (L.getD j (0, 0)).1) = _
      rw [va_up_ne _ _ (by omega), va_up_ne _ _ (by omega)]
      exact e3 j (by omega) hj2
theorem paQ_0 {z z2 : xSt} {L : List (Nat × Nat)} (h4 : z2.1 4 = z.1 4) (h13 : z2.1 13 = z.1 13) : ∀ i, (paQ z2 L i).1 4 = (paQ z L i).1 4
  | 0 => h4
  | i + 1 => by
    have e := paQ_0 (L := L) h4 h13 i
    unfold paQ lfQ
    rw [u1_at, u1_at, u1_at, u1_at, paQ_1 (z := z2) (o := 13) (by decide), paQ_1 (z := z) (o := 13) (by decide), e, h13]
