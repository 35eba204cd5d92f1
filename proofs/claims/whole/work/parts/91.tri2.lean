theorem bx_sN {f : Nat → Int32} {g : Nat → Nat} : ∀ {n : Nat}, (∀ i, i < n → f i = nI (g i)) → bx_sum f n = nI (sN g n)
  | 0, _ => rfl
  | n + 1, h => by
    show bx_sum f n + f n = nI (sN g n + g n)
    rw [bx_sN (fun i hi => h i (by omega)), h n (by omega), nI_add]
theorem i32_neg {n : Int32} (h : n < 0) (hb : -4000000 ≤ n.toInt) : ∃ x : Nat, -n = nI x ∧ 0 < x ∧ x ≤ 4000000 := by
  have t0 : (0 : Int32).toInt = 0 := rfl
  have h0 : n.toInt < 0 := by have := Int32.lt_iff_toInt_lt.mp h; rw [t0] at this; exact this
  refine ⟨(-n.toInt).toNat, nI_of_toInt ?_ (by omega), by omega, by omega⟩
  rw [Int32.toInt_neg, Int.bmod_eq_of_le (by omega) (by omega)]
  omega
theorem i32_pos {n : Int32} (h : ¬ n < 0) (hb : n.toInt ≤ 4000000) : ∃ x : Nat, n = nI x ∧ x ≤ 4000000 := by
  have t0 : (0 : Int32).toInt = 0 := rfl
  have h0 : 0 ≤ n.toInt := by have := Int32.le_iff_toInt_le.mp (Int32.not_lt.mp h); rw [t0] at this; exact this
  exact ⟨n.toInt.toNat, nI_of_toInt (by omega) (by omega), by omega⟩
theorem nI_subI {a b : Nat} (ha : a < 1000000000) (hb : b < 1000000000) : (nI a - nI b).toInt = (a : Int) - b := by
  rw [Int32.toInt_sub, nI_toInt (by omega), nI_toInt (by omega), Int.bmod_eq_of_le (by omega) (by omega)]
theorem rsT_is {z yd : xSt} {b mc dc Y m : Nat} (hI : rI mc dc Y (yd.1 2) (yd.1 4)) (hm : m < mc) (h4 : z.1 (oM b m) 4 = yd.1 11 m) (hL : ∀ y, y < 24 → z.1 (oLf b m) y = yd.1 4 (61 + 24 * m + y)) (h24 : z.1 (oLf b m) 24 = 0) (hb : -4000000 ≤ (yd.1 11 m).toInt ∧ (yd.1 11 m).toInt ≤ 4000000) : rsT z b m = wrR yd m := by
  have h8 : mc ≤ 8 := hI.1.2.1
  obtain ⟨q, hq, eq⟩ := eq_nat hI (m := m) (by omega)
  have e25 : bx_sum (z.1 (oLf b m)) 25 = nI q := by
    show bx_sum (z.1 (oLf b m)) 24 + z.1 (oLf b m) 24 = _
    rw [h24, Int32.add_zero, ← eq]
    exact bx_cong (fun y hy => hL y hy)
  have hg : ∀ i, i < 25 → (z.1 (oLf b m) i).toNatClampNeg ≤ 5000000 ∧ z.1 (oLf b m) i = nI (z.1 (oLf b m) i).toNatClampNeg := fun i hi => by
    by_cases c : i < 24
    · rw [hL i c]
      obtain ⟨a, ha, e⟩ := (hI.2.2.2.2.1 m i (by omega) c).1
      rw [e, nI_clamp (by omega)]
      exact ⟨ha, rfl⟩
    · rw [show i = 24 by omega, h24]
      exact ⟨by decide, rfl⟩
  have hsb : sN (fun i => (z.1 (oLf b m) i).toNatClampNeg) 25 ≤ 25 * 5000000 := sN_bd (fun i hi => (hg i hi).1)
  have hs : sN (fun i => (z.1 (oLf b m) i).toNatClampNeg) 25 = q := by
    have e := bx_sN (f := z.1 (oLf b m)) (g := fun i => (z.1 (oLf b m) i).toNatClampNeg) (n := 25) (fun i hi => (hg i hi).2)
    rw [e25] at e
    exact (nI_inj (by omega) (by omega) e).symm
  unfold rsT wrR
  rw [h4, eq]
  have t0 : (nI 0).toInt = 0 := rfl
  by_cases c : yd.1 11 m < 0
  · obtain ⟨x, ex, x0, xb⟩ := i32_neg c hb.1
    rw [if_pos c, ex, rcp_rcF (by omega) (fun i hi => ⟨_, by have := (hg i hi).1; omega, (hg i hi).2⟩), (rcF_nat (g := fun i => (z.1 (oLf b m) i).toNatClampNeg) (by omega) (fun i hi => ⟨by have := (hg i hi).1; omega, (hg i hi).2⟩)).1, hs]
    by_cases c2 : q < x
    · rw [nI_sub (by omega), if_pos (nI_lt (a := 0) (by omega) (by omega))]
    · rw [if_neg (fun h => by
        have h := Int32.lt_iff_toInt_lt.mp h
        rw [nI_subI (by omega) (by omega), t0] at h
        omega), show x - q = 0 by omega]
  · obtain ⟨x, ex, xb⟩ := i32_pos c hb.2
    rw [if_neg c, if_neg (fun h => by
      have h := Int32.lt_iff_toInt_lt.mp h
      rw [t0, ex, ← Int32.neg_add, nI_add, Int32.toInt_neg, nI_toInt (by omega), Int.bmod_eq_of_le (by omega) (by omega)] at h
      omega)]
    rfl
theorem csT_is {z yd : xSt} {b mc dc Y m : Nat} (hI : rI mc dc Y (yd.1 2) (yd.1 4)) (hm : m < mc) (h4 : z.1 (oM b m) 4 = yd.1 11 m) (h1 : z.1 (oM b m) 1 = yd.1 4 (13 + m)) (h0 : z.1 (oSt b) 0 = yd.1 4 0) : csT z b m = chC yd m := by
  have h8 : mc ≤ 8 := hI.1.2.1
  obtain ⟨cs, hcs, ecs⟩ := (hI.2.2.1 m (by omega)).2.1
  unfold csT chC cashOf
  rw [h4, h1, h0, ecs]
  rcases (show cs = 0 ∨ cs = 1 by omega) with rfl | rfl
  · rw [if_neg (fun h => absurd h.2 (by decide) : ¬ (0 < yd.1 11 m ∧ nI 0 = nI 1))]
    split <;> rfl
  · by_cases c : 0 < yd.1 11 m
    · rw [if_pos c, if_neg (by decide), if_pos ⟨c, rfl⟩]
      rfl
    · rw [if_neg c, if_neg (fun h => c h.1)]
      rfl
theorem plT_is {z yd : xSt} {b mc dc Y m : Nat} (hI : rI mc dc Y (yd.1 2) (yd.1 4)) (hm : m < mc) (h2 : z.1 (oM b m) 2 = yd.1 4 (5 + m)) (h3 : z.1 (oM b m) 3 = yd.1 4 (21 + m)) (hL : yd.1 4 (5 + m) = nI 1 → bx_sum (z.1 (oLf b m)) 25 = eqQ yd m) : plT z b m = chP yd m := by
  have h8 : mc ≤ 8 := hI.1.2.1
  obtain ⟨-, -, ⟨i, hi, ei⟩, hne⟩ := hI.2.2.1 m (by omega)
  unfold plT chP
  rw [h2, h3]
  have e1 : (1 : Int32) = nI 1 := rfl
  rw [e1]
  by_cases c : yd.1 4 (5 + m) = nI 1
  · rw [if_pos c, if_pos c, hL c]
    unfold rup
    have hp : 0 < yd.1 4 (21 + m) := by
      have hn := hne c
      rw [ei] at hn ⊢
      rcases Nat.eq_zero_or_pos i with q | q
      · exact absurd (by rw [q]; rfl) hn
      · exact nI_0lt q (by omega)
    rw [if_pos hp]
    rfl
  · rw [if_neg c, if_neg c]
    rfl
theorem clos_tri {z y : xSt} {b oR mc dc Y : Nat} (hb : oR < 5 ∨ (8 ≤ oR ∧ oR < 19)) (hE : eqB z b mc dc (y.1 2) (y.1 4)) (hI : rI mc dc Y (y.1 2) (y.1 4)) (hr : ∀ d, d < dc → z.1 oR d = y.1 10 d ∧ -1000000 ≤ (y.1 10 d).toInt ∧ (y.1 10 d).toInt ≤ 1000000) :
    (∀ m, m < mc → (clos z b oR mc dc Y).1 (oM b m) 4 = (daL y dc).1 11 m) ∧ (clos z b oR mc dc Y).1 (oB b) 6 = wrQ (daL y dc) mc ∧ (∀ m, m < mc → (clos z b oR mc dc Y).1 (oPd b m) 0 = z.1 (oPd b m) 0 + chC (daL y dc) m ∧ (clos z b oR mc dc Y).1 (oPd b m) 2 = z.1 (oPd b m) 2 + chP (daL y dc) m) := by
  have h8 : mc ≤ 8 := hI.1.2.1
  have h4 : dc ≤ 4 := hI.1.2.2.2.1
  obtain ⟨a1, a2, a3, a4, a5, a6, a7, a8⟩ := dA_all hb hE hI hr dc (Nat.le_refl dc)
  have nLf : ∀ m, m < 8 → nM2 b (oLf b m) := fun m hm => ⟨by unfold oLf; omega, by unfold oLf oB; omega, fun k hk => by unfold oLf oM; omega, fun d hd => by unfold oLf oD; omega⟩
  have nPd : ∀ m, m < 8 → nM2 b (oPd b m) := fun m hm => ⟨by unfold oPd; omega, by unfold oPd oB; omega, fun k hk => by unfold oPd oM; omega, fun d hd => by unfold oPd oD; omega⟩
  have hI2 : rI mc dc Y ((daL y dc).1 2) ((daL y dc).1 4) := by rw [daL_2, daL_4]; exact hI
  generalize hD : dpL (clr z b mc) b oR mc dc = D at a1 a2 a3 a4 a5 a6 a8
  obtain ⟨s1, s2, s3, s4, s5⟩ := tS_all (z := D) (b := b) (Y := Y) mc
  obtain ⟨p1, p2, p3⟩ := tP_all (z := stL D b Y mc) (b := b) mc
  have eC : clos z b oR mc dc Y = u1 (inL (stL D b Y mc) b mc) (oB b) 5 (nI (Y + 1)) := by rw [← hD]; rfl
  have hL : ∀ m, m < mc → ∀ y', y' < 24 → D.1 (oLf b m) y' = (daL y dc).1 4 (61 + 24 * m + y') := fun m hm y' hy => by rw [a1 _ (nLf m (by omega)), daL_4]; exact (hE.2.2.2.2.1 m y' hm hy).1
  have h24 : ∀ m, m < mc → D.1 (oLf b m) 24 = 0 := fun m hm => by rw [a1 _ (nLf m (by omega))]; exact hE.2.2.2.2.2.1 m hm
  rw [eC]
  refine ⟨fun m hm => ?_, ?_, fun m hm => ⟨?_, ?_⟩⟩
  · rw [u1_ne _ (by unfold oM oB; omega), p2, s2 m 4 (by omega)]
    exact (a4 m hm).2.1
  · rw [u1_sne _ _ _ (by omega), p1 _ (fun k hk => by unfold oB oM oPd oLf oPt; omega), s5, wrQ_is, daL_4, a8, hE.1.2.2.2.1]
    rw [bx_cong (f := rsT D b) (g := wrR (daL y dc)) (fun m hm => rsT_is hI2 hm (a4 m hm).2.1 (hL m hm) (h24 m hm) (by obtain ⟨-, -, b3, b4⟩ := a4 m hm; omega))]
  · rw [u1_ne _ (by unfold oPd oB; omega), p3 m hm, if_neg (by omega), Int32.add_zero, s3 m hm, if_pos rfl, a1 _ (nPd m (by omega))]
    rw [csT_is hI2 hm (a4 m hm).2.1 (by rw [a3 m 1 (by omega) (by omega) (by omega), daL_4]; exact (hE.2.2.1 m hm).2.1) (by rw [a1 _ nM2.St, daL_4]; exact hE.2.1 0 (by omega))]
  · rw [u1_ne _ (by unfold oPd oB; omega), p3 m hm, if_pos rfl, s3 m hm, if_neg (by omega), Int32.add_zero, a1 _ (nPd m (by omega))]
    rw [plT_is hI2 hm (by rw [s2 m 2 (by omega), a3 m 2 (by omega) (by omega) (by omega), daL_4]; exact (hE.2.2.1 m hm).2.2.1) (by rw [s2 m 3 (by omega), a3 m 3 (by omega) (by omega) (by omega), daL_4]; exact (hE.2.2.1 m hm).2.2.2.1) (fun hv => ?_)]
    have hz : ∀ d, d < 4 → y.1 4 (29 + 4 * m + d) = 0 := fun d hd => (hI.2.2.2.1 m d (by omega) hd).2 (by rw [daL_4] at hv; rw [hv]; decide)
    have h0 := daL_11 hI hm (fun d hd => (hr d hd).2) hz dc (Nat.le_refl dc)
    rw [s4 m (by rw [(a4 m hm).2.1]; exact h0)]
    show bx_sum (D.1 (oLf b m)) 24 + D.1 (oLf b m) 24 = _
    rw [h24 m hm, Int32.add_zero]
    exact bx_cong (fun y' hy => hL m hm y' hy)
theorem jJ.try {K : Nat} {zc zm : xSt} (hJ : jJ K zc zm) (a b c d x : Int32) : jJ K (tcY zc a b c d) (zQ (u1 zm 0 0 x) a b c d) ∧ ∀ dc, jJ K (tcY zc a b c d) (daL (zQ (u1 zm 0 0 x) a b c d) dc) := by
  obtain ⟨mc, dc, Y, ⟨hB, em, ed, eY⟩, -, -, -, hI, -⟩ := hJ.v
  have h8 : mc ≤ 8 := hI.1.2.1
  have h4 : dc ≤ 4 := hI.1.2.2.2.1
  have hc := hJ.2.2.1
  have h1 : ∀ o, (o = 0 ∨ o = 2 ∨ o = 14 ∨ o = 15 ∨ (19 ≤ o ∧ o < 67) ∨ 115 ≤ o) → (tcY zc a b c d).1 o = zc.1 o := fun o ho => by
    unfold tcY
    split
    · unfold tcZ
      rw [em, ed, clos_lo h8 h4 (by omega), cpA_out (by omega), zR_ne (by omega)]
    · exact zR_ne (by omega)
  have z1 : ∀ e, cnB zc e → cnB (zR zc a b c d) e := fun e h m hm => by rw [zR_ne (by unfold oM; omega)]; exact h m hm
  have h2 : cnB (tcY zc a b c d) 1 := by
    unfold tcY
    split
    · unfold tcZ
      rw [em, ed]
      exact (keM.clos h8 h4).cn (cpA_cn (z1 1 hc.2) (z1 0 hc.1))
    · exact z1 1 hc.2
  have q0 : ∀ k, k ≠ 0 → (zQ (u1 zm 0 0 x) a b c d).1 0 k = zm.1 0 k := fun k hk => by rw [zQ_o (by omega), u1_sne _ _ _ hk]
  have qo : ∀ o, o ≠ 0 → o ≠ 10 → (zQ (u1 zm 0 0 x) a b c d).1 o = zm.1 o := fun o g1 g2 => by rw [zQ_o g2, u1_ne _ g1]
  exact ⟨hJ.fr h1 h2 (fun o ho => qo o (by omega) (by omega)) ⟨q0 _ (by omega), q0 _ (by omega), q0 _ (by omega)⟩, fun e => hJ.fr h1 h2 (fun o ho => by rw [daL_o (by omega) (by omega) (by omega), qo o (by omega) (by omega)]) ⟨by rw [daL_0 (by omega), q0 _ (by omega)], by rw [daL_0 (by omega), q0 _ (by omega)], by rw [daL_0 (by omega), q0 _ (by omega)]⟩⟩
/-- a trial closing, on both sides -/
theorem try_eq {zc zm : xSt} {mc dc Y : Nat} (a b c d x : Int32) (h : jV mc dc Y zc zm) : (okR dc ((zR zc a b c d).1 1) ↔ okR dc ((zQ (u1 zm 0 0 x) a b c d).1 10)) ∧ (okR dc ((zQ (u1 zm 0 0 x) a b c d).1 10) → (∀ e, e < dc → shD (daL (zQ (u1 zm 0 0 x) a b c d) e) e) ∧ (∀ m, m < mc → (tcZ zc a b c d).1 (oM 1 m) 4 = (daL (zQ (u1 zm 0 0 x) a b c d) dc).1 11 m) ∧ (tcZ zc a b c d).1 (oB 1) 6 = wrQ (daL (zQ (u1 zm 0 0 x) a b c d) dc) mc ∧ bx_sum (fun m => (tcZ zc a b c d).1 (oPd 1 m) 0) mc - bx_sum (fun m => (tcZ zc a b c d).1 (oPd 0 m) 0) mc + bx_sum (fun m => (tcZ zc a b c d).1 (oPd 1 m) 2) mc - bx_sum (fun m => (tcZ zc a b c d).1 (oPd 0 m) 2) mc = chQ (daL (zQ (u1 zm 0 0 x) a b c d) dc) mc) := by
  obtain ⟨⟨hB, em, ed, eY⟩, -, -, hE, hI, hY⟩ := h
  have h8 : mc ≤ 8 := hI.1.2.1
  have h4 : dc ≤ 4 := hI.1.2.2.2.1
  have qo : ∀ o, o ≠ 0 → o ≠ 10 → (zQ (u1 zm 0 0 x) a b c d).1 o = zm.1 o := fun o g1 g2 => by rw [zQ_o g2, u1_ne _ g1]
  refine ⟨okR_cong (fun i hi => by rw [zR_r i hi, zQ_r i hi]), fun hok => ?_⟩
  have hI1 : rI mc dc Y ((zQ (u1 zm 0 0 x) a b c d).1 2) ((zQ (u1 zm 0 0 x) a b c d).1 4) := by rw [qo 2 (by omega) (by omega), qo 4 (by omega) (by omega)]; exact hI
  have hE1 : eqB (cpA (zR zc a b c d) 1 0 mc dc) 1 mc dc ((zQ (u1 zm 0 0 x) a b c d).1 2) ((zQ (u1 zm 0 0 x) a b c d).1 4) := by
    rw [qo 2 (by omega) (by omega), qo 4 (by omega) (by omega)]
    exact (hE.fr (fun o h1 h2 => zR_ne (by omega)) h8 h4).cp h8 h4
  have hr : ∀ e, e < dc → (cpA (zR zc a b c d) 1 0 mc dc).1 1 e = (zQ (u1 zm 0 0 x) a b c d).1 10 e ∧ -1000000 ≤ ((zQ (u1 zm 0 0 x) a b c d).1 10 e).toInt ∧ ((zQ (u1 zm 0 0 x) a b c d).1 10 e).toInt ≤ 1000000 := fun e he => by
    refine ⟨?_, okR_b hok h4 he⟩
    rw [cpA_lo (by omega), zR_r e (by omega), zQ_r e (by omega)]
  obtain ⟨t1, t2, t3⟩ := clos_tri (b := 1) (oR := 1) (Or.inl (by omega)) hE1 hI1 hr
  have eT : tcZ zc a b c d = clos (cpA (zR zc a b c d) 1 0 mc dc) 1 1 mc dc Y := by unfold tcZ; rw [em, ed, eY]
  refine ⟨shD_all hI1 (fun e he => (hr e he).2), fun m hm => by rw [eT]; exact t1 m hm, by rw [eT]; exact t2, ?_⟩
  have hP : ∀ m, m < mc → ∀ j, (cpA (zR zc a b c d) 1 0 mc dc).1 (oPd 1 m) j = (tcZ zc a b c d).1 (oPd 0 m) j := fun m hm j => by
    rw [tcZ_0 hB (by unfold oPd; omega) (by unfold oPd; omega), cpA_at (o2 := oPd 0 m) (by unfold oPd; omega) (by unfold oPd; omega), zR_ne (by unfold oPd; omega)]
  rw [bx_plus (f := fun m => (tcZ zc a b c d).1 (oPd 1 m) 0) (g := fun m => (tcZ zc a b c d).1 (oPd 0 m) 0) (h := chC (daL (zQ (u1 zm 0 0 x) a b c d) dc)) (fun m hm => by
    show (tcZ zc a b c d).1 (oPd 1 m) 0 = (tcZ zc a b c d).1 (oPd 0 m) 0 + _
    rw [← hP m hm 0, eT]; exact (t3 m hm).1), bx_plus (f := fun m => (tcZ zc a b c d).1 (oPd 1 m) 2) (g := fun m => (tcZ zc a b c d).1 (oPd 0 m) 2) (h := chP (daL (zQ (u1 zm 0 0 x) a b c d) dc)) (fun m hm => by
    show (tcZ zc a b c d).1 (oPd 1 m) 2 = (tcZ zc a b c d).1 (oPd 0 m) 2 + _
    rw [← hP m hm 2, eT]; exact (t3 m hm).2), chQ_is]
  rw [Int32.add_comm (bx_sum (fun m => (tcZ zc a b c d).1 (oPd 0 m) 0) mc), Int32.add_sub_cancel, Int32.add_comm (bx_sum (fun m => (tcZ zc a b c d).1 (oPd 0 m) 2) mc), ← Int32.add_assoc, Int32.add_sub_cancel]
/-- the first greatest -/
theorem mxI_am (f : Nat → Int32) : ∀ k, k < 2147483647 → mxI f (k + 1) = (nI (amI f k), f (amI f k))
  | 0, _ => mxI_y (Or.inl rfl)
  | k + 1, hk => by
    have ih := mxI_am f k (by omega)
    have hle := amI_le f k
    have hne : ¬ (mxI f (k + 1)).1 = (-1) := by
      rw [ih]
      intro h
      have h1 := nI_toInt (n := amI f k) (by omega)
      have h : nI (amI f k) = -1 := h
      rw [h] at h1
      have h2 : (-1 : Int32).toInt = -1 := rfl
      rw [h2] at h1
      omega
    rw [amI_s]
    by_cases c : f (amI f k) < f (k + 1)
    · rw [if_pos c]
      exact mxI_y (Or.inr (by rw [ih]; exact c))
    · rw [if_neg c, mxI_n (fun h => h.elim hne (fun h => c (by rw [ih] at h; exact h))), ih]
