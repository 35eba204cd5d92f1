/-! BOTH ANSWER ALIKE: close, and what a closing would give -/
theorem okR_cong {dc : Nat} {f g : Nat → Int32} (h : ∀ i, i < 4 → f i = g i) : okR dc f ↔ okR dc g := ⟨fun k i hi => by rw [← h i hi]; exact k i hi, fun k i hi => by rw [h i hi]; exact k i hi⟩
theorem zR_r {z : xSt} {a b c d : Int32} (i : Nat) (hi : i < 4) : (zR z a b c d).1 1 i = if i = 0 then a else if i = 1 then b else if i = 2 then c else d := by
  unfold zR
  rw [u1_rd2, u1_rd2, u1_rd2, u1_rd2]
  rcases (show i = 0 ∨ i = 1 ∨ i = 2 ∨ i = 3 by omega) with rfl | rfl | rfl | rfl <;> rfl
theorem zQ_r {z : xSt} {a b c d : Int32} (i : Nat) (hi : i < 4) : (zQ z a b c d).1 10 i = if i = 0 then a else if i = 1 then b else if i = 2 then c else d := by
  unfold zQ
  rw [u1_rd2, u1_rd2, u1_rd2, u1_rd2]
  rcases (show i = 0 ∨ i = 1 ∨ i = 2 ∨ i = 3 by omega) with rfl | rfl | rfl | rfl <;> rfl
theorem okR_b {dc : Nat} {f : Nat → Int32} (h : okR dc f) (h4 : dc ≤ 4) {d : Nat} (hd : d < dc) : -1000000 ≤ (f d).toInt ∧ (f d).toInt ≤ 1000000 := by
  obtain ⟨h1, h2⟩ := h d (by omega)
  unfold mst at h1 h2
  rw [if_pos hd] at h1 h2
  have t1 : (nI 1000000).toInt = 1000000 := rfl
  have t2 : (-nI 1000000).toInt = -1000000 := rfl
  have k1 := Int32.le_iff_toInt_le.mp h1
  have k2 := Int32.le_iff_toInt_le.mp h2
  rw [t2] at k1
  rw [t1] at k2
  exact ⟨k1, k2⟩
theorem shD_all {y : xSt} {mc dc Y : Nat} (hI : rI mc dc Y (y.1 2) (y.1 4)) (hr : ∀ d, d < dc → -1000000 ≤ (y.1 10 d).toInt ∧ (y.1 10 d).toInt ≤ 1000000) : ∀ e, e < dc → shD (daL y e) e := fun e he => by
  have h8 : mc ≤ 8 := hI.1.2.1
  have h4 : dc ≤ 4 := hI.1.2.2.2.1
  obtain ⟨r, hr50, er⟩ := hI.2.1.2.1
  refine shD_of (r := r) (by unfold mQ; rw [daL_2, hI.1.1, nI_clamp (by omega)]; exact h8) (by omega) (fun k hk => ?_) (by rw [daL_4]; exact er) hr50 (by rw [daL_10]; exact (hr e he).1) (by rw [daL_10]; exact (hr e he).2)
  rw [daL_4]
  obtain ⟨a, ha, ea⟩ := (hI.2.2.2.1 (k / 4) (k % 4) (by omega) (by omega)).1
  exact ⟨a, ha, by rw [← ea, show 29 + 4 * (k / 4) + k % 4 = 29 + k by omega]⟩
theorem lvO_of {z : xSt} {mc dc Y : Nat} (hI : rI mc dc Y (z.1 2) (z.1 4)) : lvO z := fun m hm h => (hI.2.2.1 m hm).2.2.2 h
theorem clos_lo {z : xSt} {b oR mc dc Y o : Nat} (hm : mc ≤ 8) (hd : dc ≤ 4) (h : (o < 5 ∨ 7 < o) ∧ (o < 19 + 48 * b ∨ 67 + 48 * b ≤ o)) : (clos z b oR mc dc Y).1 o = z.1 o := frB.clos hm hd o h.1 h.2
set_option maxHeartbeats 1000000 in
theorem s_close (l : Launch) (a b c_ d : Int32) : lG l jJ yX9_close cX9_close 6 (some FieldType.int) rm_X9_close yX10_close cX10_close 5 (some FieldType.int) rm_X10_close [.int a, .int b, .int c_, .int d] := by
  intro G w v K zc zm sz hw hv hJ
  obtain ⟨hQ, h28, hcn, mc, dc, Y, u, f, hH⟩ := id hJ
  obtain ⟨⟨d1, d2, d3, d4, d5, d6, d7⟩, ⟨hE, hI, hY⟩, hg⟩ := id hH
  obtain ⟨hB, em, ed, eY⟩ := hE.ok hI hY
  obtain ⟨hO, qm, qd, qY⟩ := hI.ok hY
  have h8 : mc ≤ 8 := hI.1.2.1
  have h4 : dc ≤ 4 := hI.1.2.2.2.1
  have hu10 : u ≤ 10 := Nat.le_trans d5 d7
  have hix := kixK d5 d6 d4 d7
  have hI1 : rI mc dc Y ((zQ (u1 zm 0 0 0) a b c_ d).1 2) ((zQ (u1 zm 0 0 0) a b c_ d).1 4) := by rw [zQ_o (by omega), zQ_o (by omega), u1_ne _ (by omega), u1_ne _ (by omega)]; exact hI
  have kI : rI mc dc Y ((kpS (zQ (u1 zm 0 0 0) a b c_ d) u).1 2) ((kpS (zQ (u1 zm 0 0 0) a b c_ d) u).1 4) := by rw [kpS_o (by omega) (by omega), kpS_o (by omega) (by omega)]; exact hI1
  refine ⟨_, _, c_X9_close l G w K hw zc sz a b c_ d f u hB hcn.1 d3 d1 d4 hu10 hix, fun sz => c_X10_close l G v hv zm sz a b c_ d u hO d2 hu10 (fun hok _ => ?_) (lvO_of hI), fun r u h => ?_, ?_⟩
  · rw [qd] at hok ⊢
    exact shD_all kI (fun e he => by rw [kpS_o (by omega) (by omega)]; exact okR_b hok h4 he)
  · obtain ⟨K2, -, hX, -⟩ := h; exact hX
  rintro r1 u1v r2 z2 ⟨K2, hK2, -, e1⟩ e2
  rw [em, ed, eY] at e1
  rw [qd, qY] at e2
  have hok : okR dc ((zR zc a b c_ d).1 1) ↔ okR dc ((zQ (u1 zm 0 0 0) a b c_ d).1 10) := okR_cong (fun i hi => by rw [zR_r i hi, zQ_r i hi])
  have hJ1 : jJ K (zR zc a b c_ d) (zQ (u1 zm 0 0 0) a b c_ d) := (hJ.u0 0).fr (fun o ho => zR_ne (by omega)) (fun m hm => by rw [zR_ne (by unfold oM; omega)]; exact hcn.2 m hm) (fun o ho => zQ_o (by omega)) ⟨by rw [zQ_o (by omega)], by rw [zQ_o (by omega)], by rw [zQ_o (by omega)]⟩
  by_cases c1 : okR dc ((zR zc a b c_ d).1 1)
  · rw [if_neg (not_not_intro c1)] at e1
    rw [if_neg (not_not_intro (hok.mp c1))] at e2
    by_cases c2 : Y < 24
    · rw [if_neg (not_not_intro c2)] at e1
      rw [if_neg (by omega)] at e2
      obtain ⟨ea, e3⟩ := Prod.mk.inj e1
      obtain ⟨eK, ez⟩ := Prod.mk.inj e3
      obtain ⟨eb, em2⟩ := Prod.mk.inj e2
      have hH1 : jH K mc dc Y u f (zR zc a b c_ d) (zQ (u1 zm 0 0 0) a b c_ d) := by
        refine ⟨⟨by rw [zR_ne (by omega)]; exact d1, by rw [zQ_o (by omega), u1_sne _ _ _ (by omega)]; exact d2, by rw [zR_ne (by omega)]; exact d3, d4, d5, d6, d7⟩, ⟨by rw [zQ_o (by omega), zQ_o (by omega), u1_ne _ (by omega), u1_ne _ (by omega)]; exact hE.fr (fun o h1 h2 => zR_ne (by omega)) h8 h4, hI1, hY⟩, fun j hj => ?_⟩
        obtain ⟨Yj, g2, g3, g4⟩ := hg j hj
        rw [zQ_o (by omega), zQ_o (by omega), u1_ne _ (by omega), u1_ne _ (by omega)]
        exact ⟨Yj, g2, g3.fr (fun o h1 h2 => zR_ne (by omega)) h8 h4, g4⟩
      have hzE : eqB (keZ K (zR zc a b c_ d) f u 0 mc dc) 0 mc dc ((kpS (zQ (u1 zm 0 0 0) a b c_ d) u).1 2) ((kpS (zQ (u1 zm 0 0 0) a b c_ d) u).1 4) := by
        rw [kpS_o (by omega) (by omega), kpS_o (by omega) (by omega)]
        exact hH1.2.1.1.fr (fun o h1 h2 => keZ_o (by omega) (by omega)) h8 h4
      obtain ⟨cE, cI⟩ := clos_eq (oR := 1) (Or.inl (by omega)) hzE kI c2 (fun e he => by
        rw [keZ_o (by omega) (by omega), kpS_o (by omega) (by omega), zR_r e (by omega), zQ_r e (by omega)]
        have := okR_b (hok.mp c1) h4 he
        rw [zQ_r e (by omega)] at this
        exact ⟨rfl, this⟩)
      have cqo : ∀ o, o ≠ 0 → o ≠ 4 → o ≠ 11 → o ≠ 12 → (clQ (kpS (zQ (u1 zm 0 0 0) a b c_ d) u)).1 o = (kpS (zQ (u1 zm 0 0 0) a b c_ d) u).1 o := fun o q0 q4 q11 q12 => by rw [clQ_oo q4, daL_o q0 q11 q12]
      have cq0 : ∀ k, k ≠ 15 → (clQ (kpS (zQ (u1 zm 0 0 0) a b c_ d) u)).1 0 k = (kpS (zQ (u1 zm 0 0 0) a b c_ d) u).1 0 k := fun k q => by rw [clQ_oo (by omega), daL_0 q]
      refine ⟨?_, keK K f u, eK ▸ hK2, ?_⟩
      · rw [ea, eb, show (clQ (kpS (zQ (u1 zm 0 0 0) a b c_ d) u)).1 4 494 = nI (Y + 1) from cI.1.2.2.2.2, nI_sub (by omega)]
        rfl
      · rw [ez, em2]
        have t2 : (kpS (zQ (u1 zm 0 0 0) a b c_ d) u).1 2 = (zQ (u1 zm 0 0 0) a b c_ d).1 2 := kpS_o (by omega) (by omega)
        rw [t2] at cE cI
        refine hH1.chg hJ1.1 hJ1.2.1 (fun o ho => clos_lo h8 h4 (by omega)) ?_ ?_ (fun o ho => cqo o (by omega) (by omega) (by omega) (by omega)) ⟨by rw [cq0 _ (by omega), kpS_0 (by omega)], by rw [cq0 _ (by omega)]; exact kpS_8, by rw [cq0 _ (by omega), kpS_0 (by omega)]⟩ cE cI (by omega)
        · exact (keM.clos h8 h4).cn (cn_lo hJ1.2.2.1.1)
        · intro m hm
          rw [clos_lo h8 h4 (by unfold oM; omega)]
          exact cn_lo1 hJ1.2.2.1.2 m hm
    · rw [if_pos c2] at e1
      rw [if_pos (by omega)] at e2
      obtain ⟨ea, e3⟩ := Prod.mk.inj e1
      obtain ⟨eK, ez⟩ := Prod.mk.inj e3
      obtain ⟨eb, em2⟩ := Prod.mk.inj e2
      exact ⟨ea.trans eb.symm, K, eK ▸ hK2, by rw [ez, em2]; exact hJ1⟩
  · rw [if_pos c1] at e1
    rw [if_pos (fun h => c1 (hok.mpr h))] at e2
    obtain ⟨ea, e3⟩ := Prod.mk.inj e1
    obtain ⟨eK, ez⟩ := Prod.mk.inj e3
    obtain ⟨eb, em2⟩ := Prod.mk.inj e2
    exact ⟨ea.trans eb.symm, K, eK ▸ hK2, by rw [ez, em2]; exact hJ1⟩
