/-! BOTH ANSWER ALIKE: redeem, redemptionsNeeded -/
theorem jH.fr {K mc dc Y u f : Nat} {zc zm c2 m2 : xSt} (h : jH K mc dc Y u f zc zm) (h1 : ∀ o, (o = 2 ∨ (19 ≤ o ∧ o < 67) ∨ 115 ≤ o) → c2.1 o = zc.1 o) (h2 : ∀ o, (o = 2 ∨ o = 4 ∨ o = 6) → m2.1 o = zm.1 o) (h3 : m2.1 0 8 = zm.1 0 8) : jH K mc dc Y u f c2 m2 := by
  obtain ⟨⟨d1, d2, d3, d4⟩, ⟨f1, f2, f3⟩, g1⟩ := h
  have hm : mc ≤ 8 := f2.1.2.1
  have hd : dc ≤ 4 := f2.1.2.2.2.1
  refine ⟨⟨by rw [h1 2 (by omega)]; exact d1, by rw [h3]; exact d2, by rw [h1 2 (by omega)]; exact d3, d4⟩, ⟨by rw [h2 2 (by omega), h2 4 (by omega)]; exact f1.fr (fun o a b => h1 o (by omega)) hm hd, by rw [h2 2 (by omega), h2 4 (by omega)]; exact f2, f3⟩, fun j hj => ?_⟩
  obtain ⟨Yj, g2, g3, g4⟩ := g1 j hj
  rw [h2 2 (by omega), h2 6 (by omega)]
  exact ⟨Yj, g2, g3.fr (fun o a b => h1 o (by omega)) hm hd, g4⟩
theorem pay_L {z : xSt} {mc dc Y : Nat} (hI : rI mc dc Y (z.1 2) (z.1 4)) : ltO (lpL z Y) (amN z (lpL z Y)) ∧ ∀ i, i < (lpL z Y).length → amt z (lpL z Y) i = nI (amN z (lpL z Y) i) := by
  have h8 : mc ≤ 8 := hI.1.2.1
  have qm : mQ z 12 = mc := by unfold mQ; rw [hI.1.1, nI_clamp (by omega)]
  have eL : lpL z Y = lcs z mc (yst z (min Y 24) 0) := by unfold lpL; rw [qm]
  have hTl := yst_le z (min Y 24) 0
  obtain ⟨hL, hA, -⟩ := lp_lt hI qm (yst z (min Y 24) 0) (by omega)
  rw [eL]
  exact ⟨hL, hA⟩
theorem crO_out {z : xSt} {b o : Nat} {mO yO : Nat → Nat} (ho : ∀ m, m < 8 → o ≠ oLf b m ∧ o ≠ oPd b m) : ∀ n, (∀ i, i < n → mO i < 8) → (crO z b mO yO n).1 o = z.1 o
  | 0, _ => rfl
  | n + 1, h => by
    obtain ⟨h1, h2⟩ := ho (mO n) (h n (by omega))
    unfold crO
    rw [u1_ne _ h2, u1_ne _ h1]
    exact crO_out ho n (fun i hi => h i (by omega))
/-- books b and the row after a redemption -/
theorem rdm_eq {zc z c0 z0 : xSt} {b mc dc Y B : Nat} (hE : eqB zc b mc dc (z.1 2) (z.1 4)) (hI : rI mc dc Y (z.1 2) (z.1 4)) (hY : Y < 200) (hB : B ≤ 10000000)
    (e13 : c0.1 13 = (plZ zc b mc (nI B)).1 13) (eE : ∀ o, 19 + 48 * b ≤ o → o < 67 + 48 * b → c0.1 o = zc.1 o) (f2 : z0.1 2 = z.1 2) (f4 : z0.1 4 = z.1 4) (f13 : z0.1 13 = (lpZ z Y (nI B)).1 13) :
    eqB (crO c0 b (plM zc b mc) (plY zc b mc) (plN zc b mc)) b mc dc (z.1 2) ((paQ z0 (lpL z Y) (lpL z Y).length).1 4) ∧ rI mc dc Y (z.1 2) ((paQ z0 (lpL z Y) (lpL z Y).length).1 4) ∧ ∀ i, i < plN zc b mc → plM zc b mc i < 8 := by
  have h8 : mc ≤ 8 := hI.1.2.1
  have h4 : dc ≤ 4 := hI.1.2.2.2.1
  obtain ⟨p1, p2, p3, p4, p5, p6, p7⟩ := pay_eq hE hI hY hB
  obtain ⟨hL, hA⟩ := pay_L hI
  have eM : plM zc b mc = fun i => ((lpL z Y).getD i (0, 0)).2 := by funext i; unfold plM; rw [p1]
  have eY : plY zc b mc = fun i => ((lpL z Y).getD i (0, 0)).1 := by funext i; unfold plY; rw [p1]
  have eN : plN zc b mc = (lpL z Y).length := by unfold plN; rw [p1]
  rw [eM, eY, eN]
  have k := pay_go (zc := c0) (z := z0) (L := lpL z Y) (A := amN z (lpL z Y)) (Y := Y) (b := b) (mc := mc) (dc := dc) (by rw [f2, f4]; exact hE.fr eE h8 h4) (by rw [f2, f4]; exact hI) hL.2.1 p7 (fun i hi => ⟨by unfold amt lfQ; rw [f4]; exact hA i hi, (hL.2.2 i hi).2.1⟩) (fun i hi => by rw [e13, f13]; exact p4 i hi) _ (Nat.le_refl _)
  rw [f2] at k
  exact ⟨k.1, k.2.1, fun i hi => by have := (p7 i hi).1; show ((lpL z Y).getD i (0, 0)).2 < 8; omega⟩
set_option maxHeartbeats 1000000 in
theorem s_redeem (l : Launch) (x : Int32) : lG l jJ yX9_redeem cX9_redeem 3 (some FieldType.int) rm_X9_redeem yX10_redeem cX10_redeem 3 (some FieldType.int) rm_X10_redeem [.int x] := by
  intro G w v K zc zm sz hw hv hJ
  obtain ⟨hQ, h28, hcn, mc, dc, Y, u, f, hH⟩ := id hJ
  obtain ⟨⟨d1, d2, d3, d4, d5, d6, d7⟩, ⟨hE, hI, hY⟩, hg⟩ := id hH
  obtain ⟨hB, em, ed, eY⟩ := hE.ok hI hY
  obtain ⟨hO, qm, qd, qY⟩ := hI.ok hY
  have h8 : mc ≤ 8 := hI.1.2.1
  have h4 : dc ≤ 4 := hI.1.2.2.2.1
  have hu10 : u ≤ 10 := Nat.le_trans d5 d7
  have hix := kixK d5 d6 d4 d7
  have h494 : zm.1 4 494 = nI Y := hI.1.2.2.2.2
  refine ⟨_, _, c_X9_redeem l G w K hw zc sz x f u hB hcn.1 d3 d1 d4 hu10 hix, fun sz => c_X10_redeem l G v hv zm sz x Y u hO h494 (by omega) d2 hu10 (fun h => ?_), fun r u h => ?_, ?_⟩
  · obtain ⟨B, hB1, rfl⟩ := bud_of (bud_iff.mp h)
    exact (pay_eq (z := u1 zm 0 0 0) hE hI (by omega) hB1).2.1
  · obtain ⟨K2, -, hX, -⟩ := h; exact hX
  rintro r1 u1v r2 z2 ⟨K2, hK2, -, e1⟩ e2
  rw [em, ed] at e1
  by_cases c : ¬ x < 0 ∧ x ≤ nI 10000000
  · rw [if_neg (not_not_intro c)] at e1
    rw [if_neg (bud_iff.mpr c)] at e2
    obtain ⟨B, hB1, rfl⟩ := bud_of c
    obtain ⟨p1, p2, p3, p4, ⟨T, hT, p5⟩, p6, p7⟩ := pay_eq (z := u1 zm 0 0 0) hE hI (by omega) hB1
    have hJ1 := (hJ.u0 0).pl mc Y (nI B) (nI B)
    rw [p3] at e1
    by_cases cT : T = 0
    · have c0 : imin (lSum (u1 zm 0 0 0) (lpL (u1 zm 0 0 0) Y)) (nI B) = 0 := by rw [p5, cT]; rfl
      rw [c0, if_pos (by decide)] at e1
      rw [if_pos c0] at e2
      obtain ⟨ea, e3⟩ := Prod.mk.inj e1
      obtain ⟨eK, ez⟩ := Prod.mk.inj e3
      obtain ⟨eb, em2⟩ := Prod.mk.inj e2
      exact ⟨ea.trans eb.symm, K, eK ▸ hK2, by rw [ez, em2]; exact hJ1⟩
    · have c0 : 0 < imin (lSum (u1 zm 0 0 0) (lpL (u1 zm 0 0 0) Y)) (nI B) := by rw [p5]; exact nI_0lt (by omega) (by omega)
      have c1 : ¬ imin (lSum (u1 zm 0 0 0) (lpL (u1 zm 0 0 0) Y)) (nI B) = 0 := fun q => by rw [q] at c0; exact absurd c0 (by decide)
      rw [if_neg (not_not_intro c0)] at e1
      rw [if_neg c1] at e2
      obtain ⟨ea, e3⟩ := Prod.mk.inj e1
      obtain ⟨eK, ez⟩ := Prod.mk.inj e3
      obtain ⟨eb, em2⟩ := Prod.mk.inj e2
      refine ⟨ea.trans eb.symm, keK K f u, eK ▸ hK2, ?_⟩
      rw [ez, em2]
      have pl : ∀ o, (o < 5 ∨ 14 ≤ o) → (plZ zc 0 mc (nI B)).1 o = zc.1 o := fun o ho => ho.elim (fun q => plZ_lo q) (fun q => plZ_hi q)
      have hH1 : jH K mc dc Y u f (plZ zc 0 mc (nI B)) (lpZ (u1 zm 0 0 0) Y (nI B)) := hH.fr (fun o ho => pl o (by omega)) (fun o ho => by rw [lpZ_1 (by omega), lS_o (by omega), u1_ne _ (by omega)]) (by rw [lpZ_00 (by omega), u1_sne _ _ _ (by omega)])
      obtain ⟨rE, rI_, rM⟩ := rdm_eq (zc := zc) (z := u1 zm 0 0 0) (c0 := keZ K (plZ zc 0 mc (nI B)) f u 0 mc dc) (z0 := kpS (lpZ (u1 zm 0 0 0) Y (nI B)) u) hE hI (by omega) hB1 (keZ_o (by omega) (by omega)) (fun o h1 h2 => by rw [keZ_o (by omega) (by omega)]; exact pl o (by omega)) (by rw [kpS_o (by omega) (by omega), lpZ_2]) (by rw [kpS_o (by omega) (by omega), lpZ_4]) (kpS_o (by omega) (by omega))
      have hMo : ∀ o, (o < 19 ∨ 67 ≤ o) → (crO (keZ K (plZ zc 0 mc (nI B)) f u 0 mc dc) 0 (plM zc 0 mc) (plY zc 0 mc) (plN zc 0 mc)).1 o = (keZ K (plZ zc 0 mc (nI B)) f u 0 mc dc).1 o := fun o ho => crO_out (fun m hm => by unfold oLf oPd; omega) _ rM
      have hMm : ∀ b m, m < 8 → (crO (keZ K (plZ zc 0 mc (nI B)) f u 0 mc dc) 0 (plM zc 0 mc) (plY zc 0 mc) (plN zc 0 mc)).1 (oM b m) = (keZ K (plZ zc 0 mc (nI B)) f u 0 mc dc).1 (oM b m) := fun b m hm => crO_out (fun m' hm' => by unfold oLf oPd oM; omega) _ rM
      have t2 : (lpZ (u1 zm 0 0 0) Y (nI B)).1 2 = (u1 zm 0 0 0).1 2 := lpZ_2
      refine hH1.chg hJ1.1 hJ1.2.1 (fun o ho => hMo o (by omega)) (fun m hm => by rw [hMm 0 m hm]; exact cn_lo hJ1.2.2.1.1 m hm) (fun m hm => by rw [hMm 1 m hm]; exact cn_lo1 hJ1.2.2.1.2 m hm) (fun o ho => paQ_1 (by omega) _) ⟨by rw [paQ_1 (by omega), kpS_0 (by omega)], by rw [paQ_1 (by omega)]; exact kpS_8, by rw [paQ_1 (by omega), kpS_0 (by omega)]⟩ (by rw [t2]; exact rE) (by rw [t2]; exact rI_) hY
  · rw [if_pos c] at e1
    rw [if_pos (Classical.byContradiction (fun q => c (bud_iff.mp q)))] at e2
    obtain ⟨ea, e3⟩ := Prod.mk.inj e1
    obtain ⟨eK, ez⟩ := Prod.mk.inj e3
    obtain ⟨eb, em2⟩ := Prod.mk.inj e2
    exact ⟨ea.trans eb.symm, K, eK ▸ hK2, by rw [ez, em2]; exact hJ.u0 0⟩
theorem ae_eq {y z : xSt} {b mc dc Y : Nat} (hE : eqB y b mc dc (z.1 2) (z.1 4)) (hI : rI mc dc Y (z.1 2) (z.1 4)) : eqA y b mc = aeQ z ∧ ∃ a, a ≤ 960000000 ∧ aeQ z = nI a := by
  have h8 : mc ≤ 8 := hI.1.2.1
  have qm : mQ z 12 = mc := by unfold mQ; rw [hI.1.1, nI_clamp (by omega)]
  constructor
  · unfold eqA aeQ
    rw [qm]
    refine bx_cong (fun m hm => ?_)
    have e : bx_sum (y.1 (oLf b m)) 25 = eqQ z m := by
      show bx_sum (y.1 (oLf b m)) 24 + y.1 (oLf b m) 24 = _
      rw [hE.2.2.2.2.2.1 m hm, Int32.add_zero]
      exact bx_cong (fun k hk => (hE.2.2.2.2.1 m k hm hk).1)
    rw [e, (hE.2.2.1 m hm).2.2.1]
  · obtain ⟨a, ha, e⟩ := bx_nat (f := fun m => if z.1 4 (5 + m) = 0 then eqQ z m else 0) (B := 120000000) (n := mc) (fun m hm => by
      obtain ⟨q, hq, e⟩ := eq_nat hI (m := m) (by omega)
      show isN (if z.1 4 (5 + m) = 0 then eqQ z m else 0) 120000000
      split
      · exact ⟨q, hq, e⟩
      · exact ⟨0, by omega, rfl⟩)
    refine ⟨a, by have : mc * 120000000 ≤ 8 * 120000000 := Nat.mul_le_mul_right _ h8; omega, ?_⟩
    unfold aeQ
    rw [qm]; exact e
theorem rnT_o {z : xSt} {Y : Nat} {bu : Int32} {o : Nat} (h : o ≠ 0 ∧ o ≠ 4 ∧ o ≠ 13 ∧ o ≠ 14 ∧ o ≠ 15) : (rnT z Y bu).1 o = z.1 o := by
  unfold rnT
  rw [u1_ne _ (by omega), paQ_1 (by omega), lpZ_1 (by omega), lS_o (by omega)]
theorem rnT_0 {z : xSt} {Y : Nat} {bu : Int32} {k : Nat} (h : k ≠ 17) : (rnT z Y bu).1 0 k = z.1 0 k := by
  unfold rnT
  rw [u1_ne _ (by omega), paQ_1 (by omega), lpZ_00 h]
theorem rn_eq {mc dc Y B : Nat} (hB : B ≤ 10000000) (hY : Y ≤ 24) : ∀ (k i : Nat) (y z : xSt), i + k = 60 → eqB y 1 mc dc (z.1 2) (z.1 4) → rI mc dc (Y + i) (z.1 2) (z.1 4) →
    rnO (nI B) Y k i z ∧ (rnL mc (nI B) k i y).1 = (if aeQ (rnE (nI B) Y k i z).2 = 0 then nI (rnE (nI B) Y k i z).1 else (-1)) ∧
    ((∀ o, (o < 5 ∨ (14 ≤ o ∧ o < 67) ∨ 115 ≤ o) → (rnL mc (nI B) k i y).2.1 o = y.1 o) ∧ ∀ m, m < 8 → (rnL mc (nI B) k i y).2.1 (oM 1 m) = y.1 (oM 1 m)) ∧
    (∀ o, (o = 1 ∨ o = 2 ∨ o = 6 ∨ o = 16) → (rnE (nI B) Y k i z).2.1 o = z.1 o) ∧ ∀ j, j ≠ 17 → (rnE (nI B) Y k i z).2.1 0 j = z.1 0 j
  | 0, i, y, z, hi, hE, hI => by
    obtain ⟨a1, -⟩ := ae_eq hE hI
    refine ⟨trivial, ?_, ⟨fun _ _ => rfl, fun _ _ => rfl⟩, fun _ _ => rfl, fun _ _ => rfl⟩
    show (if eqA y 1 mc = 0 then nI 60 else (-1)) = (if aeQ z = 0 then nI i else (-1))
    rw [a1, show i = 60 by omega]
  | k + 1, i, y, z, hi, hE, hI => by
    obtain ⟨a1, a, ha, a2⟩ := ae_eq hE hI
    have h8 : mc ≤ 8 := hI.1.2.1
    have h4 : dc ≤ 4 := hI.1.2.2.2.1
    rw [rnL_s rfl, rnE_s rfl, a1]
    by_cases c : a = 0
    · have c0 : aeQ z = 0 := by rw [a2, c]; rfl
      have c1 : ¬ 0 < aeQ z := by rw [c0]; decide
      rw [if_pos c0, if_neg c1]
      exact ⟨fun q => absurd q c1, by rw [if_pos c0], ⟨fun _ _ => rfl, fun _ _ => rfl⟩, fun _ _ => rfl, fun _ _ => rfl⟩
    · have c1 : 0 < aeQ z := by rw [a2]; exact nI_0lt (by omega) (by omega)
      have c0 : ¬ aeQ z = 0 := fun q => by rw [q] at c1; exact absurd c1 (by decide)
      rw [if_neg c0, if_pos c1]
      have plh : ∀ o, (o < 5 ∨ 14 ≤ o) → (plZ y 1 mc (nI B)).1 o = y.1 o := fun o ho => ho.elim (fun q => plZ_lo q) (fun q => plZ_hi q)
      obtain ⟨rE, rI_, rM⟩ := rdm_eq (zc := y) (z := z) (c0 := plZ y 1 mc (nI B)) (z0 := lpZ z (Y + i) (nI B)) hE hI (by omega) hB rfl (fun o h1 h2 => plh o (by omega)) lpZ_2 lpZ_4 rfl
      have e5 : y.1 (oB 1) 5 = nI (Y + i) := hE.1.2.2.1.trans hI.1.2.2.2.2
      have eS : rnS y mc (nI B) = u1 (crO (plZ y 1 mc (nI B)) 1 (plM y 1 mc) (plY y 1 mc) (plN y 1 mc)) (oB 1) 5 (nI (Y + (i + 1))) := by unfold rnS rdm; rw [e5, nI_add, Nat.add_assoc]
      have eT2 : (rnT z (Y + i) (nI B)).1 2 = z.1 2 := rnT_2 ..
      have eT4 : (rnT z (Y + i) (nI B)).1 4 = va_up ((paQ (lpZ z (Y + i) (nI B)) (lpL z (Y + i)) (lpL z (Y + i)).length).1 4) 494 (nI (Y + (i + 1))) := by
        have e494 := rI_.1.2.2.2.2
        unfold rnT
        rw [u1_at, e494, nI_add, Nat.add_assoc]
      have hE2 : eqB (rnS y mc (nI B)) 1 mc dc ((rnT z (Y + i) (nI B)).1 2) ((rnT z (Y + i) (nI B)).1 4) := by rw [eT2, eT4, eS]; exact rE.yr h8 h4 _
      have hI2 : rI mc dc (Y + (i + 1)) ((rnT z (Y + i) (nI B)).1 2) ((rnT z (Y + i) (nI B)).1 4) := by rw [eT2, eT4]; exact rI_.yr
      obtain ⟨k1, k2, ⟨k3, k4⟩, k5, k6⟩ := rn_eq hB hY k (i + 1) (rnS y mc (nI B)) (rnT z (Y + i) (nI B)) (by omega) hE2 hI2
      have fo : ∀ o, (o < 5 ∨ (14 ≤ o ∧ o < 67) ∨ 115 ≤ o) → (rnS y mc (nI B)).1 o = y.1 o := fun o ho => by
        rw [eS, u1_ne _ (by unfold oB; omega), crO_out (fun m hm => by unfold oLf oPd; omega) _ rM]
        exact plh o (by omega)
      have fm : ∀ m, m < 8 → (rnS y mc (nI B)).1 (oM 1 m) = y.1 (oM 1 m) := fun m hm => by
        rw [eS, u1_ne _ (by unfold oB oM; omega), crO_out (fun m' hm' => by unfold oLf oPd oM; omega) _ rM]
        exact plh _ (by unfold oM; omega)
      exact ⟨fun _ => ⟨(pay_eq hE hI (by omega) hB).2.1, k1⟩, k2, ⟨fun o ho => (k3 o ho).trans (fo o ho), fun m hm => (k4 m hm).trans (fm m hm)⟩, fun o ho => (k5 o ho).trans (rnT_o (by omega)), fun j hj => (k6 j hj).trans (rnT_0 hj)⟩
set_option maxHeartbeats 1000000 in
theorem s_redemptionsNeeded (l : Launch) (x : Int32) : lP l jJ yX9_redemptionsNeeded cX9_redemptionsNeeded 3 (some FieldType.int) rm_X9_redemptionsNeeded yX10_redemptionsNeeded cX10_redemptionsNeeded 4 (some FieldType.int) rm_X10_redemptionsNeeded [.int x] := by
  intro G w v K zc zm hw hv hJ
  obtain ⟨mc, dc, Y, ⟨hB, em, ed, eY⟩, ⟨hO, qm, qd, qY⟩, hC, hE, hI, hY⟩ := hJ.v
  have h8 : mc ≤ 8 := hI.1.2.1
  have h4 : dc ≤ 4 := hI.1.2.2.2.1
  have h2 : (ur (u1 zm 0 0 0) 16 (zm.1 4)).1 2 = zm.1 2 := by rw [ur_ne _ _ (by decide), u1_ne _ (by decide)]
  have h44 : (ur (u1 zm 0 0 0) 16 (zm.1 4)).1 4 = zm.1 4 := by rw [ur_ne _ _ (by decide), u1_ne _ (by decide)]
  have hE1 : eqB (cpA zc 1 0 mc dc) 1 mc dc ((ur (u1 zm 0 0 0) 16 (zm.1 4)).1 2) ((ur (u1 zm 0 0 0) 16 (zm.1 4)).1 4) := by rw [h2, h44]; exact hE.cp h8 h4
  have hI1 : rI mc dc (Y + 0) ((ur (u1 zm 0 0 0) 16 (zm.1 4)).1 2) ((ur (u1 zm 0 0 0) 16 (zm.1 4)).1 4) := by rw [h2, h44]; exact hI
  refine ⟨_, _, fun sz => c_X9_redemptionsNeeded l G w K hw zc sz x hB hC, fun sz => c_X10_redemptionsNeeded l G v hv zm sz x hO (fun h => ?_), ?_⟩
  · obtain ⟨B, hB1, rfl⟩ := bud_of (bud_iff.mp h)
    rw [qY]
    exact (rn_eq hB1 hY 60 0 _ _ (by omega) hE1 hI1).1
  rintro r1 r2 z1 z2 e1 e2
  rw [em, ed] at e1
  rw [qY] at e2
  by_cases c : ¬ x < 0 ∧ x ≤ nI 10000000
  · rw [if_pos c] at e1
    rw [if_neg (bud_iff.mpr c)] at e2
    obtain ⟨B, hB1, rfl⟩ := bud_of c
    obtain ⟨k1, k2, ⟨k3, k4⟩, k5, k6⟩ := rn_eq hB1 hY 60 0 _ _ (by omega) hE1 hI1
    obtain ⟨ea, eb⟩ := pr2 e1.symm
    obtain ⟨ec, ed_⟩ := Prod.mk.inj e2
    refine ⟨?_, ?_⟩
    · rw [ea, ec]; exact k2
    · rw [eb, ed_]
      refine hJ.fr (fun o ho => ?_) (fun m hm => ?_) (fun o ho => ?_) ⟨?_, ?_, ?_⟩
      · rw [k3 o (by omega)]; exact cpA_out (by unfold cov; omega)
      · rw [k4 m hm]; exact cpA_cn hJ.2.2.1.2 hJ.2.2.1.1 m hm
      · by_cases o4 : o = 4
        · rw [o4, ur_at, k5 16 (by omega), ur_at]
        · rw [ur_ne _ _ o4, k5 o (by omega), ur_ne _ _ (by omega), u1_ne _ (by omega)]
      · rw [ur_ne _ _ (by omega), k6 _ (by omega), ur_ne _ _ (by omega), u1_sne _ _ _ (by omega)]
      · rw [ur_ne _ _ (by omega), k6 _ (by omega), ur_ne _ _ (by omega), u1_sne _ _ _ (by omega)]
      · rw [ur_ne _ _ (by omega), k6 _ (by omega), ur_ne _ _ (by omega), u1_sne _ _ _ (by omega)]
  · rw [if_neg c] at e1
    rw [if_pos (Classical.byContradiction (fun q => c (bud_iff.mp q)))] at e2
    obtain ⟨ea, eb⟩ := Prod.mk.inj e1
    obtain ⟨ec, ed_⟩ := Prod.mk.inj e2
    exact ⟨ea.trans ec.symm, by rw [eb, ed_]; exact hJ.u0 0⟩
