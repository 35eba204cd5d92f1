/-! BOTH ANSWER ALIKE: what can be redeemed, what a budget would pay -/
theorem cl_eq {zc z : xSt} {b mc dc T : Nat} (hE : eqB zc b mc dc (z.1 2) (z.1 4)) (hT : T ≤ 24) : cSum zc b (lcs z mc T) = lSum z (lcs z mc T) := by
  rw [cSum_bx, lSum_bx]
  refine bx_cong (fun i hi => ?_)
  have h := lcs_mem (getD_mem hi)
  exact (hE.2.2.2.2.1 _ _ h.2 (by omega)).1
theorem lS_o {z : xSt} {L : List (Nat × Nat)} {o : Nat} (h : o ≠ 0 ∧ o ≠ 13 ∧ o ≠ 14 ∧ o ≠ 15) : (lS z L).1 o = z.1 o := by
  unfold lS
  rw [ur_ne _ _ (by omega), ur_ne _ _ (by omega), ur_ne _ _ (by omega), u1_ne _ (by omega)]
theorem lS_r0 {z : xSt} {L : List (Nat × Nat)} {k : Nat} (h : k ≠ 17) : (lS z L).1 0 k = z.1 0 k := by
  unfold lS
  rw [ur_ne _ _ (by omega), ur_ne _ _ (by omega), ur_ne _ _ (by omega), u1_sne _ _ _ h]
theorem jJ.lS {K : Nat} {zc zm : xSt} (h : jJ K zc zm) (L : List (Nat × Nat)) : jJ K zc (lS zm L) := h.fr (fun _ _ => rfl) h.2.2.1.2 (fun o ho => lS_o (by omega)) ⟨lS_r0 (by omega), lS_r0 (by omega), lS_r0 (by omega)⟩
theorem jJ.pl {K : Nat} {zc zm : xSt} (h : jJ K zc zm) (mc Y : Nat) (x y : Int32) : jJ K (plZ zc 0 mc x) (lpZ zm Y y) := by
  refine h.fr (fun o ho => ?_) (fun m hm => ?_) (fun o ho => ?_) ⟨?_, ?_, ?_⟩
  · by_cases c : o < 5
    · exact plZ_lo c
    · exact plZ_hi (by omega)
  · rw [plZ_hi (by unfold oM; omega)]; exact h.2.2.1.2 m hm
  · rw [lpZ_1 (by omega)]; exact lS_o (by omega)
  · rw [lpZ_1 (by omega)]; exact lS_r0 (by omega)
  · rw [lpZ_1 (by omega)]; exact lS_r0 (by omega)
  · rw [lpZ_1 (by omega)]; exact lS_r0 (by omega)
theorem lpZ_00 {z : xSt} {Y : Nat} {bu : Int32} {k : Nat} (h : k ≠ 17) : (lpZ z Y bu).1 0 k = z.1 0 k := by rw [lpZ_1 (by omega)]; exact lS_r0 h
set_option maxHeartbeats 1000000 in
theorem s_redeemable (l : Launch) : lP l jJ yX9_redeemable cX9_redeemable 1 (some FieldType.int) rm_X9_redeemable yX10_redeemable cX10_redeemable 1 (some FieldType.int) rm_X10_redeemable [] := by
  intro G w v K zc zm hw hv hJ
  obtain ⟨mc, dc, Y, ⟨hB, em, ed, eY⟩, ⟨hO, qm, qd, qY⟩, hC, hE, hI, hY⟩ := hJ.v
  refine ⟨_, _, fun sz => c_X9_redeemable l G w K hw zc sz hB, fun sz => c_X10_redeemable l G v hv zm sz hO, ?_⟩
  rintro r1 r2 z1 z2 ⟨rfl, rfl⟩ ⟨rfl, rfl⟩
  refine ⟨?_, (hJ.u0 0).lS _⟩
  have hT := yst_le zm Y 0
  rw [em, qm, qY, rTh_sum, cts_lcs (N := 25) hE hI (by omega) (Nat.le_refl 25), show min 25 (min Y 24) = Y by omega]
  exact cl_eq hE (by omega)
set_option maxHeartbeats 1000000 in
theorem s_budgetThrough (l : Launch) (x : Int32) : lP l jJ yX9_budgetThrough cX9_budgetThrough 2 (some FieldType.int) rm_X9_budgetThrough yX10_budgetThrough cX10_budgetThrough 2 (some FieldType.int) rm_X10_budgetThrough [.int x] := by
  intro G w v K zc zm hw hv hJ
  obtain ⟨mc, dc, Y, ⟨hB, em, ed, eY⟩, ⟨hO, qm, qd, qY⟩, hC, hE, hI, hY⟩ := hJ.v
  refine ⟨_, _, fun sz => c_X9_budgetThrough l G w K hw zc sz x hB, fun sz => c_X10_budgetThrough l G v hv zm sz x hO, ?_⟩
  rintro r1 r2 z1 z2 ⟨rfl, rfl⟩ e2
  rw [qY, qm] at e2
  rw [eY, em]
  by_cases c : inR x Y
  · obtain ⟨k, hk, ex⟩ := inR_nat c (by omega)
    have ck_ : x.toNatClampNeg = k := by rw [ex]; exact nI_clamp (by omega)
    rw [if_pos c] at e2 ⊢
    rw [ck_] at e2 ⊢
    obtain ⟨ea, eb⟩ := Prod.mk.inj e2
    have hT := yst_le zm (k + 1) 0
    refine ⟨?_, by rw [eb]; exact (hJ.u0 0).lS _⟩
    rw [ea, rTh_sum, cts_lcs (N := k + 1) hE hI (by omega) (by omega), show min (k + 1) (min Y 24) = k + 1 by omega]
    exact cl_eq hE (by omega)
  · rw [if_neg c] at e2 ⊢
    obtain ⟨ea, eb⟩ := Prod.mk.inj e2
    exact ⟨ea.symm, by rw [eb]; exact hJ.u0 0⟩
theorem bud_of {x : Int32} (h : ¬ x < 0 ∧ x ≤ nI 10000000) : ∃ B : Nat, B ≤ 10000000 ∧ x = nI B := nI_of2 (M := nI 10000000) (n := 10000000) rfl h.1 h.2
theorem bud_iff {x : Int32} : ¬ (x < 0 ∨ ¬ x ≤ nI 10000000) ↔ (¬ x < 0 ∧ x ≤ nI 10000000) := ⟨fun h => ⟨fun q => h (Or.inl q), Classical.byContradiction (fun q => h (Or.inr q))⟩, fun h q => q.elim h.1 (fun q => q h.2)⟩
/-- whom the payments go to -/
theorem pay_o {zc z : xSt} {b mc dc Y B : Nat} (hE : eqB zc b mc dc (z.1 2) (z.1 4)) (hI : rI mc dc Y (z.1 2) (z.1 4)) (hY : Y < 200) (hB : B ≤ 10000000) : plN zc b mc = (lpL z Y).length ∧ ∀ i, i < (lpL z Y).length → (plZ zc b mc (nI B)).1 10 i = (lpZ z Y (nI B)).1 14 i := by
  have h8 : mc ≤ 8 := hI.1.2.1
  have qm : mQ z 12 = mc := by unfold mQ; rw [hI.1.1, nI_clamp (by omega)]
  obtain ⟨p1, -⟩ := pay_eq hE hI hY hB
  have e : plN zc b mc = (lpL z Y).length := by unfold plN; rw [p1]
  refine ⟨e, fun i hi => ?_⟩
  rw [(plZ_L h8 (by rw [e]; exact hi)).1, ((lpZ_laid (by omega)).2.2 i hi).1]
  unfold plM
  rw [p1]
set_option maxHeartbeats 1000000 in
theorem s_wouldRedeem (l : Launch) (hlt : l.stackTraces = false) (x y : Int32) : lT l jJ yX9_wouldRedeem cX9_wouldRedeem 3 (some FieldType.int) rm_X9_wouldRedeem rx_X9_wouldRedeem yX10_wouldRedeem cX10_wouldRedeem 6 (some FieldType.int) rm_X10_wouldRedeem [.int x, .int y] := by
  intro G w v K zc zm hw hv hJ
  obtain ⟨mc, dc, Y, ⟨hB, em, ed, eY⟩, ⟨hO, qm, qd, qY⟩, hC, hE, hI, hY⟩ := hJ.v
  have h8 : mc ≤ 8 := hI.1.2.1
  have h494 : zm.1 4 494 = nI Y := hI.1.2.2.2.2
  by_cases hin : inR x mc
  · left
    obtain ⟨mi, hmi, rfl⟩ := inR_nat hin (by omega)
    have hq : inR (nI mi) (mQ zm 12) := by rw [qm]; exact hin
    have cm : (nI mi).toNatClampNeg = mi := nI_clamp (by omega)
    have ec : ck zm (inR (nI mi) (mQ zm 12)) = u1 zm 0 0 0 := by unfold ck; rw [if_pos hq]
    refine ⟨_, _, fun sz => c_X9_wouldRedeem l G w K hw zc sz mi y hB (by rw [em]; exact hmi), fun sz => c_X10_wouldRedeem l G v hv zm sz (nI mi) y Y hO h494 (by omega) (fun _ h => ?_), ?_⟩
    · obtain ⟨B, hB1, rfl⟩ := bud_of (bud_iff.mp h)
      rw [ec]
      exact (pay_eq (z := u1 zm 0 0 0) hE hI (by omega) hB1).2.1
    rintro r1 r2 z1 z2 e1 e2
    rw [if_pos hq, ec, cm] at e2
    rw [em] at e1
    by_cases c : ¬ y < 0 ∧ y ≤ nI 10000000
    · rw [if_neg (bud_iff.mpr c)] at e2
      rw [if_pos c] at e1
      obtain ⟨B, hB1, rfl⟩ := bud_of c
      obtain ⟨p1, p2, p3, p4, ⟨T, hT, p5⟩, p6, p7⟩ := pay_eq (z := u1 zm 0 0 0) hE hI (by omega) hB1
      obtain ⟨o1, o2⟩ := pay_o (z := u1 zm 0 0 0) hE hI (by omega) hB1
      obtain ⟨ea, eb⟩ := Prod.mk.inj e1
      obtain ⟨ec_, ed_⟩ := Prod.mk.inj e2
      refine ⟨?_, by rw [ed_, lpZ_00 (by omega), u1_self], by rw [eb, ed_]; exact (hJ.u0 0).pl _ _ _ _⟩
      rw [ea, ec_, o1]
      by_cases cT : T = 0
      · have c0 : ¬ 0 < imin (lSum (u1 zm 0 0 0) (lpL (u1 zm 0 0 0) Y)) (nI B) := by rw [p5, cT]; decide
        rw [if_neg c0]
        refine bx_0 (fun i hi => ?_)
        rw [(p4 i hi).1, p6 (by rw [p5, cT]; rfl) i hi]
        split <;> rfl
      · have c0 : 0 < imin (lSum (u1 zm 0 0 0) (lpL (u1 zm 0 0 0) Y)) (nI B) := by rw [p5]; exact nI_0lt (by omega) (by omega)
        rw [if_pos c0]
        exact bx_cong (fun i hi => by rw [o2 i hi, (p4 i hi).1])
    · rw [if_pos (Classical.byContradiction (fun q => c (bud_iff.mp q)))] at e2
      rw [if_neg c] at e1
      obtain ⟨ea, eb⟩ := Prod.mk.inj e1
      obtain ⟨ec_, ed_⟩ := Prod.mk.inj e2
      exact ⟨ea.trans ec_.symm, by rw [ed_, u1_self], by rw [eb, ed_]; exact hJ.u0 0⟩
  · right
    have hq : ¬ inR x (mQ zm 12) := by rw [qm]; exact hin
    refine ⟨_, fun sz => t_X9_wouldRedeem l hlt G w K hw zc sz x y hB (by rw [em]; exact hin), fun sz => c_X10_wouldRedeem l G v hv zm sz x y Y hO h494 (by omega) (fun h _ => absurd h hq), ?_⟩
    intro r2 z2 e2
    rw [if_neg hq] at e2
    obtain ⟨ea, eb⟩ := Prod.mk.inj e2
    exact ⟨by rw [eb]; exact ck_1 hq, by rw [eb]; exact hJ.u0 _⟩
set_option maxHeartbeats 1000000 in
theorem s_nextInLine (l : Launch) : lP l jJ yX9_nextInLine cX9_nextInLine 1 (some FieldType.int) rm_X9_nextInLine yX10_nextInLine cX10_nextInLine 3 (some FieldType.int) rm_X10_nextInLine [] := by
  intro G w v K zc zm hw hv hJ
  obtain ⟨mc, dc, Y, ⟨hB, em, ed, eY⟩, ⟨hO, qm, qd, qY⟩, hC, hE, hI, hY⟩ := hJ.v
  have h8 : mc ≤ 8 := hI.1.2.1
  have h494 : zm.1 4 494 = nI Y := hI.1.2.2.2.2
  obtain ⟨p1, p2, p3, p4, ⟨T, hT, p5⟩, p6, p7⟩ := pay_eq (B := 1) (z := u1 zm 0 0 0) hE hI (by omega) (by omega)
  obtain ⟨o1, o2⟩ := pay_o (B := 1) (z := u1 zm 0 0 0) hE hI (by omega) (by omega)
  refine ⟨_, _, fun sz => c_X9_nextInLine l G w K hw zc sz hB, fun sz => c_X10_nextInLine l G v hv zm sz Y hO h494 (by omega) p2, ?_⟩
  rintro r1 r2 z1 z2 ⟨e1, ez⟩ ⟨e2, ey⟩
  rw [em] at e1 ez
  rw [show (1 : Int32) = nI 1 from rfl] at e1
  refine ⟨?_, by rw [ez, ey]; exact (hJ.u0 0).pl _ _ _ _⟩
  rw [e1, e2, o1]
  by_cases cT : T = 0
  · have c0 : ¬ 0 < imin (lSum (u1 zm 0 0 0) (lpL (u1 zm 0 0 0) Y)) (nI 1) := by rw [p5, cT]; decide
    rw [if_neg c0]
    exact fpd_0 (fun j _ hj => by rw [(p4 j (by omega)).1]; exact p6 (by rw [p5, cT]; rfl) j (by omega))
  · have c0 : 0 < imin (lSum (u1 zm 0 0 0) (lpL (u1 zm 0 0 0) Y)) (nI 1) := by rw [p5]; exact nI_0lt (by omega) (by omega)
    rw [if_pos c0]
    exact fpd_cong (fun j _ hj => ⟨(p4 j (by omega)).1, o2 j (by omega)⟩)
