set_option maxHeartbeats 1000000 in
theorem s_wouldReserve (l : Launch) (a b c_ d : Int32) : lP l jJ yX9_wouldReserve cX9_wouldReserve 5 (some FieldType.int) rm_X9_wouldReserve yX10_wouldReserve cX10_wouldReserve 7 (some FieldType.int) rm_X10_wouldReserve [.int a, .int b, .int c_, .int d] := by
  intro G w v K zc zm hw hv hJ
  obtain ⟨mc, dc, Y, hV⟩ := hJ.v
  obtain ⟨hok, ht⟩ := try_eq a b c_ d 0 hV
  obtain ⟨⟨hB, em, ed, eY⟩, ⟨hO, qm, qd, qY⟩, hC, hE, hI, hY⟩ := hV
  obtain ⟨j1, j2⟩ := hJ.try a b c_ d 0
  refine ⟨_, _, fun sz => c_X9_wouldReserve l G w K hw zc sz a b c_ d hB hC, fun sz => c_X10_wouldReserve l G v hv zm sz a b c_ d hO (fun h => by rw [qd] at h ⊢; exact (ht h).1), ?_⟩
  rintro r1 r2 z1 z2 ⟨e1, ez⟩ e2
  rw [qd, qm] at e2
  rw [ed] at e1
  rw [ez]
  by_cases c1 : okR dc ((zQ (u1 zm 0 0 0) a b c_ d).1 10)
  · rw [if_pos c1] at e2
    rw [if_pos (hok.mpr c1)] at e1
    obtain ⟨t0, t1, t2, t3⟩ := ht c1
    obtain ⟨ea, eb⟩ := Prod.mk.inj e2
    exact ⟨by rw [e1, ea]; exact t2, by rw [eb]; exact j2 _⟩
  · rw [if_neg c1] at e2
    rw [if_neg (fun h => c1 (hok.mp h))] at e1
    obtain ⟨ea, eb⟩ := Prod.mk.inj e2
    exact ⟨e1.trans ea.symm, by rw [eb]; exact j1⟩
set_option maxHeartbeats 1000000 in
theorem s_cashNeeded (l : Launch) (a b c_ d : Int32) : lP l jJ yX9_cashNeeded cX9_cashNeeded 5 (some FieldType.int) rm_X9_cashNeeded yX10_cashNeeded cX10_cashNeeded 9 (some FieldType.int) rm_X10_cashNeeded [.int a, .int b, .int c_, .int d] := by
  intro G w v K zc zm hw hv hJ
  obtain ⟨mc, dc, Y, hV⟩ := hJ.v
  obtain ⟨hok, ht⟩ := try_eq a b c_ d 0 hV
  obtain ⟨⟨hB, em, ed, eY⟩, ⟨hO, qm, qd, qY⟩, hC, hE, hI, hY⟩ := hV
  obtain ⟨j1, j2⟩ := hJ.try a b c_ d 0
  refine ⟨_, _, fun sz => c_X9_cashNeeded l G w K hw zc sz a b c_ d hB hC, fun sz => c_X10_cashNeeded l G v hv zm sz a b c_ d hO (fun h => by rw [qd] at h ⊢; exact (ht h).1) (lvO_of hI), ?_⟩
  rintro r1 r2 z1 z2 ⟨e1, ez⟩ e2
  rw [qd, qm] at e2
  rw [ed, em] at e1
  rw [ez]
  by_cases c1 : okR dc ((zQ (u1 zm 0 0 0) a b c_ d).1 10)
  · rw [if_pos c1] at e2
    rw [if_pos (hok.mpr c1)] at e1
    obtain ⟨t0, t1, t2, t3⟩ := ht c1
    obtain ⟨ea, eb⟩ := Prod.mk.inj e2
    exact ⟨by rw [e1, ea]; exact t3, by rw [eb]; exact j2 _⟩
  · rw [if_neg c1] at e2
    rw [if_neg (fun h => c1 (hok.mp h))] at e1
    obtain ⟨ea, eb⟩ := Prod.mk.inj e2
    exact ⟨e1.trans ea.symm, by rw [eb]; exact j1⟩
set_option maxHeartbeats 1000000 in
theorem s_topMember (l : Launch) (a b c_ d : Int32) : lP l jJ yX9_topMember cX9_topMember 9 (some FieldType.int) rm_X9_topMember yX10_topMember cX10_topMember 7 (some FieldType.int) rm_X10_topMember [.int a, .int b, .int c_, .int d] := by
  intro G w v K zc zm hw hv hJ
  obtain ⟨mc, dc, Y, hV⟩ := hJ.v
  obtain ⟨hok, ht⟩ := try_eq a b c_ d 0 hV
  obtain ⟨⟨hB, em, ed, eY⟩, ⟨hO, qm, qd, qY⟩, hC, hE, hI, hY⟩ := hV
  obtain ⟨j1, j2⟩ := hJ.try a b c_ d 0
  refine ⟨_, _, fun sz => c_X9_topMember l G w K hw zc sz a b c_ d hB hC, fun sz => c_X10_topMember l G v hv zm sz a b c_ d hO (fun h => by rw [qd] at h ⊢; exact (ht h).1), ?_⟩
  rintro r1 r2 z1 z2 ⟨e1, ez⟩ e2
  rw [qd, qm] at e2
  rw [ed, em] at e1
  rw [ez]
  by_cases c1 : okR dc ((zQ (u1 zm 0 0 0) a b c_ d).1 10)
  · rw [if_pos c1] at e2
    rw [if_pos (hok.mpr c1)] at e1
    obtain ⟨t0, t1, t2, t3⟩ := ht c1
    rw [mxI_cong (g := (daL (zQ (u1 zm 0 0 0) a b c_ d) dc).1 11) t1] at e1
    have h8 : mc ≤ 8 := hI.1.2.1
    by_cases c2 : mc = 0
    · rw [if_pos c2] at e2
      obtain ⟨ea, eb⟩ := Prod.mk.inj e2
      rw [c2] at e1
      exact ⟨e1.trans ea.symm, by rw [eb]; exact j1⟩
    · rw [if_neg c2] at e2
      obtain ⟨ea, eb⟩ := Prod.mk.inj e2
      refine ⟨?_, by rw [eb]; exact j2 _⟩
      rw [e1, ea]
      have := mxI_am ((daL (zQ (u1 zm 0 0 0) a b c_ d) dc).1 11) (mc - 1) (by omega)
      rw [show mc - 1 + 1 = mc by omega] at this
      rw [this]
  · rw [if_neg c1] at e2
    rw [if_neg (fun h => c1 (hok.mp h))] at e1
    obtain ⟨ea, eb⟩ := Prod.mk.inj e2
    exact ⟨e1.trans ea.symm, by rw [eb]; exact j1⟩
set_option maxHeartbeats 1000000 in
theorem s_wouldGet (l : Launch) (hlt : l.stackTraces = false) (x a b c_ d : Int32) : lT l jJ yX9_wouldGet cX9_wouldGet 6 (some FieldType.int) rm_X9_wouldGet rx_X9_wouldGet yX10_wouldGet cX10_wouldGet 6 (some FieldType.int) rm_X10_wouldGet [.int x, .int a, .int b, .int c_, .int d] := by
  intro G w v K zc zm hw hv hJ
  obtain ⟨mc, dc, Y, hV⟩ := hJ.v
  have ht0 := fun x => try_eq a b c_ d x hV
  obtain ⟨⟨hB, em, ed, eY⟩, ⟨hO, qm, qd, qY⟩, hC, hE, hI, hY⟩ := hV
  have h8 : mc ≤ 8 := hI.1.2.1
  have h4 : dc ≤ 4 := hI.1.2.2.2.1
  by_cases hin : inR x mc
  · left
    obtain ⟨mi, hmi, rfl⟩ := inR_nat hin (by omega)
    have hq : inR (nI mi) (mQ zm 12) := by rw [qm]; exact hin
    have cm : (nI mi).toNatClampNeg = mi := nI_clamp (by omega)
    have ec : ck zm (inR (nI mi) (mQ zm 12)) = u1 zm 0 0 0 := by unfold ck; rw [if_pos hq]
    obtain ⟨hok, ht⟩ := ht0 0
    obtain ⟨j1, j2⟩ := hJ.try a b c_ d 0
    refine ⟨_, _, fun sz => c_X9_wouldGet l G w K hw zc sz mi a b c_ d hB (by rw [em]; exact hmi) hC, fun sz => c_X10_wouldGet l G v hv zm sz (nI mi) a b c_ d hO (fun _ h => by rw [qd, ec] at h; rw [qd, ec]; exact (ht h).1), ?_⟩
    rintro r1 r2 z1 z2 ⟨e1, ez⟩ e2
    rw [if_pos hq, ec, qd, cm] at e2
    rw [ed] at e1
    rw [ez]
    by_cases c1 : okR dc ((zQ (u1 zm 0 0 0) a b c_ d).1 10)
    · rw [if_pos c1] at e2
      rw [if_pos (hok.mpr c1)] at e1
      obtain ⟨ea, eb⟩ := Prod.mk.inj e2
      exact ⟨by rw [e1, ea]; exact (ht c1).2.1 mi hmi, by rw [eb, daL_0 (by omega), zQ_o (by omega), u1_self], by rw [eb]; exact j2 _⟩
    · rw [if_neg c1] at e2
      rw [if_neg (fun h => c1 (hok.mp h))] at e1
      obtain ⟨ea, eb⟩ := Prod.mk.inj e2
      exact ⟨e1.trans ea.symm, by rw [eb, zQ_o (by omega), u1_self], by rw [eb]; exact j1⟩
  · right
    have hq : ¬ inR x (mQ zm 12) := by rw [qm]; exact hin
    refine ⟨_, fun sz => t_X9_wouldGet l hlt G w K hw zc sz x a b c_ d hB (by rw [em]; exact hin), fun sz => c_X10_wouldGet l G v hv zm sz x a b c_ d hO (fun h _ => absurd h hq), ?_⟩
    intro r2 z2 e2
    rw [if_neg hq] at e2
    obtain ⟨ea, eb⟩ := Prod.mk.inj e2
    exact ⟨by rw [eb]; exact ck_1 hq, by rw [eb]; exact hJ.u0 _⟩
