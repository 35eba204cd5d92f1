/-! THE LAW'S CASES: the questions that may throw, 1 -/
section LLC
variable {p : Program} {l : Launch} {e : Env} {s : State} {m : MethodId} {args : Array Value} {below : List Frame} {meth : Method} {c : Code} {H : Heap} {locs : List Loc} {cells slots : Nat} {Q : State → Prop}
variable {ls : Array Slot} {G : xGl} {cD : ClassId} {w v : xWd} {zc zm : xSt} {ou od : Nat} {f : Nat → Int64} {g : Nat → UInt64} {b L K n : Nat} {xs : Nat → Int32} {J : Nat → xSt → xSt → Prop}
set_option maxRecDepth 100000 in
set_option maxHeartbeats 4000000 in
theorem k_consents (C : lC p s m args c b L xs G cD) (hL : L ≤ 3072) (hn : 6 * n + 6 ≤ L) (hw : isC K w) (hv : isM v) (hJ : J K zc zm) (hI : lJ G w v zc zm ou od (lE1 G f) (lE2 cD g) s.heap.size H) (hS : va_S (lA s) s.heap H locs) (hl : lv_has ls 9 (lL b w v ou od n)) (hr : cells + 48 ≤ 601024 ∧ slots + 574 ≤ 7293034) (hk : lK p l e s m args below meth c cells slots Q G cD v ou od b n J)
    (hSim : ∀ x0 : Int32, lT l J yX9_consents cX9_consents 2 (some FieldType.boolean) rm_X9_consents rx_X9_consents yX10_consents cX10_consents 2 (some FieldType.boolean) rm_X10_consents [.int x0]) : W p l e room_1 s m args below meth c H locs cells slots Q (F0 m 506 ls []) := by
  have h0 := lv_at hl 0 rfl
  have h1 := lv_at hl 1 rfl
  have h2 := lv_at hl 2 rfl
  have h3 := lv_at hl 3 rfl
  have h4 := lv_at hl 4 rfl
  have h5 := lv_at hl 5 rfl
  obtain ⟨hx, hcb, hml, hown, hts, hK, hZ, hX, hbl⟩ := id C
  rcases hSim (xs (6 * n + 1)) G w v K zc zm hw hv hJ with ⟨P1, P2, m1, m2, ag⟩ | ⟨P2, m1, m2, ag⟩
  · refine lv_aload_n hx hcb dL_law_506 rfl h1 ?_
    refine j_s (k := 1) C hS h0 h5 (by decide) (by omega) hL dL_law_507 dL_law_508 dL_law_510 dL_law_511 dL_law_512 ?_
    refine lv_aload_n hx hcb dL_law_513 rfl h3 ?_
    refine j_h (As := [.ref (w.2.2 0), .int (xs (6 * n + 1)), .ref ou]) (rest := []) C hI hS (n_L_consents l G cD w K hw zc f ou _ (xs (6 * n + 1)) m1) mh_L_consents q_893 rfl hl.1 rfl (Nat.le_of_ble_eq_true rfl) dL_law_514 ⟨by decide, by decide⟩ ⟨l_ofr (by decide) hr.1, l_ofr (by decide) hr.2⟩ (fun r1 z1 e3 H locs hp1 hI hS => ?_)
    obtain ⟨rfl, a1, hp1, he⟩ := hp1
    have he : e3 = _ := he
    subst he
    refine lv_istore (lv' := (6, .int 0) :: lL b w v ou od n) hx hcb dL_law_517 hl (by decide) rfl (fun ls hl => ?_)
    have h0 := lv_at hl 1 rfl
    have h2 := lv_at hl 3 rfl
    have h3 := lv_at hl 4 rfl
    have h4 := lv_at hl 5 rfl
    have h5 := lv_at hl 6 rfl
    refine lv_aload_n hx hcb dL_law_519 rfl h2 ?_
    refine j_s (k := 1) C hS h0 h5 (by decide) (by omega) hL dL_law_520 dL_law_521 dL_law_523 dL_law_524 dL_law_525 ?_
    refine j_m (As := [.int (xs (6 * n + 1))]) (rest := []) C hI hS hv (m2 _) mv_X10_consents q_1452 rfl hl.1 rfl (Nat.le_of_ble_eq_true rfl) dL_law_526 ⟨by decide, by decide⟩ ⟨l_ofr2 (by decide) hr.1, l_ofr2 (by decide) hr.2⟩ (fun r2 z2 H locs hp2 hI hS => ?_)
    obtain ⟨er, et, hJ⟩ := ag _ _ _ _ hp1 hp2
    subst er
    refine lv_istore (lv' := (7, .int a1) :: (6, .int 0) :: lL b w v ou od n) hx hcb dL_law_529 hl (by decide) rfl (fun ls hl => ?_)
    have h2 := lv_at hl 4 rfl
    have h3 := lv_at hl 5 rfl
    have h4 := lv_at hl 6 rfl
    have h6 := lv_at hl 1 rfl
    have h7 := lv_at hl 0 rfl
    refine lv_aload_n hx hcb dL_law_531 rfl h2 ?_
    refine j_m (As := []) (rest := []) C hI hS hv (c_X10_thrown l G v hv z2 _) mv_X10_thrown q_1263 rfl hl.1 rfl (Nat.le_of_ble_eq_true rfl) dL_law_532 ⟨by decide, by decide⟩ ⟨l_ofr3 (by decide) hr.1, l_ofr3 (by decide) hr.2⟩ (fun r3 z3 H locs hp3 hI hS => ?_)
    obtain ⟨e4, e5⟩ := hp3
    rw [e5] at hI
    rw [et] at e4
    subst e4
    refine lv_iload hx hcb dL_law_535 h6 ?_
    refine lv_icmp_eq (tgt := 542) hx hcb dL_law_537 (by decide) (fun _ => ?_) (fun h => absurd rfl h)
    refine lv_iload hx hcb dL_law_542 h6 ?_
    refine lv_if_ne (tgt := 566) hx hcb dL_law_544 (by decide) (fun h => absurd rfl h) (fun _ => ?_)
    refine lv_aload_n hx hcb dL_law_547 rfl h3 ?_
    refine lv_iconst (v := nI 0) hx hcb dL_law_548 (by decide) ?_
    refine va_lald (D := G.1) (cl := vwCl) (tys := xtyD G cD) (cA := G.2 3) (n := 1) (f := va_up f 0 (if a1 = 0 then (0 : Int64) else 1)) (i := nI 0) hx hcb hK hI.1.2.2.1 0 3 rfl rfl (vp_in_nI (by decide) (by decide)) dL_law_549 ?_
    rw [show va_up f 0 (if a1 = 0 then (0 : Int64) else 1) (nI 0).toNatClampNeg = (if a1 = 0 then (0 : Int64) else 1) from va_up_self ..]
    refine lv_iload hx hcb dL_law_550 h7 ?_
    refine lv_if_eq (tgt := 559) hx hcb dL_law_552 (by decide) (fun c1 => ?_) (fun c1 => ?_)
    · refine lv_lconst (v := 0) hx hcb dL_law_559 (by decide) ?_
      rw [if_pos c1]
      refine W.lcmp hx hcb dL_law_560 ?_
      rw [lcmp_self]
      refine lv_if_eq (tgt := 566) hx hcb dL_law_561 (by decide) (fun _ => ?_) (fun h => absurd rfl h)
      refine lv_goto (tgt := 2584) hx hcb dL_law_566 (by decide) ?_
      refine W.widen (k := cells + 48) (n := slots + 574) (l_ofr3 (by decide) (Nat.le_refl _)) (l_ofr3 (by decide) (Nat.le_refl _)) ?_
      exact hk K w z1 z2 _ g H locs ls hw hJ hI hS (lv_sub hl [2, 3, 4, 5, 6, 7] rfl)
    · refine lv_lconst (v := 1) hx hcb dL_law_555 (by decide) ?_
      refine lv_goto (tgt := 560) hx hcb dL_law_556 (by decide) ?_
      rw [if_neg c1]
      refine W.lcmp hx hcb dL_law_560 ?_
      rw [lcmp_self]
      refine lv_if_eq (tgt := 566) hx hcb dL_law_561 (by decide) (fun _ => ?_) (fun h => absurd rfl h)
      refine lv_goto (tgt := 2584) hx hcb dL_law_566 (by decide) ?_
      refine W.widen (k := cells + 48) (n := slots + 574) (l_ofr3 (by decide) (Nat.le_refl _)) (l_ofr3 (by decide) (Nat.le_refl _)) ?_
      exact hk K w z1 z2 _ g H locs ls hw hJ hI hS (lv_sub hl [2, 3, 4, 5, 6, 7] rfl)
  · refine lv_aload_n hx hcb dL_law_506 rfl h1 ?_
    refine j_s (k := 1) C hS h0 h5 (by decide) (by omega) hL dL_law_507 dL_law_508 dL_law_510 dL_law_511 dL_law_512 ?_
    refine lv_aload_n hx hcb dL_law_513 rfl h3 ?_
    refine j_h (As := [.ref (w.2.2 0), .int (xs (6 * n + 1)), .ref ou]) (rest := []) C hI hS (x_L_consents l G cD w K hw zc f ou _ (xs (6 * n + 1)) m1) mh_L_consents q_893 rfl hl.1 rfl (Nat.le_of_ble_eq_true rfl) dL_law_514 ⟨by decide, by decide⟩ ⟨l_ofr (by decide) hr.1, l_ofr (by decide) hr.2⟩ (fun r1 z1 e3 H locs hp1 hI hS => ?_)
    obtain ⟨rfl, he⟩ := hp1
    rw [(Prod.mk.inj he).1, (Prod.mk.inj he).2] at hI
    refine lv_istore (lv' := (6, .int 1) :: lL b w v ou od n) hx hcb dL_law_517 hl (by decide) rfl (fun ls hl => ?_)
    have h0 := lv_at hl 1 rfl
    have h2 := lv_at hl 3 rfl
    have h3 := lv_at hl 4 rfl
    have h4 := lv_at hl 5 rfl
    have h5 := lv_at hl 6 rfl
    refine lv_aload_n hx hcb dL_law_519 rfl h2 ?_
    refine j_s (k := 1) C hS h0 h5 (by decide) (by omega) hL dL_law_520 dL_law_521 dL_law_523 dL_law_524 dL_law_525 ?_
    refine j_m (As := [.int (xs (6 * n + 1))]) (rest := []) C hI hS hv (m2 _) mv_X10_consents q_1452 rfl hl.1 rfl (Nat.le_of_ble_eq_true rfl) dL_law_526 ⟨by decide, by decide⟩ ⟨l_ofr2 (by decide) hr.1, l_ofr2 (by decide) hr.2⟩ (fun r2 z2 H locs hp2 hI hS => ?_)
    obtain ⟨et, hJ⟩ := ag _ _ hp2
    refine lv_istore (lv' := (7, .int r2) :: (6, .int 1) :: lL b w v ou od n) hx hcb dL_law_529 hl (by decide) rfl (fun ls hl => ?_)
    have h2 := lv_at hl 4 rfl
    have h3 := lv_at hl 5 rfl
    have h4 := lv_at hl 6 rfl
    have h6 := lv_at hl 1 rfl
    have h7 := lv_at hl 0 rfl
    refine lv_aload_n hx hcb dL_law_531 rfl h2 ?_
    refine j_m (As := []) (rest := []) C hI hS hv (c_X10_thrown l G v hv z2 _) mv_X10_thrown q_1263 rfl hl.1 rfl (Nat.le_of_ble_eq_true rfl) dL_law_532 ⟨by decide, by decide⟩ ⟨l_ofr3 (by decide) hr.1, l_ofr3 (by decide) hr.2⟩ (fun r3 z3 H locs hp3 hI hS => ?_)
    obtain ⟨e4, e5⟩ := hp3
    rw [e5] at hI
    rw [et] at e4
    subst e4
    refine lv_iload hx hcb dL_law_535 h6 ?_
    refine lv_icmp_eq (tgt := 542) hx hcb dL_law_537 (by decide) (fun _ => ?_) (fun h => absurd rfl h)
    refine lv_iload hx hcb dL_law_542 h6 ?_
    refine lv_if_ne (tgt := 566) hx hcb dL_law_544 (by decide) (fun _ => ?_) (fun h => absurd h (by decide))
    refine lv_goto (tgt := 2584) hx hcb dL_law_566 (by decide) ?_
    refine W.widen (k := cells + 48) (n := slots + 574) (l_ofr3 (by decide) (Nat.le_refl _)) (l_ofr3 (by decide) (Nat.le_refl _)) ?_
    exact hk K w zc z2 f g H locs ls hw hJ hI hS (lv_sub hl [2, 3, 4, 5, 6, 7] rfl)
set_option maxRecDepth 100000 in
set_option maxHeartbeats 4000000 in
theorem k_stateOf (C : lC p s m args c b L xs G cD) (hL : L ≤ 3072) (hn : 6 * n + 6 ≤ L) (hw : isC K w) (hv : isM v) (hJ : J K zc zm) (hI : lJ G w v zc zm ou od (lE1 G f) (lE2 cD g) s.heap.size H) (hS : va_S (lA s) s.heap H locs) (hl : lv_has ls 9 (lL b w v ou od n)) (hr : cells + 48 ≤ 601024 ∧ slots + 574 ≤ 7293034) (hk : lK p l e s m args below meth c cells slots Q G cD v ou od b n J)
    (hSim : ∀ x0 : Int32, lT l J yX9_stateOf cX9_stateOf 2 (some FieldType.int) rm_X9_stateOf rx_X9_stateOf yX10_stateOf cX10_stateOf 2 (some FieldType.int) rm_X10_stateOf [.int x0]) : W p l e room_1 s m args below meth c H locs cells slots Q (F0 m 569 ls []) := by
  have h0 := lv_at hl 0 rfl
  have h1 := lv_at hl 1 rfl
  have h2 := lv_at hl 2 rfl
  have h3 := lv_at hl 3 rfl
  have h4 := lv_at hl 4 rfl
  have h5 := lv_at hl 5 rfl
  obtain ⟨hx, hcb, hml, hown, hts, hK, hZ, hX, hbl⟩ := id C
  rcases hSim (xs (6 * n + 1)) G w v K zc zm hw hv hJ with ⟨P1, P2, m1, m2, ag⟩ | ⟨P2, m1, m2, ag⟩
  · refine lv_aload_n hx hcb dL_law_569 rfl h1 ?_
    refine j_s (k := 1) C hS h0 h5 (by decide) (by omega) hL dL_law_570 dL_law_571 dL_law_573 dL_law_574 dL_law_575 ?_
    refine lv_aload_n hx hcb dL_law_576 rfl h3 ?_
    refine j_h (As := [.ref (w.2.2 0), .int (xs (6 * n + 1)), .ref ou]) (rest := []) C hI hS (n_L_stateOf l G cD w K hw zc f ou _ (xs (6 * n + 1)) m1) mh_L_stateOf q_974 rfl hl.1 rfl (Nat.le_of_ble_eq_true rfl) dL_law_577 ⟨by decide, by decide⟩ ⟨l_ofr (by decide) hr.1, l_ofr (by decide) hr.2⟩ (fun r1 z1 e3 H locs hp1 hI hS => ?_)
    obtain ⟨rfl, a1, hp1, he⟩ := hp1
    have he : e3 = _ := he
    subst he
    refine lv_istore (lv' := (6, .int 0) :: lL b w v ou od n) hx hcb dL_law_580 hl (by decide) rfl (fun ls hl => ?_)
    have h0 := lv_at hl 1 rfl
    have h2 := lv_at hl 3 rfl
    have h3 := lv_at hl 4 rfl
    have h4 := lv_at hl 5 rfl
    have h5 := lv_at hl 6 rfl
    refine lv_aload_n hx hcb dL_law_582 rfl h2 ?_
    refine j_s (k := 1) C hS h0 h5 (by decide) (by omega) hL dL_law_583 dL_law_584 dL_law_586 dL_law_587 dL_law_588 ?_
    refine j_m (As := [.int (xs (6 * n + 1))]) (rest := []) C hI hS hv (m2 _) mv_X10_stateOf q_1464 rfl hl.1 rfl (Nat.le_of_ble_eq_true rfl) dL_law_589 ⟨by decide, by decide⟩ ⟨l_ofr2 (by decide) hr.1, l_ofr2 (by decide) hr.2⟩ (fun r2 z2 H locs hp2 hI hS => ?_)
    obtain ⟨er, et, hJ⟩ := ag _ _ _ _ hp1 hp2
    subst er
    refine lv_istore (lv' := (7, .int a1) :: (6, .int 0) :: lL b w v ou od n) hx hcb dL_law_592 hl (by decide) rfl (fun ls hl => ?_)
    have h2 := lv_at hl 4 rfl
    have h3 := lv_at hl 5 rfl
    have h4 := lv_at hl 6 rfl
    have h6 := lv_at hl 1 rfl
    have h7 := lv_at hl 0 rfl
    refine lv_aload_n hx hcb dL_law_594 rfl h2 ?_
    refine j_m (As := []) (rest := []) C hI hS hv (c_X10_thrown l G v hv z2 _) mv_X10_thrown q_1263 rfl hl.1 rfl (Nat.le_of_ble_eq_true rfl) dL_law_595 ⟨by decide, by decide⟩ ⟨l_ofr3 (by decide) hr.1, l_ofr3 (by decide) hr.2⟩ (fun r3 z3 H locs hp3 hI hS => ?_)
    obtain ⟨e4, e5⟩ := hp3
    rw [e5] at hI
    rw [et] at e4
    subst e4
    refine lv_iload hx hcb dL_law_598 h6 ?_
    refine lv_icmp_eq (tgt := 605) hx hcb dL_law_600 (by decide) (fun _ => ?_) (fun h => absurd rfl h)
    refine lv_iload hx hcb dL_law_605 h6 ?_
    refine lv_if_ne (tgt := 622) hx hcb dL_law_607 (by decide) (fun h => absurd rfl h) (fun _ => ?_)
    refine lv_aload_n hx hcb dL_law_610 rfl h3 ?_
    refine lv_iconst (v := nI 0) hx hcb dL_law_611 (by decide) ?_
    refine va_lald (D := G.1) (cl := vwCl) (tys := xtyD G cD) (cA := G.2 3) (n := 1) (f := va_up f 0 a1.toInt64) (i := nI 0) hx hcb hK hI.1.2.2.1 0 3 rfl rfl (vp_in_nI (by decide) (by decide)) dL_law_612 ?_
    rw [show va_up f 0 a1.toInt64 (nI 0).toNatClampNeg = a1.toInt64 from va_up_self ..]
    refine lv_iload hx hcb dL_law_613 h7 ?_
    refine lv_i2l hx hcb dL_law_615 rfl ?_
    refine W.lcmp hx hcb dL_law_616 ?_
    rw [lcmp_self]
    refine lv_if_eq (tgt := 622) hx hcb dL_law_617 (by decide) (fun _ => ?_) (fun h => absurd rfl h)
    refine lv_goto (tgt := 2584) hx hcb dL_law_622 (by decide) ?_
    refine W.widen (k := cells + 48) (n := slots + 574) (l_ofr3 (by decide) (Nat.le_refl _)) (l_ofr3 (by decide) (Nat.le_refl _)) ?_
    exact hk K w z1 z2 _ g H locs ls hw hJ hI hS (lv_sub hl [2, 3, 4, 5, 6, 7] rfl)
  · refine lv_aload_n hx hcb dL_law_569 rfl h1 ?_
    refine j_s (k := 1) C hS h0 h5 (by decide) (by omega) hL dL_law_570 dL_law_571 dL_law_573 dL_law_574 dL_law_575 ?_
    refine lv_aload_n hx hcb dL_law_576 rfl h3 ?_
    refine j_h (As := [.ref (w.2.2 0), .int (xs (6 * n + 1)), .ref ou]) (rest := []) C hI hS (x_L_stateOf l G cD w K hw zc f ou _ (xs (6 * n + 1)) m1) mh_L_stateOf q_974 rfl hl.1 rfl (Nat.le_of_ble_eq_true rfl) dL_law_577 ⟨by decide, by decide⟩ ⟨l_ofr (by decide) hr.1, l_ofr (by decide) hr.2⟩ (fun r1 z1 e3 H locs hp1 hI hS => ?_)
    obtain ⟨rfl, he⟩ := hp1
    rw [(Prod.mk.inj he).1, (Prod.mk.inj he).2] at hI
    refine lv_istore (lv' := (6, .int 1) :: lL b w v ou od n) hx hcb dL_law_580 hl (by decide) rfl (fun ls hl => ?_)
    have h0 := lv_at hl 1 rfl
    have h2 := lv_at hl 3 rfl
    have h3 := lv_at hl 4 rfl
    have h4 := lv_at hl 5 rfl
    have h5 := lv_at hl 6 rfl
    refine lv_aload_n hx hcb dL_law_582 rfl h2 ?_
    refine j_s (k := 1) C hS h0 h5 (by decide) (by omega) hL dL_law_583 dL_law_584 dL_law_586 dL_law_587 dL_law_588 ?_
    refine j_m (As := [.int (xs (6 * n + 1))]) (rest := []) C hI hS hv (m2 _) mv_X10_stateOf q_1464 rfl hl.1 rfl (Nat.le_of_ble_eq_true rfl) dL_law_589 ⟨by decide, by decide⟩ ⟨l_ofr2 (by decide) hr.1, l_ofr2 (by decide) hr.2⟩ (fun r2 z2 H locs hp2 hI hS => ?_)
    obtain ⟨et, hJ⟩ := ag _ _ hp2
    refine lv_istore (lv' := (7, .int r2) :: (6, .int 1) :: lL b w v ou od n) hx hcb dL_law_592 hl (by decide) rfl (fun ls hl => ?_)
    have h2 := lv_at hl 4 rfl
    have h3 := lv_at hl 5 rfl
    have h4 := lv_at hl 6 rfl
    have h6 := lv_at hl 1 rfl
    have h7 := lv_at hl 0 rfl
    refine lv_aload_n hx hcb dL_law_594 rfl h2 ?_
    refine j_m (As := []) (rest := []) C hI hS hv (c_X10_thrown l G v hv z2 _) mv_X10_thrown q_1263 rfl hl.1 rfl (Nat.le_of_ble_eq_true rfl) dL_law_595 ⟨by decide, by decide⟩ ⟨l_ofr3 (by decide) hr.1, l_ofr3 (by decide) hr.2⟩ (fun r3 z3 H locs hp3 hI hS => ?_)
    obtain ⟨e4, e5⟩ := hp3
    rw [e5] at hI
    rw [et] at e4
    subst e4
    refine lv_iload hx hcb dL_law_598 h6 ?_
    refine lv_icmp_eq (tgt := 605) hx hcb dL_law_600 (by decide) (fun _ => ?_) (fun h => absurd rfl h)
    refine lv_iload hx hcb dL_law_605 h6 ?_
    refine lv_if_ne (tgt := 622) hx hcb dL_law_607 (by decide) (fun _ => ?_) (fun h => absurd h (by decide))
    refine lv_goto (tgt := 2584) hx hcb dL_law_622 (by decide) ?_
    refine W.widen (k := cells + 48) (n := slots + 574) (l_ofr3 (by decide) (Nat.le_refl _)) (l_ofr3 (by decide) (Nat.le_refl _)) ?_
    exact hk K w zc z2 f g H locs ls hw hJ hI hS (lv_sub hl [2, 3, 4, 5, 6, 7] rfl)
set_option maxRecDepth 100000 in
set_option maxHeartbeats 4000000 in
theorem k_patronage (C : lC p s m args c b L xs G cD) (hL : L ≤ 3072) (hn : 6 * n + 6 ≤ L) (hw : isC K w) (hv : isM v) (hJ : J K zc zm) (hI : lJ G w v zc zm ou od (lE1 G f) (lE2 cD g) s.heap.size H) (hS : va_S (lA s) s.heap H locs) (hl : lv_has ls 9 (lL b w v ou od n)) (hr : cells + 48 ≤ 601024 ∧ slots + 574 ≤ 7293034) (hk : lK p l e s m args below meth c cells slots Q G cD v ou od b n J)
    (hSim : ∀ x0 x1 : Int32, lT2 l J yX9_patronage cX9_patronage 4 (some FieldType.int) rm_X9_patronage rx_X9_patronage rx2_X9_patronage yX10_patronage cX10_patronage 3 (some FieldType.int) rm_X10_patronage [.int x0, .int x1]) : W p l e room_1 s m args below meth c H locs cells slots Q (F0 m 625 ls []) := by
  have h0 := lv_at hl 0 rfl
  have h1 := lv_at hl 1 rfl
  have h2 := lv_at hl 2 rfl
  have h3 := lv_at hl 3 rfl
  have h4 := lv_at hl 4 rfl
  have h5 := lv_at hl 5 rfl
  obtain ⟨hx, hcb, hml, hown, hts, hK, hZ, hX, hbl⟩ := id C
  rcases hSim (xs (6 * n + 1)) (xs (6 * n + 2)) G w v K zc zm hw hv hJ with ⟨P1, P2, m1, m2, ag⟩ | ⟨P2, m1, m2, ag⟩
  · refine lv_aload_n hx hcb dL_law_625 rfl h1 ?_
    refine j_s (k := 1) C hS h0 h5 (by decide) (by omega) hL dL_law_626 dL_law_627 dL_law_629 dL_law_630 dL_law_631 ?_
    refine j_s (k := 2) C hS h0 h5 (by decide) (by omega) hL dL_law_632 dL_law_633 dL_law_635 dL_law_636 dL_law_637 ?_
    refine lv_aload_n hx hcb dL_law_638 rfl h3 ?_
    refine j_h (As := [.ref (w.2.2 0), .int (xs (6 * n + 1)), .int (xs (6 * n + 2)), .ref ou]) (rest := []) C hI hS (n_L_patronage l G cD w K hw zc f ou _ (xs (6 * n + 1)) (xs (6 * n + 2)) m1) mh_L_patronage q_981 rfl hl.1 rfl (Nat.le_of_ble_eq_true rfl) dL_law_639 ⟨by decide, by decide⟩ ⟨l_ofr (by decide) hr.1, l_ofr (by decide) hr.2⟩ (fun r1 z1 e3 H locs hp1 hI hS => ?_)
    obtain ⟨rfl, a1, hp1, he⟩ := hp1
    have he : e3 = _ := he
    subst he
    refine lv_istore (lv' := (6, .int 0) :: lL b w v ou od n) hx hcb dL_law_642 hl (by decide) rfl (fun ls hl => ?_)
    have h0 := lv_at hl 1 rfl
    have h2 := lv_at hl 3 rfl
    have h3 := lv_at hl 4 rfl
    have h4 := lv_at hl 5 rfl
    have h5 := lv_at hl 6 rfl
    refine lv_aload_n hx hcb dL_law_644 rfl h2 ?_
    refine j_s (k := 1) C hS h0 h5 (by decide) (by omega) hL dL_law_645 dL_law_646 dL_law_648 dL_law_649 dL_law_650 ?_
    refine j_s (k := 2) C hS h0 h5 (by decide) (by omega) hL dL_law_651 dL_law_652 dL_law_654 dL_law_655 dL_law_656 ?_
    refine j_m (As := [.int (xs (6 * n + 1)), .int (xs (6 * n + 2))]) (rest := []) C hI hS hv (m2 _) mv_X10_patronage q_1468 rfl hl.1 rfl (Nat.le_of_ble_eq_true rfl) dL_law_657 ⟨by decide, by decide⟩ ⟨l_ofr2 (by decide) hr.1, l_ofr2 (by decide) hr.2⟩ (fun r2 z2 H locs hp2 hI hS => ?_)
    obtain ⟨er, et, hJ⟩ := ag _ _ _ _ hp1 hp2
    subst er
    refine lv_istore (lv' := (7, .int a1) :: (6, .int 0) :: lL b w v ou od n) hx hcb dL_law_660 hl (by decide) rfl (fun ls hl => ?_)
    have h2 := lv_at hl 4 rfl
    have h3 := lv_at hl 5 rfl
    have h4 := lv_at hl 6 rfl
    have h6 := lv_at hl 1 rfl
    have h7 := lv_at hl 0 rfl
    refine lv_aload_n hx hcb dL_law_662 rfl h2 ?_
    refine j_m (As := []) (rest := []) C hI hS hv (c_X10_thrown l G v hv z2 _) mv_X10_thrown q_1263 rfl hl.1 rfl (Nat.le_of_ble_eq_true rfl) dL_law_663 ⟨by decide, by decide⟩ ⟨l_ofr3 (by decide) hr.1, l_ofr3 (by decide) hr.2⟩ (fun r3 z3 H locs hp3 hI hS => ?_)
    obtain ⟨e4, e5⟩ := hp3
    rw [e5] at hI
    rw [et] at e4
    subst e4
    refine lv_iload hx hcb dL_law_666 h6 ?_
    refine lv_icmp_eq (tgt := 673) hx hcb dL_law_668 (by decide) (fun _ => ?_) (fun h => absurd rfl h)
    refine lv_iload hx hcb dL_law_673 h6 ?_
    refine lv_if_ne (tgt := 690) hx hcb dL_law_675 (by decide) (fun h => absurd rfl h) (fun _ => ?_)
    refine lv_aload_n hx hcb dL_law_678 rfl h3 ?_
    refine lv_iconst (v := nI 0) hx hcb dL_law_679 (by decide) ?_
    refine va_lald (D := G.1) (cl := vwCl) (tys := xtyD G cD) (cA := G.2 3) (n := 1) (f := va_up f 0 a1.toInt64) (i := nI 0) hx hcb hK hI.1.2.2.1 0 3 rfl rfl (vp_in_nI (by decide) (by decide)) dL_law_680 ?_
    rw [show va_up f 0 a1.toInt64 (nI 0).toNatClampNeg = a1.toInt64 from va_up_self ..]
    refine lv_iload hx hcb dL_law_681 h7 ?_
    refine lv_i2l hx hcb dL_law_683 rfl ?_
    refine W.lcmp hx hcb dL_law_684 ?_
    rw [lcmp_self]
    refine lv_if_eq (tgt := 690) hx hcb dL_law_685 (by decide) (fun _ => ?_) (fun h => absurd rfl h)
    refine lv_goto (tgt := 2584) hx hcb dL_law_690 (by decide) ?_
    refine W.widen (k := cells + 48) (n := slots + 574) (l_ofr3 (by decide) (Nat.le_refl _)) (l_ofr3 (by decide) (Nat.le_refl _)) ?_
    exact hk K w z1 z2 _ g H locs ls hw hJ hI hS (lv_sub hl [2, 3, 4, 5, 6, 7] rfl)
  · refine lv_aload_n hx hcb dL_law_625 rfl h1 ?_
    refine j_s (k := 1) C hS h0 h5 (by decide) (by omega) hL dL_law_626 dL_law_627 dL_law_629 dL_law_630 dL_law_631 ?_
    refine j_s (k := 2) C hS h0 h5 (by decide) (by omega) hL dL_law_632 dL_law_633 dL_law_635 dL_law_636 dL_law_637 ?_
    refine lv_aload_n hx hcb dL_law_638 rfl h3 ?_
    refine j_h (As := [.ref (w.2.2 0), .int (xs (6 * n + 1)), .int (xs (6 * n + 2)), .ref ou]) (rest := []) C hI hS (m1.elim (fun m1 => x_L_patronage l G cD w K hw zc f ou _ (xs (6 * n + 1)) (xs (6 * n + 2)) m1) (fun m1 => x_L2_patronage l G cD w K hw zc f ou _ (xs (6 * n + 1)) (xs (6 * n + 2)) m1)) mh_L_patronage q_981 rfl hl.1 rfl (Nat.le_of_ble_eq_true rfl) dL_law_639 ⟨by decide, by decide⟩ ⟨l_ofr (by decide) hr.1, l_ofr (by decide) hr.2⟩ (fun r1 z1 e3 H locs hp1 hI hS => ?_)
    obtain ⟨rfl, he⟩ := hp1
    rw [(Prod.mk.inj he).1, (Prod.mk.inj he).2] at hI
    refine lv_istore (lv' := (6, .int 1) :: lL b w v ou od n) hx hcb dL_law_642 hl (by decide) rfl (fun ls hl => ?_)
    have h0 := lv_at hl 1 rfl
    have h2 := lv_at hl 3 rfl
    have h3 := lv_at hl 4 rfl
    have h4 := lv_at hl 5 rfl
    have h5 := lv_at hl 6 rfl
    refine lv_aload_n hx hcb dL_law_644 rfl h2 ?_
    refine j_s (k := 1) C hS h0 h5 (by decide) (by omega) hL dL_law_645 dL_law_646 dL_law_648 dL_law_649 dL_law_650 ?_
    refine j_s (k := 2) C hS h0 h5 (by decide) (by omega) hL dL_law_651 dL_law_652 dL_law_654 dL_law_655 dL_law_656 ?_
    refine j_m (As := [.int (xs (6 * n + 1)), .int (xs (6 * n + 2))]) (rest := []) C hI hS hv (m2 _) mv_X10_patronage q_1468 rfl hl.1 rfl (Nat.le_of_ble_eq_true rfl) dL_law_657 ⟨by decide, by decide⟩ ⟨l_ofr2 (by decide) hr.1, l_ofr2 (by decide) hr.2⟩ (fun r2 z2 H locs hp2 hI hS => ?_)
    obtain ⟨et, hJ⟩ := ag _ _ hp2
    refine lv_istore (lv' := (7, .int r2) :: (6, .int 1) :: lL b w v ou od n) hx hcb dL_law_660 hl (by decide) rfl (fun ls hl => ?_)
    have h2 := lv_at hl 4 rfl
    have h3 := lv_at hl 5 rfl
    have h4 := lv_at hl 6 rfl
    have h6 := lv_at hl 1 rfl
    have h7 := lv_at hl 0 rfl
    refine lv_aload_n hx hcb dL_law_662 rfl h2 ?_
    refine j_m (As := []) (rest := []) C hI hS hv (c_X10_thrown l G v hv z2 _) mv_X10_thrown q_1263 rfl hl.1 rfl (Nat.le_of_ble_eq_true rfl) dL_law_663 ⟨by decide, by decide⟩ ⟨l_ofr3 (by decide) hr.1, l_ofr3 (by decide) hr.2⟩ (fun r3 z3 H locs hp3 hI hS => ?_)
    obtain ⟨e4, e5⟩ := hp3
    rw [e5] at hI
    rw [et] at e4
    subst e4
    refine lv_iload hx hcb dL_law_666 h6 ?_
    refine lv_icmp_eq (tgt := 673) hx hcb dL_law_668 (by decide) (fun _ => ?_) (fun h => absurd rfl h)
    refine lv_iload hx hcb dL_law_673 h6 ?_
    refine lv_if_ne (tgt := 690) hx hcb dL_law_675 (by decide) (fun _ => ?_) (fun h => absurd h (by decide))
    refine lv_goto (tgt := 2584) hx hcb dL_law_690 (by decide) ?_
    refine W.widen (k := cells + 48) (n := slots + 574) (l_ofr3 (by decide) (Nat.le_refl _)) (l_ofr3 (by decide) (Nat.le_refl _)) ?_
    exact hk K w zc z2 f g H locs ls hw hJ hI hS (lv_sub hl [2, 3, 4, 5, 6, 7] rfl)
set_option maxRecDepth 100000 in
set_option maxHeartbeats 4000000 in
theorem k_totalPatronage (C : lC p s m args c b L xs G cD) (hL : L ≤ 3072) (hn : 6 * n + 6 ≤ L) (hw : isC K w) (hv : isM v) (hJ : J K zc zm) (hI : lJ G w v zc zm ou od (lE1 G f) (lE2 cD g) s.heap.size H) (hS : va_S (lA s) s.heap H locs) (hl : lv_has ls 9 (lL b w v ou od n)) (hr : cells + 48 ≤ 601024 ∧ slots + 574 ≤ 7293034) (hk : lK p l e s m args below meth c cells slots Q G cD v ou od b n J)
    (hSim : ∀ x0 : Int32, lT l J yX9_totalPatronage cX9_totalPatronage 2 (some FieldType.int) rm_X9_totalPatronage rx_X9_totalPatronage yX10_totalPatronage cX10_totalPatronage 2 (some FieldType.int) rm_X10_totalPatronage [.int x0]) : W p l e room_1 s m args below meth c H locs cells slots Q (F0 m 693 ls []) := by
  have h0 := lv_at hl 0 rfl
  have h1 := lv_at hl 1 rfl
  have h2 := lv_at hl 2 rfl
  have h3 := lv_at hl 3 rfl
  have h4 := lv_at hl 4 rfl
  have h5 := lv_at hl 5 rfl
  obtain ⟨hx, hcb, hml, hown, hts, hK, hZ, hX, hbl⟩ := id C
  rcases hSim (xs (6 * n + 1)) G w v K zc zm hw hv hJ with ⟨P1, P2, m1, m2, ag⟩ | ⟨P2, m1, m2, ag⟩
  · refine lv_aload_n hx hcb dL_law_693 rfl h1 ?_
    refine j_s (k := 1) C hS h0 h5 (by decide) (by omega) hL dL_law_694 dL_law_695 dL_law_697 dL_law_698 dL_law_699 ?_
    refine lv_aload_n hx hcb dL_law_700 rfl h3 ?_
    refine j_h (As := [.ref (w.2.2 0), .int (xs (6 * n + 1)), .ref ou]) (rest := []) C hI hS (n_L_totalPatronage l G cD w K hw zc f ou _ (xs (6 * n + 1)) m1) mh_L_totalPatronage q_993 rfl hl.1 rfl (Nat.le_of_ble_eq_true rfl) dL_law_701 ⟨by decide, by decide⟩ ⟨l_ofr (by decide) hr.1, l_ofr (by decide) hr.2⟩ (fun r1 z1 e3 H locs hp1 hI hS => ?_)
    obtain ⟨rfl, a1, hp1, he⟩ := hp1
    have he : e3 = _ := he
    subst he
    refine lv_istore (lv' := (6, .int 0) :: lL b w v ou od n) hx hcb dL_law_704 hl (by decide) rfl (fun ls hl => ?_)
    have h0 := lv_at hl 1 rfl
    have h2 := lv_at hl 3 rfl
    have h3 := lv_at hl 4 rfl
    have h4 := lv_at hl 5 rfl
    have h5 := lv_at hl 6 rfl
    refine lv_aload_n hx hcb dL_law_706 rfl h2 ?_
    refine j_s (k := 1) C hS h0 h5 (by decide) (by omega) hL dL_law_707 dL_law_708 dL_law_710 dL_law_711 dL_law_712 ?_
    refine j_m (As := [.int (xs (6 * n + 1))]) (rest := []) C hI hS hv (m2 _) mv_X10_totalPatronage q_1476 rfl hl.1 rfl (Nat.le_of_ble_eq_true rfl) dL_law_713 ⟨by decide, by decide⟩ ⟨l_ofr2 (by decide) hr.1, l_ofr2 (by decide) hr.2⟩ (fun r2 z2 H locs hp2 hI hS => ?_)
    obtain ⟨er, et, hJ⟩ := ag _ _ _ _ hp1 hp2
    subst er
    refine lv_istore (lv' := (7, .int a1) :: (6, .int 0) :: lL b w v ou od n) hx hcb dL_law_716 hl (by decide) rfl (fun ls hl => ?_)
    have h2 := lv_at hl 4 rfl
    have h3 := lv_at hl 5 rfl
    have h4 := lv_at hl 6 rfl
    have h6 := lv_at hl 1 rfl
    have h7 := lv_at hl 0 rfl
    refine lv_aload_n hx hcb dL_law_718 rfl h2 ?_
    refine j_m (As := []) (rest := []) C hI hS hv (c_X10_thrown l G v hv z2 _) mv_X10_thrown q_1263 rfl hl.1 rfl (Nat.le_of_ble_eq_true rfl) dL_law_719 ⟨by decide, by decide⟩ ⟨l_ofr3 (by decide) hr.1, l_ofr3 (by decide) hr.2⟩ (fun r3 z3 H locs hp3 hI hS => ?_)
    obtain ⟨e4, e5⟩ := hp3
    rw [e5] at hI
    rw [et] at e4
    subst e4
    refine lv_iload hx hcb dL_law_722 h6 ?_
    refine lv_icmp_eq (tgt := 729) hx hcb dL_law_724 (by decide) (fun _ => ?_) (fun h => absurd rfl h)
    refine lv_iload hx hcb dL_law_729 h6 ?_
    refine lv_if_ne (tgt := 746) hx hcb dL_law_731 (by decide) (fun h => absurd rfl h) (fun _ => ?_)
    refine lv_aload_n hx hcb dL_law_734 rfl h3 ?_
    refine lv_iconst (v := nI 0) hx hcb dL_law_735 (by decide) ?_
    refine va_lald (D := G.1) (cl := vwCl) (tys := xtyD G cD) (cA := G.2 3) (n := 1) (f := va_up f 0 a1.toInt64) (i := nI 0) hx hcb hK hI.1.2.2.1 0 3 rfl rfl (vp_in_nI (by decide) (by decide)) dL_law_736 ?_
    rw [show va_up f 0 a1.toInt64 (nI 0).toNatClampNeg = a1.toInt64 from va_up_self ..]
    refine lv_iload hx hcb dL_law_737 h7 ?_
    refine lv_i2l hx hcb dL_law_739 rfl ?_
    refine W.lcmp hx hcb dL_law_740 ?_
    rw [lcmp_self]
    refine lv_if_eq (tgt := 746) hx hcb dL_law_741 (by decide) (fun _ => ?_) (fun h => absurd rfl h)
    refine lv_goto (tgt := 2584) hx hcb dL_law_746 (by decide) ?_
    refine W.widen (k := cells + 48) (n := slots + 574) (l_ofr3 (by decide) (Nat.le_refl _)) (l_ofr3 (by decide) (Nat.le_refl _)) ?_
    exact hk K w z1 z2 _ g H locs ls hw hJ hI hS (lv_sub hl [2, 3, 4, 5, 6, 7] rfl)
  · refine lv_aload_n hx hcb dL_law_693 rfl h1 ?_
    refine j_s (k := 1) C hS h0 h5 (by decide) (by omega) hL dL_law_694 dL_law_695 dL_law_697 dL_law_698 dL_law_699 ?_
    refine lv_aload_n hx hcb dL_law_700 rfl h3 ?_
    refine j_h (As := [.ref (w.2.2 0), .int (xs (6 * n + 1)), .ref ou]) (rest := []) C hI hS (x_L_totalPatronage l G cD w K hw zc f ou _ (xs (6 * n + 1)) m1) mh_L_totalPatronage q_993 rfl hl.1 rfl (Nat.le_of_ble_eq_true rfl) dL_law_701 ⟨by decide, by decide⟩ ⟨l_ofr (by decide) hr.1, l_ofr (by decide) hr.2⟩ (fun r1 z1 e3 H locs hp1 hI hS => ?_)
    obtain ⟨rfl, he⟩ := hp1
    rw [(Prod.mk.inj he).1, (Prod.mk.inj he).2] at hI
    refine lv_istore (lv' := (6, .int 1) :: lL b w v ou od n) hx hcb dL_law_704 hl (by decide) rfl (fun ls hl => ?_)
    have h0 := lv_at hl 1 rfl
    have h2 := lv_at hl 3 rfl
    have h3 := lv_at hl 4 rfl
    have h4 := lv_at hl 5 rfl
    have h5 := lv_at hl 6 rfl
    refine lv_aload_n hx hcb dL_law_706 rfl h2 ?_
    refine j_s (k := 1) C hS h0 h5 (by decide) (by omega) hL dL_law_707 dL_law_708 dL_law_710 dL_law_711 dL_law_712 ?_
    refine j_m (As := [.int (xs (6 * n + 1))]) (rest := []) C hI hS hv (m2 _) mv_X10_totalPatronage q_1476 rfl hl.1 rfl (Nat.le_of_ble_eq_true rfl) dL_law_713 ⟨by decide, by decide⟩ ⟨l_ofr2 (by decide) hr.1, l_ofr2 (by decide) hr.2⟩ (fun r2 z2 H locs hp2 hI hS => ?_)
    obtain ⟨et, hJ⟩ := ag _ _ hp2
    refine lv_istore (lv' := (7, .int r2) :: (6, .int 1) :: lL b w v ou od n) hx hcb dL_law_716 hl (by decide) rfl (fun ls hl => ?_)
    have h2 := lv_at hl 4 rfl
    have h3 := lv_at hl 5 rfl
    have h4 := lv_at hl 6 rfl
    have h6 := lv_at hl 1 rfl
    have h7 := lv_at hl 0 rfl
    refine lv_aload_n hx hcb dL_law_718 rfl h2 ?_
    refine j_m (As := []) (rest := []) C hI hS hv (c_X10_thrown l G v hv z2 _) mv_X10_thrown q_1263 rfl hl.1 rfl (Nat.le_of_ble_eq_true rfl) dL_law_719 ⟨by decide, by decide⟩ ⟨l_ofr3 (by decide) hr.1, l_ofr3 (by decide) hr.2⟩ (fun r3 z3 H locs hp3 hI hS => ?_)
    obtain ⟨e4, e5⟩ := hp3
    rw [e5] at hI
    rw [et] at e4
    subst e4
    refine lv_iload hx hcb dL_law_722 h6 ?_
    refine lv_icmp_eq (tgt := 729) hx hcb dL_law_724 (by decide) (fun _ => ?_) (fun h => absurd rfl h)
    refine lv_iload hx hcb dL_law_729 h6 ?_
    refine lv_if_ne (tgt := 746) hx hcb dL_law_731 (by decide) (fun _ => ?_) (fun h => absurd h (by decide))
    refine lv_goto (tgt := 2584) hx hcb dL_law_746 (by decide) ?_
    refine W.widen (k := cells + 48) (n := slots + 574) (l_ofr3 (by decide) (Nat.le_refl _)) (l_ofr3 (by decide) (Nat.le_refl _)) ?_
    exact hk K w zc z2 f g H locs ls hw hJ hI hS (lv_sub hl [2, 3, 4, 5, 6, 7] rfl)
set_option maxRecDepth 100000 in
set_option maxHeartbeats 4000000 in
theorem k_certificate (C : lC p s m args c b L xs G cD) (hL : L ≤ 3072) (hn : 6 * n + 6 ≤ L) (hw : isC K w) (hv : isM v) (hJ : J K zc zm) (hI : lJ G w v zc zm ou od (lE1 G f) (lE2 cD g) s.heap.size H) (hS : va_S (lA s) s.heap H locs) (hl : lv_has ls 9 (lL b w v ou od n)) (hr : cells + 48 ≤ 601024 ∧ slots + 574 ≤ 7293034) (hk : lK p l e s m args below meth c cells slots Q G cD v ou od b n J)
    (hSim : ∀ x0 x1 : Int32, lT l J yX9_certificate cX9_certificate 4 (some FieldType.int) rm_X9_certificate rx_X9_certificate yX10_certificate cX10_certificate 3 (some FieldType.int) rm_X10_certificate [.int x0, .int x1]) : W p l e room_1 s m args below meth c H locs cells slots Q (F0 m 749 ls []) := by
  have h0 := lv_at hl 0 rfl
  have h1 := lv_at hl 1 rfl
  have h2 := lv_at hl 2 rfl
  have h3 := lv_at hl 3 rfl
  have h4 := lv_at hl 4 rfl
  have h5 := lv_at hl 5 rfl
  obtain ⟨hx, hcb, hml, hown, hts, hK, hZ, hX, hbl⟩ := id C
  rcases hSim (xs (6 * n + 1)) (xs (6 * n + 2)) G w v K zc zm hw hv hJ with ⟨P1, P2, m1, m2, ag⟩ | ⟨P2, m1, m2, ag⟩
  · refine lv_aload_n hx hcb dL_law_749 rfl h1 ?_
    refine j_s (k := 1) C hS h0 h5 (by decide) (by omega) hL dL_law_750 dL_law_751 dL_law_753 dL_law_754 dL_law_755 ?_
    refine j_s (k := 2) C hS h0 h5 (by decide) (by omega) hL dL_law_756 dL_law_757 dL_law_759 dL_law_760 dL_law_761 ?_
    refine lv_aload_n hx hcb dL_law_762 rfl h3 ?_
    refine j_h (As := [.ref (w.2.2 0), .int (xs (6 * n + 1)), .int (xs (6 * n + 2)), .ref ou]) (rest := []) C hI hS (n_L_certificate l G cD w K hw zc f ou _ (xs (6 * n + 1)) (xs (6 * n + 2)) m1) mh_L_certificate q_1001 rfl hl.1 rfl (Nat.le_of_ble_eq_true rfl) dL_law_763 ⟨by decide, by decide⟩ ⟨l_ofr (by decide) hr.1, l_ofr (by decide) hr.2⟩ (fun r1 z1 e3 H locs hp1 hI hS => ?_)
    obtain ⟨rfl, a1, hp1, he⟩ := hp1
    have he : e3 = _ := he
    subst he
    refine lv_istore (lv' := (6, .int 0) :: lL b w v ou od n) hx hcb dL_law_766 hl (by decide) rfl (fun ls hl => ?_)
    have h0 := lv_at hl 1 rfl
    have h2 := lv_at hl 3 rfl
    have h3 := lv_at hl 4 rfl
    have h4 := lv_at hl 5 rfl
    have h5 := lv_at hl 6 rfl
    refine lv_aload_n hx hcb dL_law_768 rfl h2 ?_
    refine j_s (k := 1) C hS h0 h5 (by decide) (by omega) hL dL_law_769 dL_law_770 dL_law_772 dL_law_773 dL_law_774 ?_
    refine j_s (k := 2) C hS h0 h5 (by decide) (by omega) hL dL_law_775 dL_law_776 dL_law_778 dL_law_779 dL_law_780 ?_
    refine j_m (As := [.int (xs (6 * n + 1)), .int (xs (6 * n + 2))]) (rest := []) C hI hS hv (m2 _) mv_X10_certificate q_1480 rfl hl.1 rfl (Nat.le_of_ble_eq_true rfl) dL_law_781 ⟨by decide, by decide⟩ ⟨l_ofr2 (by decide) hr.1, l_ofr2 (by decide) hr.2⟩ (fun r2 z2 H locs hp2 hI hS => ?_)
    obtain ⟨er, et, hJ⟩ := ag _ _ _ _ hp1 hp2
    subst er
    refine lv_istore (lv' := (7, .int a1) :: (6, .int 0) :: lL b w v ou od n) hx hcb dL_law_784 hl (by decide) rfl (fun ls hl => ?_)
    have h2 := lv_at hl 4 rfl
    have h3 := lv_at hl 5 rfl
    have h4 := lv_at hl 6 rfl
    have h6 := lv_at hl 1 rfl
    have h7 := lv_at hl 0 rfl
    refine lv_aload_n hx hcb dL_law_786 rfl h2 ?_
    refine j_m (As := []) (rest := []) C hI hS hv (c_X10_thrown l G v hv z2 _) mv_X10_thrown q_1263 rfl hl.1 rfl (Nat.le_of_ble_eq_true rfl) dL_law_787 ⟨by decide, by decide⟩ ⟨l_ofr3 (by decide) hr.1, l_ofr3 (by decide) hr.2⟩ (fun r3 z3 H locs hp3 hI hS => ?_)
    obtain ⟨e4, e5⟩ := hp3
    rw [e5] at hI
    rw [et] at e4
    subst e4
    refine lv_iload hx hcb dL_law_790 h6 ?_
    refine lv_icmp_eq (tgt := 797) hx hcb dL_law_792 (by decide) (fun _ => ?_) (fun h => absurd rfl h)
    refine lv_iload hx hcb dL_law_797 h6 ?_
    refine lv_if_ne (tgt := 814) hx hcb dL_law_799 (by decide) (fun h => absurd rfl h) (fun _ => ?_)
    refine lv_aload_n hx hcb dL_law_802 rfl h3 ?_
    refine lv_iconst (v := nI 0) hx hcb dL_law_803 (by decide) ?_
    refine va_lald (D := G.1) (cl := vwCl) (tys := xtyD G cD) (cA := G.2 3) (n := 1) (f := va_up f 0 a1.toInt64) (i := nI 0) hx hcb hK hI.1.2.2.1 0 3 rfl rfl (vp_in_nI (by decide) (by decide)) dL_law_804 ?_
    rw [show va_up f 0 a1.toInt64 (nI 0).toNatClampNeg = a1.toInt64 from va_up_self ..]
    refine lv_iload hx hcb dL_law_805 h7 ?_
    refine lv_i2l hx hcb dL_law_807 rfl ?_
    refine W.lcmp hx hcb dL_law_808 ?_
    rw [lcmp_self]
    refine lv_if_eq (tgt := 814) hx hcb dL_law_809 (by decide) (fun _ => ?_) (fun h => absurd rfl h)
    refine lv_goto (tgt := 2584) hx hcb dL_law_814 (by decide) ?_
    refine W.widen (k := cells + 48) (n := slots + 574) (l_ofr3 (by decide) (Nat.le_refl _)) (l_ofr3 (by decide) (Nat.le_refl _)) ?_
    exact hk K w z1 z2 _ g H locs ls hw hJ hI hS (lv_sub hl [2, 3, 4, 5, 6, 7] rfl)
  · refine lv_aload_n hx hcb dL_law_749 rfl h1 ?_
    refine j_s (k := 1) C hS h0 h5 (by decide) (by omega) hL dL_law_750 dL_law_751 dL_law_753 dL_law_754 dL_law_755 ?_
    refine j_s (k := 2) C hS h0 h5 (by decide) (by omega) hL dL_law_756 dL_law_757 dL_law_759 dL_law_760 dL_law_761 ?_
    refine lv_aload_n hx hcb dL_law_762 rfl h3 ?_
    refine j_h (As := [.ref (w.2.2 0), .int (xs (6 * n + 1)), .int (xs (6 * n + 2)), .ref ou]) (rest := []) C hI hS (x_L_certificate l G cD w K hw zc f ou _ (xs (6 * n + 1)) (xs (6 * n + 2)) m1) mh_L_certificate q_1001 rfl hl.1 rfl (Nat.le_of_ble_eq_true rfl) dL_law_763 ⟨by decide, by decide⟩ ⟨l_ofr (by decide) hr.1, l_ofr (by decide) hr.2⟩ (fun r1 z1 e3 H locs hp1 hI hS => ?_)
    obtain ⟨rfl, he⟩ := hp1
    rw [(Prod.mk.inj he).1, (Prod.mk.inj he).2] at hI
    refine lv_istore (lv' := (6, .int 1) :: lL b w v ou od n) hx hcb dL_law_766 hl (by decide) rfl (fun ls hl => ?_)
    have h0 := lv_at hl 1 rfl
    have h2 := lv_at hl 3 rfl
    have h3 := lv_at hl 4 rfl
    have h4 := lv_at hl 5 rfl
    have h5 := lv_at hl 6 rfl
    refine lv_aload_n hx hcb dL_law_768 rfl h2 ?_
    refine j_s (k := 1) C hS h0 h5 (by decide) (by omega) hL dL_law_769 dL_law_770 dL_law_772 dL_law_773 dL_law_774 ?_
    refine j_s (k := 2) C hS h0 h5 (by decide) (by omega) hL dL_law_775 dL_law_776 dL_law_778 dL_law_779 dL_law_780 ?_
    refine j_m (As := [.int (xs (6 * n + 1)), .int (xs (6 * n + 2))]) (rest := []) C hI hS hv (m2 _) mv_X10_certificate q_1480 rfl hl.1 rfl (Nat.le_of_ble_eq_true rfl) dL_law_781 ⟨by decide, by decide⟩ ⟨l_ofr2 (by decide) hr.1, l_ofr2 (by decide) hr.2⟩ (fun r2 z2 H locs hp2 hI hS => ?_)
    obtain ⟨et, hJ⟩ := ag _ _ hp2
    refine lv_istore (lv' := (7, .int r2) :: (6, .int 1) :: lL b w v ou od n) hx hcb dL_law_784 hl (by decide) rfl (fun ls hl => ?_)
    have h2 := lv_at hl 4 rfl
    have h3 := lv_at hl 5 rfl
    have h4 := lv_at hl 6 rfl
    have h6 := lv_at hl 1 rfl
    have h7 := lv_at hl 0 rfl
    refine lv_aload_n hx hcb dL_law_786 rfl h2 ?_
    refine j_m (As := []) (rest := []) C hI hS hv (c_X10_thrown l G v hv z2 _) mv_X10_thrown q_1263 rfl hl.1 rfl (Nat.le_of_ble_eq_true rfl) dL_law_787 ⟨by decide, by decide⟩ ⟨l_ofr3 (by decide) hr.1, l_ofr3 (by decide) hr.2⟩ (fun r3 z3 H locs hp3 hI hS => ?_)
    obtain ⟨e4, e5⟩ := hp3
    rw [e5] at hI
    rw [et] at e4
    subst e4
    refine lv_iload hx hcb dL_law_790 h6 ?_
    refine lv_icmp_eq (tgt := 797) hx hcb dL_law_792 (by decide) (fun _ => ?_) (fun h => absurd rfl h)
    refine lv_iload hx hcb dL_law_797 h6 ?_
    refine lv_if_ne (tgt := 814) hx hcb dL_law_799 (by decide) (fun _ => ?_) (fun h => absurd h (by decide))
    refine lv_goto (tgt := 2584) hx hcb dL_law_814 (by decide) ?_
    refine W.widen (k := cells + 48) (n := slots + 574) (l_ofr3 (by decide) (Nat.le_refl _)) (l_ofr3 (by decide) (Nat.le_refl _)) ?_
    exact hk K w zc z2 f g H locs ls hw hJ hI hS (lv_sub hl [2, 3, 4, 5, 6, 7] rfl)
set_option maxRecDepth 100000 in
set_option maxHeartbeats 4000000 in
theorem k_kindOf (C : lC p s m args c b L xs G cD) (hL : L ≤ 3072) (hn : 6 * n + 6 ≤ L) (hw : isC K w) (hv : isM v) (hJ : J K zc zm) (hI : lJ G w v zc zm ou od (lE1 G f) (lE2 cD g) s.heap.size H) (hS : va_S (lA s) s.heap H locs) (hl : lv_has ls 9 (lL b w v ou od n)) (hr : cells + 48 ≤ 601024 ∧ slots + 574 ≤ 7293034) (hk : lK p l e s m args below meth c cells slots Q G cD v ou od b n J)
    (hSim : ∀ x0 x1 : Int32, lT l J yX9_kindOf cX9_kindOf 4 (some FieldType.int) rm_X9_kindOf rx_X9_kindOf yX10_kindOf cX10_kindOf 3 (some FieldType.int) rm_X10_kindOf [.int x0, .int x1]) : W p l e room_1 s m args below meth c H locs cells slots Q (F0 m 817 ls []) := by
  have h0 := lv_at hl 0 rfl
  have h1 := lv_at hl 1 rfl
  have h2 := lv_at hl 2 rfl
  have h3 := lv_at hl 3 rfl
  have h4 := lv_at hl 4 rfl
  have h5 := lv_at hl 5 rfl
  obtain ⟨hx, hcb, hml, hown, hts, hK, hZ, hX, hbl⟩ := id C
  rcases hSim (xs (6 * n + 1)) (xs (6 * n + 2)) G w v K zc zm hw hv hJ with ⟨P1, P2, m1, m2, ag⟩ | ⟨P2, m1, m2, ag⟩
  · refine lv_aload_n hx hcb dL_law_817 rfl h1 ?_
    refine j_s (k := 1) C hS h0 h5 (by decide) (by omega) hL dL_law_818 dL_law_819 dL_law_821 dL_law_822 dL_law_823 ?_
    refine j_s (k := 2) C hS h0 h5 (by decide) (by omega) hL dL_law_824 dL_law_825 dL_law_827 dL_law_828 dL_law_829 ?_
    refine lv_aload_n hx hcb dL_law_830 rfl h3 ?_
    refine j_h (As := [.ref (w.2.2 0), .int (xs (6 * n + 1)), .int (xs (6 * n + 2)), .ref ou]) (rest := []) C hI hS (n_L_kindOf l G cD w K hw zc f ou _ (xs (6 * n + 1)) (xs (6 * n + 2)) m1) mh_L_kindOf q_1008 rfl hl.1 rfl (Nat.le_of_ble_eq_true rfl) dL_law_831 ⟨by decide, by decide⟩ ⟨l_ofr (by decide) hr.1, l_ofr (by decide) hr.2⟩ (fun r1 z1 e3 H locs hp1 hI hS => ?_)
    obtain ⟨rfl, a1, hp1, he⟩ := hp1
    have he : e3 = _ := he
    subst he
    refine lv_istore (lv' := (6, .int 0) :: lL b w v ou od n) hx hcb dL_law_834 hl (by decide) rfl (fun ls hl => ?_)
    have h0 := lv_at hl 1 rfl
    have h2 := lv_at hl 3 rfl
    have h3 := lv_at hl 4 rfl
    have h4 := lv_at hl 5 rfl
    have h5 := lv_at hl 6 rfl
    refine lv_aload_n hx hcb dL_law_836 rfl h2 ?_
    refine j_s (k := 1) C hS h0 h5 (by decide) (by omega) hL dL_law_837 dL_law_838 dL_law_840 dL_law_841 dL_law_842 ?_
    refine j_s (k := 2) C hS h0 h5 (by decide) (by omega) hL dL_law_843 dL_law_844 dL_law_846 dL_law_847 dL_law_848 ?_
    refine j_m (As := [.int (xs (6 * n + 1)), .int (xs (6 * n + 2))]) (rest := []) C hI hS hv (m2 _) mv_X10_kindOf q_1488 rfl hl.1 rfl (Nat.le_of_ble_eq_true rfl) dL_law_849 ⟨by decide, by decide⟩ ⟨l_ofr2 (by decide) hr.1, l_ofr2 (by decide) hr.2⟩ (fun r2 z2 H locs hp2 hI hS => ?_)
    obtain ⟨er, et, hJ⟩ := ag _ _ _ _ hp1 hp2
    subst er
    refine lv_istore (lv' := (7, .int a1) :: (6, .int 0) :: lL b w v ou od n) hx hcb dL_law_852 hl (by decide) rfl (fun ls hl => ?_)
    have h2 := lv_at hl 4 rfl
    have h3 := lv_at hl 5 rfl
    have h4 := lv_at hl 6 rfl
    have h6 := lv_at hl 1 rfl
    have h7 := lv_at hl 0 rfl
    refine lv_aload_n hx hcb dL_law_854 rfl h2 ?_
    refine j_m (As := []) (rest := []) C hI hS hv (c_X10_thrown l G v hv z2 _) mv_X10_thrown q_1263 rfl hl.1 rfl (Nat.le_of_ble_eq_true rfl) dL_law_855 ⟨by decide, by decide⟩ ⟨l_ofr3 (by decide) hr.1, l_ofr3 (by decide) hr.2⟩ (fun r3 z3 H locs hp3 hI hS => ?_)
    obtain ⟨e4, e5⟩ := hp3
    rw [e5] at hI
    rw [et] at e4
    subst e4
    refine lv_iload hx hcb dL_law_858 h6 ?_
    refine lv_icmp_eq (tgt := 865) hx hcb dL_law_860 (by decide) (fun _ => ?_) (fun h => absurd rfl h)
    refine lv_iload hx hcb dL_law_865 h6 ?_
    refine lv_if_ne (tgt := 882) hx hcb dL_law_867 (by decide) (fun h => absurd rfl h) (fun _ => ?_)
    refine lv_aload_n hx hcb dL_law_870 rfl h3 ?_
    refine lv_iconst (v := nI 0) hx hcb dL_law_871 (by decide) ?_
    refine va_lald (D := G.1) (cl := vwCl) (tys := xtyD G cD) (cA := G.2 3) (n := 1) (f := va_up f 0 a1.toInt64) (i := nI 0) hx hcb hK hI.1.2.2.1 0 3 rfl rfl (vp_in_nI (by decide) (by decide)) dL_law_872 ?_
    rw [show va_up f 0 a1.toInt64 (nI 0).toNatClampNeg = a1.toInt64 from va_up_self ..]
    refine lv_iload hx hcb dL_law_873 h7 ?_
    refine lv_i2l hx hcb dL_law_875 rfl ?_
    refine W.lcmp hx hcb dL_law_876 ?_
    rw [lcmp_self]
    refine lv_if_eq (tgt := 882) hx hcb dL_law_877 (by decide) (fun _ => ?_) (fun h => absurd rfl h)
    refine lv_goto (tgt := 2584) hx hcb dL_law_882 (by decide) ?_
    refine W.widen (k := cells + 48) (n := slots + 574) (l_ofr3 (by decide) (Nat.le_refl _)) (l_ofr3 (by decide) (Nat.le_refl _)) ?_
    exact hk K w z1 z2 _ g H locs ls hw hJ hI hS (lv_sub hl [2, 3, 4, 5, 6, 7] rfl)
  · refine lv_aload_n hx hcb dL_law_817 rfl h1 ?_
    refine j_s (k := 1) C hS h0 h5 (by decide) (by omega) hL dL_law_818 dL_law_819 dL_law_821 dL_law_822 dL_law_823 ?_
    refine j_s (k := 2) C hS h0 h5 (by decide) (by omega) hL dL_law_824 dL_law_825 dL_law_827 dL_law_828 dL_law_829 ?_
    refine lv_aload_n hx hcb dL_law_830 rfl h3 ?_
    refine j_h (As := [.ref (w.2.2 0), .int (xs (6 * n + 1)), .int (xs (6 * n + 2)), .ref ou]) (rest := []) C hI hS (x_L_kindOf l G cD w K hw zc f ou _ (xs (6 * n + 1)) (xs (6 * n + 2)) m1) mh_L_kindOf q_1008 rfl hl.1 rfl (Nat.le_of_ble_eq_true rfl) dL_law_831 ⟨by decide, by decide⟩ ⟨l_ofr (by decide) hr.1, l_ofr (by decide) hr.2⟩ (fun r1 z1 e3 H locs hp1 hI hS => ?_)
    obtain ⟨rfl, he⟩ := hp1
    rw [(Prod.mk.inj he).1, (Prod.mk.inj he).2] at hI
    refine lv_istore (lv' := (6, .int 1) :: lL b w v ou od n) hx hcb dL_law_834 hl (by decide) rfl (fun ls hl => ?_)
    have h0 := lv_at hl 1 rfl
    have h2 := lv_at hl 3 rfl
    have h3 := lv_at hl 4 rfl
    have h4 := lv_at hl 5 rfl
    have h5 := lv_at hl 6 rfl
    refine lv_aload_n hx hcb dL_law_836 rfl h2 ?_
    refine j_s (k := 1) C hS h0 h5 (by decide) (by omega) hL dL_law_837 dL_law_838 dL_law_840 dL_law_841 dL_law_842 ?_
    refine j_s (k := 2) C hS h0 h5 (by decide) (by omega) hL dL_law_843 dL_law_844 dL_law_846 dL_law_847 dL_law_848 ?_
    refine j_m (As := [.int (xs (6 * n + 1)), .int (xs (6 * n + 2))]) (rest := []) C hI hS hv (m2 _) mv_X10_kindOf q_1488 rfl hl.1 rfl (Nat.le_of_ble_eq_true rfl) dL_law_849 ⟨by decide, by decide⟩ ⟨l_ofr2 (by decide) hr.1, l_ofr2 (by decide) hr.2⟩ (fun r2 z2 H locs hp2 hI hS => ?_)
    obtain ⟨et, hJ⟩ := ag _ _ hp2
    refine lv_istore (lv' := (7, .int r2) :: (6, .int 1) :: lL b w v ou od n) hx hcb dL_law_852 hl (by decide) rfl (fun ls hl => ?_)
    have h2 := lv_at hl 4 rfl
    have h3 := lv_at hl 5 rfl
    have h4 := lv_at hl 6 rfl
    have h6 := lv_at hl 1 rfl
    have h7 := lv_at hl 0 rfl
    refine lv_aload_n hx hcb dL_law_854 rfl h2 ?_
    refine j_m (As := []) (rest := []) C hI hS hv (c_X10_thrown l G v hv z2 _) mv_X10_thrown q_1263 rfl hl.1 rfl (Nat.le_of_ble_eq_true rfl) dL_law_855 ⟨by decide, by decide⟩ ⟨l_ofr3 (by decide) hr.1, l_ofr3 (by decide) hr.2⟩ (fun r3 z3 H locs hp3 hI hS => ?_)
    obtain ⟨e4, e5⟩ := hp3
    rw [e5] at hI
    rw [et] at e4
    subst e4
    refine lv_iload hx hcb dL_law_858 h6 ?_
    refine lv_icmp_eq (tgt := 865) hx hcb dL_law_860 (by decide) (fun _ => ?_) (fun h => absurd rfl h)
    refine lv_iload hx hcb dL_law_865 h6 ?_
    refine lv_if_ne (tgt := 882) hx hcb dL_law_867 (by decide) (fun _ => ?_) (fun h => absurd h (by decide))
    refine lv_goto (tgt := 2584) hx hcb dL_law_882 (by decide) ?_
    refine W.widen (k := cells + 48) (n := slots + 574) (l_ofr3 (by decide) (Nat.le_refl _)) (l_ofr3 (by decide) (Nat.le_refl _)) ?_
    exact hk K w zc z2 f g H locs ls hw hJ hI hS (lv_sub hl [2, 3, 4, 5, 6, 7] rfl)
set_option maxRecDepth 100000 in
set_option maxHeartbeats 4000000 in
theorem k_equityOf (C : lC p s m args c b L xs G cD) (hL : L ≤ 3072) (hn : 6 * n + 6 ≤ L) (hw : isC K w) (hv : isM v) (hJ : J K zc zm) (hI : lJ G w v zc zm ou od (lE1 G f) (lE2 cD g) s.heap.size H) (hS : va_S (lA s) s.heap H locs) (hl : lv_has ls 9 (lL b w v ou od n)) (hr : cells + 48 ≤ 601024 ∧ slots + 574 ≤ 7293034) (hk : lK p l e s m args below meth c cells slots Q G cD v ou od b n J)
    (hSim : ∀ x0 : Int32, lT l J yX9_equityOf cX9_equityOf 2 (some FieldType.int) rm_X9_equityOf rx_X9_equityOf yX10_equityOf cX10_equityOf 2 (some FieldType.int) rm_X10_equityOf [.int x0]) : W p l e room_1 s m args below meth c H locs cells slots Q (F0 m 885 ls []) := by
  have h0 := lv_at hl 0 rfl
  have h1 := lv_at hl 1 rfl
  have h2 := lv_at hl 2 rfl
  have h3 := lv_at hl 3 rfl
  have h4 := lv_at hl 4 rfl
  have h5 := lv_at hl 5 rfl
  obtain ⟨hx, hcb, hml, hown, hts, hK, hZ, hX, hbl⟩ := id C
  rcases hSim (xs (6 * n + 1)) G w v K zc zm hw hv hJ with ⟨P1, P2, m1, m2, ag⟩ | ⟨P2, m1, m2, ag⟩
  · refine lv_aload_n hx hcb dL_law_885 rfl h1 ?_
    refine j_s (k := 1) C hS h0 h5 (by decide) (by omega) hL dL_law_886 dL_law_887 dL_law_889 dL_law_890 dL_law_891 ?_
    refine lv_aload_n hx hcb dL_law_892 rfl h3 ?_
    refine j_h (As := [.ref (w.2.2 0), .int (xs (6 * n + 1)), .ref ou]) (rest := []) C hI hS (n_L_equityOf l G cD w K hw zc f ou _ (xs (6 * n + 1)) m1) mh_L_equityOf q_1015 rfl hl.1 rfl (Nat.le_of_ble_eq_true rfl) dL_law_893 ⟨by decide, by decide⟩ ⟨l_ofr (by decide) hr.1, l_ofr (by decide) hr.2⟩ (fun r1 z1 e3 H locs hp1 hI hS => ?_)
    obtain ⟨rfl, a1, hp1, he⟩ := hp1
    have he : e3 = _ := he
    subst he
    refine lv_istore (lv' := (6, .int 0) :: lL b w v ou od n) hx hcb dL_law_896 hl (by decide) rfl (fun ls hl => ?_)
    have h0 := lv_at hl 1 rfl
    have h2 := lv_at hl 3 rfl
    have h3 := lv_at hl 4 rfl
    have h4 := lv_at hl 5 rfl
    have h5 := lv_at hl 6 rfl
    refine lv_aload_n hx hcb dL_law_898 rfl h2 ?_
    refine j_s (k := 1) C hS h0 h5 (by decide) (by omega) hL dL_law_899 dL_law_900 dL_law_902 dL_law_903 dL_law_904 ?_
    refine j_m (As := [.int (xs (6 * n + 1))]) (rest := []) C hI hS hv (m2 _) mv_X10_equityOf q_1492 rfl hl.1 rfl (Nat.le_of_ble_eq_true rfl) dL_law_905 ⟨by decide, by decide⟩ ⟨l_ofr2 (by decide) hr.1, l_ofr2 (by decide) hr.2⟩ (fun r2 z2 H locs hp2 hI hS => ?_)
    obtain ⟨er, et, hJ⟩ := ag _ _ _ _ hp1 hp2
    subst er
    refine lv_istore (lv' := (7, .int a1) :: (6, .int 0) :: lL b w v ou od n) hx hcb dL_law_908 hl (by decide) rfl (fun ls hl => ?_)
    have h2 := lv_at hl 4 rfl
    have h3 := lv_at hl 5 rfl
    have h4 := lv_at hl 6 rfl
    have h6 := lv_at hl 1 rfl
    have h7 := lv_at hl 0 rfl
    refine lv_aload_n hx hcb dL_law_910 rfl h2 ?_
    refine j_m (As := []) (rest := []) C hI hS hv (c_X10_thrown l G v hv z2 _) mv_X10_thrown q_1263 rfl hl.1 rfl (Nat.le_of_ble_eq_true rfl) dL_law_911 ⟨by decide, by decide⟩ ⟨l_ofr3 (by decide) hr.1, l_ofr3 (by decide) hr.2⟩ (fun r3 z3 H locs hp3 hI hS => ?_)
    obtain ⟨e4, e5⟩ := hp3
    rw [e5] at hI
    rw [et] at e4
    subst e4
    refine lv_iload hx hcb dL_law_914 h6 ?_
    refine lv_icmp_eq (tgt := 921) hx hcb dL_law_916 (by decide) (fun _ => ?_) (fun h => absurd rfl h)
    refine lv_iload hx hcb dL_law_921 h6 ?_
    refine lv_if_ne (tgt := 938) hx hcb dL_law_923 (by decide) (fun h => absurd rfl h) (fun _ => ?_)
    refine lv_aload_n hx hcb dL_law_926 rfl h3 ?_
    refine lv_iconst (v := nI 0) hx hcb dL_law_927 (by decide) ?_
    refine va_lald (D := G.1) (cl := vwCl) (tys := xtyD G cD) (cA := G.2 3) (n := 1) (f := va_up f 0 a1.toInt64) (i := nI 0) hx hcb hK hI.1.2.2.1 0 3 rfl rfl (vp_in_nI (by decide) (by decide)) dL_law_928 ?_
    rw [show va_up f 0 a1.toInt64 (nI 0).toNatClampNeg = a1.toInt64 from va_up_self ..]
    refine lv_iload hx hcb dL_law_929 h7 ?_
    refine lv_i2l hx hcb dL_law_931 rfl ?_
    refine W.lcmp hx hcb dL_law_932 ?_
    rw [lcmp_self]
    refine lv_if_eq (tgt := 938) hx hcb dL_law_933 (by decide) (fun _ => ?_) (fun h => absurd rfl h)
    refine lv_goto (tgt := 2584) hx hcb dL_law_938 (by decide) ?_
    refine W.widen (k := cells + 48) (n := slots + 574) (l_ofr3 (by decide) (Nat.le_refl _)) (l_ofr3 (by decide) (Nat.le_refl _)) ?_
    exact hk K w z1 z2 _ g H locs ls hw hJ hI hS (lv_sub hl [2, 3, 4, 5, 6, 7] rfl)
  · refine lv_aload_n hx hcb dL_law_885 rfl h1 ?_
    refine j_s (k := 1) C hS h0 h5 (by decide) (by omega) hL dL_law_886 dL_law_887 dL_law_889 dL_law_890 dL_law_891 ?_
    refine lv_aload_n hx hcb dL_law_892 rfl h3 ?_
    refine j_h (As := [.ref (w.2.2 0), .int (xs (6 * n + 1)), .ref ou]) (rest := []) C hI hS (x_L_equityOf l G cD w K hw zc f ou _ (xs (6 * n + 1)) m1) mh_L_equityOf q_1015 rfl hl.1 rfl (Nat.le_of_ble_eq_true rfl) dL_law_893 ⟨by decide, by decide⟩ ⟨l_ofr (by decide) hr.1, l_ofr (by decide) hr.2⟩ (fun r1 z1 e3 H locs hp1 hI hS => ?_)
    obtain ⟨rfl, he⟩ := hp1
    rw [(Prod.mk.inj he).1, (Prod.mk.inj he).2] at hI
    refine lv_istore (lv' := (6, .int 1) :: lL b w v ou od n) hx hcb dL_law_896 hl (by decide) rfl (fun ls hl => ?_)
    have h0 := lv_at hl 1 rfl
    have h2 := lv_at hl 3 rfl
    have h3 := lv_at hl 4 rfl
    have h4 := lv_at hl 5 rfl
    have h5 := lv_at hl 6 rfl
    refine lv_aload_n hx hcb dL_law_898 rfl h2 ?_
    refine j_s (k := 1) C hS h0 h5 (by decide) (by omega) hL dL_law_899 dL_law_900 dL_law_902 dL_law_903 dL_law_904 ?_
    refine j_m (As := [.int (xs (6 * n + 1))]) (rest := []) C hI hS hv (m2 _) mv_X10_equityOf q_1492 rfl hl.1 rfl (Nat.le_of_ble_eq_true rfl) dL_law_905 ⟨by decide, by decide⟩ ⟨l_ofr2 (by decide) hr.1, l_ofr2 (by decide) hr.2⟩ (fun r2 z2 H locs hp2 hI hS => ?_)
    obtain ⟨et, hJ⟩ := ag _ _ hp2
    refine lv_istore (lv' := (7, .int r2) :: (6, .int 1) :: lL b w v ou od n) hx hcb dL_law_908 hl (by decide) rfl (fun ls hl => ?_)
    have h2 := lv_at hl 4 rfl
    have h3 := lv_at hl 5 rfl
    have h4 := lv_at hl 6 rfl
    have h6 := lv_at hl 1 rfl
    have h7 := lv_at hl 0 rfl
    refine lv_aload_n hx hcb dL_law_910 rfl h2 ?_
    refine j_m (As := []) (rest := []) C hI hS hv (c_X10_thrown l G v hv z2 _) mv_X10_thrown q_1263 rfl hl.1 rfl (Nat.le_of_ble_eq_true rfl) dL_law_911 ⟨by decide, by decide⟩ ⟨l_ofr3 (by decide) hr.1, l_ofr3 (by decide) hr.2⟩ (fun r3 z3 H locs hp3 hI hS => ?_)
    obtain ⟨e4, e5⟩ := hp3
    rw [e5] at hI
    rw [et] at e4
    subst e4
    refine lv_iload hx hcb dL_law_914 h6 ?_
    refine lv_icmp_eq (tgt := 921) hx hcb dL_law_916 (by decide) (fun _ => ?_) (fun h => absurd rfl h)
    refine lv_iload hx hcb dL_law_921 h6 ?_
    refine lv_if_ne (tgt := 938) hx hcb dL_law_923 (by decide) (fun _ => ?_) (fun h => absurd h (by decide))
    refine lv_goto (tgt := 2584) hx hcb dL_law_938 (by decide) ?_
    refine W.widen (k := cells + 48) (n := slots + 574) (l_ofr3 (by decide) (Nat.le_refl _)) (l_ofr3 (by decide) (Nat.le_refl _)) ?_
    exact hk K w zc z2 f g H locs ls hw hJ hI hS (lv_sub hl [2, 3, 4, 5, 6, 7] rfl)
set_option maxRecDepth 100000 in
set_option maxHeartbeats 4000000 in
theorem k_equityIn (C : lC p s m args c b L xs G cD) (hL : L ≤ 3072) (hn : 6 * n + 6 ≤ L) (hw : isC K w) (hv : isM v) (hJ : J K zc zm) (hI : lJ G w v zc zm ou od (lE1 G f) (lE2 cD g) s.heap.size H) (hS : va_S (lA s) s.heap H locs) (hl : lv_has ls 9 (lL b w v ou od n)) (hr : cells + 48 ≤ 601024 ∧ slots + 574 ≤ 7293034) (hk : lK p l e s m args below meth c cells slots Q G cD v ou od b n J)
    (hSim : ∀ x0 x1 : Int32, lT l J yX9_equityIn cX9_equityIn 4 (some FieldType.int) rm_X9_equityIn rx_X9_equityIn yX10_equityIn cX10_equityIn 3 (some FieldType.int) rm_X10_equityIn [.int x0, .int x1]) : W p l e room_1 s m args below meth c H locs cells slots Q (F0 m 941 ls []) := by
  have h0 := lv_at hl 0 rfl
  have h1 := lv_at hl 1 rfl
  have h2 := lv_at hl 2 rfl
  have h3 := lv_at hl 3 rfl
  have h4 := lv_at hl 4 rfl
  have h5 := lv_at hl 5 rfl
  obtain ⟨hx, hcb, hml, hown, hts, hK, hZ, hX, hbl⟩ := id C
  rcases hSim (xs (6 * n + 1)) (xs (6 * n + 2)) G w v K zc zm hw hv hJ with ⟨P1, P2, m1, m2, ag⟩ | ⟨P2, m1, m2, ag⟩
  · refine lv_aload_n hx hcb dL_law_941 rfl h1 ?_
    refine j_s (k := 1) C hS h0 h5 (by decide) (by omega) hL dL_law_942 dL_law_943 dL_law_945 dL_law_946 dL_law_947 ?_
    refine j_s (k := 2) C hS h0 h5 (by decide) (by omega) hL dL_law_948 dL_law_949 dL_law_951 dL_law_952 dL_law_953 ?_
    refine lv_aload_n hx hcb dL_law_954 rfl h3 ?_
    refine j_h (As := [.ref (w.2.2 0), .int (xs (6 * n + 1)), .int (xs (6 * n + 2)), .ref ou]) (rest := []) C hI hS (n_L_equityIn l G cD w K hw zc f ou _ (xs (6 * n + 1)) (xs (6 * n + 2)) m1) mh_L_equityIn q_1022 rfl hl.1 rfl (Nat.le_of_ble_eq_true rfl) dL_law_955 ⟨by decide, by decide⟩ ⟨l_ofr (by decide) hr.1, l_ofr (by decide) hr.2⟩ (fun r1 z1 e3 H locs hp1 hI hS => ?_)
    obtain ⟨rfl, a1, hp1, he⟩ := hp1
    have he : e3 = _ := he
    subst he
    refine lv_istore (lv' := (6, .int 0) :: lL b w v ou od n) hx hcb dL_law_958 hl (by decide) rfl (fun ls hl => ?_)
    have h0 := lv_at hl 1 rfl
    have h2 := lv_at hl 3 rfl
    have h3 := lv_at hl 4 rfl
    have h4 := lv_at hl 5 rfl
    have h5 := lv_at hl 6 rfl
    refine lv_aload_n hx hcb dL_law_960 rfl h2 ?_
    refine j_s (k := 1) C hS h0 h5 (by decide) (by omega) hL dL_law_961 dL_law_962 dL_law_964 dL_law_965 dL_law_966 ?_
    refine j_s (k := 2) C hS h0 h5 (by decide) (by omega) hL dL_law_967 dL_law_968 dL_law_970 dL_law_971 dL_law_972 ?_
    refine j_m (As := [.int (xs (6 * n + 1)), .int (xs (6 * n + 2))]) (rest := []) C hI hS hv (m2 _) mv_X10_equityIn q_1496 rfl hl.1 rfl (Nat.le_of_ble_eq_true rfl) dL_law_973 ⟨by decide, by decide⟩ ⟨l_ofr2 (by decide) hr.1, l_ofr2 (by decide) hr.2⟩ (fun r2 z2 H locs hp2 hI hS => ?_)
    obtain ⟨er, et, hJ⟩ := ag _ _ _ _ hp1 hp2
    subst er
    refine lv_istore (lv' := (7, .int a1) :: (6, .int 0) :: lL b w v ou od n) hx hcb dL_law_976 hl (by decide) rfl (fun ls hl => ?_)
    have h2 := lv_at hl 4 rfl
    have h3 := lv_at hl 5 rfl
    have h4 := lv_at hl 6 rfl
    have h6 := lv_at hl 1 rfl
    have h7 := lv_at hl 0 rfl
    refine lv_aload_n hx hcb dL_law_978 rfl h2 ?_
    refine j_m (As := []) (rest := []) C hI hS hv (c_X10_thrown l G v hv z2 _) mv_X10_thrown q_1263 rfl hl.1 rfl (Nat.le_of_ble_eq_true rfl) dL_law_979 ⟨by decide, by decide⟩ ⟨l_ofr3 (by decide) hr.1, l_ofr3 (by decide) hr.2⟩ (fun r3 z3 H locs hp3 hI hS => ?_)
    obtain ⟨e4, e5⟩ := hp3
    rw [e5] at hI
    rw [et] at e4
    subst e4
    refine lv_iload hx hcb dL_law_982 h6 ?_
    refine lv_icmp_eq (tgt := 989) hx hcb dL_law_984 (by decide) (fun _ => ?_) (fun h => absurd rfl h)
    refine lv_iload hx hcb dL_law_989 h6 ?_
    refine lv_if_ne (tgt := 1006) hx hcb dL_law_991 (by decide) (fun h => absurd rfl h) (fun _ => ?_)
    refine lv_aload_n hx hcb dL_law_994 rfl h3 ?_
    refine lv_iconst (v := nI 0) hx hcb dL_law_995 (by decide) ?_
    refine va_lald (D := G.1) (cl := vwCl) (tys := xtyD G cD) (cA := G.2 3) (n := 1) (f := va_up f 0 a1.toInt64) (i := nI 0) hx hcb hK hI.1.2.2.1 0 3 rfl rfl (vp_in_nI (by decide) (by decide)) dL_law_996 ?_
    rw [show va_up f 0 a1.toInt64 (nI 0).toNatClampNeg = a1.toInt64 from va_up_self ..]
    refine lv_iload hx hcb dL_law_997 h7 ?_
    refine lv_i2l hx hcb dL_law_999 rfl ?_
    refine W.lcmp hx hcb dL_law_1000 ?_
    rw [lcmp_self]
    refine lv_if_eq (tgt := 1006) hx hcb dL_law_1001 (by decide) (fun _ => ?_) (fun h => absurd rfl h)
    refine lv_goto (tgt := 2584) hx hcb dL_law_1006 (by decide) ?_
    refine W.widen (k := cells + 48) (n := slots + 574) (l_ofr3 (by decide) (Nat.le_refl _)) (l_ofr3 (by decide) (Nat.le_refl _)) ?_
    exact hk K w z1 z2 _ g H locs ls hw hJ hI hS (lv_sub hl [2, 3, 4, 5, 6, 7] rfl)
  · refine lv_aload_n hx hcb dL_law_941 rfl h1 ?_
    refine j_s (k := 1) C hS h0 h5 (by decide) (by omega) hL dL_law_942 dL_law_943 dL_law_945 dL_law_946 dL_law_947 ?_
    refine j_s (k := 2) C hS h0 h5 (by decide) (by omega) hL dL_law_948 dL_law_949 dL_law_951 dL_law_952 dL_law_953 ?_
    refine lv_aload_n hx hcb dL_law_954 rfl h3 ?_
    refine j_h (As := [.ref (w.2.2 0), .int (xs (6 * n + 1)), .int (xs (6 * n + 2)), .ref ou]) (rest := []) C hI hS (x_L_equityIn l G cD w K hw zc f ou _ (xs (6 * n + 1)) (xs (6 * n + 2)) m1) mh_L_equityIn q_1022 rfl hl.1 rfl (Nat.le_of_ble_eq_true rfl) dL_law_955 ⟨by decide, by decide⟩ ⟨l_ofr (by decide) hr.1, l_ofr (by decide) hr.2⟩ (fun r1 z1 e3 H locs hp1 hI hS => ?_)
    obtain ⟨rfl, he⟩ := hp1
    rw [(Prod.mk.inj he).1, (Prod.mk.inj he).2] at hI
    refine lv_istore (lv' := (6, .int 1) :: lL b w v ou od n) hx hcb dL_law_958 hl (by decide) rfl (fun ls hl => ?_)
    have h0 := lv_at hl 1 rfl
    have h2 := lv_at hl 3 rfl
    have h3 := lv_at hl 4 rfl
    have h4 := lv_at hl 5 rfl
    have h5 := lv_at hl 6 rfl
    refine lv_aload_n hx hcb dL_law_960 rfl h2 ?_
    refine j_s (k := 1) C hS h0 h5 (by decide) (by omega) hL dL_law_961 dL_law_962 dL_law_964 dL_law_965 dL_law_966 ?_
    refine j_s (k := 2) C hS h0 h5 (by decide) (by omega) hL dL_law_967 dL_law_968 dL_law_970 dL_law_971 dL_law_972 ?_
    refine j_m (As := [.int (xs (6 * n + 1)), .int (xs (6 * n + 2))]) (rest := []) C hI hS hv (m2 _) mv_X10_equityIn q_1496 rfl hl.1 rfl (Nat.le_of_ble_eq_true rfl) dL_law_973 ⟨by decide, by decide⟩ ⟨l_ofr2 (by decide) hr.1, l_ofr2 (by decide) hr.2⟩ (fun r2 z2 H locs hp2 hI hS => ?_)
    obtain ⟨et, hJ⟩ := ag _ _ hp2
    refine lv_istore (lv' := (7, .int r2) :: (6, .int 1) :: lL b w v ou od n) hx hcb dL_law_976 hl (by decide) rfl (fun ls hl => ?_)
    have h2 := lv_at hl 4 rfl
    have h3 := lv_at hl 5 rfl
    have h4 := lv_at hl 6 rfl
    have h6 := lv_at hl 1 rfl
    have h7 := lv_at hl 0 rfl
    refine lv_aload_n hx hcb dL_law_978 rfl h2 ?_
    refine j_m (As := []) (rest := []) C hI hS hv (c_X10_thrown l G v hv z2 _) mv_X10_thrown q_1263 rfl hl.1 rfl (Nat.le_of_ble_eq_true rfl) dL_law_979 ⟨by decide, by decide⟩ ⟨l_ofr3 (by decide) hr.1, l_ofr3 (by decide) hr.2⟩ (fun r3 z3 H locs hp3 hI hS => ?_)
    obtain ⟨e4, e5⟩ := hp3
    rw [e5] at hI
    rw [et] at e4
    subst e4
    refine lv_iload hx hcb dL_law_982 h6 ?_
    refine lv_icmp_eq (tgt := 989) hx hcb dL_law_984 (by decide) (fun _ => ?_) (fun h => absurd rfl h)
    refine lv_iload hx hcb dL_law_989 h6 ?_
    refine lv_if_ne (tgt := 1006) hx hcb dL_law_991 (by decide) (fun _ => ?_) (fun h => absurd h (by decide))
    refine lv_goto (tgt := 2584) hx hcb dL_law_1006 (by decide) ?_
    refine W.widen (k := cells + 48) (n := slots + 574) (l_ofr3 (by decide) (Nat.le_refl _)) (l_ofr3 (by decide) (Nat.le_refl _)) ?_
    exact hk K w zc z2 f g H locs ls hw hJ hI hS (lv_sub hl [2, 3, 4, 5, 6, 7] rfl)
set_option maxRecDepth 100000 in
set_option maxHeartbeats 4000000 in
theorem k_paidTo (C : lC p s m args c b L xs G cD) (hL : L ≤ 3072) (hn : 6 * n + 6 ≤ L) (hw : isC K w) (hv : isM v) (hJ : J K zc zm) (hI : lJ G w v zc zm ou od (lE1 G f) (lE2 cD g) s.heap.size H) (hS : va_S (lA s) s.heap H locs) (hl : lv_has ls 9 (lL b w v ou od n)) (hr : cells + 48 ≤ 601024 ∧ slots + 574 ≤ 7293034) (hk : lK p l e s m args below meth c cells slots Q G cD v ou od b n J)
    (hSim : ∀ x0 x1 : Int32, lT l J yX9_paidTo cX9_paidTo 4 (some FieldType.int) rm_X9_paidTo rx_X9_paidTo yX10_paidTo cX10_paidTo 3 (some FieldType.int) rm_X10_paidTo [.int x0, .int x1]) : W p l e room_1 s m args below meth c H locs cells slots Q (F0 m 1035 ls []) := by
  have h0 := lv_at hl 0 rfl
  have h1 := lv_at hl 1 rfl
  have h2 := lv_at hl 2 rfl
  have h3 := lv_at hl 3 rfl
  have h4 := lv_at hl 4 rfl
  have h5 := lv_at hl 5 rfl
  obtain ⟨hx, hcb, hml, hown, hts, hK, hZ, hX, hbl⟩ := id C
  rcases hSim (xs (6 * n + 1)) (xs (6 * n + 2)) G w v K zc zm hw hv hJ with ⟨P1, P2, m1, m2, ag⟩ | ⟨P2, m1, m2, ag⟩
  · refine lv_aload_n hx hcb dL_law_1035 rfl h1 ?_
    refine j_s (k := 1) C hS h0 h5 (by decide) (by omega) hL dL_law_1036 dL_law_1037 dL_law_1039 dL_law_1040 dL_law_1041 ?_
    refine j_s (k := 2) C hS h0 h5 (by decide) (by omega) hL dL_law_1042 dL_law_1043 dL_law_1045 dL_law_1046 dL_law_1047 ?_
    refine lv_aload_n hx hcb dL_law_1048 rfl h3 ?_
    refine j_h (As := [.ref (w.2.2 0), .int (xs (6 * n + 1)), .int (xs (6 * n + 2)), .ref ou]) (rest := []) C hI hS (n_L_paidTo l G cD w K hw zc f ou _ (xs (6 * n + 1)) (xs (6 * n + 2)) m1) mh_L_paidTo q_1033 rfl hl.1 rfl (Nat.le_of_ble_eq_true rfl) dL_law_1049 ⟨by decide, by decide⟩ ⟨l_ofr (by decide) hr.1, l_ofr (by decide) hr.2⟩ (fun r1 z1 e3 H locs hp1 hI hS => ?_)
    obtain ⟨rfl, a1, hp1, he⟩ := hp1
    have he : e3 = _ := he
    subst he
    refine lv_istore (lv' := (6, .int 0) :: lL b w v ou od n) hx hcb dL_law_1052 hl (by decide) rfl (fun ls hl => ?_)
    have h0 := lv_at hl 1 rfl
    have h2 := lv_at hl 3 rfl
    have h3 := lv_at hl 4 rfl
    have h4 := lv_at hl 5 rfl
    have h5 := lv_at hl 6 rfl
    refine lv_aload_n hx hcb dL_law_1054 rfl h2 ?_
    refine j_s (k := 1) C hS h0 h5 (by decide) (by omega) hL dL_law_1055 dL_law_1056 dL_law_1058 dL_law_1059 dL_law_1060 ?_
    refine j_s (k := 2) C hS h0 h5 (by decide) (by omega) hL dL_law_1061 dL_law_1062 dL_law_1064 dL_law_1065 dL_law_1066 ?_
    refine j_m (As := [.int (xs (6 * n + 1)), .int (xs (6 * n + 2))]) (rest := []) C hI hS hv (m2 _) mv_X10_paidTo q_1512 rfl hl.1 rfl (Nat.le_of_ble_eq_true rfl) dL_law_1067 ⟨by decide, by decide⟩ ⟨l_ofr2 (by decide) hr.1, l_ofr2 (by decide) hr.2⟩ (fun r2 z2 H locs hp2 hI hS => ?_)
    obtain ⟨er, et, hJ⟩ := ag _ _ _ _ hp1 hp2
    subst er
    refine lv_istore (lv' := (7, .int a1) :: (6, .int 0) :: lL b w v ou od n) hx hcb dL_law_1070 hl (by decide) rfl (fun ls hl => ?_)
    have h2 := lv_at hl 4 rfl
    have h3 := lv_at hl 5 rfl
    have h4 := lv_at hl 6 rfl
    have h6 := lv_at hl 1 rfl
    have h7 := lv_at hl 0 rfl
    refine lv_aload_n hx hcb dL_law_1072 rfl h2 ?_
    refine j_m (As := []) (rest := []) C hI hS hv (c_X10_thrown l G v hv z2 _) mv_X10_thrown q_1263 rfl hl.1 rfl (Nat.le_of_ble_eq_true rfl) dL_law_1073 ⟨by decide, by decide⟩ ⟨l_ofr3 (by decide) hr.1, l_ofr3 (by decide) hr.2⟩ (fun r3 z3 H locs hp3 hI hS => ?_)
    obtain ⟨e4, e5⟩ := hp3
    rw [e5] at hI
    rw [et] at e4
    subst e4
    refine lv_iload hx hcb dL_law_1076 h6 ?_
    refine lv_icmp_eq (tgt := 1083) hx hcb dL_law_1078 (by decide) (fun _ => ?_) (fun h => absurd rfl h)
    refine lv_iload hx hcb dL_law_1083 h6 ?_
    refine lv_if_ne (tgt := 1100) hx hcb dL_law_1085 (by decide) (fun h => absurd rfl h) (fun _ => ?_)
    refine lv_aload_n hx hcb dL_law_1088 rfl h3 ?_
    refine lv_iconst (v := nI 0) hx hcb dL_law_1089 (by decide) ?_
    refine va_lald (D := G.1) (cl := vwCl) (tys := xtyD G cD) (cA := G.2 3) (n := 1) (f := va_up f 0 a1.toInt64) (i := nI 0) hx hcb hK hI.1.2.2.1 0 3 rfl rfl (vp_in_nI (by decide) (by decide)) dL_law_1090 ?_
    rw [show va_up f 0 a1.toInt64 (nI 0).toNatClampNeg = a1.toInt64 from va_up_self ..]
    refine lv_iload hx hcb dL_law_1091 h7 ?_
    refine lv_i2l hx hcb dL_law_1093 rfl ?_
    refine W.lcmp hx hcb dL_law_1094 ?_
    rw [lcmp_self]
    refine lv_if_eq (tgt := 1100) hx hcb dL_law_1095 (by decide) (fun _ => ?_) (fun h => absurd rfl h)
    refine lv_goto (tgt := 2584) hx hcb dL_law_1100 (by decide) ?_
    refine W.widen (k := cells + 48) (n := slots + 574) (l_ofr3 (by decide) (Nat.le_refl _)) (l_ofr3 (by decide) (Nat.le_refl _)) ?_
    exact hk K w z1 z2 _ g H locs ls hw hJ hI hS (lv_sub hl [2, 3, 4, 5, 6, 7] rfl)
  · refine lv_aload_n hx hcb dL_law_1035 rfl h1 ?_
    refine j_s (k := 1) C hS h0 h5 (by decide) (by omega) hL dL_law_1036 dL_law_1037 dL_law_1039 dL_law_1040 dL_law_1041 ?_
    refine j_s (k := 2) C hS h0 h5 (by decide) (by omega) hL dL_law_1042 dL_law_1043 dL_law_1045 dL_law_1046 dL_law_1047 ?_
    refine lv_aload_n hx hcb dL_law_1048 rfl h3 ?_
    refine j_h (As := [.ref (w.2.2 0), .int (xs (6 * n + 1)), .int (xs (6 * n + 2)), .ref ou]) (rest := []) C hI hS (x_L_paidTo l G cD w K hw zc f ou _ (xs (6 * n + 1)) (xs (6 * n + 2)) m1) mh_L_paidTo q_1033 rfl hl.1 rfl (Nat.le_of_ble_eq_true rfl) dL_law_1049 ⟨by decide, by decide⟩ ⟨l_ofr (by decide) hr.1, l_ofr (by decide) hr.2⟩ (fun r1 z1 e3 H locs hp1 hI hS => ?_)
    obtain ⟨rfl, he⟩ := hp1
    rw [(Prod.mk.inj he).1, (Prod.mk.inj he).2] at hI
    refine lv_istore (lv' := (6, .int 1) :: lL b w v ou od n) hx hcb dL_law_1052 hl (by decide) rfl (fun ls hl => ?_)
    have h0 := lv_at hl 1 rfl
    have h2 := lv_at hl 3 rfl
    have h3 := lv_at hl 4 rfl
    have h4 := lv_at hl 5 rfl
    have h5 := lv_at hl 6 rfl
    refine lv_aload_n hx hcb dL_law_1054 rfl h2 ?_
    refine j_s (k := 1) C hS h0 h5 (by decide) (by omega) hL dL_law_1055 dL_law_1056 dL_law_1058 dL_law_1059 dL_law_1060 ?_
    refine j_s (k := 2) C hS h0 h5 (by decide) (by omega) hL dL_law_1061 dL_law_1062 dL_law_1064 dL_law_1065 dL_law_1066 ?_
    refine j_m (As := [.int (xs (6 * n + 1)), .int (xs (6 * n + 2))]) (rest := []) C hI hS hv (m2 _) mv_X10_paidTo q_1512 rfl hl.1 rfl (Nat.le_of_ble_eq_true rfl) dL_law_1067 ⟨by decide, by decide⟩ ⟨l_ofr2 (by decide) hr.1, l_ofr2 (by decide) hr.2⟩ (fun r2 z2 H locs hp2 hI hS => ?_)
    obtain ⟨et, hJ⟩ := ag _ _ hp2
    refine lv_istore (lv' := (7, .int r2) :: (6, .int 1) :: lL b w v ou od n) hx hcb dL_law_1070 hl (by decide) rfl (fun ls hl => ?_)
    have h2 := lv_at hl 4 rfl
    have h3 := lv_at hl 5 rfl
    have h4 := lv_at hl 6 rfl
    have h6 := lv_at hl 1 rfl
    have h7 := lv_at hl 0 rfl
    refine lv_aload_n hx hcb dL_law_1072 rfl h2 ?_
    refine j_m (As := []) (rest := []) C hI hS hv (c_X10_thrown l G v hv z2 _) mv_X10_thrown q_1263 rfl hl.1 rfl (Nat.le_of_ble_eq_true rfl) dL_law_1073 ⟨by decide, by decide⟩ ⟨l_ofr3 (by decide) hr.1, l_ofr3 (by decide) hr.2⟩ (fun r3 z3 H locs hp3 hI hS => ?_)
    obtain ⟨e4, e5⟩ := hp3
    rw [e5] at hI
    rw [et] at e4
    subst e4
    refine lv_iload hx hcb dL_law_1076 h6 ?_
    refine lv_icmp_eq (tgt := 1083) hx hcb dL_law_1078 (by decide) (fun _ => ?_) (fun h => absurd rfl h)
    refine lv_iload hx hcb dL_law_1083 h6 ?_
    refine lv_if_ne (tgt := 1100) hx hcb dL_law_1085 (by decide) (fun _ => ?_) (fun h => absurd h (by decide))
    refine lv_goto (tgt := 2584) hx hcb dL_law_1100 (by decide) ?_
    refine W.widen (k := cells + 48) (n := slots + 574) (l_ofr3 (by decide) (Nat.le_refl _)) (l_ofr3 (by decide) (Nat.le_refl _)) ?_
    exact hk K w zc z2 f g H locs ls hw hJ hI hS (lv_sub hl [2, 3, 4, 5, 6, 7] rfl)
set_option maxRecDepth 100000 in
set_option maxHeartbeats 4000000 in
theorem k_lastAllocation (C : lC p s m args c b L xs G cD) (hL : L ≤ 3072) (hn : 6 * n + 6 ≤ L) (hw : isC K w) (hv : isM v) (hJ : J K zc zm) (hI : lJ G w v zc zm ou od (lE1 G f) (lE2 cD g) s.heap.size H) (hS : va_S (lA s) s.heap H locs) (hl : lv_has ls 9 (lL b w v ou od n)) (hr : cells + 48 ≤ 601024 ∧ slots + 574 ≤ 7293034) (hk : lK p l e s m args below meth c cells slots Q G cD v ou od b n J)
    (hSim : ∀ x0 : Int32, lT l J yX9_lastAllocation cX9_lastAllocation 2 (some FieldType.int) rm_X9_lastAllocation rx_X9_lastAllocation yX10_lastAllocation cX10_lastAllocation 2 (some FieldType.int) rm_X10_lastAllocation [.int x0]) : W p l e room_1 s m args below meth c H locs cells slots Q (F0 m 1103 ls []) := by
  have h0 := lv_at hl 0 rfl
  have h1 := lv_at hl 1 rfl
  have h2 := lv_at hl 2 rfl
  have h3 := lv_at hl 3 rfl
  have h4 := lv_at hl 4 rfl
  have h5 := lv_at hl 5 rfl
  obtain ⟨hx, hcb, hml, hown, hts, hK, hZ, hX, hbl⟩ := id C
  rcases hSim (xs (6 * n + 1)) G w v K zc zm hw hv hJ with ⟨P1, P2, m1, m2, ag⟩ | ⟨P2, m1, m2, ag⟩
  · refine lv_aload_n hx hcb dL_law_1103 rfl h1 ?_
    refine j_s (k := 1) C hS h0 h5 (by decide) (by omega) hL dL_law_1104 dL_law_1105 dL_law_1107 dL_law_1108 dL_law_1109 ?_
    refine lv_aload_n hx hcb dL_law_1110 rfl h3 ?_
    refine j_h (As := [.ref (w.2.2 0), .int (xs (6 * n + 1)), .ref ou]) (rest := []) C hI hS (n_L_lastAllocation l G cD w K hw zc f ou _ (xs (6 * n + 1)) m1) mh_L_lastAllocation q_1040 rfl hl.1 rfl (Nat.le_of_ble_eq_true rfl) dL_law_1111 ⟨by decide, by decide⟩ ⟨l_ofr (by decide) hr.1, l_ofr (by decide) hr.2⟩ (fun r1 z1 e3 H locs hp1 hI hS => ?_)
    obtain ⟨rfl, a1, hp1, he⟩ := hp1
    have he : e3 = _ := he
    subst he
    refine lv_istore (lv' := (6, .int 0) :: lL b w v ou od n) hx hcb dL_law_1114 hl (by decide) rfl (fun ls hl => ?_)
    have h0 := lv_at hl 1 rfl
    have h2 := lv_at hl 3 rfl
    have h3 := lv_at hl 4 rfl
    have h4 := lv_at hl 5 rfl
    have h5 := lv_at hl 6 rfl
    refine lv_aload_n hx hcb dL_law_1116 rfl h2 ?_
    refine j_s (k := 1) C hS h0 h5 (by decide) (by omega) hL dL_law_1117 dL_law_1118 dL_law_1120 dL_law_1121 dL_law_1122 ?_
    refine j_m (As := [.int (xs (6 * n + 1))]) (rest := []) C hI hS hv (m2 _) mv_X10_lastAllocation q_1516 rfl hl.1 rfl (Nat.le_of_ble_eq_true rfl) dL_law_1123 ⟨by decide, by decide⟩ ⟨l_ofr2 (by decide) hr.1, l_ofr2 (by decide) hr.2⟩ (fun r2 z2 H locs hp2 hI hS => ?_)
    obtain ⟨er, et, hJ⟩ := ag _ _ _ _ hp1 hp2
    subst er
    refine lv_istore (lv' := (7, .int a1) :: (6, .int 0) :: lL b w v ou od n) hx hcb dL_law_1126 hl (by decide) rfl (fun ls hl => ?_)
    have h2 := lv_at hl 4 rfl
    have h3 := lv_at hl 5 rfl
    have h4 := lv_at hl 6 rfl
    have h6 := lv_at hl 1 rfl
    have h7 := lv_at hl 0 rfl
    refine lv_aload_n hx hcb dL_law_1128 rfl h2 ?_
    refine j_m (As := []) (rest := []) C hI hS hv (c_X10_thrown l G v hv z2 _) mv_X10_thrown q_1263 rfl hl.1 rfl (Nat.le_of_ble_eq_true rfl) dL_law_1129 ⟨by decide, by decide⟩ ⟨l_ofr3 (by decide) hr.1, l_ofr3 (by decide) hr.2⟩ (fun r3 z3 H locs hp3 hI hS => ?_)
    obtain ⟨e4, e5⟩ := hp3
    rw [e5] at hI
    rw [et] at e4
    subst e4
    refine lv_iload hx hcb dL_law_1132 h6 ?_
    refine lv_icmp_eq (tgt := 1139) hx hcb dL_law_1134 (by decide) (fun _ => ?_) (fun h => absurd rfl h)
    refine lv_iload hx hcb dL_law_1139 h6 ?_
    refine lv_if_ne (tgt := 1156) hx hcb dL_law_1141 (by decide) (fun h => absurd rfl h) (fun _ => ?_)
    refine lv_aload_n hx hcb dL_law_1144 rfl h3 ?_
    refine lv_iconst (v := nI 0) hx hcb dL_law_1145 (by decide) ?_
    refine va_lald (D := G.1) (cl := vwCl) (tys := xtyD G cD) (cA := G.2 3) (n := 1) (f := va_up f 0 a1.toInt64) (i := nI 0) hx hcb hK hI.1.2.2.1 0 3 rfl rfl (vp_in_nI (by decide) (by decide)) dL_law_1146 ?_
    rw [show va_up f 0 a1.toInt64 (nI 0).toNatClampNeg = a1.toInt64 from va_up_self ..]
    refine lv_iload hx hcb dL_law_1147 h7 ?_
    refine lv_i2l hx hcb dL_law_1149 rfl ?_
    refine W.lcmp hx hcb dL_law_1150 ?_
    rw [lcmp_self]
    refine lv_if_eq (tgt := 1156) hx hcb dL_law_1151 (by decide) (fun _ => ?_) (fun h => absurd rfl h)
    refine lv_goto (tgt := 2584) hx hcb dL_law_1156 (by decide) ?_
    refine W.widen (k := cells + 48) (n := slots + 574) (l_ofr3 (by decide) (Nat.le_refl _)) (l_ofr3 (by decide) (Nat.le_refl _)) ?_
    exact hk K w z1 z2 _ g H locs ls hw hJ hI hS (lv_sub hl [2, 3, 4, 5, 6, 7] rfl)
  · refine lv_aload_n hx hcb dL_law_1103 rfl h1 ?_
    refine j_s (k := 1) C hS h0 h5 (by decide) (by omega) hL dL_law_1104 dL_law_1105 dL_law_1107 dL_law_1108 dL_law_1109 ?_
    refine lv_aload_n hx hcb dL_law_1110 rfl h3 ?_
    refine j_h (As := [.ref (w.2.2 0), .int (xs (6 * n + 1)), .ref ou]) (rest := []) C hI hS (x_L_lastAllocation l G cD w K hw zc f ou _ (xs (6 * n + 1)) m1) mh_L_lastAllocation q_1040 rfl hl.1 rfl (Nat.le_of_ble_eq_true rfl) dL_law_1111 ⟨by decide, by decide⟩ ⟨l_ofr (by decide) hr.1, l_ofr (by decide) hr.2⟩ (fun r1 z1 e3 H locs hp1 hI hS => ?_)
    obtain ⟨rfl, he⟩ := hp1
    rw [(Prod.mk.inj he).1, (Prod.mk.inj he).2] at hI
    refine lv_istore (lv' := (6, .int 1) :: lL b w v ou od n) hx hcb dL_law_1114 hl (by decide) rfl (fun ls hl => ?_)
    have h0 := lv_at hl 1 rfl
    have h2 := lv_at hl 3 rfl
    have h3 := lv_at hl 4 rfl
    have h4 := lv_at hl 5 rfl
    have h5 := lv_at hl 6 rfl
    refine lv_aload_n hx hcb dL_law_1116 rfl h2 ?_
    refine j_s (k := 1) C hS h0 h5 (by decide) (by omega) hL dL_law_1117 dL_law_1118 dL_law_1120 dL_law_1121 dL_law_1122 ?_
    refine j_m (As := [.int (xs (6 * n + 1))]) (rest := []) C hI hS hv (m2 _) mv_X10_lastAllocation q_1516 rfl hl.1 rfl (Nat.le_of_ble_eq_true rfl) dL_law_1123 ⟨by decide, by decide⟩ ⟨l_ofr2 (by decide) hr.1, l_ofr2 (by decide) hr.2⟩ (fun r2 z2 H locs hp2 hI hS => ?_)
    obtain ⟨et, hJ⟩ := ag _ _ hp2
    refine lv_istore (lv' := (7, .int r2) :: (6, .int 1) :: lL b w v ou od n) hx hcb dL_law_1126 hl (by decide) rfl (fun ls hl => ?_)
    have h2 := lv_at hl 4 rfl
    have h3 := lv_at hl 5 rfl
    have h4 := lv_at hl 6 rfl
    have h6 := lv_at hl 1 rfl
    have h7 := lv_at hl 0 rfl
    refine lv_aload_n hx hcb dL_law_1128 rfl h2 ?_
    refine j_m (As := []) (rest := []) C hI hS hv (c_X10_thrown l G v hv z2 _) mv_X10_thrown q_1263 rfl hl.1 rfl (Nat.le_of_ble_eq_true rfl) dL_law_1129 ⟨by decide, by decide⟩ ⟨l_ofr3 (by decide) hr.1, l_ofr3 (by decide) hr.2⟩ (fun r3 z3 H locs hp3 hI hS => ?_)
    obtain ⟨e4, e5⟩ := hp3
    rw [e5] at hI
    rw [et] at e4
    subst e4
    refine lv_iload hx hcb dL_law_1132 h6 ?_
    refine lv_icmp_eq (tgt := 1139) hx hcb dL_law_1134 (by decide) (fun _ => ?_) (fun h => absurd rfl h)
    refine lv_iload hx hcb dL_law_1139 h6 ?_
    refine lv_if_ne (tgt := 1156) hx hcb dL_law_1141 (by decide) (fun _ => ?_) (fun h => absurd h (by decide))
    refine lv_goto (tgt := 2584) hx hcb dL_law_1156 (by decide) ?_
    refine W.widen (k := cells + 48) (n := slots + 574) (l_ofr3 (by decide) (Nat.le_refl _)) (l_ofr3 (by decide) (Nat.le_refl _)) ?_
    exact hk K w zc z2 f g H locs ls hw hJ hI hS (lv_sub hl [2, 3, 4, 5, 6, 7] rfl)
set_option maxRecDepth 100000 in
set_option maxHeartbeats 4000000 in
theorem k_lastRecapture (C : lC p s m args c b L xs G cD) (hL : L ≤ 3072) (hn : 6 * n + 6 ≤ L) (hw : isC K w) (hv : isM v) (hJ : J K zc zm) (hI : lJ G w v zc zm ou od (lE1 G f) (lE2 cD g) s.heap.size H) (hS : va_S (lA s) s.heap H locs) (hl : lv_has ls 9 (lL b w v ou od n)) (hr : cells + 48 ≤ 601024 ∧ slots + 574 ≤ 7293034) (hk : lK p l e s m args below meth c cells slots Q G cD v ou od b n J)
    (hSim : ∀ x0 : Int32, lT l J yX9_lastRecapture cX9_lastRecapture 2 (some FieldType.int) rm_X9_lastRecapture rx_X9_lastRecapture yX10_lastRecapture cX10_lastRecapture 2 (some FieldType.int) rm_X10_lastRecapture [.int x0]) : W p l e room_1 s m args below meth c H locs cells slots Q (F0 m 1159 ls []) := by
  have h0 := lv_at hl 0 rfl
  have h1 := lv_at hl 1 rfl
  have h2 := lv_at hl 2 rfl
  have h3 := lv_at hl 3 rfl
  have h4 := lv_at hl 4 rfl
  have h5 := lv_at hl 5 rfl
  obtain ⟨hx, hcb, hml, hown, hts, hK, hZ, hX, hbl⟩ := id C
  rcases hSim (xs (6 * n + 1)) G w v K zc zm hw hv hJ with ⟨P1, P2, m1, m2, ag⟩ | ⟨P2, m1, m2, ag⟩
  · refine lv_aload_n hx hcb dL_law_1159 rfl h1 ?_
    refine j_s (k := 1) C hS h0 h5 (by decide) (by omega) hL dL_law_1160 dL_law_1161 dL_law_1163 dL_law_1164 dL_law_1165 ?_
    refine lv_aload_n hx hcb dL_law_1166 rfl h3 ?_
    refine j_h (As := [.ref (w.2.2 0), .int (xs (6 * n + 1)), .ref ou]) (rest := []) C hI hS (n_L_lastRecapture l G cD w K hw zc f ou _ (xs (6 * n + 1)) m1) mh_L_lastRecapture q_1047 rfl hl.1 rfl (Nat.le_of_ble_eq_true rfl) dL_law_1167 ⟨by decide, by decide⟩ ⟨l_ofr (by decide) hr.1, l_ofr (by decide) hr.2⟩ (fun r1 z1 e3 H locs hp1 hI hS => ?_)
    obtain ⟨rfl, a1, hp1, he⟩ := hp1
    have he : e3 = _ := he
    subst he
    refine lv_istore (lv' := (6, .int 0) :: lL b w v ou od n) hx hcb dL_law_1170 hl (by decide) rfl (fun ls hl => ?_)
    have h0 := lv_at hl 1 rfl
    have h2 := lv_at hl 3 rfl
    have h3 := lv_at hl 4 rfl
    have h4 := lv_at hl 5 rfl
    have h5 := lv_at hl 6 rfl
    refine lv_aload_n hx hcb dL_law_1172 rfl h2 ?_
    refine j_s (k := 1) C hS h0 h5 (by decide) (by omega) hL dL_law_1173 dL_law_1174 dL_law_1176 dL_law_1177 dL_law_1178 ?_
    refine j_m (As := [.int (xs (6 * n + 1))]) (rest := []) C hI hS hv (m2 _) mv_X10_lastRecapture q_1520 rfl hl.1 rfl (Nat.le_of_ble_eq_true rfl) dL_law_1179 ⟨by decide, by decide⟩ ⟨l_ofr2 (by decide) hr.1, l_ofr2 (by decide) hr.2⟩ (fun r2 z2 H locs hp2 hI hS => ?_)
    obtain ⟨er, et, hJ⟩ := ag _ _ _ _ hp1 hp2
    subst er
    refine lv_istore (lv' := (7, .int a1) :: (6, .int 0) :: lL b w v ou od n) hx hcb dL_law_1182 hl (by decide) rfl (fun ls hl => ?_)
    have h2 := lv_at hl 4 rfl
    have h3 := lv_at hl 5 rfl
    have h4 := lv_at hl 6 rfl
    have h6 := lv_at hl 1 rfl
    have h7 := lv_at hl 0 rfl
    refine lv_aload_n hx hcb dL_law_1184 rfl h2 ?_
    refine j_m (As := []) (rest := []) C hI hS hv (c_X10_thrown l G v hv z2 _) mv_X10_thrown q_1263 rfl hl.1 rfl (Nat.le_of_ble_eq_true rfl) dL_law_1185 ⟨by decide, by decide⟩ ⟨l_ofr3 (by decide) hr.1, l_ofr3 (by decide) hr.2⟩ (fun r3 z3 H locs hp3 hI hS => ?_)
    obtain ⟨e4, e5⟩ := hp3
    rw [e5] at hI
    rw [et] at e4
    subst e4
    refine lv_iload hx hcb dL_law_1188 h6 ?_
    refine lv_icmp_eq (tgt := 1195) hx hcb dL_law_1190 (by decide) (fun _ => ?_) (fun h => absurd rfl h)
    refine lv_iload hx hcb dL_law_1195 h6 ?_
    refine lv_if_ne (tgt := 1212) hx hcb dL_law_1197 (by decide) (fun h => absurd rfl h) (fun _ => ?_)
    refine lv_aload_n hx hcb dL_law_1200 rfl h3 ?_
    refine lv_iconst (v := nI 0) hx hcb dL_law_1201 (by decide) ?_
    refine va_lald (D := G.1) (cl := vwCl) (tys := xtyD G cD) (cA := G.2 3) (n := 1) (f := va_up f 0 a1.toInt64) (i := nI 0) hx hcb hK hI.1.2.2.1 0 3 rfl rfl (vp_in_nI (by decide) (by decide)) dL_law_1202 ?_
    rw [show va_up f 0 a1.toInt64 (nI 0).toNatClampNeg = a1.toInt64 from va_up_self ..]
    refine lv_iload hx hcb dL_law_1203 h7 ?_
    refine lv_i2l hx hcb dL_law_1205 rfl ?_
    refine W.lcmp hx hcb dL_law_1206 ?_
    rw [lcmp_self]
    refine lv_if_eq (tgt := 1212) hx hcb dL_law_1207 (by decide) (fun _ => ?_) (fun h => absurd rfl h)
    refine lv_goto (tgt := 2584) hx hcb dL_law_1212 (by decide) ?_
    refine W.widen (k := cells + 48) (n := slots + 574) (l_ofr3 (by decide) (Nat.le_refl _)) (l_ofr3 (by decide) (Nat.le_refl _)) ?_
    exact hk K w z1 z2 _ g H locs ls hw hJ hI hS (lv_sub hl [2, 3, 4, 5, 6, 7] rfl)
  · refine lv_aload_n hx hcb dL_law_1159 rfl h1 ?_
    refine j_s (k := 1) C hS h0 h5 (by decide) (by omega) hL dL_law_1160 dL_law_1161 dL_law_1163 dL_law_1164 dL_law_1165 ?_
    refine lv_aload_n hx hcb dL_law_1166 rfl h3 ?_
    refine j_h (As := [.ref (w.2.2 0), .int (xs (6 * n + 1)), .ref ou]) (rest := []) C hI hS (x_L_lastRecapture l G cD w K hw zc f ou _ (xs (6 * n + 1)) m1) mh_L_lastRecapture q_1047 rfl hl.1 rfl (Nat.le_of_ble_eq_true rfl) dL_law_1167 ⟨by decide, by decide⟩ ⟨l_ofr (by decide) hr.1, l_ofr (by decide) hr.2⟩ (fun r1 z1 e3 H locs hp1 hI hS => ?_)
    obtain ⟨rfl, he⟩ := hp1
    rw [(Prod.mk.inj he).1, (Prod.mk.inj he).2] at hI
    refine lv_istore (lv' := (6, .int 1) :: lL b w v ou od n) hx hcb dL_law_1170 hl (by decide) rfl (fun ls hl => ?_)
    have h0 := lv_at hl 1 rfl
    have h2 := lv_at hl 3 rfl
    have h3 := lv_at hl 4 rfl
    have h4 := lv_at hl 5 rfl
    have h5 := lv_at hl 6 rfl
    refine lv_aload_n hx hcb dL_law_1172 rfl h2 ?_
    refine j_s (k := 1) C hS h0 h5 (by decide) (by omega) hL dL_law_1173 dL_law_1174 dL_law_1176 dL_law_1177 dL_law_1178 ?_
    refine j_m (As := [.int (xs (6 * n + 1))]) (rest := []) C hI hS hv (m2 _) mv_X10_lastRecapture q_1520 rfl hl.1 rfl (Nat.le_of_ble_eq_true rfl) dL_law_1179 ⟨by decide, by decide⟩ ⟨l_ofr2 (by decide) hr.1, l_ofr2 (by decide) hr.2⟩ (fun r2 z2 H locs hp2 hI hS => ?_)
    obtain ⟨et, hJ⟩ := ag _ _ hp2
    refine lv_istore (lv' := (7, .int r2) :: (6, .int 1) :: lL b w v ou od n) hx hcb dL_law_1182 hl (by decide) rfl (fun ls hl => ?_)
    have h2 := lv_at hl 4 rfl
    have h3 := lv_at hl 5 rfl
    have h4 := lv_at hl 6 rfl
    have h6 := lv_at hl 1 rfl
    have h7 := lv_at hl 0 rfl
    refine lv_aload_n hx hcb dL_law_1184 rfl h2 ?_
    refine j_m (As := []) (rest := []) C hI hS hv (c_X10_thrown l G v hv z2 _) mv_X10_thrown q_1263 rfl hl.1 rfl (Nat.le_of_ble_eq_true rfl) dL_law_1185 ⟨by decide, by decide⟩ ⟨l_ofr3 (by decide) hr.1, l_ofr3 (by decide) hr.2⟩ (fun r3 z3 H locs hp3 hI hS => ?_)
    obtain ⟨e4, e5⟩ := hp3
    rw [e5] at hI
    rw [et] at e4
    subst e4
    refine lv_iload hx hcb dL_law_1188 h6 ?_
    refine lv_icmp_eq (tgt := 1195) hx hcb dL_law_1190 (by decide) (fun _ => ?_) (fun h => absurd rfl h)
    refine lv_iload hx hcb dL_law_1195 h6 ?_
    refine lv_if_ne (tgt := 1212) hx hcb dL_law_1197 (by decide) (fun _ => ?_) (fun h => absurd h (by decide))
    refine lv_goto (tgt := 2584) hx hcb dL_law_1212 (by decide) ?_
    refine W.widen (k := cells + 48) (n := slots + 574) (l_ofr3 (by decide) (Nat.le_refl _)) (l_ofr3 (by decide) (Nat.le_refl _)) ?_
    exact hk K w zc z2 f g H locs ls hw hJ hI hS (lv_sub hl [2, 3, 4, 5, 6, 7] rfl)
end LLC
