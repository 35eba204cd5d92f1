/-! THE LAW: its switch and its loop -/
theorem ll_gt {L n : Nat} (hL : L ≤ 3072) (hn : n ≤ 1000) : Int32.ofNat L - nI 6 < nI (6 * n) ↔ L < 6 * n + 6 := by
  rw [show Int32.ofNat L = nI L from rfl, Int32.lt_iff_toInt_lt, nI_subI (by omega) (by omega), nI_toInt (by omega)]
  omega
section LLS
variable {p : Program} {l : Launch} {e : Env} {s : State} {m : MethodId} {args : Array Value} {below : List Frame} {meth : Method} {c : Code} {H : Heap} {locs : List Loc} {cells slots : Nat} {Q : State → Prop}
variable {ls : Array Slot} {G : xGl} {cD : ClassId} {w v : xWd} {zc zm : xSt} {ou od : Nat} {f : Nat → Int64} {g : Nat → UInt64} {b L K n : Nat} {xs : Nat → Int32}
set_option maxRecDepth 100000 in
set_option maxHeartbeats 4000000 in
theorem law_case (hlt : l.stackTraces = false) (C : lC p s m args c b L xs G cD) (hL : L ≤ 3072) (hn : 6 * n + 6 ≤ L) (hw : isC K w) (hv : isM v) (hJ : jJ K zc zm) (hI : lJ G w v zc zm ou od (lE1 G f) (lE2 cD g) s.heap.size H) (hS : va_S (lA s) s.heap H locs) (hl : lv_has ls 9 (lL b w v ou od n)) (hr : cells + 48 ≤ 601024 ∧ slots + 574 ≤ 7293034) (hk : lK p l e s m args below meth c cells slots Q G cD v ou od b n jJ) :
    ∀ k : Nat, k < 64 → W p l e room_1 s m args below meth c H locs cells slots Q (F0 m 45 ls [.int (nI k)])
  | 0, _ => lv_tableIn (off := 223) (tgt := 268) C.1 C.2.1 dL_law_45 (by decide) (by decide) (by decide) (by decide) (k_feed (J := jJ) C hL hn hw hv hJ hI hS hl hr hk (fun x0 x1 x2 x3 x4 => s_feed l x0 x1 x2 x3 x4))
  | 1, _ => lv_tableIn (off := 296) (tgt := 341) C.1 C.2.1 dL_law_45 (by decide) (by decide) (by decide) (by decide) (k_load (J := jJ) C hL hn hw hv hJ hI hS hl hr hk (fun x0 => s_load l x0))
  | 2, _ => lv_tableIn (off := 321) (tgt := 366) C.1 C.2.1 dL_law_45 (by decide) (by decide) (by decide) (by decide) (k_errorPosition (J := jJ) C hL hn hw hv hJ hI hS hl hr hk (s_errorPosition l))
  | 3, _ => lv_tableIn (off := 334) (tgt := 379) C.1 C.2.1 dL_law_45 (by decide) (by decide) (by decide) (by decide) (k_memberCount (J := jJ) C hL hn hw hv hJ hI hS hl hr hk (s_memberCount l))
  | 4, _ => lv_tableIn (off := 347) (tgt := 392) C.1 C.2.1 dL_law_45 (by decide) (by decide) (by decide) (by decide) (k_departmentCount (J := jJ) C hL hn hw hv hJ hI hS hl hr hk (s_departmentCount l))
  | 5, _ => lv_tableIn (off := 360) (tgt := 405) C.1 C.2.1 dL_law_45 (by decide) (by decide) (by decide) (by decide) (k_year (J := jJ) C hL hn hw hv hJ hI hS hl hr hk (s_year l))
  | 6, _ => lv_tableIn (off := 373) (tgt := 418) C.1 C.2.1 dL_law_45 (by decide) (by decide) (by decide) (by decide) (k_undoCount (J := jJ) C hL hn hw hv hJ hI hS hl hr hk (s_undoCount l))
  | 7, _ => lv_tableIn (off := 386) (tgt := 431) C.1 C.2.1 dL_law_45 (by decide) (by decide) (by decide) (by decide) (k_memberNamed (J := jJ) C hL hn hw hv hJ hI hS hl hr hk (fun x0 => s_memberNamed l x0))
  | 8, _ => lv_tableIn (off := 411) (tgt := 456) C.1 C.2.1 dL_law_45 (by decide) (by decide) (by decide) (by decide) (k_departmentNamed (J := jJ) C hL hn hw hv hJ hI hS hl hr hk (fun x0 => s_departmentNamed l x0))
  | 9, _ => lv_tableIn (off := 436) (tgt := 481) C.1 C.2.1 dL_law_45 (by decide) (by decide) (by decide) (by decide) (k_getSetting (J := jJ) C hL hn hw hv hJ hI hS hl hr hk (fun x0 => s_getSetting l x0))
  | 10, _ => lv_tableIn (off := 461) (tgt := 506) C.1 C.2.1 dL_law_45 (by decide) (by decide) (by decide) (by decide) (k_consents (J := jJ) C hL hn hw hv hJ hI hS hl hr hk (fun x0 => s_consents l hlt x0))
  | 11, _ => lv_tableIn (off := 524) (tgt := 569) C.1 C.2.1 dL_law_45 (by decide) (by decide) (by decide) (by decide) (k_stateOf (J := jJ) C hL hn hw hv hJ hI hS hl hr hk (fun x0 => s_stateOf l hlt x0))
  | 12, _ => lv_tableIn (off := 580) (tgt := 625) C.1 C.2.1 dL_law_45 (by decide) (by decide) (by decide) (by decide) (k_patronage (J := jJ) C hL hn hw hv hJ hI hS hl hr hk (fun x0 x1 => s_patronage l hlt x0 x1))
  | 13, _ => lv_tableIn (off := 648) (tgt := 693) C.1 C.2.1 dL_law_45 (by decide) (by decide) (by decide) (by decide) (k_totalPatronage (J := jJ) C hL hn hw hv hJ hI hS hl hr hk (fun x0 => s_totalPatronage l hlt x0))
  | 14, _ => lv_tableIn (off := 704) (tgt := 749) C.1 C.2.1 dL_law_45 (by decide) (by decide) (by decide) (by decide) (k_certificate (J := jJ) C hL hn hw hv hJ hI hS hl hr hk (fun x0 x1 => s_certificate l hlt x0 x1))
  | 15, _ => lv_tableIn (off := 772) (tgt := 817) C.1 C.2.1 dL_law_45 (by decide) (by decide) (by decide) (by decide) (k_kindOf (J := jJ) C hL hn hw hv hJ hI hS hl hr hk (fun x0 x1 => s_kindOf l hlt x0 x1))
  | 16, _ => lv_tableIn (off := 840) (tgt := 885) C.1 C.2.1 dL_law_45 (by decide) (by decide) (by decide) (by decide) (k_equityOf (J := jJ) C hL hn hw hv hJ hI hS hl hr hk (fun x0 => s_equityOf l hlt x0))
  | 17, _ => lv_tableIn (off := 896) (tgt := 941) C.1 C.2.1 dL_law_45 (by decide) (by decide) (by decide) (by decide) (k_equityIn (J := jJ) C hL hn hw hv hJ hI hS hl hr hk (fun x0 x1 => s_equityIn l hlt x0 x1))
  | 18, _ => lv_tableIn (off := 964) (tgt := 1009) C.1 C.2.1 dL_law_45 (by decide) (by decide) (by decide) (by decide) (k_totalEquity (J := jJ) C hL hn hw hv hJ hI hS hl hr hk (s_totalEquity l))
  | 19, _ => lv_tableIn (off := 977) (tgt := 1022) C.1 C.2.1 dL_law_45 (by decide) (by decide) (by decide) (by decide) (k_reserve (J := jJ) C hL hn hw hv hJ hI hS hl hr hk (s_reserve l))
  | 20, _ => lv_tableIn (off := 990) (tgt := 1035) C.1 C.2.1 dL_law_45 (by decide) (by decide) (by decide) (by decide) (k_paidTo (J := jJ) C hL hn hw hv hJ hI hS hl hr hk (fun x0 x1 => s_paidTo l hlt x0 x1))
  | 21, _ => lv_tableIn (off := 1058) (tgt := 1103) C.1 C.2.1 dL_law_45 (by decide) (by decide) (by decide) (by decide) (k_lastAllocation (J := jJ) C hL hn hw hv hJ hI hS hl hr hk (fun x0 => s_lastAllocation l hlt x0))
  | 22, _ => lv_tableIn (off := 1114) (tgt := 1159) C.1 C.2.1 dL_law_45 (by decide) (by decide) (by decide) (by decide) (k_lastRecapture (J := jJ) C hL hn hw hv hJ hI hS hl hr hk (fun x0 => s_lastRecapture l hlt x0))
  | 23, _ => lv_tableIn (off := 1170) (tgt := 1215) C.1 C.2.1 dL_law_45 (by decide) (by decide) (by decide) (by decide) (k_rateOf (J := jJ) C hL hn hw hv hJ hI hS hl hr hk (fun x0 => s_rateOf l hlt x0))
  | 24, _ => lv_tableIn (off := 1248) (tgt := 1293) C.1 C.2.1 dL_law_45 (by decide) (by decide) (by decide) (by decide) (k_ratePoints (J := jJ) C hL hn hw hv hJ hI hS hl hr hk (fun x0 => s_ratePoints l hlt x0))
  | 25, _ => lv_tableIn (off := 1304) (tgt := 1349) C.1 C.2.1 dL_law_45 (by decide) (by decide) (by decide) (by decide) (k_meanAge (J := jJ) C hL hn hw hv hJ hI hS hl hr hk (fun x0 => s_meanAge l hlt x0))
  | 26, _ => lv_tableIn (off := 1381) (tgt := 1426) C.1 C.2.1 dL_law_45 (by decide) (by decide) (by decide) (by decide) (k_oldestYear (J := jJ) C hL hn hw hv hJ hI hS hl hr hk (fun x0 => s_oldestYear l hlt x0))
  | 27, _ => lv_tableIn (off := 1437) (tgt := 1482) C.1 C.2.1 dL_law_45 (by decide) (by decide) (by decide) (by decide) (k_isUniform (J := jJ) C hL hn hw hv hJ hI hS hl hr hk (fun x0 => s_isUniform l hlt x0))
  | 28, _ => lv_tableIn (off := 1500) (tgt := 1545) C.1 C.2.1 dL_law_45 (by decide) (by decide) (by decide) (by decide) (k_wouldGet (J := jJ) C hL hn hw hv hJ hI hS hl hr hk (fun x0 x1 x2 x3 x4 => s_wouldGet l hlt x0 x1 x2 x3 x4))
  | 29, _ => lv_tableIn (off := 1604) (tgt := 1649) C.1 C.2.1 dL_law_45 (by decide) (by decide) (by decide) (by decide) (k_topMember (J := jJ) C hL hn hw hv hJ hI hS hl hr hk (fun x0 x1 x2 x3 => s_topMember l x0 x1 x2 x3))
  | 30, _ => lv_tableIn (off := 1665) (tgt := 1710) C.1 C.2.1 dL_law_45 (by decide) (by decide) (by decide) (by decide) (k_redeemable (J := jJ) C hL hn hw hv hJ hI hS hl hr hk (s_redeemable l))
  | 31, _ => lv_tableIn (off := 1678) (tgt := 1723) C.1 C.2.1 dL_law_45 (by decide) (by decide) (by decide) (by decide) (k_wouldRedeem (J := jJ) C hL hn hw hv hJ hI hS hl hr hk (fun x0 x1 => s_wouldRedeem l hlt x0 x1))
  | 32, _ => lv_tableIn (off := 1746) (tgt := 1791) C.1 C.2.1 dL_law_45 (by decide) (by decide) (by decide) (by decide) (k_budgetThrough (J := jJ) C hL hn hw hv hJ hI hS hl hr hk (fun x0 => s_budgetThrough l x0))
  | 33, _ => lv_tableIn (off := 1771) (tgt := 1816) C.1 C.2.1 dL_law_45 (by decide) (by decide) (by decide) (by decide) (k_installmentsLeft (J := jJ) C hL hn hw hv hJ hI hS hl hr hk (fun x0 => s_installmentsLeft l hlt x0))
  | 34, _ => lv_tableIn (off := 1827) (tgt := 1872) C.1 C.2.1 dL_law_45 (by decide) (by decide) (by decide) (by decide) (k_installment (J := jJ) C hL hn hw hv hJ hI hS hl hr hk (fun x0 x1 => s_installment l hlt x0 x1))
  | 35, _ => lv_tableIn (off := 1895) (tgt := 1940) C.1 C.2.1 dL_law_45 (by decide) (by decide) (by decide) (by decide) (k_balance (J := jJ) C hL hn hw hv hJ hI hS hl hr hk (s_balance l))
  | 36, _ => lv_tableIn (off := 1908) (tgt := 1953) C.1 C.2.1 dL_law_45 (by decide) (by decide) (by decide) (by decide) (k_nextInLine (J := jJ) C hL hn hw hv hJ hI hS hl hr hk (s_nextInLine l))
  | 37, _ => lv_tableIn (off := 1921) (tgt := 1966) C.1 C.2.1 dL_law_45 (by decide) (by decide) (by decide) (by decide) (k_yearsUntil (J := jJ) C hL hn hw hv hJ hI hS hl hr hk (fun x0 x1 => s_yearsUntil l hlt x0 x1))
  | 38, _ => lv_tableIn (off := 1989) (tgt := 2034) C.1 C.2.1 dL_law_45 (by decide) (by decide) (by decide) (by decide) (k_equityOfYear (J := jJ) C hL hn hw hv hJ hI hS hl hr hk (fun x0 => s_equityOfYear l x0))
  | 39, _ => lv_tableIn (off := 2014) (tgt := 2059) C.1 C.2.1 dL_law_45 (by decide) (by decide) (by decide) (by decide) (k_wouldReserve (J := jJ) C hL hn hw hv hJ hI hS hl hr hk (fun x0 x1 x2 x3 => s_wouldReserve l x0 x1 x2 x3))
  | 40, _ => lv_tableIn (off := 2075) (tgt := 2120) C.1 C.2.1 dL_law_45 (by decide) (by decide) (by decide) (by decide) (k_cashNeeded (J := jJ) C hL hn hw hv hJ hI hS hl hr hk (fun x0 x1 x2 x3 => s_cashNeeded l x0 x1 x2 x3))
  | 41, _ => lv_tableIn (off := 2136) (tgt := 2181) C.1 C.2.1 dL_law_45 (by decide) (by decide) (by decide) (by decide) (k_richest (J := jJ) C hL hn hw hv hJ hI hS hl hr hk (s_richest l))
  | 42, _ => lv_tableIn (off := 2149) (tgt := 2194) C.1 C.2.1 dL_law_45 (by decide) (by decide) (by decide) (by decide) (k_membersIn (J := jJ) C hL hn hw hv hJ hI hS hl hr hk (fun x0 => s_membersIn l x0))
  | 43, _ => lv_tableIn (off := 2174) (tgt := 2219) C.1 C.2.1 dL_law_45 (by decide) (by decide) (by decide) (by decide) (k_partOf (J := jJ) C hL hn hw hv hJ hI hS hl hr hk (fun x0 => s_partOf l hlt x0))
  | 44, _ => lv_tableIn (off := 2251) (tgt := 2296) C.1 C.2.1 dL_law_45 (by decide) (by decide) (by decide) (by decide) (k_redemptionsNeeded (J := jJ) C hL hn hw hv hJ hI hS hl hr hk (fun x0 => s_redemptionsNeeded l x0))
  | 45, _ => lv_tableIn (off := 2276) (tgt := 2321) C.1 C.2.1 dL_law_45 (by decide) (by decide) (by decide) (by decide) (k_trade (J := jJ) C hL hn hw hv hJ hI hS hl hr hk (fun x0 x1 x2 => s_trade l x0 x1 x2))
  | 46, _ => lv_tableIn (off := 2325) (tgt := 2370) C.1 C.2.1 dL_law_45 (by decide) (by decide) (by decide) (by decide) (k_close (J := jJ) C hL hn hw hv hJ hI hS hl hr hk (fun x0 x1 x2 x3 => s_close l x0 x1 x2 x3))
  | 47, _ => lv_tableIn (off := 2386) (tgt := 2431) C.1 C.2.1 dL_law_45 (by decide) (by decide) (by decide) (by decide) (k_redeem (J := jJ) C hL hn hw hv hJ hI hS hl hr hk (fun x0 => s_redeem l x0))
  | 48, _ => lv_tableIn (off := 2411) (tgt := 2456) C.1 C.2.1 dL_law_45 (by decide) (by decide) (by decide) (by decide) (k_leave (J := jJ) C hL hn hw hv hJ hI hS hl hr hk (fun x0 => s_leave l x0))
  | 49, _ => lv_tableIn (off := 2436) (tgt := 2481) C.1 C.2.1 dL_law_45 (by decide) (by decide) (by decide) (by decide) (k_setConsent (J := jJ) C hL hn hw hv hJ hI hS hl hr hk (fun x0 x1 h => s_setConsent l x0 x1 h))
  | 50, _ => lv_tableIn (off := 2489) (tgt := 2534) C.1 C.2.1 dL_law_45 (by decide) (by decide) (by decide) (by decide) (k_setSetting (J := jJ) C hL hn hw hv hJ hI hS hl hr hk (fun x0 x1 => s_setSetting l x0 x1))
  | 51, _ => lv_tableIn (off := 2526) (tgt := 2571) C.1 C.2.1 dL_law_45 (by decide) (by decide) (by decide) (by decide) (k_undo (J := jJ) C hL hn hw hv hJ hI hS hl hr hk (s_undo l))
  | k + 52, h => by
    have e1 : (nI (k + 52)).toInt = ((k + 52 : Nat) : Int) := nI_toInt (by omega)
    refine lv_tableOut (tgt := 2584) C.1 C.2.1 dL_law_45 (Or.inr (by rw [e1]; omega)) (by decide) ?_
    refine W.widen (k := cells + 48) (n := slots + 574) (by omega) (by omega) ?_
    exact hk K w zc zm f g H locs ls hw hJ hI hS hl
theorem law_loop {c0 s0 : Nat} (hlt : l.stackTraces = false) (C : lC p s m args c b L xs G cD) (hL : L ≤ 3072) (hv : isM v) (hc0 : c0 ≤ 500000) (hs0 : s0 ≤ 6000000)
    (hend : ∀ (n : Nat) (H : Heap) (locs : List Loc) (ls : Array Slot), n ≤ 512 → va_S (lA s) s.heap H locs → W p l e room_1 s m args below meth c H locs (c0 + 48 * n) (s0 + 574 * n) Q (F0 m 2590 ls [])) :
    ∀ (k n : Nat), n + k = 512 → ∀ (K : Nat) (w : xWd) (zc zm : xSt) (f : Nat → Int64) (g : Nat → UInt64) (H : Heap) (locs : List Loc) (ls : Array Slot), isC K w → jJ K zc zm → lJ G w v zc zm ou od (lE1 G f) (lE2 cD g) s.heap.size H → va_S (lA s) s.heap H locs → lv_has ls 9 (lL b w v ou od n) → W p l e room_1 s m args below meth c H locs (c0 + 48 * n) (s0 + 574 * n) Q (F0 m 28 ls []) := by
  obtain ⟨hx, hcb, hml, hown, hts, hK, hZ, hX, hbl⟩ := id C
  intro k
  induction k with
  | zero =>
    intro n hk K w zc zm f g H locs ls hw hJ hI hS hl
    refine lv_iload hx hcb dL_law_28 (lv_at hl 5 rfl) ?_
    refine lv_aload_n hx hcb dL_law_30 rfl (lv_at hl 0 rfl) ?_
    refine va_slen hx hcb hX hbl (Nat.not_le.mpr hbl) hS dL_law_31 ?_
    refine lv_bipush (v := nI 6) hx hcb dL_law_32 (by decide) ?_
    refine lv_isub hx hcb dL_law_34 ?_
    refine lv_icmp_gt (tgt := 2590) hx hcb dL_law_35 (by decide) (fun _ => hend n H locs ls (by omega) hS) (fun h => ?_)
    exact absurd ((ll_gt hL (by omega)).mpr (by omega)) h
  | succ k ih =>
    intro n hk K w zc zm f g H locs ls hw hJ hI hS hl
    refine lv_iload hx hcb dL_law_28 (lv_at hl 5 rfl) ?_
    refine lv_aload_n hx hcb dL_law_30 rfl (lv_at hl 0 rfl) ?_
    refine va_slen hx hcb hX hbl (Nat.not_le.mpr hbl) hS dL_law_31 ?_
    refine lv_bipush (v := nI 6) hx hcb dL_law_32 (by decide) ?_
    refine lv_isub hx hcb dL_law_34 ?_
    refine lv_icmp_gt (tgt := 2590) hx hcb dL_law_35 (by decide) (fun _ => hend n H locs ls (by omega) hS) (fun h => ?_)
    have hn : 6 * n + 6 ≤ L := Nat.not_lt.mp (fun q => h ((ll_gt hL (by omega)).mpr q))
    refine lv_aload_n hx hcb dL_law_38 rfl (lv_at hl 0 rfl) ?_
    refine lv_iload hx hcb dL_law_39 (lv_at hl 5 rfl) ?_
    refine va_sld hx hcb hX hbl (Nat.not_le.mpr hbl) hS (vp_in_nI (by omega) (by omega)) dL_law_41 ?_
    refine lv_bipush (v := nI 63) hx hcb dL_law_42 (by decide) ?_
    refine lv_iand hx hcb dL_law_44 ?_
    obtain ⟨j, hj, ej⟩ := pk_andE (xs (nI (6 * n)).toNatClampNeg) (m := nI 63) 6 (by decide)
    rw [ej]
    refine law_case hlt C hL hn hw hv hJ hI hS hl ⟨by omega, by omega⟩ ?_ j hj
    intro K w zc zm f g H locs ls hw hJ hI hS hl
    refine lv_iinc (v := nI (6 * (n + 1))) (lv' := [(5, .int (nI (6 * (n + 1)))), (0, .ref b), (1, .ref (w.2.2 0)), (2, .ref (v.2.2 0)), (3, .ref ou), (4, .ref od)]) hx hcb dL_law_2584 hl (k := 5) rfl (by rw [show Int32.ofInt 6 = nI 6 from rfl, nI_add, show 6 * n + 6 = 6 * (n + 1) by omega]) (by decide) rfl (fun ls hl => ?_)
    refine lv_goto (tgt := 28) hx hcb dL_law_2587 (by decide) ?_
    have e1 : c0 + 48 * n + 48 = c0 + 48 * (n + 1) := by omega
    have e2 : s0 + 574 * n + 574 = s0 + 574 * (n + 1) := by omega
    rw [e1, e2]
    exact ih (n + 1) (by omega) K w zc zm f g H locs ls hw hJ hI hS (lv_sub hl [1, 2, 3, 4, 5, 0] rfl)
end LLS
