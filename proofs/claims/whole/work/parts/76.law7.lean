/-! THE LAW'S CASES: the questions that may throw, 2 -/
section LLC
variable {p : Program} {l : Launch} {e : Env} {s : State} {m : MethodId} {args : Array Value} {below : List Frame} {meth : Method} {c : Code} {H : Heap} {locs : List Loc} {cells slots : Nat} {Q : State → Prop}
variable {ls : Array Slot} {G : xGl} {cD : ClassId} {w v : xWd} {zc zm : xSt} {ou od : Nat} {f : Nat → Int64} {g : Nat → UInt64} {b L K n : Nat} {xs : Nat → Int32} {J : Nat → xSt → xSt → Prop}
set_option maxRecDepth 100000 in
set_option maxHeartbeats 4000000 in
theorem k_rateOf (C : lC p s m args c b L xs G cD) (hL : L ≤ 3072) (hn : 6 * n + 6 ≤ L) (hw : isC K w) (hv : isM v) (hJ : J K zc zm) (hI : lJ G w v zc zm ou od (lE1 G f) (lE2 cD g) s.heap.size H) (hS : va_S (lA s) s.heap H locs) (hl : lv_has ls 9 (lL b w v ou od n)) (hr : cells + 48 ≤ 601024 ∧ slots + 574 ≤ 7293034) (hk : lK p l e s m args below meth c cells slots Q G cD v ou od b n J)
    (hSim : ∀ x0 : Int32, lTf l J yX9_rateOf cX9_rateOf 2 (some FieldType.float) rm_X9_rateOf rx_X9_rateOf yX10_rateOf cX10_rateOf 2 (some FieldType.float) rm_X10_rateOf [.int x0]) : W p l e room_1 s m args below meth c H locs cells slots Q (F0 m 1215 ls []) := by
  have h0 := lv_at hl 0 rfl
  have h1 := lv_at hl 1 rfl
  have h2 := lv_at hl 2 rfl
  have h3 := lv_at hl 3 rfl
  have h4 := lv_at hl 4 rfl
  have h5 := lv_at hl 5 rfl
  obtain ⟨hx, hcb, hml, hown, hts, hK, hZ, hX, hbl⟩ := id C
  rcases hSim (xs (6 * n + 1)) G w v K zc zm hw hv hJ with ⟨P1, P2, m1, m2, nn, ag⟩ | ⟨P2, m1, m2, ag⟩
  · refine lv_aload_n hx hcb dL_law_1215 rfl h1 ?_
    refine j_s (k := 1) C hS h0 h5 (by decide) (by omega) hL dL_law_1216 dL_law_1217 dL_law_1219 dL_law_1220 dL_law_1221 ?_
    refine lv_aload hx hcb dL_law_1222 h4 ?_
    refine j_hD (As := [.ref (w.2.2 0), .int (xs (6 * n + 1)), .ref od]) (rest := []) C hI hS (n_L_rateOf l G cD w K hw zc g od _ (xs (6 * n + 1)) m1 (fun a z1 h => (nn a z1 h).1)) mh_L_rateOf q_1054 rfl hl.1 rfl (Nat.le_of_ble_eq_true rfl) dL_law_1224 ⟨by decide, by decide⟩ ⟨l_ofr (by decide) hr.1, l_ofr (by decide) hr.2⟩ (fun r1 z1 e3 H locs hp1 hI hS => ?_)
    obtain ⟨rfl, a1, hp1, he⟩ := hp1
    have he : e3 = _ := he
    subst he
    refine lv_istore (lv' := (6, .int 0) :: lL b w v ou od n) hx hcb dL_law_1227 hl (by decide) rfl (fun ls hl => ?_)
    have h0 := lv_at hl 1 rfl
    have h2 := lv_at hl 3 rfl
    have h3 := lv_at hl 4 rfl
    have h4 := lv_at hl 5 rfl
    have h5 := lv_at hl 6 rfl
    refine lv_aload_n hx hcb dL_law_1229 rfl h2 ?_
    refine j_s (k := 1) C hS h0 h5 (by decide) (by omega) hL dL_law_1230 dL_law_1231 dL_law_1233 dL_law_1234 dL_law_1235 ?_
    refine j_mf (As := [.int (xs (6 * n + 1))]) (rest := []) C hI hS hv (m2 _) mv_X10_rateOf q_1524 rfl hl.1 rfl (Nat.le_of_ble_eq_true rfl) dL_law_1236 ⟨by decide, by decide⟩ ⟨l_ofr2 (by decide) hr.1, l_ofr2 (by decide) hr.2⟩ (fun r2 z2 H locs hp2 hI hS => ?_)
    obtain ⟨er, et, hJ⟩ := ag _ _ _ _ hp1 hp2
    subst er
    refine lv_fstore (lv' := (7, .float a1) :: (6, .int 0) :: lL b w v ou od n) hx hcb dL_law_1239 hl (by decide) rfl (fun ls hl => ?_)
    have h2 := lv_at hl 4 rfl
    have h3 := lv_at hl 5 rfl
    have h4 := lv_at hl 6 rfl
    have h6 := lv_at hl 1 rfl
    have h7 := lv_at hl 0 rfl
    refine lv_aload_n hx hcb dL_law_1241 rfl h2 ?_
    refine j_m (As := []) (rest := []) C hI hS hv (c_X10_thrown l G v hv z2 _) mv_X10_thrown q_1263 rfl hl.1 rfl (Nat.le_of_ble_eq_true rfl) dL_law_1242 ⟨by decide, by decide⟩ ⟨l_ofr3 (by decide) hr.1, l_ofr3 (by decide) hr.2⟩ (fun r3 z3 H locs hp3 hI hS => ?_)
    obtain ⟨e4, e5⟩ := hp3
    rw [e5] at hI
    rw [et] at e4
    subst e4
    refine lv_iload hx hcb dL_law_1245 h6 ?_
    refine lv_icmp_eq (tgt := 1252) hx hcb dL_law_1247 (by decide) (fun _ => ?_) (fun h => absurd rfl h)
    refine lv_iload hx hcb dL_law_1252 h6 ?_
    refine lv_if_ne (tgt := 1290) hx hcb dL_law_1254 (by decide) (fun h => absurd rfl h) (fun _ => ?_)
    refine lv_aload hx hcb dL_law_1257 h4 ?_
    refine lv_iconst (v := nI 0) hx hcb dL_law_1259 (by decide) ?_
    refine va_dald (D := G.1) (cl := vwCl) (tys := xtyD G cD) (cA := cD) (n := 1) (f := va_up g 0 (FP.f2d a1)) (i := nI 0) hx hcb hK hI.1.2.2.2 0 7 rfl rfl (vp_in_nI (by decide) (by decide)) dL_law_1260 ?_
    rw [show va_up g 0 (FP.f2d a1) (nI 0).toNatClampNeg = (FP.f2d a1) from va_up_self ..]
    have nn := nn _ _ hp1
    refine lv_fload hx hcb dL_law_1261 h7 ?_
    refine lv_f2d hx hcb dL_law_1263 nn.1 ?_
    refine lv_dcmp hx hcb dL_law_1264 ?_
    rw [nn.2]
    refine lv_if_eq (tgt := 1290) hx hcb dL_law_1265 (by decide) (fun _ => ?_) (fun h => absurd rfl h)
    refine lv_goto (tgt := 2584) hx hcb dL_law_1290 (by decide) ?_
    refine W.widen (k := cells + 48) (n := slots + 574) (l_ofr3 (by decide) (Nat.le_refl _)) (l_ofr3 (by decide) (Nat.le_refl _)) ?_
    exact hk K w z1 z2 f _ H locs ls hw hJ hI hS (lv_sub hl [2, 3, 4, 5, 6, 7] rfl)
  · refine lv_aload_n hx hcb dL_law_1215 rfl h1 ?_
    refine j_s (k := 1) C hS h0 h5 (by decide) (by omega) hL dL_law_1216 dL_law_1217 dL_law_1219 dL_law_1220 dL_law_1221 ?_
    refine lv_aload hx hcb dL_law_1222 h4 ?_
    refine j_hD (As := [.ref (w.2.2 0), .int (xs (6 * n + 1)), .ref od]) (rest := []) C hI hS (x_L_rateOf l G cD w K hw zc g od _ (xs (6 * n + 1)) m1) mh_L_rateOf q_1054 rfl hl.1 rfl (Nat.le_of_ble_eq_true rfl) dL_law_1224 ⟨by decide, by decide⟩ ⟨l_ofr (by decide) hr.1, l_ofr (by decide) hr.2⟩ (fun r1 z1 e3 H locs hp1 hI hS => ?_)
    obtain ⟨rfl, he⟩ := hp1
    rw [(Prod.mk.inj he).1, (Prod.mk.inj he).2] at hI
    refine lv_istore (lv' := (6, .int 1) :: lL b w v ou od n) hx hcb dL_law_1227 hl (by decide) rfl (fun ls hl => ?_)
    have h0 := lv_at hl 1 rfl
    have h2 := lv_at hl 3 rfl
    have h3 := lv_at hl 4 rfl
    have h4 := lv_at hl 5 rfl
    have h5 := lv_at hl 6 rfl
    refine lv_aload_n hx hcb dL_law_1229 rfl h2 ?_
    refine j_s (k := 1) C hS h0 h5 (by decide) (by omega) hL dL_law_1230 dL_law_1231 dL_law_1233 dL_law_1234 dL_law_1235 ?_
    refine j_mf (As := [.int (xs (6 * n + 1))]) (rest := []) C hI hS hv (m2 _) mv_X10_rateOf q_1524 rfl hl.1 rfl (Nat.le_of_ble_eq_true rfl) dL_law_1236 ⟨by decide, by decide⟩ ⟨l_ofr2 (by decide) hr.1, l_ofr2 (by decide) hr.2⟩ (fun r2 z2 H locs hp2 hI hS => ?_)
    obtain ⟨et, hJ⟩ := ag _ _ hp2
    refine lv_fstore (lv' := (7, .float r2) :: (6, .int 1) :: lL b w v ou od n) hx hcb dL_law_1239 hl (by decide) rfl (fun ls hl => ?_)
    have h2 := lv_at hl 4 rfl
    have h3 := lv_at hl 5 rfl
    have h4 := lv_at hl 6 rfl
    have h6 := lv_at hl 1 rfl
    have h7 := lv_at hl 0 rfl
    refine lv_aload_n hx hcb dL_law_1241 rfl h2 ?_
    refine j_m (As := []) (rest := []) C hI hS hv (c_X10_thrown l G v hv z2 _) mv_X10_thrown q_1263 rfl hl.1 rfl (Nat.le_of_ble_eq_true rfl) dL_law_1242 ⟨by decide, by decide⟩ ⟨l_ofr3 (by decide) hr.1, l_ofr3 (by decide) hr.2⟩ (fun r3 z3 H locs hp3 hI hS => ?_)
    obtain ⟨e4, e5⟩ := hp3
    rw [e5] at hI
    rw [et] at e4
    subst e4
    refine lv_iload hx hcb dL_law_1245 h6 ?_
    refine lv_icmp_eq (tgt := 1252) hx hcb dL_law_1247 (by decide) (fun _ => ?_) (fun h => absurd rfl h)
    refine lv_iload hx hcb dL_law_1252 h6 ?_
    refine lv_if_ne (tgt := 1290) hx hcb dL_law_1254 (by decide) (fun _ => ?_) (fun h => absurd h (by decide))
    refine lv_goto (tgt := 2584) hx hcb dL_law_1290 (by decide) ?_
    refine W.widen (k := cells + 48) (n := slots + 574) (l_ofr3 (by decide) (Nat.le_refl _)) (l_ofr3 (by decide) (Nat.le_refl _)) ?_
    exact hk K w zc z2 f g H locs ls hw hJ hI hS (lv_sub hl [2, 3, 4, 5, 6, 7] rfl)
set_option maxRecDepth 100000 in
set_option maxHeartbeats 4000000 in
theorem k_ratePoints (C : lC p s m args c b L xs G cD) (hL : L ≤ 3072) (hn : 6 * n + 6 ≤ L) (hw : isC K w) (hv : isM v) (hJ : J K zc zm) (hI : lJ G w v zc zm ou od (lE1 G f) (lE2 cD g) s.heap.size H) (hS : va_S (lA s) s.heap H locs) (hl : lv_has ls 9 (lL b w v ou od n)) (hr : cells + 48 ≤ 601024 ∧ slots + 574 ≤ 7293034) (hk : lK p l e s m args below meth c cells slots Q G cD v ou od b n J)
    (hSim : ∀ x0 : Int32, lT l J yX9_ratePoints cX9_ratePoints 2 (some FieldType.int) rm_X9_ratePoints rx_X9_ratePoints yX10_ratePoints cX10_ratePoints 2 (some FieldType.int) rm_X10_ratePoints [.int x0]) : W p l e room_1 s m args below meth c H locs cells slots Q (F0 m 1293 ls []) := by
  have h0 := lv_at hl 0 rfl
  have h1 := lv_at hl 1 rfl
  have h2 := lv_at hl 2 rfl
  have h3 := lv_at hl 3 rfl
  have h4 := lv_at hl 4 rfl
  have h5 := lv_at hl 5 rfl
  obtain ⟨hx, hcb, hml, hown, hts, hK, hZ, hX, hbl⟩ := id C
  rcases hSim (xs (6 * n + 1)) G w v K zc zm hw hv hJ with ⟨P1, P2, m1, m2, ag⟩ | ⟨P2, m1, m2, ag⟩
  · refine lv_aload_n hx hcb dL_law_1293 rfl h1 ?_
    refine j_s (k := 1) C hS h0 h5 (by decide) (by omega) hL dL_law_1294 dL_law_1295 dL_law_1297 dL_law_1298 dL_law_1299 ?_
    refine lv_aload_n hx hcb dL_law_1300 rfl h3 ?_
    refine j_h (As := [.ref (w.2.2 0), .int (xs (6 * n + 1)), .ref ou]) (rest := []) C hI hS (n_L_ratePoints l G cD w K hw zc f ou _ (xs (6 * n + 1)) m1) mh_L_ratePoints q_1065 rfl hl.1 rfl (Nat.le_of_ble_eq_true rfl) dL_law_1301 ⟨by decide, by decide⟩ ⟨l_ofr (by decide) hr.1, l_ofr (by decide) hr.2⟩ (fun r1 z1 e3 H locs hp1 hI hS => ?_)
    obtain ⟨rfl, a1, hp1, he⟩ := hp1
    have he : e3 = _ := he
    subst he
    refine lv_istore (lv' := (6, .int 0) :: lL b w v ou od n) hx hcb dL_law_1304 hl (by decide) rfl (fun ls hl => ?_)
    have h0 := lv_at hl 1 rfl
    have h2 := lv_at hl 3 rfl
    have h3 := lv_at hl 4 rfl
    have h4 := lv_at hl 5 rfl
    have h5 := lv_at hl 6 rfl
    refine lv_aload_n hx hcb dL_law_1306 rfl h2 ?_
    refine j_s (k := 1) C hS h0 h5 (by decide) (by omega) hL dL_law_1307 dL_law_1308 dL_law_1310 dL_law_1311 dL_law_1312 ?_
    refine j_m (As := [.int (xs (6 * n + 1))]) (rest := []) C hI hS hv (m2 _) mv_X10_ratePoints q_1532 rfl hl.1 rfl (Nat.le_of_ble_eq_true rfl) dL_law_1313 ⟨by decide, by decide⟩ ⟨l_ofr2 (by decide) hr.1, l_ofr2 (by decide) hr.2⟩ (fun r2 z2 H locs hp2 hI hS => ?_)
    obtain ⟨er, et, hJ⟩ := ag _ _ _ _ hp1 hp2
    subst er
    refine lv_istore (lv' := (7, .int a1) :: (6, .int 0) :: lL b w v ou od n) hx hcb dL_law_1316 hl (by decide) rfl (fun ls hl => ?_)
    have h2 := lv_at hl 4 rfl
    have h3 := lv_at hl 5 rfl
    have h4 := lv_at hl 6 rfl
    have h6 := lv_at hl 1 rfl
    have h7 := lv_at hl 0 rfl
    refine lv_aload_n hx hcb dL_law_1318 rfl h2 ?_
    refine j_m (As := []) (rest := []) C hI hS hv (c_X10_thrown l G v hv z2 _) mv_X10_thrown q_1263 rfl hl.1 rfl (Nat.le_of_ble_eq_true rfl) dL_law_1319 ⟨by decide, by decide⟩ ⟨l_ofr3 (by decide) hr.1, l_ofr3 (by decide) hr.2⟩ (fun r3 z3 H locs hp3 hI hS => ?_)
    obtain ⟨e4, e5⟩ := hp3
    rw [e5] at hI
    rw [et] at e4
    subst e4
    refine lv_iload hx hcb dL_law_1322 h6 ?_
    refine lv_icmp_eq (tgt := 1329) hx hcb dL_law_1324 (by decide) (fun _ => ?_) (fun h => absurd rfl h)
    refine lv_iload hx hcb dL_law_1329 h6 ?_
    refine lv_if_ne (tgt := 1346) hx hcb dL_law_1331 (by decide) (fun h => absurd rfl h) (fun _ => ?_)
    refine lv_aload_n hx hcb dL_law_1334 rfl h3 ?_
    refine lv_iconst (v := nI 0) hx hcb dL_law_1335 (by decide) ?_
    refine va_lald (D := G.1) (cl := vwCl) (tys := xtyD G cD) (cA := G.2 3) (n := 1) (f := va_up f 0 a1.toInt64) (i := nI 0) hx hcb hK hI.1.2.2.1 0 3 rfl rfl (vp_in_nI (by decide) (by decide)) dL_law_1336 ?_
    rw [show va_up f 0 a1.toInt64 (nI 0).toNatClampNeg = a1.toInt64 from va_up_self ..]
    refine lv_iload hx hcb dL_law_1337 h7 ?_
    refine lv_i2l hx hcb dL_law_1339 rfl ?_
    refine W.lcmp hx hcb dL_law_1340 ?_
    rw [lcmp_self]
    refine lv_if_eq (tgt := 1346) hx hcb dL_law_1341 (by decide) (fun _ => ?_) (fun h => absurd rfl h)
    refine lv_goto (tgt := 2584) hx hcb dL_law_1346 (by decide) ?_
    refine W.widen (k := cells + 48) (n := slots + 574) (l_ofr3 (by decide) (Nat.le_refl _)) (l_ofr3 (by decide) (Nat.le_refl _)) ?_
    exact hk K w z1 z2 _ g H locs ls hw hJ hI hS (lv_sub hl [2, 3, 4, 5, 6, 7] rfl)
  · refine lv_aload_n hx hcb dL_law_1293 rfl h1 ?_
    refine j_s (k := 1) C hS h0 h5 (by decide) (by omega) hL dL_law_1294 dL_law_1295 dL_law_1297 dL_law_1298 dL_law_1299 ?_
    refine lv_aload_n hx hcb dL_law_1300 rfl h3 ?_
    refine j_h (As := [.ref (w.2.2 0), .int (xs (6 * n + 1)), .ref ou]) (rest := []) C hI hS (x_L_ratePoints l G cD w K hw zc f ou _ (xs (6 * n + 1)) m1) mh_L_ratePoints q_1065 rfl hl.1 rfl (Nat.le_of_ble_eq_true rfl) dL_law_1301 ⟨by decide, by decide⟩ ⟨l_ofr (by decide) hr.1, l_ofr (by decide) hr.2⟩ (fun r1 z1 e3 H locs hp1 hI hS => ?_)
    obtain ⟨rfl, he⟩ := hp1
    rw [(Prod.mk.inj he).1, (Prod.mk.inj he).2] at hI
    refine lv_istore (lv' := (6, .int 1) :: lL b w v ou od n) hx hcb dL_law_1304 hl (by decide) rfl (fun ls hl => ?_)
    have h0 := lv_at hl 1 rfl
    have h2 := lv_at hl 3 rfl
    have h3 := lv_at hl 4 rfl
    have h4 := lv_at hl 5 rfl
    have h5 := lv_at hl 6 rfl
    refine lv_aload_n hx hcb dL_law_1306 rfl h2 ?_
    refine j_s (k := 1) C hS h0 h5 (by decide) (by omega) hL dL_law_1307 dL_law_1308 dL_law_1310 dL_law_1311 dL_law_1312 ?_
    refine j_m (As := [.int (xs (6 * n + 1))]) (rest := []) C hI hS hv (m2 _) mv_X10_ratePoints q_1532 rfl hl.1 rfl (Nat.le_of_ble_eq_true rfl) dL_law_1313 ⟨by decide, by decide⟩ ⟨l_ofr2 (by decide) hr.1, l_ofr2 (by decide) hr.2⟩ (fun r2 z2 H locs hp2 hI hS => ?_)
    obtain ⟨et, hJ⟩ := ag _ _ hp2
    refine lv_istore (lv' := (7, .int r2) :: (6, .int 1) :: lL b w v ou od n) hx hcb dL_law_1316 hl (by decide) rfl (fun ls hl => ?_)
    have h2 := lv_at hl 4 rfl
    have h3 := lv_at hl 5 rfl
    have h4 := lv_at hl 6 rfl
    have h6 := lv_at hl 1 rfl
    have h7 := lv_at hl 0 rfl
    refine lv_aload_n hx hcb dL_law_1318 rfl h2 ?_
    refine j_m (As := []) (rest := []) C hI hS hv (c_X10_thrown l G v hv z2 _) mv_X10_thrown q_1263 rfl hl.1 rfl (Nat.le_of_ble_eq_true rfl) dL_law_1319 ⟨by decide, by decide⟩ ⟨l_ofr3 (by decide) hr.1, l_ofr3 (by decide) hr.2⟩ (fun r3 z3 H locs hp3 hI hS => ?_)
    obtain ⟨e4, e5⟩ := hp3
    rw [e5] at hI
    rw [et] at e4
    subst e4
    refine lv_iload hx hcb dL_law_1322 h6 ?_
    refine lv_icmp_eq (tgt := 1329) hx hcb dL_law_1324 (by decide) (fun _ => ?_) (fun h => absurd rfl h)
    refine lv_iload hx hcb dL_law_1329 h6 ?_
    refine lv_if_ne (tgt := 1346) hx hcb dL_law_1331 (by decide) (fun _ => ?_) (fun h => absurd h (by decide))
    refine lv_goto (tgt := 2584) hx hcb dL_law_1346 (by decide) ?_
    refine W.widen (k := cells + 48) (n := slots + 574) (l_ofr3 (by decide) (Nat.le_refl _)) (l_ofr3 (by decide) (Nat.le_refl _)) ?_
    exact hk K w zc z2 f g H locs ls hw hJ hI hS (lv_sub hl [2, 3, 4, 5, 6, 7] rfl)
set_option maxRecDepth 100000 in
set_option maxHeartbeats 4000000 in
theorem k_meanAge (C : lC p s m args c b L xs G cD) (hL : L ≤ 3072) (hn : 6 * n + 6 ≤ L) (hw : isC K w) (hv : isM v) (hJ : J K zc zm) (hI : lJ G w v zc zm ou od (lE1 G f) (lE2 cD g) s.heap.size H) (hS : va_S (lA s) s.heap H locs) (hl : lv_has ls 9 (lL b w v ou od n)) (hr : cells + 48 ≤ 601024 ∧ slots + 574 ≤ 7293034) (hk : lK p l e s m args below meth c cells slots Q G cD v ou od b n J)
    (hSim : ∀ x0 : Int32, lTd l J yX9_meanAge cX9_meanAge 4 (some FieldType.double) rm_X9_meanAge rx_X9_meanAge yX10_meanAge cX10_meanAge 5 (some FieldType.double) rm_X10_meanAge [.int x0]) : W p l e room_1 s m args below meth c H locs cells slots Q (F0 m 1349 ls []) := by
  have h0 := lv_at hl 0 rfl
  have h1 := lv_at hl 1 rfl
  have h2 := lv_at hl 2 rfl
  have h3 := lv_at hl 3 rfl
  have h4 := lv_at hl 4 rfl
  have h5 := lv_at hl 5 rfl
  obtain ⟨hx, hcb, hml, hown, hts, hK, hZ, hX, hbl⟩ := id C
  rcases hSim (xs (6 * n + 1)) G w v K zc zm hw hv hJ with ⟨P1, P2, m1, m2, ag⟩ | ⟨P2, m1, m2, ag⟩
  · refine lv_aload_n hx hcb dL_law_1349 rfl h1 ?_
    refine j_s (k := 1) C hS h0 h5 (by decide) (by omega) hL dL_law_1350 dL_law_1351 dL_law_1353 dL_law_1354 dL_law_1355 ?_
    refine lv_aload hx hcb dL_law_1356 h4 ?_
    refine j_hD (As := [.ref (w.2.2 0), .int (xs (6 * n + 1)), .ref od]) (rest := []) C hI hS (n_L_meanAge l G cD w K hw zc g od _ (xs (6 * n + 1)) m1) mh_L_meanAge q_1073 rfl hl.1 rfl (Nat.le_of_ble_eq_true rfl) dL_law_1358 ⟨by decide, by decide⟩ ⟨l_ofr (by decide) hr.1, l_ofr (by decide) hr.2⟩ (fun r1 z1 e3 H locs hp1 hI hS => ?_)
    obtain ⟨rfl, a1, hp1, he⟩ := hp1
    have he : e3 = _ := he
    subst he
    refine lv_istore (lv' := (6, .int 0) :: lL b w v ou od n) hx hcb dL_law_1361 hl (by decide) rfl (fun ls hl => ?_)
    have h0 := lv_at hl 1 rfl
    have h2 := lv_at hl 3 rfl
    have h3 := lv_at hl 4 rfl
    have h4 := lv_at hl 5 rfl
    have h5 := lv_at hl 6 rfl
    refine lv_aload_n hx hcb dL_law_1363 rfl h2 ?_
    refine j_s (k := 1) C hS h0 h5 (by decide) (by omega) hL dL_law_1364 dL_law_1365 dL_law_1367 dL_law_1368 dL_law_1369 ?_
    refine j_md (As := [.int (xs (6 * n + 1))]) (rest := []) C hI hS hv (m2 _) mv_X10_meanAge q_1537 rfl hl.1 rfl (Nat.le_of_ble_eq_true rfl) dL_law_1370 ⟨by decide, by decide⟩ ⟨l_ofr2 (by decide) hr.1, l_ofr2 (by decide) hr.2⟩ (fun r2 z2 H locs hp2 hI hS => ?_)
    obtain ⟨er, et, hJ⟩ := ag _ _ _ _ hp1 hp2
    subst er
    refine lv_dstore (lv' := (7, .double a1) :: (6, .int 0) :: lL b w v ou od n) hx hcb dL_law_1373 hl (by decide) rfl (fun ls hl => ?_)
    have h2 := lv_at hl 4 rfl
    have h3 := lv_at hl 5 rfl
    have h4 := lv_at hl 6 rfl
    have h6 := lv_at hl 1 rfl
    have h7 := lv_at hl 0 rfl
    refine lv_aload_n hx hcb dL_law_1375 rfl h2 ?_
    refine j_m (As := []) (rest := []) C hI hS hv (c_X10_thrown l G v hv z2 _) mv_X10_thrown q_1263 rfl hl.1 rfl (Nat.le_of_ble_eq_true rfl) dL_law_1376 ⟨by decide, by decide⟩ ⟨l_ofr3 (by decide) hr.1, l_ofr3 (by decide) hr.2⟩ (fun r3 z3 H locs hp3 hI hS => ?_)
    obtain ⟨e4, e5⟩ := hp3
    rw [e5] at hI
    rw [et] at e4
    subst e4
    refine lv_iload hx hcb dL_law_1379 h6 ?_
    refine lv_icmp_eq (tgt := 1386) hx hcb dL_law_1381 (by decide) (fun _ => ?_) (fun h => absurd rfl h)
    refine lv_iload hx hcb dL_law_1386 h6 ?_
    refine lv_if_ne (tgt := 1423) hx hcb dL_law_1388 (by decide) (fun h => absurd rfl h) (fun _ => ?_)
    refine lv_aload hx hcb dL_law_1391 h4 ?_
    refine lv_iconst (v := nI 0) hx hcb dL_law_1393 (by decide) ?_
    refine va_dald (D := G.1) (cl := vwCl) (tys := xtyD G cD) (cA := cD) (n := 1) (f := va_up g 0 a1) (i := nI 0) hx hcb hK hI.1.2.2.2 0 7 rfl rfl (vp_in_nI (by decide) (by decide)) dL_law_1394 ?_
    rw [show va_up g 0 a1 (nI 0).toNatClampNeg = a1 from va_up_self ..]
    refine lv_dload hx hcb dL_law_1395 h7 ?_
    refine lv_dcmp hx hcb dL_law_1397 ?_
    refine lv_if_eq (tgt := 1423) hx hcb dL_law_1398 (by decide) (fun _ => ?_) (fun hne => ?_)
    · refine lv_goto (tgt := 2584) hx hcb dL_law_1423 (by decide) ?_
      refine W.widen (k := cells + 48) (n := slots + 574) (l_ofr3 (by decide) (Nat.le_refl _)) (l_ofr3 (by decide) (Nat.le_refl _)) ?_
      exact hk K w z1 z2 f _ H locs ls hw hJ hI hS (lv_sub hl [2, 3, 4, 5, 6, 7] rfl)
    · refine lv_aload hx hcb dL_law_1401 h4 ?_
      refine lv_iconst (v := nI 0) hx hcb dL_law_1403 (by decide) ?_
      refine va_dald (D := G.1) (cl := vwCl) (tys := xtyD G cD) (cA := cD) (n := 1) (f := va_up g 0 a1) (i := nI 0) hx hcb hK hI.1.2.2.2 0 7 rfl rfl (vp_in_nI (by decide) (by decide)) dL_law_1404 ?_
      rw [show va_up g 0 a1 (nI 0).toNatClampNeg = a1 from va_up_self ..]
      refine lv_aload hx hcb dL_law_1405 h4 ?_
      refine lv_iconst (v := nI 0) hx hcb dL_law_1407 (by decide) ?_
      refine va_dald (D := G.1) (cl := vwCl) (tys := xtyD G cD) (cA := cD) (n := 1) (f := va_up g 0 a1) (i := nI 0) hx hcb hK hI.1.2.2.2 0 7 rfl rfl (vp_in_nI (by decide) (by decide)) dL_law_1408 ?_
      rw [show va_up g 0 a1 (nI 0).toNatClampNeg = a1 from va_up_self ..]
      refine lv_dcmp hx hcb dL_law_1409 ?_
      refine lv_if_eq (tgt := 1421) hx hcb dL_law_1410 (by decide) (fun h => absurd h hne) (fun _ => ?_)
      refine lv_dload hx hcb dL_law_1413 h7 ?_
      refine lv_dload hx hcb dL_law_1415 h7 ?_
      refine lv_dcmp hx hcb dL_law_1417 ?_
      refine lv_if_ne (tgt := 1423) hx hcb dL_law_1418 (by decide) (fun _ => ?_) (fun h => absurd h hne)
      refine lv_goto (tgt := 2584) hx hcb dL_law_1423 (by decide) ?_
      refine W.widen (k := cells + 48) (n := slots + 574) (l_ofr3 (by decide) (Nat.le_refl _)) (l_ofr3 (by decide) (Nat.le_refl _)) ?_
      exact hk K w z1 z2 f _ H locs ls hw hJ hI hS (lv_sub hl [2, 3, 4, 5, 6, 7] rfl)
  · refine lv_aload_n hx hcb dL_law_1349 rfl h1 ?_
    refine j_s (k := 1) C hS h0 h5 (by decide) (by omega) hL dL_law_1350 dL_law_1351 dL_law_1353 dL_law_1354 dL_law_1355 ?_
    refine lv_aload hx hcb dL_law_1356 h4 ?_
    refine j_hD (As := [.ref (w.2.2 0), .int (xs (6 * n + 1)), .ref od]) (rest := []) C hI hS (x_L_meanAge l G cD w K hw zc g od _ (xs (6 * n + 1)) m1) mh_L_meanAge q_1073 rfl hl.1 rfl (Nat.le_of_ble_eq_true rfl) dL_law_1358 ⟨by decide, by decide⟩ ⟨l_ofr (by decide) hr.1, l_ofr (by decide) hr.2⟩ (fun r1 z1 e3 H locs hp1 hI hS => ?_)
    obtain ⟨rfl, he⟩ := hp1
    rw [(Prod.mk.inj he).1, (Prod.mk.inj he).2] at hI
    refine lv_istore (lv' := (6, .int 1) :: lL b w v ou od n) hx hcb dL_law_1361 hl (by decide) rfl (fun ls hl => ?_)
    have h0 := lv_at hl 1 rfl
    have h2 := lv_at hl 3 rfl
    have h3 := lv_at hl 4 rfl
    have h4 := lv_at hl 5 rfl
    have h5 := lv_at hl 6 rfl
    refine lv_aload_n hx hcb dL_law_1363 rfl h2 ?_
    refine j_s (k := 1) C hS h0 h5 (by decide) (by omega) hL dL_law_1364 dL_law_1365 dL_law_1367 dL_law_1368 dL_law_1369 ?_
    refine j_md (As := [.int (xs (6 * n + 1))]) (rest := []) C hI hS hv (m2 _) mv_X10_meanAge q_1537 rfl hl.1 rfl (Nat.le_of_ble_eq_true rfl) dL_law_1370 ⟨by decide, by decide⟩ ⟨l_ofr2 (by decide) hr.1, l_ofr2 (by decide) hr.2⟩ (fun r2 z2 H locs hp2 hI hS => ?_)
    obtain ⟨et, hJ⟩ := ag _ _ hp2
    refine lv_dstore (lv' := (7, .double r2) :: (6, .int 1) :: lL b w v ou od n) hx hcb dL_law_1373 hl (by decide) rfl (fun ls hl => ?_)
    have h2 := lv_at hl 4 rfl
    have h3 := lv_at hl 5 rfl
    have h4 := lv_at hl 6 rfl
    have h6 := lv_at hl 1 rfl
    have h7 := lv_at hl 0 rfl
    refine lv_aload_n hx hcb dL_law_1375 rfl h2 ?_
    refine j_m (As := []) (rest := []) C hI hS hv (c_X10_thrown l G v hv z2 _) mv_X10_thrown q_1263 rfl hl.1 rfl (Nat.le_of_ble_eq_true rfl) dL_law_1376 ⟨by decide, by decide⟩ ⟨l_ofr3 (by decide) hr.1, l_ofr3 (by decide) hr.2⟩ (fun r3 z3 H locs hp3 hI hS => ?_)
    obtain ⟨e4, e5⟩ := hp3
    rw [e5] at hI
    rw [et] at e4
    subst e4
    refine lv_iload hx hcb dL_law_1379 h6 ?_
    refine lv_icmp_eq (tgt := 1386) hx hcb dL_law_1381 (by decide) (fun _ => ?_) (fun h => absurd rfl h)
    refine lv_iload hx hcb dL_law_1386 h6 ?_
    refine lv_if_ne (tgt := 1423) hx hcb dL_law_1388 (by decide) (fun _ => ?_) (fun h => absurd h (by decide))
    refine lv_goto (tgt := 2584) hx hcb dL_law_1423 (by decide) ?_
    refine W.widen (k := cells + 48) (n := slots + 574) (l_ofr3 (by decide) (Nat.le_refl _)) (l_ofr3 (by decide) (Nat.le_refl _)) ?_
    exact hk K w zc z2 f g H locs ls hw hJ hI hS (lv_sub hl [2, 3, 4, 5, 6, 7] rfl)
set_option maxRecDepth 100000 in
set_option maxHeartbeats 4000000 in
theorem k_oldestYear (C : lC p s m args c b L xs G cD) (hL : L ≤ 3072) (hn : 6 * n + 6 ≤ L) (hw : isC K w) (hv : isM v) (hJ : J K zc zm) (hI : lJ G w v zc zm ou od (lE1 G f) (lE2 cD g) s.heap.size H) (hS : va_S (lA s) s.heap H locs) (hl : lv_has ls 9 (lL b w v ou od n)) (hr : cells + 48 ≤ 601024 ∧ slots + 574 ≤ 7293034) (hk : lK p l e s m args below meth c cells slots Q G cD v ou od b n J)
    (hSim : ∀ x0 : Int32, lT l J yX9_oldestYear cX9_oldestYear 2 (some FieldType.int) rm_X9_oldestYear rx_X9_oldestYear yX10_oldestYear cX10_oldestYear 3 (some FieldType.int) rm_X10_oldestYear [.int x0]) : W p l e room_1 s m args below meth c H locs cells slots Q (F0 m 1426 ls []) := by
  have h0 := lv_at hl 0 rfl
  have h1 := lv_at hl 1 rfl
  have h2 := lv_at hl 2 rfl
  have h3 := lv_at hl 3 rfl
  have h4 := lv_at hl 4 rfl
  have h5 := lv_at hl 5 rfl
  obtain ⟨hx, hcb, hml, hown, hts, hK, hZ, hX, hbl⟩ := id C
  rcases hSim (xs (6 * n + 1)) G w v K zc zm hw hv hJ with ⟨P1, P2, m1, m2, ag⟩ | ⟨P2, m1, m2, ag⟩
  · refine lv_aload_n hx hcb dL_law_1426 rfl h1 ?_
    refine j_s (k := 1) C hS h0 h5 (by decide) (by omega) hL dL_law_1427 dL_law_1428 dL_law_1430 dL_law_1431 dL_law_1432 ?_
    refine lv_aload_n hx hcb dL_law_1433 rfl h3 ?_
    refine j_h (As := [.ref (w.2.2 0), .int (xs (6 * n + 1)), .ref ou]) (rest := []) C hI hS (n_L_oldestYear l G cD w K hw zc f ou _ (xs (6 * n + 1)) m1) mh_L_oldestYear q_1085 rfl hl.1 rfl (Nat.le_of_ble_eq_true rfl) dL_law_1434 ⟨by decide, by decide⟩ ⟨l_ofr (by decide) hr.1, l_ofr (by decide) hr.2⟩ (fun r1 z1 e3 H locs hp1 hI hS => ?_)
    obtain ⟨rfl, a1, hp1, he⟩ := hp1
    have he : e3 = _ := he
    subst he
    refine lv_istore (lv' := (6, .int 0) :: lL b w v ou od n) hx hcb dL_law_1437 hl (by decide) rfl (fun ls hl => ?_)
    have h0 := lv_at hl 1 rfl
    have h2 := lv_at hl 3 rfl
    have h3 := lv_at hl 4 rfl
    have h4 := lv_at hl 5 rfl
    have h5 := lv_at hl 6 rfl
    refine lv_aload_n hx hcb dL_law_1439 rfl h2 ?_
    refine j_s (k := 1) C hS h0 h5 (by decide) (by omega) hL dL_law_1440 dL_law_1441 dL_law_1443 dL_law_1444 dL_law_1445 ?_
    refine j_m (As := [.int (xs (6 * n + 1))]) (rest := []) C hI hS hv (m2 _) mv_X10_oldestYear q_1542 rfl hl.1 rfl (Nat.le_of_ble_eq_true rfl) dL_law_1446 ⟨by decide, by decide⟩ ⟨l_ofr2 (by decide) hr.1, l_ofr2 (by decide) hr.2⟩ (fun r2 z2 H locs hp2 hI hS => ?_)
    obtain ⟨er, et, hJ⟩ := ag _ _ _ _ hp1 hp2
    subst er
    refine lv_istore (lv' := (7, .int a1) :: (6, .int 0) :: lL b w v ou od n) hx hcb dL_law_1449 hl (by decide) rfl (fun ls hl => ?_)
    have h2 := lv_at hl 4 rfl
    have h3 := lv_at hl 5 rfl
    have h4 := lv_at hl 6 rfl
    have h6 := lv_at hl 1 rfl
    have h7 := lv_at hl 0 rfl
    refine lv_aload_n hx hcb dL_law_1451 rfl h2 ?_
    refine j_m (As := []) (rest := []) C hI hS hv (c_X10_thrown l G v hv z2 _) mv_X10_thrown q_1263 rfl hl.1 rfl (Nat.le_of_ble_eq_true rfl) dL_law_1452 ⟨by decide, by decide⟩ ⟨l_ofr3 (by decide) hr.1, l_ofr3 (by decide) hr.2⟩ (fun r3 z3 H locs hp3 hI hS => ?_)
    obtain ⟨e4, e5⟩ := hp3
    rw [e5] at hI
    rw [et] at e4
    subst e4
    refine lv_iload hx hcb dL_law_1455 h6 ?_
    refine lv_icmp_eq (tgt := 1462) hx hcb dL_law_1457 (by decide) (fun _ => ?_) (fun h => absurd rfl h)
    refine lv_iload hx hcb dL_law_1462 h6 ?_
    refine lv_if_ne (tgt := 1479) hx hcb dL_law_1464 (by decide) (fun h => absurd rfl h) (fun _ => ?_)
    refine lv_aload_n hx hcb dL_law_1467 rfl h3 ?_
    refine lv_iconst (v := nI 0) hx hcb dL_law_1468 (by decide) ?_
    refine va_lald (D := G.1) (cl := vwCl) (tys := xtyD G cD) (cA := G.2 3) (n := 1) (f := va_up f 0 a1.toInt64) (i := nI 0) hx hcb hK hI.1.2.2.1 0 3 rfl rfl (vp_in_nI (by decide) (by decide)) dL_law_1469 ?_
    rw [show va_up f 0 a1.toInt64 (nI 0).toNatClampNeg = a1.toInt64 from va_up_self ..]
    refine lv_iload hx hcb dL_law_1470 h7 ?_
    refine lv_i2l hx hcb dL_law_1472 rfl ?_
    refine W.lcmp hx hcb dL_law_1473 ?_
    rw [lcmp_self]
    refine lv_if_eq (tgt := 1479) hx hcb dL_law_1474 (by decide) (fun _ => ?_) (fun h => absurd rfl h)
    refine lv_goto (tgt := 2584) hx hcb dL_law_1479 (by decide) ?_
    refine W.widen (k := cells + 48) (n := slots + 574) (l_ofr3 (by decide) (Nat.le_refl _)) (l_ofr3 (by decide) (Nat.le_refl _)) ?_
    exact hk K w z1 z2 _ g H locs ls hw hJ hI hS (lv_sub hl [2, 3, 4, 5, 6, 7] rfl)
  · refine lv_aload_n hx hcb dL_law_1426 rfl h1 ?_
    refine j_s (k := 1) C hS h0 h5 (by decide) (by omega) hL dL_law_1427 dL_law_1428 dL_law_1430 dL_law_1431 dL_law_1432 ?_
    refine lv_aload_n hx hcb dL_law_1433 rfl h3 ?_
    refine j_h (As := [.ref (w.2.2 0), .int (xs (6 * n + 1)), .ref ou]) (rest := []) C hI hS (x_L_oldestYear l G cD w K hw zc f ou _ (xs (6 * n + 1)) m1) mh_L_oldestYear q_1085 rfl hl.1 rfl (Nat.le_of_ble_eq_true rfl) dL_law_1434 ⟨by decide, by decide⟩ ⟨l_ofr (by decide) hr.1, l_ofr (by decide) hr.2⟩ (fun r1 z1 e3 H locs hp1 hI hS => ?_)
    obtain ⟨rfl, he⟩ := hp1
    rw [(Prod.mk.inj he).1, (Prod.mk.inj he).2] at hI
    refine lv_istore (lv' := (6, .int 1) :: lL b w v ou od n) hx hcb dL_law_1437 hl (by decide) rfl (fun ls hl => ?_)
    have h0 := lv_at hl 1 rfl
    have h2 := lv_at hl 3 rfl
    have h3 := lv_at hl 4 rfl
    have h4 := lv_at hl 5 rfl
    have h5 := lv_at hl 6 rfl
    refine lv_aload_n hx hcb dL_law_1439 rfl h2 ?_
    refine j_s (k := 1) C hS h0 h5 (by decide) (by omega) hL dL_law_1440 dL_law_1441 dL_law_1443 dL_law_1444 dL_law_1445 ?_
    refine j_m (As := [.int (xs (6 * n + 1))]) (rest := []) C hI hS hv (m2 _) mv_X10_oldestYear q_1542 rfl hl.1 rfl (Nat.le_of_ble_eq_true rfl) dL_law_1446 ⟨by decide, by decide⟩ ⟨l_ofr2 (by decide) hr.1, l_ofr2 (by decide) hr.2⟩ (fun r2 z2 H locs hp2 hI hS => ?_)
    obtain ⟨et, hJ⟩ := ag _ _ hp2
    refine lv_istore (lv' := (7, .int r2) :: (6, .int 1) :: lL b w v ou od n) hx hcb dL_law_1449 hl (by decide) rfl (fun ls hl => ?_)
    have h2 := lv_at hl 4 rfl
    have h3 := lv_at hl 5 rfl
    have h4 := lv_at hl 6 rfl
    have h6 := lv_at hl 1 rfl
    have h7 := lv_at hl 0 rfl
    refine lv_aload_n hx hcb dL_law_1451 rfl h2 ?_
    refine j_m (As := []) (rest := []) C hI hS hv (c_X10_thrown l G v hv z2 _) mv_X10_thrown q_1263 rfl hl.1 rfl (Nat.le_of_ble_eq_true rfl) dL_law_1452 ⟨by decide, by decide⟩ ⟨l_ofr3 (by decide) hr.1, l_ofr3 (by decide) hr.2⟩ (fun r3 z3 H locs hp3 hI hS => ?_)
    obtain ⟨e4, e5⟩ := hp3
    rw [e5] at hI
    rw [et] at e4
    subst e4
    refine lv_iload hx hcb dL_law_1455 h6 ?_
    refine lv_icmp_eq (tgt := 1462) hx hcb dL_law_1457 (by decide) (fun _ => ?_) (fun h => absurd rfl h)
    refine lv_iload hx hcb dL_law_1462 h6 ?_
    refine lv_if_ne (tgt := 1479) hx hcb dL_law_1464 (by decide) (fun _ => ?_) (fun h => absurd h (by decide))
    refine lv_goto (tgt := 2584) hx hcb dL_law_1479 (by decide) ?_
    refine W.widen (k := cells + 48) (n := slots + 574) (l_ofr3 (by decide) (Nat.le_refl _)) (l_ofr3 (by decide) (Nat.le_refl _)) ?_
    exact hk K w zc z2 f g H locs ls hw hJ hI hS (lv_sub hl [2, 3, 4, 5, 6, 7] rfl)
set_option maxRecDepth 100000 in
set_option maxHeartbeats 4000000 in
theorem k_isUniform (C : lC p s m args c b L xs G cD) (hL : L ≤ 3072) (hn : 6 * n + 6 ≤ L) (hw : isC K w) (hv : isM v) (hJ : J K zc zm) (hI : lJ G w v zc zm ou od (lE1 G f) (lE2 cD g) s.heap.size H) (hS : va_S (lA s) s.heap H locs) (hl : lv_has ls 9 (lL b w v ou od n)) (hr : cells + 48 ≤ 601024 ∧ slots + 574 ≤ 7293034) (hk : lK p l e s m args below meth c cells slots Q G cD v ou od b n J)
    (hSim : ∀ x0 : Int32, lT l J yX9_isUniform cX9_isUniform 3 (some FieldType.boolean) rm_X9_isUniform rx_X9_isUniform yX10_isUniform cX10_isUniform 2 (some FieldType.boolean) rm_X10_isUniform [.int x0]) : W p l e room_1 s m args below meth c H locs cells slots Q (F0 m 1482 ls []) := by
  have h0 := lv_at hl 0 rfl
  have h1 := lv_at hl 1 rfl
  have h2 := lv_at hl 2 rfl
  have h3 := lv_at hl 3 rfl
  have h4 := lv_at hl 4 rfl
  have h5 := lv_at hl 5 rfl
  obtain ⟨hx, hcb, hml, hown, hts, hK, hZ, hX, hbl⟩ := id C
  rcases hSim (xs (6 * n + 1)) G w v K zc zm hw hv hJ with ⟨P1, P2, m1, m2, ag⟩ | ⟨P2, m1, m2, ag⟩
  · refine lv_aload_n hx hcb dL_law_1482 rfl h1 ?_
    refine j_s (k := 1) C hS h0 h5 (by decide) (by omega) hL dL_law_1483 dL_law_1484 dL_law_1486 dL_law_1487 dL_law_1488 ?_
    refine lv_aload_n hx hcb dL_law_1489 rfl h3 ?_
    refine j_h (As := [.ref (w.2.2 0), .int (xs (6 * n + 1)), .ref ou]) (rest := []) C hI hS (n_L_isUniform l G cD w K hw zc f ou _ (xs (6 * n + 1)) m1) mh_L_isUniform q_1096 rfl hl.1 rfl (Nat.le_of_ble_eq_true rfl) dL_law_1490 ⟨by decide, by decide⟩ ⟨l_ofr (by decide) hr.1, l_ofr (by decide) hr.2⟩ (fun r1 z1 e3 H locs hp1 hI hS => ?_)
    obtain ⟨rfl, a1, hp1, he⟩ := hp1
    have he : e3 = _ := he
    subst he
    refine lv_istore (lv' := (6, .int 0) :: lL b w v ou od n) hx hcb dL_law_1493 hl (by decide) rfl (fun ls hl => ?_)
    have h0 := lv_at hl 1 rfl
    have h2 := lv_at hl 3 rfl
    have h3 := lv_at hl 4 rfl
    have h4 := lv_at hl 5 rfl
    have h5 := lv_at hl 6 rfl
    refine lv_aload_n hx hcb dL_law_1495 rfl h2 ?_
    refine j_s (k := 1) C hS h0 h5 (by decide) (by omega) hL dL_law_1496 dL_law_1497 dL_law_1499 dL_law_1500 dL_law_1501 ?_
    refine j_m (As := [.int (xs (6 * n + 1))]) (rest := []) C hI hS hv (m2 _) mv_X10_isUniform q_1546 rfl hl.1 rfl (Nat.le_of_ble_eq_true rfl) dL_law_1502 ⟨by decide, by decide⟩ ⟨l_ofr2 (by decide) hr.1, l_ofr2 (by decide) hr.2⟩ (fun r2 z2 H locs hp2 hI hS => ?_)
    obtain ⟨er, et, hJ⟩ := ag _ _ _ _ hp1 hp2
    subst er
    refine lv_istore (lv' := (7, .int a1) :: (6, .int 0) :: lL b w v ou od n) hx hcb dL_law_1505 hl (by decide) rfl (fun ls hl => ?_)
    have h2 := lv_at hl 4 rfl
    have h3 := lv_at hl 5 rfl
    have h4 := lv_at hl 6 rfl
    have h6 := lv_at hl 1 rfl
    have h7 := lv_at hl 0 rfl
    refine lv_aload_n hx hcb dL_law_1507 rfl h2 ?_
    refine j_m (As := []) (rest := []) C hI hS hv (c_X10_thrown l G v hv z2 _) mv_X10_thrown q_1263 rfl hl.1 rfl (Nat.le_of_ble_eq_true rfl) dL_law_1508 ⟨by decide, by decide⟩ ⟨l_ofr3 (by decide) hr.1, l_ofr3 (by decide) hr.2⟩ (fun r3 z3 H locs hp3 hI hS => ?_)
    obtain ⟨e4, e5⟩ := hp3
    rw [e5] at hI
    rw [et] at e4
    subst e4
    refine lv_iload hx hcb dL_law_1511 h6 ?_
    refine lv_icmp_eq (tgt := 1518) hx hcb dL_law_1513 (by decide) (fun _ => ?_) (fun h => absurd rfl h)
    refine lv_iload hx hcb dL_law_1518 h6 ?_
    refine lv_if_ne (tgt := 1542) hx hcb dL_law_1520 (by decide) (fun h => absurd rfl h) (fun _ => ?_)
    refine lv_aload_n hx hcb dL_law_1523 rfl h3 ?_
    refine lv_iconst (v := nI 0) hx hcb dL_law_1524 (by decide) ?_
    refine va_lald (D := G.1) (cl := vwCl) (tys := xtyD G cD) (cA := G.2 3) (n := 1) (f := va_up f 0 (if a1 = 0 then (0 : Int64) else 1)) (i := nI 0) hx hcb hK hI.1.2.2.1 0 3 rfl rfl (vp_in_nI (by decide) (by decide)) dL_law_1525 ?_
    rw [show va_up f 0 (if a1 = 0 then (0 : Int64) else 1) (nI 0).toNatClampNeg = (if a1 = 0 then (0 : Int64) else 1) from va_up_self ..]
    refine lv_iload hx hcb dL_law_1526 h7 ?_
    refine lv_if_eq (tgt := 1535) hx hcb dL_law_1528 (by decide) (fun c1 => ?_) (fun c1 => ?_)
    · refine lv_lconst (v := 0) hx hcb dL_law_1535 (by decide) ?_
      rw [if_pos c1]
      refine W.lcmp hx hcb dL_law_1536 ?_
      rw [lcmp_self]
      refine lv_if_eq (tgt := 1542) hx hcb dL_law_1537 (by decide) (fun _ => ?_) (fun h => absurd rfl h)
      refine lv_goto (tgt := 2584) hx hcb dL_law_1542 (by decide) ?_
      refine W.widen (k := cells + 48) (n := slots + 574) (l_ofr3 (by decide) (Nat.le_refl _)) (l_ofr3 (by decide) (Nat.le_refl _)) ?_
      exact hk K w z1 z2 _ g H locs ls hw hJ hI hS (lv_sub hl [2, 3, 4, 5, 6, 7] rfl)
    · refine lv_lconst (v := 1) hx hcb dL_law_1531 (by decide) ?_
      refine lv_goto (tgt := 1536) hx hcb dL_law_1532 (by decide) ?_
      rw [if_neg c1]
      refine W.lcmp hx hcb dL_law_1536 ?_
      rw [lcmp_self]
      refine lv_if_eq (tgt := 1542) hx hcb dL_law_1537 (by decide) (fun _ => ?_) (fun h => absurd rfl h)
      refine lv_goto (tgt := 2584) hx hcb dL_law_1542 (by decide) ?_
      refine W.widen (k := cells + 48) (n := slots + 574) (l_ofr3 (by decide) (Nat.le_refl _)) (l_ofr3 (by decide) (Nat.le_refl _)) ?_
      exact hk K w z1 z2 _ g H locs ls hw hJ hI hS (lv_sub hl [2, 3, 4, 5, 6, 7] rfl)
  · refine lv_aload_n hx hcb dL_law_1482 rfl h1 ?_
    refine j_s (k := 1) C hS h0 h5 (by decide) (by omega) hL dL_law_1483 dL_law_1484 dL_law_1486 dL_law_1487 dL_law_1488 ?_
    refine lv_aload_n hx hcb dL_law_1489 rfl h3 ?_
    refine j_h (As := [.ref (w.2.2 0), .int (xs (6 * n + 1)), .ref ou]) (rest := []) C hI hS (x_L_isUniform l G cD w K hw zc f ou _ (xs (6 * n + 1)) m1) mh_L_isUniform q_1096 rfl hl.1 rfl (Nat.le_of_ble_eq_true rfl) dL_law_1490 ⟨by decide, by decide⟩ ⟨l_ofr (by decide) hr.1, l_ofr (by decide) hr.2⟩ (fun r1 z1 e3 H locs hp1 hI hS => ?_)
    obtain ⟨rfl, he⟩ := hp1
    rw [(Prod.mk.inj he).1, (Prod.mk.inj he).2] at hI
    refine lv_istore (lv' := (6, .int 1) :: lL b w v ou od n) hx hcb dL_law_1493 hl (by decide) rfl (fun ls hl => ?_)
    have h0 := lv_at hl 1 rfl
    have h2 := lv_at hl 3 rfl
    have h3 := lv_at hl 4 rfl
    have h4 := lv_at hl 5 rfl
    have h5 := lv_at hl 6 rfl
    refine lv_aload_n hx hcb dL_law_1495 rfl h2 ?_
    refine j_s (k := 1) C hS h0 h5 (by decide) (by omega) hL dL_law_1496 dL_law_1497 dL_law_1499 dL_law_1500 dL_law_1501 ?_
    refine j_m (As := [.int (xs (6 * n + 1))]) (rest := []) C hI hS hv (m2 _) mv_X10_isUniform q_1546 rfl hl.1 rfl (Nat.le_of_ble_eq_true rfl) dL_law_1502 ⟨by decide, by decide⟩ ⟨l_ofr2 (by decide) hr.1, l_ofr2 (by decide) hr.2⟩ (fun r2 z2 H locs hp2 hI hS => ?_)
    obtain ⟨et, hJ⟩ := ag _ _ hp2
    refine lv_istore (lv' := (7, .int r2) :: (6, .int 1) :: lL b w v ou od n) hx hcb dL_law_1505 hl (by decide) rfl (fun ls hl => ?_)
    have h2 := lv_at hl 4 rfl
    have h3 := lv_at hl 5 rfl
    have h4 := lv_at hl 6 rfl
    have h6 := lv_at hl 1 rfl
    have h7 := lv_at hl 0 rfl
    refine lv_aload_n hx hcb dL_law_1507 rfl h2 ?_
    refine j_m (As := []) (rest := []) C hI hS hv (c_X10_thrown l G v hv z2 _) mv_X10_thrown q_1263 rfl hl.1 rfl (Nat.le_of_ble_eq_true rfl) dL_law_1508 ⟨by decide, by decide⟩ ⟨l_ofr3 (by decide) hr.1, l_ofr3 (by decide) hr.2⟩ (fun r3 z3 H locs hp3 hI hS => ?_)
    obtain ⟨e4, e5⟩ := hp3
    rw [e5] at hI
    rw [et] at e4
    subst e4
    refine lv_iload hx hcb dL_law_1511 h6 ?_
    refine lv_icmp_eq (tgt := 1518) hx hcb dL_law_1513 (by decide) (fun _ => ?_) (fun h => absurd rfl h)
    refine lv_iload hx hcb dL_law_1518 h6 ?_
    refine lv_if_ne (tgt := 1542) hx hcb dL_law_1520 (by decide) (fun _ => ?_) (fun h => absurd h (by decide))
    refine lv_goto (tgt := 2584) hx hcb dL_law_1542 (by decide) ?_
    refine W.widen (k := cells + 48) (n := slots + 574) (l_ofr3 (by decide) (Nat.le_refl _)) (l_ofr3 (by decide) (Nat.le_refl _)) ?_
    exact hk K w zc z2 f g H locs ls hw hJ hI hS (lv_sub hl [2, 3, 4, 5, 6, 7] rfl)
set_option maxRecDepth 100000 in
set_option maxHeartbeats 4000000 in
theorem k_wouldGet (C : lC p s m args c b L xs G cD) (hL : L ≤ 3072) (hn : 6 * n + 6 ≤ L) (hw : isC K w) (hv : isM v) (hJ : J K zc zm) (hI : lJ G w v zc zm ou od (lE1 G f) (lE2 cD g) s.heap.size H) (hS : va_S (lA s) s.heap H locs) (hl : lv_has ls 9 (lL b w v ou od n)) (hr : cells + 48 ≤ 601024 ∧ slots + 574 ≤ 7293034) (hk : lK p l e s m args below meth c cells slots Q G cD v ou od b n J)
    (hSim : ∀ x0 x1 x2 x3 x4 : Int32, lT l J yX9_wouldGet cX9_wouldGet 6 (some FieldType.int) rm_X9_wouldGet rx_X9_wouldGet yX10_wouldGet cX10_wouldGet 6 (some FieldType.int) rm_X10_wouldGet [.int x0, .int x1, .int x2, .int x3, .int x4]) : W p l e room_1 s m args below meth c H locs cells slots Q (F0 m 1545 ls []) := by
  have h0 := lv_at hl 0 rfl
  have h1 := lv_at hl 1 rfl
  have h2 := lv_at hl 2 rfl
  have h3 := lv_at hl 3 rfl
  have h4 := lv_at hl 4 rfl
  have h5 := lv_at hl 5 rfl
  obtain ⟨hx, hcb, hml, hown, hts, hK, hZ, hX, hbl⟩ := id C
  rcases hSim (xs (6 * n + 1)) (xs (6 * n + 2)) (xs (6 * n + 3)) (xs (6 * n + 4)) (xs (6 * n + 5)) G w v K zc zm hw hv hJ with ⟨P1, P2, m1, m2, ag⟩ | ⟨P2, m1, m2, ag⟩
  · refine lv_aload_n hx hcb dL_law_1545 rfl h1 ?_
    refine j_s (k := 1) C hS h0 h5 (by decide) (by omega) hL dL_law_1546 dL_law_1547 dL_law_1549 dL_law_1550 dL_law_1551 ?_
    refine j_s (k := 2) C hS h0 h5 (by decide) (by omega) hL dL_law_1552 dL_law_1553 dL_law_1555 dL_law_1556 dL_law_1557 ?_
    refine j_s (k := 3) C hS h0 h5 (by decide) (by omega) hL dL_law_1558 dL_law_1559 dL_law_1561 dL_law_1562 dL_law_1563 ?_
    refine j_s (k := 4) C hS h0 h5 (by decide) (by omega) hL dL_law_1564 dL_law_1565 dL_law_1567 dL_law_1568 dL_law_1569 ?_
    refine j_s (k := 5) C hS h0 h5 (by decide) (by omega) hL dL_law_1570 dL_law_1571 dL_law_1573 dL_law_1574 dL_law_1575 ?_
    refine lv_aload_n hx hcb dL_law_1576 rfl h3 ?_
    refine j_h (As := [.ref (w.2.2 0), .int (xs (6 * n + 1)), .int (xs (6 * n + 2)), .int (xs (6 * n + 3)), .int (xs (6 * n + 4)), .int (xs (6 * n + 5)), .ref ou]) (rest := []) C hI hS (n_L_wouldGet l G cD w K hw zc f ou _ (xs (6 * n + 1)) (xs (6 * n + 2)) (xs (6 * n + 3)) (xs (6 * n + 4)) (xs (6 * n + 5)) m1) mh_L_wouldGet q_1103 rfl hl.1 rfl (Nat.le_of_ble_eq_true rfl) dL_law_1577 ⟨by decide, by decide⟩ ⟨l_ofr (by decide) hr.1, l_ofr (by decide) hr.2⟩ (fun r1 z1 e3 H locs hp1 hI hS => ?_)
    obtain ⟨rfl, a1, hp1, he⟩ := hp1
    have he : e3 = _ := he
    subst he
    refine lv_istore (lv' := (6, .int 0) :: lL b w v ou od n) hx hcb dL_law_1580 hl (by decide) rfl (fun ls hl => ?_)
    have h0 := lv_at hl 1 rfl
    have h2 := lv_at hl 3 rfl
    have h3 := lv_at hl 4 rfl
    have h4 := lv_at hl 5 rfl
    have h5 := lv_at hl 6 rfl
    refine lv_aload_n hx hcb dL_law_1582 rfl h2 ?_
    refine j_s (k := 1) C hS h0 h5 (by decide) (by omega) hL dL_law_1583 dL_law_1584 dL_law_1586 dL_law_1587 dL_law_1588 ?_
    refine j_s (k := 2) C hS h0 h5 (by decide) (by omega) hL dL_law_1589 dL_law_1590 dL_law_1592 dL_law_1593 dL_law_1594 ?_
    refine j_s (k := 3) C hS h0 h5 (by decide) (by omega) hL dL_law_1595 dL_law_1596 dL_law_1598 dL_law_1599 dL_law_1600 ?_
    refine j_s (k := 4) C hS h0 h5 (by decide) (by omega) hL dL_law_1601 dL_law_1602 dL_law_1604 dL_law_1605 dL_law_1606 ?_
    refine j_s (k := 5) C hS h0 h5 (by decide) (by omega) hL dL_law_1607 dL_law_1608 dL_law_1610 dL_law_1611 dL_law_1612 ?_
    refine j_m (As := [.int (xs (6 * n + 1)), .int (xs (6 * n + 2)), .int (xs (6 * n + 3)), .int (xs (6 * n + 4)), .int (xs (6 * n + 5))]) (rest := []) C hI hS hv (m2 _) mv_X10_wouldGet q_1550 rfl hl.1 rfl (Nat.le_of_ble_eq_true rfl) dL_law_1613 ⟨by decide, by decide⟩ ⟨l_ofr2 (by decide) hr.1, l_ofr2 (by decide) hr.2⟩ (fun r2 z2 H locs hp2 hI hS => ?_)
    obtain ⟨er, et, hJ⟩ := ag _ _ _ _ hp1 hp2
    subst er
    refine lv_istore (lv' := (7, .int a1) :: (6, .int 0) :: lL b w v ou od n) hx hcb dL_law_1616 hl (by decide) rfl (fun ls hl => ?_)
    have h2 := lv_at hl 4 rfl
    have h3 := lv_at hl 5 rfl
    have h4 := lv_at hl 6 rfl
    have h6 := lv_at hl 1 rfl
    have h7 := lv_at hl 0 rfl
    refine lv_aload_n hx hcb dL_law_1618 rfl h2 ?_
    refine j_m (As := []) (rest := []) C hI hS hv (c_X10_thrown l G v hv z2 _) mv_X10_thrown q_1263 rfl hl.1 rfl (Nat.le_of_ble_eq_true rfl) dL_law_1619 ⟨by decide, by decide⟩ ⟨l_ofr3 (by decide) hr.1, l_ofr3 (by decide) hr.2⟩ (fun r3 z3 H locs hp3 hI hS => ?_)
    obtain ⟨e4, e5⟩ := hp3
    rw [e5] at hI
    rw [et] at e4
    subst e4
    refine lv_iload hx hcb dL_law_1622 h6 ?_
    refine lv_icmp_eq (tgt := 1629) hx hcb dL_law_1624 (by decide) (fun _ => ?_) (fun h => absurd rfl h)
    refine lv_iload hx hcb dL_law_1629 h6 ?_
    refine lv_if_ne (tgt := 1646) hx hcb dL_law_1631 (by decide) (fun h => absurd rfl h) (fun _ => ?_)
    refine lv_aload_n hx hcb dL_law_1634 rfl h3 ?_
    refine lv_iconst (v := nI 0) hx hcb dL_law_1635 (by decide) ?_
    refine va_lald (D := G.1) (cl := vwCl) (tys := xtyD G cD) (cA := G.2 3) (n := 1) (f := va_up f 0 a1.toInt64) (i := nI 0) hx hcb hK hI.1.2.2.1 0 3 rfl rfl (vp_in_nI (by decide) (by decide)) dL_law_1636 ?_
    rw [show va_up f 0 a1.toInt64 (nI 0).toNatClampNeg = a1.toInt64 from va_up_self ..]
    refine lv_iload hx hcb dL_law_1637 h7 ?_
    refine lv_i2l hx hcb dL_law_1639 rfl ?_
    refine W.lcmp hx hcb dL_law_1640 ?_
    rw [lcmp_self]
    refine lv_if_eq (tgt := 1646) hx hcb dL_law_1641 (by decide) (fun _ => ?_) (fun h => absurd rfl h)
    refine lv_goto (tgt := 2584) hx hcb dL_law_1646 (by decide) ?_
    refine W.widen (k := cells + 48) (n := slots + 574) (l_ofr3 (by decide) (Nat.le_refl _)) (l_ofr3 (by decide) (Nat.le_refl _)) ?_
    exact hk K w z1 z2 _ g H locs ls hw hJ hI hS (lv_sub hl [2, 3, 4, 5, 6, 7] rfl)
  · refine lv_aload_n hx hcb dL_law_1545 rfl h1 ?_
    refine j_s (k := 1) C hS h0 h5 (by decide) (by omega) hL dL_law_1546 dL_law_1547 dL_law_1549 dL_law_1550 dL_law_1551 ?_
    refine j_s (k := 2) C hS h0 h5 (by decide) (by omega) hL dL_law_1552 dL_law_1553 dL_law_1555 dL_law_1556 dL_law_1557 ?_
    refine j_s (k := 3) C hS h0 h5 (by decide) (by omega) hL dL_law_1558 dL_law_1559 dL_law_1561 dL_law_1562 dL_law_1563 ?_
    refine j_s (k := 4) C hS h0 h5 (by decide) (by omega) hL dL_law_1564 dL_law_1565 dL_law_1567 dL_law_1568 dL_law_1569 ?_
    refine j_s (k := 5) C hS h0 h5 (by decide) (by omega) hL dL_law_1570 dL_law_1571 dL_law_1573 dL_law_1574 dL_law_1575 ?_
    refine lv_aload_n hx hcb dL_law_1576 rfl h3 ?_
    refine j_h (As := [.ref (w.2.2 0), .int (xs (6 * n + 1)), .int (xs (6 * n + 2)), .int (xs (6 * n + 3)), .int (xs (6 * n + 4)), .int (xs (6 * n + 5)), .ref ou]) (rest := []) C hI hS (x_L_wouldGet l G cD w K hw zc f ou _ (xs (6 * n + 1)) (xs (6 * n + 2)) (xs (6 * n + 3)) (xs (6 * n + 4)) (xs (6 * n + 5)) m1) mh_L_wouldGet q_1103 rfl hl.1 rfl (Nat.le_of_ble_eq_true rfl) dL_law_1577 ⟨by decide, by decide⟩ ⟨l_ofr (by decide) hr.1, l_ofr (by decide) hr.2⟩ (fun r1 z1 e3 H locs hp1 hI hS => ?_)
    obtain ⟨rfl, he⟩ := hp1
    rw [(Prod.mk.inj he).1, (Prod.mk.inj he).2] at hI
    refine lv_istore (lv' := (6, .int 1) :: lL b w v ou od n) hx hcb dL_law_1580 hl (by decide) rfl (fun ls hl => ?_)
    have h0 := lv_at hl 1 rfl
    have h2 := lv_at hl 3 rfl
    have h3 := lv_at hl 4 rfl
    have h4 := lv_at hl 5 rfl
    have h5 := lv_at hl 6 rfl
    refine lv_aload_n hx hcb dL_law_1582 rfl h2 ?_
    refine j_s (k := 1) C hS h0 h5 (by decide) (by omega) hL dL_law_1583 dL_law_1584 dL_law_1586 dL_law_1587 dL_law_1588 ?_
    refine j_s (k := 2) C hS h0 h5 (by decide) (by omega) hL dL_law_1589 dL_law_1590 dL_law_1592 dL_law_1593 dL_law_1594 ?_
    refine j_s (k := 3) C hS h0 h5 (by decide) (by omega) hL dL_law_1595 dL_law_1596 dL_law_1598 dL_law_1599 dL_law_1600 ?_
    refine j_s (k := 4) C hS h0 h5 (by decide) (by omega) hL dL_law_1601 dL_law_1602 dL_law_1604 dL_law_1605 dL_law_1606 ?_
    refine j_s (k := 5) C hS h0 h5 (by decide) (by omega) hL dL_law_1607 dL_law_1608 dL_law_1610 dL_law_1611 dL_law_1612 ?_
    refine j_m (As := [.int (xs (6 * n + 1)), .int (xs (6 * n + 2)), .int (xs (6 * n + 3)), .int (xs (6 * n + 4)), .int (xs (6 * n + 5))]) (rest := []) C hI hS hv (m2 _) mv_X10_wouldGet q_1550 rfl hl.1 rfl (Nat.le_of_ble_eq_true rfl) dL_law_1613 ⟨by decide, by decide⟩ ⟨l_ofr2 (by decide) hr.1, l_ofr2 (by decide) hr.2⟩ (fun r2 z2 H locs hp2 hI hS => ?_)
    obtain ⟨et, hJ⟩ := ag _ _ hp2
    refine lv_istore (lv' := (7, .int r2) :: (6, .int 1) :: lL b w v ou od n) hx hcb dL_law_1616 hl (by decide) rfl (fun ls hl => ?_)
    have h2 := lv_at hl 4 rfl
    have h3 := lv_at hl 5 rfl
    have h4 := lv_at hl 6 rfl
    have h6 := lv_at hl 1 rfl
    have h7 := lv_at hl 0 rfl
    refine lv_aload_n hx hcb dL_law_1618 rfl h2 ?_
    refine j_m (As := []) (rest := []) C hI hS hv (c_X10_thrown l G v hv z2 _) mv_X10_thrown q_1263 rfl hl.1 rfl (Nat.le_of_ble_eq_true rfl) dL_law_1619 ⟨by decide, by decide⟩ ⟨l_ofr3 (by decide) hr.1, l_ofr3 (by decide) hr.2⟩ (fun r3 z3 H locs hp3 hI hS => ?_)
    obtain ⟨e4, e5⟩ := hp3
    rw [e5] at hI
    rw [et] at e4
    subst e4
    refine lv_iload hx hcb dL_law_1622 h6 ?_
    refine lv_icmp_eq (tgt := 1629) hx hcb dL_law_1624 (by decide) (fun _ => ?_) (fun h => absurd rfl h)
    refine lv_iload hx hcb dL_law_1629 h6 ?_
    refine lv_if_ne (tgt := 1646) hx hcb dL_law_1631 (by decide) (fun _ => ?_) (fun h => absurd h (by decide))
    refine lv_goto (tgt := 2584) hx hcb dL_law_1646 (by decide) ?_
    refine W.widen (k := cells + 48) (n := slots + 574) (l_ofr3 (by decide) (Nat.le_refl _)) (l_ofr3 (by decide) (Nat.le_refl _)) ?_
    exact hk K w zc z2 f g H locs ls hw hJ hI hS (lv_sub hl [2, 3, 4, 5, 6, 7] rfl)
set_option maxRecDepth 100000 in
set_option maxHeartbeats 4000000 in
theorem k_wouldRedeem (C : lC p s m args c b L xs G cD) (hL : L ≤ 3072) (hn : 6 * n + 6 ≤ L) (hw : isC K w) (hv : isM v) (hJ : J K zc zm) (hI : lJ G w v zc zm ou od (lE1 G f) (lE2 cD g) s.heap.size H) (hS : va_S (lA s) s.heap H locs) (hl : lv_has ls 9 (lL b w v ou od n)) (hr : cells + 48 ≤ 601024 ∧ slots + 574 ≤ 7293034) (hk : lK p l e s m args below meth c cells slots Q G cD v ou od b n J)
    (hSim : ∀ x0 x1 : Int32, lT l J yX9_wouldRedeem cX9_wouldRedeem 3 (some FieldType.int) rm_X9_wouldRedeem rx_X9_wouldRedeem yX10_wouldRedeem cX10_wouldRedeem 6 (some FieldType.int) rm_X10_wouldRedeem [.int x0, .int x1]) : W p l e room_1 s m args below meth c H locs cells slots Q (F0 m 1723 ls []) := by
  have h0 := lv_at hl 0 rfl
  have h1 := lv_at hl 1 rfl
  have h2 := lv_at hl 2 rfl
  have h3 := lv_at hl 3 rfl
  have h4 := lv_at hl 4 rfl
  have h5 := lv_at hl 5 rfl
  obtain ⟨hx, hcb, hml, hown, hts, hK, hZ, hX, hbl⟩ := id C
  rcases hSim (xs (6 * n + 1)) (xs (6 * n + 2)) G w v K zc zm hw hv hJ with ⟨P1, P2, m1, m2, ag⟩ | ⟨P2, m1, m2, ag⟩
  · refine lv_aload_n hx hcb dL_law_1723 rfl h1 ?_
    refine j_s (k := 1) C hS h0 h5 (by decide) (by omega) hL dL_law_1724 dL_law_1725 dL_law_1727 dL_law_1728 dL_law_1729 ?_
    refine j_s (k := 2) C hS h0 h5 (by decide) (by omega) hL dL_law_1730 dL_law_1731 dL_law_1733 dL_law_1734 dL_law_1735 ?_
    refine lv_aload_n hx hcb dL_law_1736 rfl h3 ?_
    refine j_h (As := [.ref (w.2.2 0), .int (xs (6 * n + 1)), .int (xs (6 * n + 2)), .ref ou]) (rest := []) C hI hS (n_L_wouldRedeem l G cD w K hw zc f ou _ (xs (6 * n + 1)) (xs (6 * n + 2)) m1) mh_L_wouldRedeem q_1110 rfl hl.1 rfl (Nat.le_of_ble_eq_true rfl) dL_law_1737 ⟨by decide, by decide⟩ ⟨l_ofr (by decide) hr.1, l_ofr (by decide) hr.2⟩ (fun r1 z1 e3 H locs hp1 hI hS => ?_)
    obtain ⟨rfl, a1, hp1, he⟩ := hp1
    have he : e3 = _ := he
    subst he
    refine lv_istore (lv' := (6, .int 0) :: lL b w v ou od n) hx hcb dL_law_1740 hl (by decide) rfl (fun ls hl => ?_)
    have h0 := lv_at hl 1 rfl
    have h2 := lv_at hl 3 rfl
    have h3 := lv_at hl 4 rfl
    have h4 := lv_at hl 5 rfl
    have h5 := lv_at hl 6 rfl
    refine lv_aload_n hx hcb dL_law_1742 rfl h2 ?_
    refine j_s (k := 1) C hS h0 h5 (by decide) (by omega) hL dL_law_1743 dL_law_1744 dL_law_1746 dL_law_1747 dL_law_1748 ?_
    refine j_s (k := 2) C hS h0 h5 (by decide) (by omega) hL dL_law_1749 dL_law_1750 dL_law_1752 dL_law_1753 dL_law_1754 ?_
    refine j_m (As := [.int (xs (6 * n + 1)), .int (xs (6 * n + 2))]) (rest := []) C hI hS hv (m2 _) mv_X10_wouldRedeem q_1571 rfl hl.1 rfl (Nat.le_of_ble_eq_true rfl) dL_law_1755 ⟨by decide, by decide⟩ ⟨l_ofr2 (by decide) hr.1, l_ofr2 (by decide) hr.2⟩ (fun r2 z2 H locs hp2 hI hS => ?_)
    obtain ⟨er, et, hJ⟩ := ag _ _ _ _ hp1 hp2
    subst er
    refine lv_istore (lv' := (7, .int a1) :: (6, .int 0) :: lL b w v ou od n) hx hcb dL_law_1758 hl (by decide) rfl (fun ls hl => ?_)
    have h2 := lv_at hl 4 rfl
    have h3 := lv_at hl 5 rfl
    have h4 := lv_at hl 6 rfl
    have h6 := lv_at hl 1 rfl
    have h7 := lv_at hl 0 rfl
    refine lv_aload_n hx hcb dL_law_1760 rfl h2 ?_
    refine j_m (As := []) (rest := []) C hI hS hv (c_X10_thrown l G v hv z2 _) mv_X10_thrown q_1263 rfl hl.1 rfl (Nat.le_of_ble_eq_true rfl) dL_law_1761 ⟨by decide, by decide⟩ ⟨l_ofr3 (by decide) hr.1, l_ofr3 (by decide) hr.2⟩ (fun r3 z3 H locs hp3 hI hS => ?_)
    obtain ⟨e4, e5⟩ := hp3
    rw [e5] at hI
    rw [et] at e4
    subst e4
    refine lv_iload hx hcb dL_law_1764 h6 ?_
    refine lv_icmp_eq (tgt := 1771) hx hcb dL_law_1766 (by decide) (fun _ => ?_) (fun h => absurd rfl h)
    refine lv_iload hx hcb dL_law_1771 h6 ?_
    refine lv_if_ne (tgt := 1788) hx hcb dL_law_1773 (by decide) (fun h => absurd rfl h) (fun _ => ?_)
    refine lv_aload_n hx hcb dL_law_1776 rfl h3 ?_
    refine lv_iconst (v := nI 0) hx hcb dL_law_1777 (by decide) ?_
    refine va_lald (D := G.1) (cl := vwCl) (tys := xtyD G cD) (cA := G.2 3) (n := 1) (f := va_up f 0 a1.toInt64) (i := nI 0) hx hcb hK hI.1.2.2.1 0 3 rfl rfl (vp_in_nI (by decide) (by decide)) dL_law_1778 ?_
    rw [show va_up f 0 a1.toInt64 (nI 0).toNatClampNeg = a1.toInt64 from va_up_self ..]
    refine lv_iload hx hcb dL_law_1779 h7 ?_
    refine lv_i2l hx hcb dL_law_1781 rfl ?_
    refine W.lcmp hx hcb dL_law_1782 ?_
    rw [lcmp_self]
    refine lv_if_eq (tgt := 1788) hx hcb dL_law_1783 (by decide) (fun _ => ?_) (fun h => absurd rfl h)
    refine lv_goto (tgt := 2584) hx hcb dL_law_1788 (by decide) ?_
    refine W.widen (k := cells + 48) (n := slots + 574) (l_ofr3 (by decide) (Nat.le_refl _)) (l_ofr3 (by decide) (Nat.le_refl _)) ?_
    exact hk K w z1 z2 _ g H locs ls hw hJ hI hS (lv_sub hl [2, 3, 4, 5, 6, 7] rfl)
  · refine lv_aload_n hx hcb dL_law_1723 rfl h1 ?_
    refine j_s (k := 1) C hS h0 h5 (by decide) (by omega) hL dL_law_1724 dL_law_1725 dL_law_1727 dL_law_1728 dL_law_1729 ?_
    refine j_s (k := 2) C hS h0 h5 (by decide) (by omega) hL dL_law_1730 dL_law_1731 dL_law_1733 dL_law_1734 dL_law_1735 ?_
    refine lv_aload_n hx hcb dL_law_1736 rfl h3 ?_
    refine j_h (As := [.ref (w.2.2 0), .int (xs (6 * n + 1)), .int (xs (6 * n + 2)), .ref ou]) (rest := []) C hI hS (x_L_wouldRedeem l G cD w K hw zc f ou _ (xs (6 * n + 1)) (xs (6 * n + 2)) m1) mh_L_wouldRedeem q_1110 rfl hl.1 rfl (Nat.le_of_ble_eq_true rfl) dL_law_1737 ⟨by decide, by decide⟩ ⟨l_ofr (by decide) hr.1, l_ofr (by decide) hr.2⟩ (fun r1 z1 e3 H locs hp1 hI hS => ?_)
    obtain ⟨rfl, he⟩ := hp1
    rw [(Prod.mk.inj he).1, (Prod.mk.inj he).2] at hI
    refine lv_istore (lv' := (6, .int 1) :: lL b w v ou od n) hx hcb dL_law_1740 hl (by decide) rfl (fun ls hl => ?_)
    have h0 := lv_at hl 1 rfl
    have h2 := lv_at hl 3 rfl
    have h3 := lv_at hl 4 rfl
    have h4 := lv_at hl 5 rfl
    have h5 := lv_at hl 6 rfl
    refine lv_aload_n hx hcb dL_law_1742 rfl h2 ?_
    refine j_s (k := 1) C hS h0 h5 (by decide) (by omega) hL dL_law_1743 dL_law_1744 dL_law_1746 dL_law_1747 dL_law_1748 ?_
    refine j_s (k := 2) C hS h0 h5 (by decide) (by omega) hL dL_law_1749 dL_law_1750 dL_law_1752 dL_law_1753 dL_law_1754 ?_
    refine j_m (As := [.int (xs (6 * n + 1)), .int (xs (6 * n + 2))]) (rest := []) C hI hS hv (m2 _) mv_X10_wouldRedeem q_1571 rfl hl.1 rfl (Nat.le_of_ble_eq_true rfl) dL_law_1755 ⟨by decide, by decide⟩ ⟨l_ofr2 (by decide) hr.1, l_ofr2 (by decide) hr.2⟩ (fun r2 z2 H locs hp2 hI hS => ?_)
    obtain ⟨et, hJ⟩ := ag _ _ hp2
    refine lv_istore (lv' := (7, .int r2) :: (6, .int 1) :: lL b w v ou od n) hx hcb dL_law_1758 hl (by decide) rfl (fun ls hl => ?_)
    have h2 := lv_at hl 4 rfl
    have h3 := lv_at hl 5 rfl
    have h4 := lv_at hl 6 rfl
    have h6 := lv_at hl 1 rfl
    have h7 := lv_at hl 0 rfl
    refine lv_aload_n hx hcb dL_law_1760 rfl h2 ?_
    refine j_m (As := []) (rest := []) C hI hS hv (c_X10_thrown l G v hv z2 _) mv_X10_thrown q_1263 rfl hl.1 rfl (Nat.le_of_ble_eq_true rfl) dL_law_1761 ⟨by decide, by decide⟩ ⟨l_ofr3 (by decide) hr.1, l_ofr3 (by decide) hr.2⟩ (fun r3 z3 H locs hp3 hI hS => ?_)
    obtain ⟨e4, e5⟩ := hp3
    rw [e5] at hI
    rw [et] at e4
    subst e4
    refine lv_iload hx hcb dL_law_1764 h6 ?_
    refine lv_icmp_eq (tgt := 1771) hx hcb dL_law_1766 (by decide) (fun _ => ?_) (fun h => absurd rfl h)
    refine lv_iload hx hcb dL_law_1771 h6 ?_
    refine lv_if_ne (tgt := 1788) hx hcb dL_law_1773 (by decide) (fun _ => ?_) (fun h => absurd h (by decide))
    refine lv_goto (tgt := 2584) hx hcb dL_law_1788 (by decide) ?_
    refine W.widen (k := cells + 48) (n := slots + 574) (l_ofr3 (by decide) (Nat.le_refl _)) (l_ofr3 (by decide) (Nat.le_refl _)) ?_
    exact hk K w zc z2 f g H locs ls hw hJ hI hS (lv_sub hl [2, 3, 4, 5, 6, 7] rfl)
set_option maxRecDepth 100000 in
set_option maxHeartbeats 4000000 in
theorem k_installmentsLeft (C : lC p s m args c b L xs G cD) (hL : L ≤ 3072) (hn : 6 * n + 6 ≤ L) (hw : isC K w) (hv : isM v) (hJ : J K zc zm) (hI : lJ G w v zc zm ou od (lE1 G f) (lE2 cD g) s.heap.size H) (hS : va_S (lA s) s.heap H locs) (hl : lv_has ls 9 (lL b w v ou od n)) (hr : cells + 48 ≤ 601024 ∧ slots + 574 ≤ 7293034) (hk : lK p l e s m args below meth c cells slots Q G cD v ou od b n J)
    (hSim : ∀ x0 : Int32, lT l J yX9_installmentsLeft cX9_installmentsLeft 2 (some FieldType.int) rm_X9_installmentsLeft rx_X9_installmentsLeft yX10_installmentsLeft cX10_installmentsLeft 2 (some FieldType.int) rm_X10_installmentsLeft [.int x0]) : W p l e room_1 s m args below meth c H locs cells slots Q (F0 m 1816 ls []) := by
  have h0 := lv_at hl 0 rfl
  have h1 := lv_at hl 1 rfl
  have h2 := lv_at hl 2 rfl
  have h3 := lv_at hl 3 rfl
  have h4 := lv_at hl 4 rfl
  have h5 := lv_at hl 5 rfl
  obtain ⟨hx, hcb, hml, hown, hts, hK, hZ, hX, hbl⟩ := id C
  rcases hSim (xs (6 * n + 1)) G w v K zc zm hw hv hJ with ⟨P1, P2, m1, m2, ag⟩ | ⟨P2, m1, m2, ag⟩
  · refine lv_aload_n hx hcb dL_law_1816 rfl h1 ?_
    refine j_s (k := 1) C hS h0 h5 (by decide) (by omega) hL dL_law_1817 dL_law_1818 dL_law_1820 dL_law_1821 dL_law_1822 ?_
    refine lv_aload_n hx hcb dL_law_1823 rfl h3 ?_
    refine j_h (As := [.ref (w.2.2 0), .int (xs (6 * n + 1)), .ref ou]) (rest := []) C hI hS (n_L_installmentsLeft l G cD w K hw zc f ou _ (xs (6 * n + 1)) m1) mh_L_installmentsLeft q_1121 rfl hl.1 rfl (Nat.le_of_ble_eq_true rfl) dL_law_1824 ⟨by decide, by decide⟩ ⟨l_ofr (by decide) hr.1, l_ofr (by decide) hr.2⟩ (fun r1 z1 e3 H locs hp1 hI hS => ?_)
    obtain ⟨rfl, a1, hp1, he⟩ := hp1
    have he : e3 = _ := he
    subst he
    refine lv_istore (lv' := (6, .int 0) :: lL b w v ou od n) hx hcb dL_law_1827 hl (by decide) rfl (fun ls hl => ?_)
    have h0 := lv_at hl 1 rfl
    have h2 := lv_at hl 3 rfl
    have h3 := lv_at hl 4 rfl
    have h4 := lv_at hl 5 rfl
    have h5 := lv_at hl 6 rfl
    refine lv_aload_n hx hcb dL_law_1829 rfl h2 ?_
    refine j_s (k := 1) C hS h0 h5 (by decide) (by omega) hL dL_law_1830 dL_law_1831 dL_law_1833 dL_law_1834 dL_law_1835 ?_
    refine j_m (As := [.int (xs (6 * n + 1))]) (rest := []) C hI hS hv (m2 _) mv_X10_installmentsLeft q_1603 rfl hl.1 rfl (Nat.le_of_ble_eq_true rfl) dL_law_1836 ⟨by decide, by decide⟩ ⟨l_ofr2 (by decide) hr.1, l_ofr2 (by decide) hr.2⟩ (fun r2 z2 H locs hp2 hI hS => ?_)
    obtain ⟨er, et, hJ⟩ := ag _ _ _ _ hp1 hp2
    subst er
    refine lv_istore (lv' := (7, .int a1) :: (6, .int 0) :: lL b w v ou od n) hx hcb dL_law_1839 hl (by decide) rfl (fun ls hl => ?_)
    have h2 := lv_at hl 4 rfl
    have h3 := lv_at hl 5 rfl
    have h4 := lv_at hl 6 rfl
    have h6 := lv_at hl 1 rfl
    have h7 := lv_at hl 0 rfl
    refine lv_aload_n hx hcb dL_law_1841 rfl h2 ?_
    refine j_m (As := []) (rest := []) C hI hS hv (c_X10_thrown l G v hv z2 _) mv_X10_thrown q_1263 rfl hl.1 rfl (Nat.le_of_ble_eq_true rfl) dL_law_1842 ⟨by decide, by decide⟩ ⟨l_ofr3 (by decide) hr.1, l_ofr3 (by decide) hr.2⟩ (fun r3 z3 H locs hp3 hI hS => ?_)
    obtain ⟨e4, e5⟩ := hp3
    rw [e5] at hI
    rw [et] at e4
    subst e4
    refine lv_iload hx hcb dL_law_1845 h6 ?_
    refine lv_icmp_eq (tgt := 1852) hx hcb dL_law_1847 (by decide) (fun _ => ?_) (fun h => absurd rfl h)
    refine lv_iload hx hcb dL_law_1852 h6 ?_
    refine lv_if_ne (tgt := 1869) hx hcb dL_law_1854 (by decide) (fun h => absurd rfl h) (fun _ => ?_)
    refine lv_aload_n hx hcb dL_law_1857 rfl h3 ?_
    refine lv_iconst (v := nI 0) hx hcb dL_law_1858 (by decide) ?_
    refine va_lald (D := G.1) (cl := vwCl) (tys := xtyD G cD) (cA := G.2 3) (n := 1) (f := va_up f 0 a1.toInt64) (i := nI 0) hx hcb hK hI.1.2.2.1 0 3 rfl rfl (vp_in_nI (by decide) (by decide)) dL_law_1859 ?_
    rw [show va_up f 0 a1.toInt64 (nI 0).toNatClampNeg = a1.toInt64 from va_up_self ..]
    refine lv_iload hx hcb dL_law_1860 h7 ?_
    refine lv_i2l hx hcb dL_law_1862 rfl ?_
    refine W.lcmp hx hcb dL_law_1863 ?_
    rw [lcmp_self]
    refine lv_if_eq (tgt := 1869) hx hcb dL_law_1864 (by decide) (fun _ => ?_) (fun h => absurd rfl h)
    refine lv_goto (tgt := 2584) hx hcb dL_law_1869 (by decide) ?_
    refine W.widen (k := cells + 48) (n := slots + 574) (l_ofr3 (by decide) (Nat.le_refl _)) (l_ofr3 (by decide) (Nat.le_refl _)) ?_
    exact hk K w z1 z2 _ g H locs ls hw hJ hI hS (lv_sub hl [2, 3, 4, 5, 6, 7] rfl)
  · refine lv_aload_n hx hcb dL_law_1816 rfl h1 ?_
    refine j_s (k := 1) C hS h0 h5 (by decide) (by omega) hL dL_law_1817 dL_law_1818 dL_law_1820 dL_law_1821 dL_law_1822 ?_
    refine lv_aload_n hx hcb dL_law_1823 rfl h3 ?_
    refine j_h (As := [.ref (w.2.2 0), .int (xs (6 * n + 1)), .ref ou]) (rest := []) C hI hS (x_L_installmentsLeft l G cD w K hw zc f ou _ (xs (6 * n + 1)) m1) mh_L_installmentsLeft q_1121 rfl hl.1 rfl (Nat.le_of_ble_eq_true rfl) dL_law_1824 ⟨by decide, by decide⟩ ⟨l_ofr (by decide) hr.1, l_ofr (by decide) hr.2⟩ (fun r1 z1 e3 H locs hp1 hI hS => ?_)
    obtain ⟨rfl, he⟩ := hp1
    rw [(Prod.mk.inj he).1, (Prod.mk.inj he).2] at hI
    refine lv_istore (lv' := (6, .int 1) :: lL b w v ou od n) hx hcb dL_law_1827 hl (by decide) rfl (fun ls hl => ?_)
    have h0 := lv_at hl 1 rfl
    have h2 := lv_at hl 3 rfl
    have h3 := lv_at hl 4 rfl
    have h4 := lv_at hl 5 rfl
    have h5 := lv_at hl 6 rfl
    refine lv_aload_n hx hcb dL_law_1829 rfl h2 ?_
    refine j_s (k := 1) C hS h0 h5 (by decide) (by omega) hL dL_law_1830 dL_law_1831 dL_law_1833 dL_law_1834 dL_law_1835 ?_
    refine j_m (As := [.int (xs (6 * n + 1))]) (rest := []) C hI hS hv (m2 _) mv_X10_installmentsLeft q_1603 rfl hl.1 rfl (Nat.le_of_ble_eq_true rfl) dL_law_1836 ⟨by decide, by decide⟩ ⟨l_ofr2 (by decide) hr.1, l_ofr2 (by decide) hr.2⟩ (fun r2 z2 H locs hp2 hI hS => ?_)
    obtain ⟨et, hJ⟩ := ag _ _ hp2
    refine lv_istore (lv' := (7, .int r2) :: (6, .int 1) :: lL b w v ou od n) hx hcb dL_law_1839 hl (by decide) rfl (fun ls hl => ?_)
    have h2 := lv_at hl 4 rfl
    have h3 := lv_at hl 5 rfl
    have h4 := lv_at hl 6 rfl
    have h6 := lv_at hl 1 rfl
    have h7 := lv_at hl 0 rfl
    refine lv_aload_n hx hcb dL_law_1841 rfl h2 ?_
    refine j_m (As := []) (rest := []) C hI hS hv (c_X10_thrown l G v hv z2 _) mv_X10_thrown q_1263 rfl hl.1 rfl (Nat.le_of_ble_eq_true rfl) dL_law_1842 ⟨by decide, by decide⟩ ⟨l_ofr3 (by decide) hr.1, l_ofr3 (by decide) hr.2⟩ (fun r3 z3 H locs hp3 hI hS => ?_)
    obtain ⟨e4, e5⟩ := hp3
    rw [e5] at hI
    rw [et] at e4
    subst e4
    refine lv_iload hx hcb dL_law_1845 h6 ?_
    refine lv_icmp_eq (tgt := 1852) hx hcb dL_law_1847 (by decide) (fun _ => ?_) (fun h => absurd rfl h)
    refine lv_iload hx hcb dL_law_1852 h6 ?_
    refine lv_if_ne (tgt := 1869) hx hcb dL_law_1854 (by decide) (fun _ => ?_) (fun h => absurd h (by decide))
    refine lv_goto (tgt := 2584) hx hcb dL_law_1869 (by decide) ?_
    refine W.widen (k := cells + 48) (n := slots + 574) (l_ofr3 (by decide) (Nat.le_refl _)) (l_ofr3 (by decide) (Nat.le_refl _)) ?_
    exact hk K w zc z2 f g H locs ls hw hJ hI hS (lv_sub hl [2, 3, 4, 5, 6, 7] rfl)
set_option maxRecDepth 100000 in
set_option maxHeartbeats 4000000 in
theorem k_installment (C : lC p s m args c b L xs G cD) (hL : L ≤ 3072) (hn : 6 * n + 6 ≤ L) (hw : isC K w) (hv : isM v) (hJ : J K zc zm) (hI : lJ G w v zc zm ou od (lE1 G f) (lE2 cD g) s.heap.size H) (hS : va_S (lA s) s.heap H locs) (hl : lv_has ls 9 (lL b w v ou od n)) (hr : cells + 48 ≤ 601024 ∧ slots + 574 ≤ 7293034) (hk : lK p l e s m args below meth c cells slots Q G cD v ou od b n J)
    (hSim : ∀ x0 x1 : Int32, lT l J yX9_installment cX9_installment 3 (some FieldType.int) rm_X9_installment rx_X9_installment yX10_installment cX10_installment 6 (some FieldType.int) rm_X10_installment [.int x0, .int x1]) : W p l e room_1 s m args below meth c H locs cells slots Q (F0 m 1872 ls []) := by
  have h0 := lv_at hl 0 rfl
  have h1 := lv_at hl 1 rfl
  have h2 := lv_at hl 2 rfl
  have h3 := lv_at hl 3 rfl
  have h4 := lv_at hl 4 rfl
  have h5 := lv_at hl 5 rfl
  obtain ⟨hx, hcb, hml, hown, hts, hK, hZ, hX, hbl⟩ := id C
  rcases hSim (xs (6 * n + 1)) (xs (6 * n + 2)) G w v K zc zm hw hv hJ with ⟨P1, P2, m1, m2, ag⟩ | ⟨P2, m1, m2, ag⟩
  · refine lv_aload_n hx hcb dL_law_1872 rfl h1 ?_
    refine j_s (k := 1) C hS h0 h5 (by decide) (by omega) hL dL_law_1873 dL_law_1874 dL_law_1876 dL_law_1877 dL_law_1878 ?_
    refine j_s (k := 2) C hS h0 h5 (by decide) (by omega) hL dL_law_1879 dL_law_1880 dL_law_1882 dL_law_1883 dL_law_1884 ?_
    refine lv_aload_n hx hcb dL_law_1885 rfl h3 ?_
    refine j_h (As := [.ref (w.2.2 0), .int (xs (6 * n + 1)), .int (xs (6 * n + 2)), .ref ou]) (rest := []) C hI hS (n_L_installment l G cD w K hw zc f ou _ (xs (6 * n + 1)) (xs (6 * n + 2)) m1) mh_L_installment q_1128 rfl hl.1 rfl (Nat.le_of_ble_eq_true rfl) dL_law_1886 ⟨by decide, by decide⟩ ⟨l_ofr (by decide) hr.1, l_ofr (by decide) hr.2⟩ (fun r1 z1 e3 H locs hp1 hI hS => ?_)
    obtain ⟨rfl, a1, hp1, he⟩ := hp1
    have he : e3 = _ := he
    subst he
    refine lv_istore (lv' := (6, .int 0) :: lL b w v ou od n) hx hcb dL_law_1889 hl (by decide) rfl (fun ls hl => ?_)
    have h0 := lv_at hl 1 rfl
    have h2 := lv_at hl 3 rfl
    have h3 := lv_at hl 4 rfl
    have h4 := lv_at hl 5 rfl
    have h5 := lv_at hl 6 rfl
    refine lv_aload_n hx hcb dL_law_1891 rfl h2 ?_
    refine j_s (k := 1) C hS h0 h5 (by decide) (by omega) hL dL_law_1892 dL_law_1893 dL_law_1895 dL_law_1896 dL_law_1897 ?_
    refine j_s (k := 2) C hS h0 h5 (by decide) (by omega) hL dL_law_1898 dL_law_1899 dL_law_1901 dL_law_1902 dL_law_1903 ?_
    refine j_m (As := [.int (xs (6 * n + 1)), .int (xs (6 * n + 2))]) (rest := []) C hI hS hv (m2 _) mv_X10_installment q_1607 rfl hl.1 rfl (Nat.le_of_ble_eq_true rfl) dL_law_1904 ⟨by decide, by decide⟩ ⟨l_ofr2 (by decide) hr.1, l_ofr2 (by decide) hr.2⟩ (fun r2 z2 H locs hp2 hI hS => ?_)
    obtain ⟨er, et, hJ⟩ := ag _ _ _ _ hp1 hp2
    subst er
    refine lv_istore (lv' := (7, .int a1) :: (6, .int 0) :: lL b w v ou od n) hx hcb dL_law_1907 hl (by decide) rfl (fun ls hl => ?_)
    have h2 := lv_at hl 4 rfl
    have h3 := lv_at hl 5 rfl
    have h4 := lv_at hl 6 rfl
    have h6 := lv_at hl 1 rfl
    have h7 := lv_at hl 0 rfl
    refine lv_aload_n hx hcb dL_law_1909 rfl h2 ?_
    refine j_m (As := []) (rest := []) C hI hS hv (c_X10_thrown l G v hv z2 _) mv_X10_thrown q_1263 rfl hl.1 rfl (Nat.le_of_ble_eq_true rfl) dL_law_1910 ⟨by decide, by decide⟩ ⟨l_ofr3 (by decide) hr.1, l_ofr3 (by decide) hr.2⟩ (fun r3 z3 H locs hp3 hI hS => ?_)
    obtain ⟨e4, e5⟩ := hp3
    rw [e5] at hI
    rw [et] at e4
    subst e4
    refine lv_iload hx hcb dL_law_1913 h6 ?_
    refine lv_icmp_eq (tgt := 1920) hx hcb dL_law_1915 (by decide) (fun _ => ?_) (fun h => absurd rfl h)
    refine lv_iload hx hcb dL_law_1920 h6 ?_
    refine lv_if_ne (tgt := 1937) hx hcb dL_law_1922 (by decide) (fun h => absurd rfl h) (fun _ => ?_)
    refine lv_aload_n hx hcb dL_law_1925 rfl h3 ?_
    refine lv_iconst (v := nI 0) hx hcb dL_law_1926 (by decide) ?_
    refine va_lald (D := G.1) (cl := vwCl) (tys := xtyD G cD) (cA := G.2 3) (n := 1) (f := va_up f 0 a1.toInt64) (i := nI 0) hx hcb hK hI.1.2.2.1 0 3 rfl rfl (vp_in_nI (by decide) (by decide)) dL_law_1927 ?_
    rw [show va_up f 0 a1.toInt64 (nI 0).toNatClampNeg = a1.toInt64 from va_up_self ..]
    refine lv_iload hx hcb dL_law_1928 h7 ?_
    refine lv_i2l hx hcb dL_law_1930 rfl ?_
    refine W.lcmp hx hcb dL_law_1931 ?_
    rw [lcmp_self]
    refine lv_if_eq (tgt := 1937) hx hcb dL_law_1932 (by decide) (fun _ => ?_) (fun h => absurd rfl h)
    refine lv_goto (tgt := 2584) hx hcb dL_law_1937 (by decide) ?_
    refine W.widen (k := cells + 48) (n := slots + 574) (l_ofr3 (by decide) (Nat.le_refl _)) (l_ofr3 (by decide) (Nat.le_refl _)) ?_
    exact hk K w z1 z2 _ g H locs ls hw hJ hI hS (lv_sub hl [2, 3, 4, 5, 6, 7] rfl)
  · refine lv_aload_n hx hcb dL_law_1872 rfl h1 ?_
    refine j_s (k := 1) C hS h0 h5 (by decide) (by omega) hL dL_law_1873 dL_law_1874 dL_law_1876 dL_law_1877 dL_law_1878 ?_
    refine j_s (k := 2) C hS h0 h5 (by decide) (by omega) hL dL_law_1879 dL_law_1880 dL_law_1882 dL_law_1883 dL_law_1884 ?_
    refine lv_aload_n hx hcb dL_law_1885 rfl h3 ?_
    refine j_h (As := [.ref (w.2.2 0), .int (xs (6 * n + 1)), .int (xs (6 * n + 2)), .ref ou]) (rest := []) C hI hS (x_L_installment l G cD w K hw zc f ou _ (xs (6 * n + 1)) (xs (6 * n + 2)) m1) mh_L_installment q_1128 rfl hl.1 rfl (Nat.le_of_ble_eq_true rfl) dL_law_1886 ⟨by decide, by decide⟩ ⟨l_ofr (by decide) hr.1, l_ofr (by decide) hr.2⟩ (fun r1 z1 e3 H locs hp1 hI hS => ?_)
    obtain ⟨rfl, he⟩ := hp1
    rw [(Prod.mk.inj he).1, (Prod.mk.inj he).2] at hI
    refine lv_istore (lv' := (6, .int 1) :: lL b w v ou od n) hx hcb dL_law_1889 hl (by decide) rfl (fun ls hl => ?_)
    have h0 := lv_at hl 1 rfl
    have h2 := lv_at hl 3 rfl
    have h3 := lv_at hl 4 rfl
    have h4 := lv_at hl 5 rfl
    have h5 := lv_at hl 6 rfl
    refine lv_aload_n hx hcb dL_law_1891 rfl h2 ?_
    refine j_s (k := 1) C hS h0 h5 (by decide) (by omega) hL dL_law_1892 dL_law_1893 dL_law_1895 dL_law_1896 dL_law_1897 ?_
    refine j_s (k := 2) C hS h0 h5 (by decide) (by omega) hL dL_law_1898 dL_law_1899 dL_law_1901 dL_law_1902 dL_law_1903 ?_
    refine j_m (As := [.int (xs (6 * n + 1)), .int (xs (6 * n + 2))]) (rest := []) C hI hS hv (m2 _) mv_X10_installment q_1607 rfl hl.1 rfl (Nat.le_of_ble_eq_true rfl) dL_law_1904 ⟨by decide, by decide⟩ ⟨l_ofr2 (by decide) hr.1, l_ofr2 (by decide) hr.2⟩ (fun r2 z2 H locs hp2 hI hS => ?_)
    obtain ⟨et, hJ⟩ := ag _ _ hp2
    refine lv_istore (lv' := (7, .int r2) :: (6, .int 1) :: lL b w v ou od n) hx hcb dL_law_1907 hl (by decide) rfl (fun ls hl => ?_)
    have h2 := lv_at hl 4 rfl
    have h3 := lv_at hl 5 rfl
    have h4 := lv_at hl 6 rfl
    have h6 := lv_at hl 1 rfl
    have h7 := lv_at hl 0 rfl
    refine lv_aload_n hx hcb dL_law_1909 rfl h2 ?_
    refine j_m (As := []) (rest := []) C hI hS hv (c_X10_thrown l G v hv z2 _) mv_X10_thrown q_1263 rfl hl.1 rfl (Nat.le_of_ble_eq_true rfl) dL_law_1910 ⟨by decide, by decide⟩ ⟨l_ofr3 (by decide) hr.1, l_ofr3 (by decide) hr.2⟩ (fun r3 z3 H locs hp3 hI hS => ?_)
    obtain ⟨e4, e5⟩ := hp3
    rw [e5] at hI
    rw [et] at e4
    subst e4
    refine lv_iload hx hcb dL_law_1913 h6 ?_
    refine lv_icmp_eq (tgt := 1920) hx hcb dL_law_1915 (by decide) (fun _ => ?_) (fun h => absurd rfl h)
    refine lv_iload hx hcb dL_law_1920 h6 ?_
    refine lv_if_ne (tgt := 1937) hx hcb dL_law_1922 (by decide) (fun _ => ?_) (fun h => absurd h (by decide))
    refine lv_goto (tgt := 2584) hx hcb dL_law_1937 (by decide) ?_
    refine W.widen (k := cells + 48) (n := slots + 574) (l_ofr3 (by decide) (Nat.le_refl _)) (l_ofr3 (by decide) (Nat.le_refl _)) ?_
    exact hk K w zc z2 f g H locs ls hw hJ hI hS (lv_sub hl [2, 3, 4, 5, 6, 7] rfl)
set_option maxRecDepth 100000 in
set_option maxHeartbeats 4000000 in
theorem k_yearsUntil (C : lC p s m args c b L xs G cD) (hL : L ≤ 3072) (hn : 6 * n + 6 ≤ L) (hw : isC K w) (hv : isM v) (hJ : J K zc zm) (hI : lJ G w v zc zm ou od (lE1 G f) (lE2 cD g) s.heap.size H) (hS : va_S (lA s) s.heap H locs) (hl : lv_has ls 9 (lL b w v ou od n)) (hr : cells + 48 ≤ 601024 ∧ slots + 574 ≤ 7293034) (hk : lK p l e s m args below meth c cells slots Q G cD v ou od b n J)
    (hSim : ∀ x0 x1 : Int32, lT l J yX9_yearsUntil cX9_yearsUntil 4 (some FieldType.int) rm_X9_yearsUntil rx_X9_yearsUntil yX10_yearsUntil cX10_yearsUntil 3 (some FieldType.int) rm_X10_yearsUntil [.int x0, .int x1]) : W p l e room_1 s m args below meth c H locs cells slots Q (F0 m 1966 ls []) := by
  have h0 := lv_at hl 0 rfl
  have h1 := lv_at hl 1 rfl
  have h2 := lv_at hl 2 rfl
  have h3 := lv_at hl 3 rfl
  have h4 := lv_at hl 4 rfl
  have h5 := lv_at hl 5 rfl
  obtain ⟨hx, hcb, hml, hown, hts, hK, hZ, hX, hbl⟩ := id C
  rcases hSim (xs (6 * n + 1)) (xs (6 * n + 2)) G w v K zc zm hw hv hJ with ⟨P1, P2, m1, m2, ag⟩ | ⟨P2, m1, m2, ag⟩
  · refine lv_aload_n hx hcb dL_law_1966 rfl h1 ?_
    refine j_s (k := 1) C hS h0 h5 (by decide) (by omega) hL dL_law_1967 dL_law_1968 dL_law_1970 dL_law_1971 dL_law_1972 ?_
    refine j_s (k := 2) C hS h0 h5 (by decide) (by omega) hL dL_law_1973 dL_law_1974 dL_law_1976 dL_law_1977 dL_law_1978 ?_
    refine lv_aload_n hx hcb dL_law_1979 rfl h3 ?_
    refine j_h (As := [.ref (w.2.2 0), .int (xs (6 * n + 1)), .int (xs (6 * n + 2)), .ref ou]) (rest := []) C hI hS (n_L_yearsUntil l G cD w K hw zc f ou _ (xs (6 * n + 1)) (xs (6 * n + 2)) m1) mh_L_yearsUntil q_1139 rfl hl.1 rfl (Nat.le_of_ble_eq_true rfl) dL_law_1980 ⟨by decide, by decide⟩ ⟨l_ofr (by decide) hr.1, l_ofr (by decide) hr.2⟩ (fun r1 z1 e3 H locs hp1 hI hS => ?_)
    obtain ⟨rfl, a1, hp1, he⟩ := hp1
    have he : e3 = _ := he
    subst he
    refine lv_istore (lv' := (6, .int 0) :: lL b w v ou od n) hx hcb dL_law_1983 hl (by decide) rfl (fun ls hl => ?_)
    have h0 := lv_at hl 1 rfl
    have h2 := lv_at hl 3 rfl
    have h3 := lv_at hl 4 rfl
    have h4 := lv_at hl 5 rfl
    have h5 := lv_at hl 6 rfl
    refine lv_aload_n hx hcb dL_law_1985 rfl h2 ?_
    refine j_s (k := 1) C hS h0 h5 (by decide) (by omega) hL dL_law_1986 dL_law_1987 dL_law_1989 dL_law_1990 dL_law_1991 ?_
    refine j_s (k := 2) C hS h0 h5 (by decide) (by omega) hL dL_law_1992 dL_law_1993 dL_law_1995 dL_law_1996 dL_law_1997 ?_
    refine j_m (As := [.int (xs (6 * n + 1)), .int (xs (6 * n + 2))]) (rest := []) C hI hS hv (m2 _) mv_X10_yearsUntil q_1619 rfl hl.1 rfl (Nat.le_of_ble_eq_true rfl) dL_law_1998 ⟨by decide, by decide⟩ ⟨l_ofr2 (by decide) hr.1, l_ofr2 (by decide) hr.2⟩ (fun r2 z2 H locs hp2 hI hS => ?_)
    obtain ⟨er, et, hJ⟩ := ag _ _ _ _ hp1 hp2
    subst er
    refine lv_istore (lv' := (7, .int a1) :: (6, .int 0) :: lL b w v ou od n) hx hcb dL_law_2001 hl (by decide) rfl (fun ls hl => ?_)
    have h2 := lv_at hl 4 rfl
    have h3 := lv_at hl 5 rfl
    have h4 := lv_at hl 6 rfl
    have h6 := lv_at hl 1 rfl
    have h7 := lv_at hl 0 rfl
    refine lv_aload_n hx hcb dL_law_2003 rfl h2 ?_
    refine j_m (As := []) (rest := []) C hI hS hv (c_X10_thrown l G v hv z2 _) mv_X10_thrown q_1263 rfl hl.1 rfl (Nat.le_of_ble_eq_true rfl) dL_law_2004 ⟨by decide, by decide⟩ ⟨l_ofr3 (by decide) hr.1, l_ofr3 (by decide) hr.2⟩ (fun r3 z3 H locs hp3 hI hS => ?_)
    obtain ⟨e4, e5⟩ := hp3
    rw [e5] at hI
    rw [et] at e4
    subst e4
    refine lv_iload hx hcb dL_law_2007 h6 ?_
    refine lv_icmp_eq (tgt := 2014) hx hcb dL_law_2009 (by decide) (fun _ => ?_) (fun h => absurd rfl h)
    refine lv_iload hx hcb dL_law_2014 h6 ?_
    refine lv_if_ne (tgt := 2031) hx hcb dL_law_2016 (by decide) (fun h => absurd rfl h) (fun _ => ?_)
    refine lv_aload_n hx hcb dL_law_2019 rfl h3 ?_
    refine lv_iconst (v := nI 0) hx hcb dL_law_2020 (by decide) ?_
    refine va_lald (D := G.1) (cl := vwCl) (tys := xtyD G cD) (cA := G.2 3) (n := 1) (f := va_up f 0 a1.toInt64) (i := nI 0) hx hcb hK hI.1.2.2.1 0 3 rfl rfl (vp_in_nI (by decide) (by decide)) dL_law_2021 ?_
    rw [show va_up f 0 a1.toInt64 (nI 0).toNatClampNeg = a1.toInt64 from va_up_self ..]
    refine lv_iload hx hcb dL_law_2022 h7 ?_
    refine lv_i2l hx hcb dL_law_2024 rfl ?_
    refine W.lcmp hx hcb dL_law_2025 ?_
    rw [lcmp_self]
    refine lv_if_eq (tgt := 2031) hx hcb dL_law_2026 (by decide) (fun _ => ?_) (fun h => absurd rfl h)
    refine lv_goto (tgt := 2584) hx hcb dL_law_2031 (by decide) ?_
    refine W.widen (k := cells + 48) (n := slots + 574) (l_ofr3 (by decide) (Nat.le_refl _)) (l_ofr3 (by decide) (Nat.le_refl _)) ?_
    exact hk K w z1 z2 _ g H locs ls hw hJ hI hS (lv_sub hl [2, 3, 4, 5, 6, 7] rfl)
  · refine lv_aload_n hx hcb dL_law_1966 rfl h1 ?_
    refine j_s (k := 1) C hS h0 h5 (by decide) (by omega) hL dL_law_1967 dL_law_1968 dL_law_1970 dL_law_1971 dL_law_1972 ?_
    refine j_s (k := 2) C hS h0 h5 (by decide) (by omega) hL dL_law_1973 dL_law_1974 dL_law_1976 dL_law_1977 dL_law_1978 ?_
    refine lv_aload_n hx hcb dL_law_1979 rfl h3 ?_
    refine j_h (As := [.ref (w.2.2 0), .int (xs (6 * n + 1)), .int (xs (6 * n + 2)), .ref ou]) (rest := []) C hI hS (x_L_yearsUntil l G cD w K hw zc f ou _ (xs (6 * n + 1)) (xs (6 * n + 2)) m1) mh_L_yearsUntil q_1139 rfl hl.1 rfl (Nat.le_of_ble_eq_true rfl) dL_law_1980 ⟨by decide, by decide⟩ ⟨l_ofr (by decide) hr.1, l_ofr (by decide) hr.2⟩ (fun r1 z1 e3 H locs hp1 hI hS => ?_)
    obtain ⟨rfl, he⟩ := hp1
    rw [(Prod.mk.inj he).1, (Prod.mk.inj he).2] at hI
    refine lv_istore (lv' := (6, .int 1) :: lL b w v ou od n) hx hcb dL_law_1983 hl (by decide) rfl (fun ls hl => ?_)
    have h0 := lv_at hl 1 rfl
    have h2 := lv_at hl 3 rfl
    have h3 := lv_at hl 4 rfl
    have h4 := lv_at hl 5 rfl
    have h5 := lv_at hl 6 rfl
    refine lv_aload_n hx hcb dL_law_1985 rfl h2 ?_
    refine j_s (k := 1) C hS h0 h5 (by decide) (by omega) hL dL_law_1986 dL_law_1987 dL_law_1989 dL_law_1990 dL_law_1991 ?_
    refine j_s (k := 2) C hS h0 h5 (by decide) (by omega) hL dL_law_1992 dL_law_1993 dL_law_1995 dL_law_1996 dL_law_1997 ?_
    refine j_m (As := [.int (xs (6 * n + 1)), .int (xs (6 * n + 2))]) (rest := []) C hI hS hv (m2 _) mv_X10_yearsUntil q_1619 rfl hl.1 rfl (Nat.le_of_ble_eq_true rfl) dL_law_1998 ⟨by decide, by decide⟩ ⟨l_ofr2 (by decide) hr.1, l_ofr2 (by decide) hr.2⟩ (fun r2 z2 H locs hp2 hI hS => ?_)
    obtain ⟨et, hJ⟩ := ag _ _ hp2
    refine lv_istore (lv' := (7, .int r2) :: (6, .int 1) :: lL b w v ou od n) hx hcb dL_law_2001 hl (by decide) rfl (fun ls hl => ?_)
    have h2 := lv_at hl 4 rfl
    have h3 := lv_at hl 5 rfl
    have h4 := lv_at hl 6 rfl
    have h6 := lv_at hl 1 rfl
    have h7 := lv_at hl 0 rfl
    refine lv_aload_n hx hcb dL_law_2003 rfl h2 ?_
    refine j_m (As := []) (rest := []) C hI hS hv (c_X10_thrown l G v hv z2 _) mv_X10_thrown q_1263 rfl hl.1 rfl (Nat.le_of_ble_eq_true rfl) dL_law_2004 ⟨by decide, by decide⟩ ⟨l_ofr3 (by decide) hr.1, l_ofr3 (by decide) hr.2⟩ (fun r3 z3 H locs hp3 hI hS => ?_)
    obtain ⟨e4, e5⟩ := hp3
    rw [e5] at hI
    rw [et] at e4
    subst e4
    refine lv_iload hx hcb dL_law_2007 h6 ?_
    refine lv_icmp_eq (tgt := 2014) hx hcb dL_law_2009 (by decide) (fun _ => ?_) (fun h => absurd rfl h)
    refine lv_iload hx hcb dL_law_2014 h6 ?_
    refine lv_if_ne (tgt := 2031) hx hcb dL_law_2016 (by decide) (fun _ => ?_) (fun h => absurd h (by decide))
    refine lv_goto (tgt := 2584) hx hcb dL_law_2031 (by decide) ?_
    refine W.widen (k := cells + 48) (n := slots + 574) (l_ofr3 (by decide) (Nat.le_refl _)) (l_ofr3 (by decide) (Nat.le_refl _)) ?_
    exact hk K w zc z2 f g H locs ls hw hJ hI hS (lv_sub hl [2, 3, 4, 5, 6, 7] rfl)
set_option maxRecDepth 100000 in
set_option maxHeartbeats 4000000 in
theorem k_partOf (C : lC p s m args c b L xs G cD) (hL : L ≤ 3072) (hn : 6 * n + 6 ≤ L) (hw : isC K w) (hv : isM v) (hJ : J K zc zm) (hI : lJ G w v zc zm ou od (lE1 G f) (lE2 cD g) s.heap.size H) (hS : va_S (lA s) s.heap H locs) (hl : lv_has ls 9 (lL b w v ou od n)) (hr : cells + 48 ≤ 601024 ∧ slots + 574 ≤ 7293034) (hk : lK p l e s m args below meth c cells slots Q G cD v ou od b n J)
    (hSim : ∀ x0 : Int32, lTd l J yX9_partOf cX9_partOf 4 (some FieldType.double) rm_X9_partOf rx_X9_partOf yX10_partOf cX10_partOf 4 (some FieldType.double) rm_X10_partOf [.int x0]) : W p l e room_1 s m args below meth c H locs cells slots Q (F0 m 2219 ls []) := by
  have h0 := lv_at hl 0 rfl
  have h1 := lv_at hl 1 rfl
  have h2 := lv_at hl 2 rfl
  have h3 := lv_at hl 3 rfl
  have h4 := lv_at hl 4 rfl
  have h5 := lv_at hl 5 rfl
  obtain ⟨hx, hcb, hml, hown, hts, hK, hZ, hX, hbl⟩ := id C
  rcases hSim (xs (6 * n + 1)) G w v K zc zm hw hv hJ with ⟨P1, P2, m1, m2, ag⟩ | ⟨P2, m1, m2, ag⟩
  · refine lv_aload_n hx hcb dL_law_2219 rfl h1 ?_
    refine j_s (k := 1) C hS h0 h5 (by decide) (by omega) hL dL_law_2220 dL_law_2221 dL_law_2223 dL_law_2224 dL_law_2225 ?_
    refine lv_aload hx hcb dL_law_2226 h4 ?_
    refine j_hD (As := [.ref (w.2.2 0), .int (xs (6 * n + 1)), .ref od]) (rest := []) C hI hS (n_L_partOf l G cD w K hw zc g od _ (xs (6 * n + 1)) m1) mh_L_partOf q_1149 rfl hl.1 rfl (Nat.le_of_ble_eq_true rfl) dL_law_2228 ⟨by decide, by decide⟩ ⟨l_ofr (by decide) hr.1, l_ofr (by decide) hr.2⟩ (fun r1 z1 e3 H locs hp1 hI hS => ?_)
    obtain ⟨rfl, a1, hp1, he⟩ := hp1
    have he : e3 = _ := he
    subst he
    refine lv_istore (lv' := (6, .int 0) :: lL b w v ou od n) hx hcb dL_law_2231 hl (by decide) rfl (fun ls hl => ?_)
    have h0 := lv_at hl 1 rfl
    have h2 := lv_at hl 3 rfl
    have h3 := lv_at hl 4 rfl
    have h4 := lv_at hl 5 rfl
    have h5 := lv_at hl 6 rfl
    refine lv_aload_n hx hcb dL_law_2233 rfl h2 ?_
    refine j_s (k := 1) C hS h0 h5 (by decide) (by omega) hL dL_law_2234 dL_law_2235 dL_law_2237 dL_law_2238 dL_law_2239 ?_
    refine j_md (As := [.int (xs (6 * n + 1))]) (rest := []) C hI hS hv (m2 _) mv_X10_partOf q_1644 rfl hl.1 rfl (Nat.le_of_ble_eq_true rfl) dL_law_2240 ⟨by decide, by decide⟩ ⟨l_ofr2 (by decide) hr.1, l_ofr2 (by decide) hr.2⟩ (fun r2 z2 H locs hp2 hI hS => ?_)
    obtain ⟨er, et, hJ⟩ := ag _ _ _ _ hp1 hp2
    subst er
    refine lv_dstore (lv' := (7, .double a1) :: (6, .int 0) :: lL b w v ou od n) hx hcb dL_law_2243 hl (by decide) rfl (fun ls hl => ?_)
    have h2 := lv_at hl 4 rfl
    have h3 := lv_at hl 5 rfl
    have h4 := lv_at hl 6 rfl
    have h6 := lv_at hl 1 rfl
    have h7 := lv_at hl 0 rfl
    refine lv_aload_n hx hcb dL_law_2245 rfl h2 ?_
    refine j_m (As := []) (rest := []) C hI hS hv (c_X10_thrown l G v hv z2 _) mv_X10_thrown q_1263 rfl hl.1 rfl (Nat.le_of_ble_eq_true rfl) dL_law_2246 ⟨by decide, by decide⟩ ⟨l_ofr3 (by decide) hr.1, l_ofr3 (by decide) hr.2⟩ (fun r3 z3 H locs hp3 hI hS => ?_)
    obtain ⟨e4, e5⟩ := hp3
    rw [e5] at hI
    rw [et] at e4
    subst e4
    refine lv_iload hx hcb dL_law_2249 h6 ?_
    refine lv_icmp_eq (tgt := 2256) hx hcb dL_law_2251 (by decide) (fun _ => ?_) (fun h => absurd rfl h)
    refine lv_iload hx hcb dL_law_2256 h6 ?_
    refine lv_if_ne (tgt := 2293) hx hcb dL_law_2258 (by decide) (fun h => absurd rfl h) (fun _ => ?_)
    refine lv_aload hx hcb dL_law_2261 h4 ?_
    refine lv_iconst (v := nI 0) hx hcb dL_law_2263 (by decide) ?_
    refine va_dald (D := G.1) (cl := vwCl) (tys := xtyD G cD) (cA := cD) (n := 1) (f := va_up g 0 a1) (i := nI 0) hx hcb hK hI.1.2.2.2 0 7 rfl rfl (vp_in_nI (by decide) (by decide)) dL_law_2264 ?_
    rw [show va_up g 0 a1 (nI 0).toNatClampNeg = a1 from va_up_self ..]
    refine lv_dload hx hcb dL_law_2265 h7 ?_
    refine lv_dcmp hx hcb dL_law_2267 ?_
    refine lv_if_eq (tgt := 2293) hx hcb dL_law_2268 (by decide) (fun _ => ?_) (fun hne => ?_)
    · refine lv_goto (tgt := 2584) hx hcb dL_law_2293 (by decide) ?_
      refine W.widen (k := cells + 48) (n := slots + 574) (l_ofr3 (by decide) (Nat.le_refl _)) (l_ofr3 (by decide) (Nat.le_refl _)) ?_
      exact hk K w z1 z2 f _ H locs ls hw hJ hI hS (lv_sub hl [2, 3, 4, 5, 6, 7] rfl)
    · refine lv_aload hx hcb dL_law_2271 h4 ?_
      refine lv_iconst (v := nI 0) hx hcb dL_law_2273 (by decide) ?_
      refine va_dald (D := G.1) (cl := vwCl) (tys := xtyD G cD) (cA := cD) (n := 1) (f := va_up g 0 a1) (i := nI 0) hx hcb hK hI.1.2.2.2 0 7 rfl rfl (vp_in_nI (by decide) (by decide)) dL_law_2274 ?_
      rw [show va_up g 0 a1 (nI 0).toNatClampNeg = a1 from va_up_self ..]
      refine lv_aload hx hcb dL_law_2275 h4 ?_
      refine lv_iconst (v := nI 0) hx hcb dL_law_2277 (by decide) ?_
      refine va_dald (D := G.1) (cl := vwCl) (tys := xtyD G cD) (cA := cD) (n := 1) (f := va_up g 0 a1) (i := nI 0) hx hcb hK hI.1.2.2.2 0 7 rfl rfl (vp_in_nI (by decide) (by decide)) dL_law_2278 ?_
      rw [show va_up g 0 a1 (nI 0).toNatClampNeg = a1 from va_up_self ..]
      refine lv_dcmp hx hcb dL_law_2279 ?_
      refine lv_if_eq (tgt := 2291) hx hcb dL_law_2280 (by decide) (fun h => absurd h hne) (fun _ => ?_)
      refine lv_dload hx hcb dL_law_2283 h7 ?_
      refine lv_dload hx hcb dL_law_2285 h7 ?_
      refine lv_dcmp hx hcb dL_law_2287 ?_
      refine lv_if_ne (tgt := 2293) hx hcb dL_law_2288 (by decide) (fun _ => ?_) (fun h => absurd h hne)
      refine lv_goto (tgt := 2584) hx hcb dL_law_2293 (by decide) ?_
      refine W.widen (k := cells + 48) (n := slots + 574) (l_ofr3 (by decide) (Nat.le_refl _)) (l_ofr3 (by decide) (Nat.le_refl _)) ?_
      exact hk K w z1 z2 f _ H locs ls hw hJ hI hS (lv_sub hl [2, 3, 4, 5, 6, 7] rfl)
  · refine lv_aload_n hx hcb dL_law_2219 rfl h1 ?_
    refine j_s (k := 1) C hS h0 h5 (by decide) (by omega) hL dL_law_2220 dL_law_2221 dL_law_2223 dL_law_2224 dL_law_2225 ?_
    refine lv_aload hx hcb dL_law_2226 h4 ?_
    refine j_hD (As := [.ref (w.2.2 0), .int (xs (6 * n + 1)), .ref od]) (rest := []) C hI hS (x_L_partOf l G cD w K hw zc g od _ (xs (6 * n + 1)) m1) mh_L_partOf q_1149 rfl hl.1 rfl (Nat.le_of_ble_eq_true rfl) dL_law_2228 ⟨by decide, by decide⟩ ⟨l_ofr (by decide) hr.1, l_ofr (by decide) hr.2⟩ (fun r1 z1 e3 H locs hp1 hI hS => ?_)
    obtain ⟨rfl, he⟩ := hp1
    rw [(Prod.mk.inj he).1, (Prod.mk.inj he).2] at hI
    refine lv_istore (lv' := (6, .int 1) :: lL b w v ou od n) hx hcb dL_law_2231 hl (by decide) rfl (fun ls hl => ?_)
    have h0 := lv_at hl 1 rfl
    have h2 := lv_at hl 3 rfl
    have h3 := lv_at hl 4 rfl
    have h4 := lv_at hl 5 rfl
    have h5 := lv_at hl 6 rfl
    refine lv_aload_n hx hcb dL_law_2233 rfl h2 ?_
    refine j_s (k := 1) C hS h0 h5 (by decide) (by omega) hL dL_law_2234 dL_law_2235 dL_law_2237 dL_law_2238 dL_law_2239 ?_
    refine j_md (As := [.int (xs (6 * n + 1))]) (rest := []) C hI hS hv (m2 _) mv_X10_partOf q_1644 rfl hl.1 rfl (Nat.le_of_ble_eq_true rfl) dL_law_2240 ⟨by decide, by decide⟩ ⟨l_ofr2 (by decide) hr.1, l_ofr2 (by decide) hr.2⟩ (fun r2 z2 H locs hp2 hI hS => ?_)
    obtain ⟨et, hJ⟩ := ag _ _ hp2
    refine lv_dstore (lv' := (7, .double r2) :: (6, .int 1) :: lL b w v ou od n) hx hcb dL_law_2243 hl (by decide) rfl (fun ls hl => ?_)
    have h2 := lv_at hl 4 rfl
    have h3 := lv_at hl 5 rfl
    have h4 := lv_at hl 6 rfl
    have h6 := lv_at hl 1 rfl
    have h7 := lv_at hl 0 rfl
    refine lv_aload_n hx hcb dL_law_2245 rfl h2 ?_
    refine j_m (As := []) (rest := []) C hI hS hv (c_X10_thrown l G v hv z2 _) mv_X10_thrown q_1263 rfl hl.1 rfl (Nat.le_of_ble_eq_true rfl) dL_law_2246 ⟨by decide, by decide⟩ ⟨l_ofr3 (by decide) hr.1, l_ofr3 (by decide) hr.2⟩ (fun r3 z3 H locs hp3 hI hS => ?_)
    obtain ⟨e4, e5⟩ := hp3
    rw [e5] at hI
    rw [et] at e4
    subst e4
    refine lv_iload hx hcb dL_law_2249 h6 ?_
    refine lv_icmp_eq (tgt := 2256) hx hcb dL_law_2251 (by decide) (fun _ => ?_) (fun h => absurd rfl h)
    refine lv_iload hx hcb dL_law_2256 h6 ?_
    refine lv_if_ne (tgt := 2293) hx hcb dL_law_2258 (by decide) (fun _ => ?_) (fun h => absurd h (by decide))
    refine lv_goto (tgt := 2584) hx hcb dL_law_2293 (by decide) ?_
    refine W.widen (k := cells + 48) (n := slots + 574) (l_ofr3 (by decide) (Nat.le_refl _)) (l_ofr3 (by decide) (Nat.le_refl _)) ?_
    exact hk K w zc z2 f g H locs ls hw hJ hI hS (lv_sub hl [2, 3, 4, 5, 6, 7] rfl)
end LLC
