/-! THE LAW'S CASES: what is asked of the two, and the calls that do not throw -/
abbrev lL (b : Nat) (w v : xWd) (ou od n : Nat) : List (Nat × Value) := [(0, .ref b), (1, .ref (w.2.2 0)), (2, .ref (v.2.2 0)), (3, .ref ou), (4, .ref od), (5, .int (nI (6 * n)))]
/-- the way on from the end of a case -/
abbrev lK (p : Program) (l : Launch) (e : Env) (s : State) (m : MethodId) (args : Array Value) (below : List Frame) (meth : Method) (c : Code) (cells slots : Nat) (Q : State → Prop) (G : xGl) (cD : ClassId) (v : xWd) (ou od b n : Nat) (J : Nat → xSt → xSt → Prop) : Prop :=
  ∀ (K : Nat) (w : xWd) (zc zm : xSt) (f : Nat → Int64) (g : Nat → UInt64) (H : Heap) (locs : List Loc) (ls : Array Slot), isC K w → J K zc zm → lJ G w v zc zm ou od (lE1 G f) (lE2 cD g) s.heap.size H → va_S (lA s) s.heap H locs → lv_has ls 9 (lL b w v ou od n) → W p l e room_1 s m args below meth c H locs (cells + 48) (slots + 574) Q (F0 m 2584 ls [])
/-- the two answer alike: ints -/
def lP (l : Launch) (J : Nat → xSt → xSt → Prop) (y1 : MethodName) (c1 : ByteArray) (m1 : Nat) (t1 : Option FieldType) (r1 : Room) (y2 : MethodName) (c2 : ByteArray) (m2 : Nat) (t2 : Option FieldType) (r2 : Room) (av : List Value) : Prop :=
  ∀ (G : xGl) (w v : xWd) (K : Nat) (zc zm : xSt), isC K w → isM v → J K zc zm → ∃ P1 P2 : Int32 → xSt → Prop, (∀ sz, xMi l y1 c1 m1 t1 r1 G w zc sz (.ref (w.2.2 0) :: av) P1) ∧ (∀ sz, xMi l y2 c2 m2 t2 r2 G v zm sz (.ref (v.2.2 0) :: av) P2) ∧ ∀ a b z1 z2, P1 a z1 → P2 b z2 → a = b ∧ J K z1 z2
/-- the same of a change, which may make a kept Books -/
def lG (l : Launch) (J : Nat → xSt → xSt → Prop) (y1 : MethodName) (c1 : ByteArray) (m1 : Nat) (t1 : Option FieldType) (r1 : Room) (y2 : MethodName) (c2 : ByteArray) (m2 : Nat) (t2 : Option FieldType) (r2 : Room) (av : List Value) : Prop :=
  ∀ (G : xGl) (w v : xWd) (K : Nat) (zc zm : xSt) (sz : Nat), isC K w → isM v → J K zc zm → ∃ (P1 : Int32 → xWd × xSt → Prop) (P2 : Int32 → xSt → Prop), xMgi l y1 c1 m1 t1 r1 G w zc sz (.ref (w.2.2 0) :: av) P1 ∧ (∀ sz, xMi l y2 c2 m2 t2 r2 G v zm sz (.ref (v.2.2 0) :: av) P2) ∧ (∀ r u, P1 r u → wX w u.1 sz) ∧ ∀ a u b z2, P1 a u → P2 b z2 → a = b ∧ ∃ K2, isC K2 u.1 ∧ J K2 u.2 z2
/-- of a question that may throw: both answer, or the one throws and the other says so -/
def lT (l : Launch) (J : Nat → xSt → xSt → Prop) (y1 : MethodName) (c1 : ByteArray) (m1 : Nat) (t1 : Option FieldType) (r1 rx : Room) (y2 : MethodName) (c2 : ByteArray) (m2 : Nat) (t2 : Option FieldType) (r2 : Room) (av : List Value) : Prop :=
  ∀ (G : xGl) (w v : xWd) (K : Nat) (zc zm : xSt), isC K w → isM v → J K zc zm → (∃ P1 P2 : Int32 → xSt → Prop, (∀ sz, xMi l y1 c1 m1 t1 r1 G w zc sz (.ref (w.2.2 0) :: av) P1) ∧ (∀ sz, xMi l y2 c2 m2 t2 r2 G v zm sz (.ref (v.2.2 0) :: av) P2) ∧ ∀ a b z1 z2, P1 a z1 → P2 b z2 → a = b ∧ z2.1 0 0 = 0 ∧ J K z1 z2) ∨
    (∃ P2 : Int32 → xSt → Prop, (∀ sz, xX l y1 c1 m1 t1 rx G w zc sz (.ref (w.2.2 0) :: av)) ∧ (∀ sz, xMi l y2 c2 m2 t2 r2 G v zm sz (.ref (v.2.2 0) :: av) P2) ∧ ∀ b z2, P2 b z2 → z2.1 0 0 = 1 ∧ J K zc z2)
def lT2 (l : Launch) (J : Nat → xSt → xSt → Prop) (y1 : MethodName) (c1 : ByteArray) (m1 : Nat) (t1 : Option FieldType) (r1 rx rx2 : Room) (y2 : MethodName) (c2 : ByteArray) (m2 : Nat) (t2 : Option FieldType) (r2 : Room) (av : List Value) : Prop :=
  ∀ (G : xGl) (w v : xWd) (K : Nat) (zc zm : xSt), isC K w → isM v → J K zc zm → (∃ P1 P2 : Int32 → xSt → Prop, (∀ sz, xMi l y1 c1 m1 t1 r1 G w zc sz (.ref (w.2.2 0) :: av) P1) ∧ (∀ sz, xMi l y2 c2 m2 t2 r2 G v zm sz (.ref (v.2.2 0) :: av) P2) ∧ ∀ a b z1 z2, P1 a z1 → P2 b z2 → a = b ∧ z2.1 0 0 = 0 ∧ J K z1 z2) ∨
    (∃ P2 : Int32 → xSt → Prop, ((∀ sz, xX l y1 c1 m1 t1 rx G w zc sz (.ref (w.2.2 0) :: av)) ∨ (∀ sz, xX l y1 c1 m1 t1 rx2 G w zc sz (.ref (w.2.2 0) :: av))) ∧ (∀ sz, xMi l y2 c2 m2 t2 r2 G v zm sz (.ref (v.2.2 0) :: av) P2) ∧ ∀ b z2, P2 b z2 → z2.1 0 0 = 1 ∧ J K zc z2)
def lTf (l : Launch) (J : Nat → xSt → xSt → Prop) (y1 : MethodName) (c1 : ByteArray) (m1 : Nat) (t1 : Option FieldType) (r1 rx : Room) (y2 : MethodName) (c2 : ByteArray) (m2 : Nat) (t2 : Option FieldType) (r2 : Room) (av : List Value) : Prop :=
  ∀ (G : xGl) (w v : xWd) (K : Nat) (zc zm : xSt), isC K w → isM v → J K zc zm → (∃ P1 P2 : UInt32 → xSt → Prop, (∀ sz, xMf l y1 c1 m1 t1 r1 G w zc sz (.ref (w.2.2 0) :: av) P1) ∧ (∀ sz, xMf l y2 c2 m2 t2 r2 G v zm sz (.ref (v.2.2 0) :: av) P2) ∧ (∀ a z1, P1 a z1 → vf_n64 (FP.f2d a) ∧ FP.dcmp (FP.f2d a) (FP.f2d a) = some .eq) ∧ ∀ a b z1 z2, P1 a z1 → P2 b z2 → a = b ∧ z2.1 0 0 = 0 ∧ J K z1 z2) ∨
    (∃ P2 : UInt32 → xSt → Prop, (∀ sz, xX l y1 c1 m1 t1 rx G w zc sz (.ref (w.2.2 0) :: av)) ∧ (∀ sz, xMf l y2 c2 m2 t2 r2 G v zm sz (.ref (v.2.2 0) :: av) P2) ∧ ∀ b z2, P2 b z2 → z2.1 0 0 = 1 ∧ J K zc z2)
def lTd (l : Launch) (J : Nat → xSt → xSt → Prop) (y1 : MethodName) (c1 : ByteArray) (m1 : Nat) (t1 : Option FieldType) (r1 rx : Room) (y2 : MethodName) (c2 : ByteArray) (m2 : Nat) (t2 : Option FieldType) (r2 : Room) (av : List Value) : Prop :=
  ∀ (G : xGl) (w v : xWd) (K : Nat) (zc zm : xSt), isC K w → isM v → J K zc zm → (∃ P1 P2 : UInt64 → xSt → Prop, (∀ sz, xMd l y1 c1 m1 t1 r1 G w zc sz (.ref (w.2.2 0) :: av) P1) ∧ (∀ sz, xMd l y2 c2 m2 t2 r2 G v zm sz (.ref (v.2.2 0) :: av) P2) ∧ ∀ a b z1 z2, P1 a z1 → P2 b z2 → a = b ∧ z2.1 0 0 = 0 ∧ J K z1 z2) ∨
    (∃ P2 : UInt64 → xSt → Prop, (∀ sz, xX l y1 c1 m1 t1 rx G w zc sz (.ref (w.2.2 0) :: av)) ∧ (∀ sz, xMd l y2 c2 m2 t2 r2 G v zm sz (.ref (v.2.2 0) :: av) P2) ∧ ∀ b z2, P2 b z2 → z2.1 0 0 = 1 ∧ J K zc z2)
theorem l_ofr {cells a k N : Nat} (h : a ≤ k) (hr : cells + k ≤ N) : cells + a ≤ N := Nat.le_trans (Nat.add_le_add_left h _) hr
theorem l_ofr2 {cells a b k N : Nat} (h : a + b ≤ k) (hr : cells + k ≤ N) : cells + a + b ≤ N := by omega
theorem l_ofr3 {cells a b d k N : Nat} (h : a + b + d ≤ k) (hr : cells + k ≤ N) : cells + a + b + d ≤ N := by omega
theorem lcmp_self (x : Int64) : lg_cmp x x = 0 := by simp [lg_cmp]
set_option maxRecDepth 100000 in
set_option maxHeartbeats 4000000 in
theorem x_L2_patronage (l : Launch) (G : xGl) (cD : ClassId) (w : xWd) (K : Nat) (hw : isC K w) (z : xSt) (f : Nat → Int64) (ou sz : Nat) (x0 : Int32) (x1 : Int32) (hM : ∀ sz, xX l yX9_patronage cX9_patronage 4 (some FieldType.int) rx2_X9_patronage G w z sz [.ref (w.2.2 0), .int x0, .int x1]) : xMw l yL_patronage cL_patronage 5 [(0, 10, 13, 13)] rm_L_patronage G cD w z (.inl (G.2 3, 1, .inr (.inl f))) ou sz [.ref (w.2.2 0), .int x0, .int x1, .ref ou] (fun r u => r = 1 ∧ u = (z, (.inl (G.2 3, 1, .inr (.inl f))))) := by
  refine x_mw (by decide) (Nat.le_of_ble_eq_true rfl) ?_
  intro p e s m args below meth c ls Q hsz X htab hR hP hap hS hl hret
  obtain ⟨hx, hcb, hml, hown, hts, hK, hZ⟩ := X
  have hl : lv_has ls 5 [(0, .ref (w.2.2 0)), (1, .int x0), (2, .int x1), (3, .ref ou)] := hl
  refine lv_aload_n hx hcb dL_patronage_0 rfl (lv_at hl 3 rfl) ?_
  refine lv_iconst (v := nI 0) hx hcb dL_patronage_1 (by decide) ?_
  refine lv_aload_n hx hcb dL_patronage_2 rfl (lv_at hl 0 rfl) ?_
  refine lv_iload_n hx hcb dL_patronage_3 rfl (lv_at hl 1 rfl) ?_
  refine lv_iload_n hx hcb dL_patronage_4 rfl (lv_at hl 2 rfl) ?_
  refine l_cx (w := w) (o := 0) (As := [.int x0, .int x1]) (rest := [.int (nI 0), .ref ou]) hx hcb hml hown hts htab (by decide) (by decide) q_896 (hM _) mv_X9_patronage q_984 (xtyD_0 hK) hZ hR hS (sub_w hS.1) (hw.lo (by decide)) xc9 (hw.s0 (by decide) rfl) rfl hl.1 rfl (Nat.le_of_ble_eq_true rfl) dL_patronage_5 ⟨by decide, by decide⟩ ⟨by decide, by decide⟩ (fun q9 H locs hR hk hS => ?_)
  have hP := ou_kept hP hap hk
  refine lv_astore (lv' := [(4, .ref q9), (0, .ref (w.2.2 0)), (1, .int x0), (2, .int x1), (3, .ref ou)]) hx hcb dL_patronage_13 hl (by decide) rfl (fun ls hl => ?_)
  refine lv_iconst (v := nI 1) hx hcb dL_patronage_15 (by decide) ?_
  refine W.widen (k := 1) (n := 6) (by decide) (by decide) ?_
  exact hret (nI 1) z _ _ _ _ _ dL_patronage_16 hR hP hS ⟨rfl, rfl⟩
theorem mh_L_certificate : xMH yL_certificate cL_certificate 5 [(0, 10, 13, 13)] 4 := ⟨q_1002, q_71, q_1003, by decide +kernel⟩
theorem mh_L_consents : xMH yL_consents cL_consents 4 [(0, 16, 19, 13)] 3 := ⟨q_894, q_71, q_895, by decide +kernel⟩
theorem mh_L_equityIn : xMH yL_equityIn cL_equityIn 5 [(0, 10, 13, 13)] 4 := ⟨q_1023, q_71, q_1024, by decide +kernel⟩
theorem mh_L_equityOf : xMH yL_equityOf cL_equityOf 4 [(0, 9, 12, 13)] 3 := ⟨q_1016, q_71, q_1017, by decide +kernel⟩
theorem mh_L_installment : xMH yL_installment cL_installment 5 [(0, 10, 13, 13)] 4 := ⟨q_1129, q_71, q_1130, by decide +kernel⟩
theorem mh_L_installmentsLeft : xMH yL_installmentsLeft cL_installmentsLeft 4 [(0, 9, 12, 13)] 3 := ⟨q_1122, q_71, q_1123, by decide +kernel⟩
theorem mh_L_isUniform : xMH yL_isUniform cL_isUniform 4 [(0, 16, 19, 13)] 3 := ⟨q_1097, q_71, q_1098, by decide +kernel⟩
theorem mh_L_kindOf : xMH yL_kindOf cL_kindOf 5 [(0, 10, 13, 13)] 4 := ⟨q_1009, q_71, q_1010, by decide +kernel⟩
theorem mh_L_lastAllocation : xMH yL_lastAllocation cL_lastAllocation 4 [(0, 9, 12, 13)] 3 := ⟨q_1041, q_71, q_1042, by decide +kernel⟩
theorem mh_L_lastRecapture : xMH yL_lastRecapture cL_lastRecapture 4 [(0, 9, 12, 13)] 3 := ⟨q_1048, q_71, q_1049, by decide +kernel⟩
theorem mh_L_meanAge : xMH yL_meanAge cL_meanAge 4 [(0, 8, 11, 13)] 3 := ⟨q_1074, q_71, q_1075, by decide +kernel⟩
theorem mh_L_oldestYear : xMH yL_oldestYear cL_oldestYear 4 [(0, 9, 12, 13)] 3 := ⟨q_1086, q_71, q_1087, by decide +kernel⟩
theorem mh_L_paidTo : xMH yL_paidTo cL_paidTo 5 [(0, 10, 13, 13)] 4 := ⟨q_1034, q_71, q_1035, by decide +kernel⟩
theorem mh_L_partOf : xMH yL_partOf cL_partOf 4 [(0, 8, 11, 13)] 3 := ⟨q_1150, q_71, q_1151, by decide +kernel⟩
theorem mh_L_patronage : xMH yL_patronage cL_patronage 5 [(0, 10, 13, 13)] 4 := ⟨q_982, q_71, q_983, by decide +kernel⟩
theorem mh_L_rateOf : xMH yL_rateOf cL_rateOf 4 [(0, 9, 12, 13)] 3 := ⟨q_1055, q_71, q_1056, by decide +kernel⟩
theorem mh_L_ratePoints : xMH yL_ratePoints cL_ratePoints 4 [(0, 9, 12, 13)] 3 := ⟨q_1066, q_71, q_1067, by decide +kernel⟩
theorem mh_L_stateOf : xMH yL_stateOf cL_stateOf 4 [(0, 9, 12, 13)] 3 := ⟨q_975, q_71, q_976, by decide +kernel⟩
theorem mh_L_totalPatronage : xMH yL_totalPatronage cL_totalPatronage 4 [(0, 9, 12, 13)] 3 := ⟨q_994, q_71, q_995, by decide +kernel⟩
theorem mh_L_wouldGet : xMH yL_wouldGet cL_wouldGet 8 [(0, 16, 19, 13)] 7 := ⟨q_1104, q_71, q_1105, by decide +kernel⟩
theorem mh_L_wouldRedeem : xMH yL_wouldRedeem cL_wouldRedeem 5 [(0, 10, 13, 13)] 4 := ⟨q_1111, q_71, q_1112, by decide +kernel⟩
theorem mh_L_yearsUntil : xMH yL_yearsUntil cL_yearsUntil 5 [(0, 10, 13, 13)] 4 := ⟨q_1140, q_71, q_1141, by decide +kernel⟩
section LLC
variable {p : Program} {l : Launch} {e : Env} {s : State} {m : MethodId} {args : Array Value} {below : List Frame} {meth : Method} {c : Code} {H : Heap} {locs : List Loc} {cells slots : Nat} {Q : State → Prop}
variable {ls : Array Slot} {G : xGl} {cD : ClassId} {w v : xWd} {zc zm : xSt} {ou od : Nat} {f : Nat → Int64} {g : Nat → UInt64} {b L K n : Nat} {xs : Nat → Int32} {J : Nat → xSt → xSt → Prop}
set_option maxRecDepth 100000 in
set_option maxHeartbeats 4000000 in
theorem k_feed (C : lC p s m args c b L xs G cD) (hL : L ≤ 3072) (hn : 6 * n + 6 ≤ L) (hw : isC K w) (hv : isM v) (hJ : J K zc zm) (hI : lJ G w v zc zm ou od (lE1 G f) (lE2 cD g) s.heap.size H) (hS : va_S (lA s) s.heap H locs) (hl : lv_has ls 9 (lL b w v ou od n)) (hr : cells + 48 ≤ 601024 ∧ slots + 574 ≤ 7293034) (hk : lK p l e s m args below meth c cells slots Q G cD v ou od b n J)
    (hSim : ∀ x0 x1 x2 x3 x4 : Int32, lP l J yX9_feed cX9_feed 6 (some FieldType.int) rm_X9_feed yX10_feed cX10_feed 8 (some FieldType.int) rm_X10_feed [.int x0, .int x1, .int x2, .int x3, .int x4]) : W p l e room_1 s m args below meth c H locs cells slots Q (F0 m 268 ls []) := by
  have h0 := lv_at hl 0 rfl
  have h1 := lv_at hl 1 rfl
  have h2 := lv_at hl 2 rfl
  have h3 := lv_at hl 3 rfl
  have h4 := lv_at hl 4 rfl
  have h5 := lv_at hl 5 rfl
  obtain ⟨hx, hcb, hml, hown, hts, hK, hZ, hX, hbl⟩ := id C
  obtain ⟨P1, P2, m1, m2, ag⟩ := hSim (xs (6 * n + 1)) (xs (6 * n + 2)) (xs (6 * n + 3)) (xs (6 * n + 4)) (xs (6 * n + 5)) G w v K zc zm hw hv hJ
  refine lv_aload_n hx hcb dL_law_268 rfl h1 ?_
  refine j_s (k := 1) C hS h0 h5 (by decide) (by omega) hL dL_law_269 dL_law_270 dL_law_272 dL_law_273 dL_law_274 ?_
  refine j_s (k := 2) C hS h0 h5 (by decide) (by omega) hL dL_law_275 dL_law_276 dL_law_278 dL_law_279 dL_law_280 ?_
  refine j_s (k := 3) C hS h0 h5 (by decide) (by omega) hL dL_law_281 dL_law_282 dL_law_284 dL_law_285 dL_law_286 ?_
  refine j_s (k := 4) C hS h0 h5 (by decide) (by omega) hL dL_law_287 dL_law_288 dL_law_290 dL_law_291 dL_law_292 ?_
  refine j_s (k := 5) C hS h0 h5 (by decide) (by omega) hL dL_law_293 dL_law_294 dL_law_296 dL_law_297 dL_law_298 ?_
  refine j_c (As := [.int (xs (6 * n + 1)), .int (xs (6 * n + 2)), .int (xs (6 * n + 3)), .int (xs (6 * n + 4)), .int (xs (6 * n + 5))]) (rest := []) C hI hS hw (m1 _) mv_X9_feed q_404 rfl hl.1 rfl (Nat.le_of_ble_eq_true rfl) dL_law_299 ⟨by decide, by decide⟩ ⟨l_ofr (by decide) hr.1, l_ofr (by decide) hr.2⟩ (fun r1 z1 H locs hp1 hI hS => ?_)
  refine lv_aload_n hx hcb dL_law_302 rfl h2 ?_
  refine j_s (k := 1) C hS h0 h5 (by decide) (by omega) hL dL_law_303 dL_law_304 dL_law_306 dL_law_307 dL_law_308 ?_
  refine j_s (k := 2) C hS h0 h5 (by decide) (by omega) hL dL_law_309 dL_law_310 dL_law_312 dL_law_313 dL_law_314 ?_
  refine j_s (k := 3) C hS h0 h5 (by decide) (by omega) hL dL_law_315 dL_law_316 dL_law_318 dL_law_319 dL_law_320 ?_
  refine j_s (k := 4) C hS h0 h5 (by decide) (by omega) hL dL_law_321 dL_law_322 dL_law_324 dL_law_325 dL_law_326 ?_
  refine j_s (k := 5) C hS h0 h5 (by decide) (by omega) hL dL_law_327 dL_law_328 dL_law_330 dL_law_331 dL_law_332 ?_
  refine j_m (As := [.int (xs (6 * n + 1)), .int (xs (6 * n + 2)), .int (xs (6 * n + 3)), .int (xs (6 * n + 4)), .int (xs (6 * n + 5))]) (rest := [.int r1]) C hI hS hv (m2 _) mv_X10_feed q_1267 rfl hl.1 rfl (Nat.le_of_ble_eq_true rfl) dL_law_333 ⟨by decide, by decide⟩ ⟨l_ofr2 (by decide) hr.1, l_ofr2 (by decide) hr.2⟩ (fun r2 z2 H locs hp2 hI hS => ?_)
  obtain ⟨er, hJ⟩ := ag _ _ _ _ hp1 hp2
  refine lv_icmp_eq (tgt := 2584) hx hcb dL_law_336 (by decide) (fun _ => ?_) (fun h => absurd er h)
  refine W.widen (k := cells + 48) (n := slots + 574) (l_ofr2 (by decide) (Nat.le_refl _)) (l_ofr2 (by decide) (Nat.le_refl _)) ?_
  exact hk K w z1 z2 f g H locs ls hw hJ hI hS hl
set_option maxRecDepth 100000 in
set_option maxHeartbeats 4000000 in
theorem k_load (C : lC p s m args c b L xs G cD) (hL : L ≤ 3072) (hn : 6 * n + 6 ≤ L) (hw : isC K w) (hv : isM v) (hJ : J K zc zm) (hI : lJ G w v zc zm ou od (lE1 G f) (lE2 cD g) s.heap.size H) (hS : va_S (lA s) s.heap H locs) (hl : lv_has ls 9 (lL b w v ou od n)) (hr : cells + 48 ≤ 601024 ∧ slots + 574 ≤ 7293034) (hk : lK p l e s m args below meth c cells slots Q G cD v ou od b n J)
    (hSim : ∀ x0 : Int32, lP l J yX9_load cX9_load 3 (some FieldType.int) rm_X9_load yX10_load cX10_load 2 (some FieldType.int) rm_X10_load [.int x0]) : W p l e room_1 s m args below meth c H locs cells slots Q (F0 m 341 ls []) := by
  have h0 := lv_at hl 0 rfl
  have h1 := lv_at hl 1 rfl
  have h2 := lv_at hl 2 rfl
  have h3 := lv_at hl 3 rfl
  have h4 := lv_at hl 4 rfl
  have h5 := lv_at hl 5 rfl
  obtain ⟨hx, hcb, hml, hown, hts, hK, hZ, hX, hbl⟩ := id C
  obtain ⟨P1, P2, m1, m2, ag⟩ := hSim (xs (6 * n + 1)) G w v K zc zm hw hv hJ
  refine lv_aload_n hx hcb dL_law_341 rfl h1 ?_
  refine j_s (k := 1) C hS h0 h5 (by decide) (by omega) hL dL_law_342 dL_law_343 dL_law_345 dL_law_346 dL_law_347 ?_
  refine j_c (As := [.int (xs (6 * n + 1))]) (rest := []) C hI hS hw (m1 _) mv_X9_load q_416 rfl hl.1 rfl (Nat.le_of_ble_eq_true rfl) dL_law_348 ⟨by decide, by decide⟩ ⟨l_ofr (by decide) hr.1, l_ofr (by decide) hr.2⟩ (fun r1 z1 H locs hp1 hI hS => ?_)
  refine lv_aload_n hx hcb dL_law_351 rfl h2 ?_
  refine j_s (k := 1) C hS h0 h5 (by decide) (by omega) hL dL_law_352 dL_law_353 dL_law_355 dL_law_356 dL_law_357 ?_
  refine j_m (As := [.int (xs (6 * n + 1))]) (rest := [.int r1]) C hI hS hv (m2 _) mv_X10_load q_1271 rfl hl.1 rfl (Nat.le_of_ble_eq_true rfl) dL_law_358 ⟨by decide, by decide⟩ ⟨l_ofr2 (by decide) hr.1, l_ofr2 (by decide) hr.2⟩ (fun r2 z2 H locs hp2 hI hS => ?_)
  obtain ⟨er, hJ⟩ := ag _ _ _ _ hp1 hp2
  refine lv_icmp_eq (tgt := 2584) hx hcb dL_law_361 (by decide) (fun _ => ?_) (fun h => absurd er h)
  refine W.widen (k := cells + 48) (n := slots + 574) (l_ofr2 (by decide) (Nat.le_refl _)) (l_ofr2 (by decide) (Nat.le_refl _)) ?_
  exact hk K w z1 z2 f g H locs ls hw hJ hI hS hl
set_option maxRecDepth 100000 in
set_option maxHeartbeats 4000000 in
theorem k_errorPosition (C : lC p s m args c b L xs G cD) (hL : L ≤ 3072) (hn : 6 * n + 6 ≤ L) (hw : isC K w) (hv : isM v) (hJ : J K zc zm) (hI : lJ G w v zc zm ou od (lE1 G f) (lE2 cD g) s.heap.size H) (hS : va_S (lA s) s.heap H locs) (hl : lv_has ls 9 (lL b w v ou od n)) (hr : cells + 48 ≤ 601024 ∧ slots + 574 ≤ 7293034) (hk : lK p l e s m args below meth c cells slots Q G cD v ou od b n J)
    (hSim : lP l J yX9_errorPosition cX9_errorPosition 1 (some FieldType.int) rm_X9_errorPosition yX10_errorPosition cX10_errorPosition 1 (some FieldType.int) rm_X10_errorPosition []) : W p l e room_1 s m args below meth c H locs cells slots Q (F0 m 366 ls []) := by
  have h0 := lv_at hl 0 rfl
  have h1 := lv_at hl 1 rfl
  have h2 := lv_at hl 2 rfl
  have h3 := lv_at hl 3 rfl
  have h4 := lv_at hl 4 rfl
  have h5 := lv_at hl 5 rfl
  obtain ⟨hx, hcb, hml, hown, hts, hK, hZ, hX, hbl⟩ := id C
  obtain ⟨P1, P2, m1, m2, ag⟩ := hSim  G w v K zc zm hw hv hJ
  refine lv_aload_n hx hcb dL_law_366 rfl h1 ?_
  refine j_c (As := []) (rest := []) C hI hS hw (m1 _) mv_X9_errorPosition q_668 rfl hl.1 rfl (Nat.le_of_ble_eq_true rfl) dL_law_367 ⟨by decide, by decide⟩ ⟨l_ofr (by decide) hr.1, l_ofr (by decide) hr.2⟩ (fun r1 z1 H locs hp1 hI hS => ?_)
  refine lv_aload_n hx hcb dL_law_370 rfl h2 ?_
  refine j_m (As := []) (rest := [.int r1]) C hI hS hv (m2 _) mv_X10_errorPosition q_1417 rfl hl.1 rfl (Nat.le_of_ble_eq_true rfl) dL_law_371 ⟨by decide, by decide⟩ ⟨l_ofr2 (by decide) hr.1, l_ofr2 (by decide) hr.2⟩ (fun r2 z2 H locs hp2 hI hS => ?_)
  obtain ⟨er, hJ⟩ := ag _ _ _ _ hp1 hp2
  refine lv_icmp_eq (tgt := 2584) hx hcb dL_law_374 (by decide) (fun _ => ?_) (fun h => absurd er h)
  refine W.widen (k := cells + 48) (n := slots + 574) (l_ofr2 (by decide) (Nat.le_refl _)) (l_ofr2 (by decide) (Nat.le_refl _)) ?_
  exact hk K w z1 z2 f g H locs ls hw hJ hI hS hl
set_option maxRecDepth 100000 in
set_option maxHeartbeats 4000000 in
theorem k_memberCount (C : lC p s m args c b L xs G cD) (hL : L ≤ 3072) (hn : 6 * n + 6 ≤ L) (hw : isC K w) (hv : isM v) (hJ : J K zc zm) (hI : lJ G w v zc zm ou od (lE1 G f) (lE2 cD g) s.heap.size H) (hS : va_S (lA s) s.heap H locs) (hl : lv_has ls 9 (lL b w v ou od n)) (hr : cells + 48 ≤ 601024 ∧ slots + 574 ≤ 7293034) (hk : lK p l e s m args below meth c cells slots Q G cD v ou od b n J)
    (hSim : lP l J yX9_memberCount cX9_memberCount 1 (some FieldType.int) rm_X9_memberCount yX10_memberCount cX10_memberCount 1 (some FieldType.int) rm_X10_memberCount []) : W p l e room_1 s m args below meth c H locs cells slots Q (F0 m 379 ls []) := by
  have h0 := lv_at hl 0 rfl
  have h1 := lv_at hl 1 rfl
  have h2 := lv_at hl 2 rfl
  have h3 := lv_at hl 3 rfl
  have h4 := lv_at hl 4 rfl
  have h5 := lv_at hl 5 rfl
  obtain ⟨hx, hcb, hml, hown, hts, hK, hZ, hX, hbl⟩ := id C
  obtain ⟨P1, P2, m1, m2, ag⟩ := hSim  G w v K zc zm hw hv hJ
  refine lv_aload_n hx hcb dL_law_379 rfl h1 ?_
  refine j_c (As := []) (rest := []) C hI hS hw (m1 _) mv_X9_memberCount q_672 rfl hl.1 rfl (Nat.le_of_ble_eq_true rfl) dL_law_380 ⟨by decide, by decide⟩ ⟨l_ofr (by decide) hr.1, l_ofr (by decide) hr.2⟩ (fun r1 z1 H locs hp1 hI hS => ?_)
  refine lv_aload_n hx hcb dL_law_383 rfl h2 ?_
  refine j_m (As := []) (rest := [.int r1]) C hI hS hv (m2 _) mv_X10_memberCount q_1421 rfl hl.1 rfl (Nat.le_of_ble_eq_true rfl) dL_law_384 ⟨by decide, by decide⟩ ⟨l_ofr2 (by decide) hr.1, l_ofr2 (by decide) hr.2⟩ (fun r2 z2 H locs hp2 hI hS => ?_)
  obtain ⟨er, hJ⟩ := ag _ _ _ _ hp1 hp2
  refine lv_icmp_eq (tgt := 2584) hx hcb dL_law_387 (by decide) (fun _ => ?_) (fun h => absurd er h)
  refine W.widen (k := cells + 48) (n := slots + 574) (l_ofr2 (by decide) (Nat.le_refl _)) (l_ofr2 (by decide) (Nat.le_refl _)) ?_
  exact hk K w z1 z2 f g H locs ls hw hJ hI hS hl
set_option maxRecDepth 100000 in
set_option maxHeartbeats 4000000 in
theorem k_departmentCount (C : lC p s m args c b L xs G cD) (hL : L ≤ 3072) (hn : 6 * n + 6 ≤ L) (hw : isC K w) (hv : isM v) (hJ : J K zc zm) (hI : lJ G w v zc zm ou od (lE1 G f) (lE2 cD g) s.heap.size H) (hS : va_S (lA s) s.heap H locs) (hl : lv_has ls 9 (lL b w v ou od n)) (hr : cells + 48 ≤ 601024 ∧ slots + 574 ≤ 7293034) (hk : lK p l e s m args below meth c cells slots Q G cD v ou od b n J)
    (hSim : lP l J yX9_departmentCount cX9_departmentCount 1 (some FieldType.int) rm_X9_departmentCount yX10_departmentCount cX10_departmentCount 1 (some FieldType.int) rm_X10_departmentCount []) : W p l e room_1 s m args below meth c H locs cells slots Q (F0 m 392 ls []) := by
  have h0 := lv_at hl 0 rfl
  have h1 := lv_at hl 1 rfl
  have h2 := lv_at hl 2 rfl
  have h3 := lv_at hl 3 rfl
  have h4 := lv_at hl 4 rfl
  have h5 := lv_at hl 5 rfl
  obtain ⟨hx, hcb, hml, hown, hts, hK, hZ, hX, hbl⟩ := id C
  obtain ⟨P1, P2, m1, m2, ag⟩ := hSim  G w v K zc zm hw hv hJ
  refine lv_aload_n hx hcb dL_law_392 rfl h1 ?_
  refine j_c (As := []) (rest := []) C hI hS hw (m1 _) mv_X9_departmentCount q_676 rfl hl.1 rfl (Nat.le_of_ble_eq_true rfl) dL_law_393 ⟨by decide, by decide⟩ ⟨l_ofr (by decide) hr.1, l_ofr (by decide) hr.2⟩ (fun r1 z1 H locs hp1 hI hS => ?_)
  refine lv_aload_n hx hcb dL_law_396 rfl h2 ?_
  refine j_m (As := []) (rest := [.int r1]) C hI hS hv (m2 _) mv_X10_departmentCount q_1425 rfl hl.1 rfl (Nat.le_of_ble_eq_true rfl) dL_law_397 ⟨by decide, by decide⟩ ⟨l_ofr2 (by decide) hr.1, l_ofr2 (by decide) hr.2⟩ (fun r2 z2 H locs hp2 hI hS => ?_)
  obtain ⟨er, hJ⟩ := ag _ _ _ _ hp1 hp2
  refine lv_icmp_eq (tgt := 2584) hx hcb dL_law_400 (by decide) (fun _ => ?_) (fun h => absurd er h)
  refine W.widen (k := cells + 48) (n := slots + 574) (l_ofr2 (by decide) (Nat.le_refl _)) (l_ofr2 (by decide) (Nat.le_refl _)) ?_
  exact hk K w z1 z2 f g H locs ls hw hJ hI hS hl
set_option maxRecDepth 100000 in
set_option maxHeartbeats 4000000 in
theorem k_year (C : lC p s m args c b L xs G cD) (hL : L ≤ 3072) (hn : 6 * n + 6 ≤ L) (hw : isC K w) (hv : isM v) (hJ : J K zc zm) (hI : lJ G w v zc zm ou od (lE1 G f) (lE2 cD g) s.heap.size H) (hS : va_S (lA s) s.heap H locs) (hl : lv_has ls 9 (lL b w v ou od n)) (hr : cells + 48 ≤ 601024 ∧ slots + 574 ≤ 7293034) (hk : lK p l e s m args below meth c cells slots Q G cD v ou od b n J)
    (hSim : lP l J yX9_year cX9_year 1 (some FieldType.int) rm_X9_year yX10_year cX10_year 1 (some FieldType.int) rm_X10_year []) : W p l e room_1 s m args below meth c H locs cells slots Q (F0 m 405 ls []) := by
  have h0 := lv_at hl 0 rfl
  have h1 := lv_at hl 1 rfl
  have h2 := lv_at hl 2 rfl
  have h3 := lv_at hl 3 rfl
  have h4 := lv_at hl 4 rfl
  have h5 := lv_at hl 5 rfl
  obtain ⟨hx, hcb, hml, hown, hts, hK, hZ, hX, hbl⟩ := id C
  obtain ⟨P1, P2, m1, m2, ag⟩ := hSim  G w v K zc zm hw hv hJ
  refine lv_aload_n hx hcb dL_law_405 rfl h1 ?_
  refine j_c (As := []) (rest := []) C hI hS hw (m1 _) mv_X9_year q_680 rfl hl.1 rfl (Nat.le_of_ble_eq_true rfl) dL_law_406 ⟨by decide, by decide⟩ ⟨l_ofr (by decide) hr.1, l_ofr (by decide) hr.2⟩ (fun r1 z1 H locs hp1 hI hS => ?_)
  refine lv_aload_n hx hcb dL_law_409 rfl h2 ?_
  refine j_m (As := []) (rest := [.int r1]) C hI hS hv (m2 _) mv_X10_year q_1429 rfl hl.1 rfl (Nat.le_of_ble_eq_true rfl) dL_law_410 ⟨by decide, by decide⟩ ⟨l_ofr2 (by decide) hr.1, l_ofr2 (by decide) hr.2⟩ (fun r2 z2 H locs hp2 hI hS => ?_)
  obtain ⟨er, hJ⟩ := ag _ _ _ _ hp1 hp2
  refine lv_icmp_eq (tgt := 2584) hx hcb dL_law_413 (by decide) (fun _ => ?_) (fun h => absurd er h)
  refine W.widen (k := cells + 48) (n := slots + 574) (l_ofr2 (by decide) (Nat.le_refl _)) (l_ofr2 (by decide) (Nat.le_refl _)) ?_
  exact hk K w z1 z2 f g H locs ls hw hJ hI hS hl
set_option maxRecDepth 100000 in
set_option maxHeartbeats 4000000 in
theorem k_undoCount (C : lC p s m args c b L xs G cD) (hL : L ≤ 3072) (hn : 6 * n + 6 ≤ L) (hw : isC K w) (hv : isM v) (hJ : J K zc zm) (hI : lJ G w v zc zm ou od (lE1 G f) (lE2 cD g) s.heap.size H) (hS : va_S (lA s) s.heap H locs) (hl : lv_has ls 9 (lL b w v ou od n)) (hr : cells + 48 ≤ 601024 ∧ slots + 574 ≤ 7293034) (hk : lK p l e s m args below meth c cells slots Q G cD v ou od b n J)
    (hSim : lP l J yX9_undoCount cX9_undoCount 1 (some FieldType.int) rm_X9_undoCount yX10_undoCount cX10_undoCount 1 (some FieldType.int) rm_X10_undoCount []) : W p l e room_1 s m args below meth c H locs cells slots Q (F0 m 418 ls []) := by
  have h0 := lv_at hl 0 rfl
  have h1 := lv_at hl 1 rfl
  have h2 := lv_at hl 2 rfl
  have h3 := lv_at hl 3 rfl
  have h4 := lv_at hl 4 rfl
  have h5 := lv_at hl 5 rfl
  obtain ⟨hx, hcb, hml, hown, hts, hK, hZ, hX, hbl⟩ := id C
  obtain ⟨P1, P2, m1, m2, ag⟩ := hSim  G w v K zc zm hw hv hJ
  refine lv_aload_n hx hcb dL_law_418 rfl h1 ?_
  refine j_c (As := []) (rest := []) C hI hS hw (m1 _) mv_X9_undoCount q_684 rfl hl.1 rfl (Nat.le_of_ble_eq_true rfl) dL_law_419 ⟨by decide, by decide⟩ ⟨l_ofr (by decide) hr.1, l_ofr (by decide) hr.2⟩ (fun r1 z1 H locs hp1 hI hS => ?_)
  refine lv_aload_n hx hcb dL_law_422 rfl h2 ?_
  refine j_m (As := []) (rest := [.int r1]) C hI hS hv (m2 _) mv_X10_undoCount q_1433 rfl hl.1 rfl (Nat.le_of_ble_eq_true rfl) dL_law_423 ⟨by decide, by decide⟩ ⟨l_ofr2 (by decide) hr.1, l_ofr2 (by decide) hr.2⟩ (fun r2 z2 H locs hp2 hI hS => ?_)
  obtain ⟨er, hJ⟩ := ag _ _ _ _ hp1 hp2
  refine lv_icmp_eq (tgt := 2584) hx hcb dL_law_426 (by decide) (fun _ => ?_) (fun h => absurd er h)
  refine W.widen (k := cells + 48) (n := slots + 574) (l_ofr2 (by decide) (Nat.le_refl _)) (l_ofr2 (by decide) (Nat.le_refl _)) ?_
  exact hk K w z1 z2 f g H locs ls hw hJ hI hS hl
set_option maxRecDepth 100000 in
set_option maxHeartbeats 4000000 in
theorem k_memberNamed (C : lC p s m args c b L xs G cD) (hL : L ≤ 3072) (hn : 6 * n + 6 ≤ L) (hw : isC K w) (hv : isM v) (hJ : J K zc zm) (hI : lJ G w v zc zm ou od (lE1 G f) (lE2 cD g) s.heap.size H) (hS : va_S (lA s) s.heap H locs) (hl : lv_has ls 9 (lL b w v ou od n)) (hr : cells + 48 ≤ 601024 ∧ slots + 574 ≤ 7293034) (hk : lK p l e s m args below meth c cells slots Q G cD v ou od b n J)
    (hSim : ∀ x0 : Int32, lP l J yX9_memberNamed cX9_memberNamed 2 (some FieldType.int) rm_X9_memberNamed yX10_memberNamed cX10_memberNamed 2 (some FieldType.int) rm_X10_memberNamed [.int x0]) : W p l e room_1 s m args below meth c H locs cells slots Q (F0 m 431 ls []) := by
  have h0 := lv_at hl 0 rfl
  have h1 := lv_at hl 1 rfl
  have h2 := lv_at hl 2 rfl
  have h3 := lv_at hl 3 rfl
  have h4 := lv_at hl 4 rfl
  have h5 := lv_at hl 5 rfl
  obtain ⟨hx, hcb, hml, hown, hts, hK, hZ, hX, hbl⟩ := id C
  obtain ⟨P1, P2, m1, m2, ag⟩ := hSim (xs (6 * n + 1)) G w v K zc zm hw hv hJ
  refine lv_aload_n hx hcb dL_law_431 rfl h1 ?_
  refine j_s (k := 1) C hS h0 h5 (by decide) (by omega) hL dL_law_432 dL_law_433 dL_law_435 dL_law_436 dL_law_437 ?_
  refine j_c (As := [.int (xs (6 * n + 1))]) (rest := []) C hI hS hw (m1 _) mv_X9_memberNamed q_688 rfl hl.1 rfl (Nat.le_of_ble_eq_true rfl) dL_law_438 ⟨by decide, by decide⟩ ⟨l_ofr (by decide) hr.1, l_ofr (by decide) hr.2⟩ (fun r1 z1 H locs hp1 hI hS => ?_)
  refine lv_aload_n hx hcb dL_law_441 rfl h2 ?_
  refine j_s (k := 1) C hS h0 h5 (by decide) (by omega) hL dL_law_442 dL_law_443 dL_law_445 dL_law_446 dL_law_447 ?_
  refine j_m (As := [.int (xs (6 * n + 1))]) (rest := [.int r1]) C hI hS hv (m2 _) mv_X10_memberNamed q_1437 rfl hl.1 rfl (Nat.le_of_ble_eq_true rfl) dL_law_448 ⟨by decide, by decide⟩ ⟨l_ofr2 (by decide) hr.1, l_ofr2 (by decide) hr.2⟩ (fun r2 z2 H locs hp2 hI hS => ?_)
  obtain ⟨er, hJ⟩ := ag _ _ _ _ hp1 hp2
  refine lv_icmp_eq (tgt := 2584) hx hcb dL_law_451 (by decide) (fun _ => ?_) (fun h => absurd er h)
  refine W.widen (k := cells + 48) (n := slots + 574) (l_ofr2 (by decide) (Nat.le_refl _)) (l_ofr2 (by decide) (Nat.le_refl _)) ?_
  exact hk K w z1 z2 f g H locs ls hw hJ hI hS hl
set_option maxRecDepth 100000 in
set_option maxHeartbeats 4000000 in
theorem k_departmentNamed (C : lC p s m args c b L xs G cD) (hL : L ≤ 3072) (hn : 6 * n + 6 ≤ L) (hw : isC K w) (hv : isM v) (hJ : J K zc zm) (hI : lJ G w v zc zm ou od (lE1 G f) (lE2 cD g) s.heap.size H) (hS : va_S (lA s) s.heap H locs) (hl : lv_has ls 9 (lL b w v ou od n)) (hr : cells + 48 ≤ 601024 ∧ slots + 574 ≤ 7293034) (hk : lK p l e s m args below meth c cells slots Q G cD v ou od b n J)
    (hSim : ∀ x0 : Int32, lP l J yX9_departmentNamed cX9_departmentNamed 2 (some FieldType.int) rm_X9_departmentNamed yX10_departmentNamed cX10_departmentNamed 2 (some FieldType.int) rm_X10_departmentNamed [.int x0]) : W p l e room_1 s m args below meth c H locs cells slots Q (F0 m 456 ls []) := by
  have h0 := lv_at hl 0 rfl
  have h1 := lv_at hl 1 rfl
  have h2 := lv_at hl 2 rfl
  have h3 := lv_at hl 3 rfl
  have h4 := lv_at hl 4 rfl
  have h5 := lv_at hl 5 rfl
  obtain ⟨hx, hcb, hml, hown, hts, hK, hZ, hX, hbl⟩ := id C
  obtain ⟨P1, P2, m1, m2, ag⟩ := hSim (xs (6 * n + 1)) G w v K zc zm hw hv hJ
  refine lv_aload_n hx hcb dL_law_456 rfl h1 ?_
  refine j_s (k := 1) C hS h0 h5 (by decide) (by omega) hL dL_law_457 dL_law_458 dL_law_460 dL_law_461 dL_law_462 ?_
  refine j_c (As := [.int (xs (6 * n + 1))]) (rest := []) C hI hS hw (m1 _) mv_X9_departmentNamed q_693 rfl hl.1 rfl (Nat.le_of_ble_eq_true rfl) dL_law_463 ⟨by decide, by decide⟩ ⟨l_ofr (by decide) hr.1, l_ofr (by decide) hr.2⟩ (fun r1 z1 H locs hp1 hI hS => ?_)
  refine lv_aload_n hx hcb dL_law_466 rfl h2 ?_
  refine j_s (k := 1) C hS h0 h5 (by decide) (by omega) hL dL_law_467 dL_law_468 dL_law_470 dL_law_471 dL_law_472 ?_
  refine j_m (As := [.int (xs (6 * n + 1))]) (rest := [.int r1]) C hI hS hv (m2 _) mv_X10_departmentNamed q_1441 rfl hl.1 rfl (Nat.le_of_ble_eq_true rfl) dL_law_473 ⟨by decide, by decide⟩ ⟨l_ofr2 (by decide) hr.1, l_ofr2 (by decide) hr.2⟩ (fun r2 z2 H locs hp2 hI hS => ?_)
  obtain ⟨er, hJ⟩ := ag _ _ _ _ hp1 hp2
  refine lv_icmp_eq (tgt := 2584) hx hcb dL_law_476 (by decide) (fun _ => ?_) (fun h => absurd er h)
  refine W.widen (k := cells + 48) (n := slots + 574) (l_ofr2 (by decide) (Nat.le_refl _)) (l_ofr2 (by decide) (Nat.le_refl _)) ?_
  exact hk K w z1 z2 f g H locs ls hw hJ hI hS hl
set_option maxRecDepth 100000 in
set_option maxHeartbeats 4000000 in
theorem k_getSetting (C : lC p s m args c b L xs G cD) (hL : L ≤ 3072) (hn : 6 * n + 6 ≤ L) (hw : isC K w) (hv : isM v) (hJ : J K zc zm) (hI : lJ G w v zc zm ou od (lE1 G f) (lE2 cD g) s.heap.size H) (hS : va_S (lA s) s.heap H locs) (hl : lv_has ls 9 (lL b w v ou od n)) (hr : cells + 48 ≤ 601024 ∧ slots + 574 ≤ 7293034) (hk : lK p l e s m args below meth c cells slots Q G cD v ou od b n J)
    (hSim : ∀ x0 : Int32, lP l J yX9_getSetting cX9_getSetting 2 (some FieldType.int) rm_X9_getSetting yX10_getSetting cX10_getSetting 2 (some FieldType.int) rm_X10_getSetting [.int x0]) : W p l e room_1 s m args below meth c H locs cells slots Q (F0 m 481 ls []) := by
  have h0 := lv_at hl 0 rfl
  have h1 := lv_at hl 1 rfl
  have h2 := lv_at hl 2 rfl
  have h3 := lv_at hl 3 rfl
  have h4 := lv_at hl 4 rfl
  have h5 := lv_at hl 5 rfl
  obtain ⟨hx, hcb, hml, hown, hts, hK, hZ, hX, hbl⟩ := id C
  obtain ⟨P1, P2, m1, m2, ag⟩ := hSim (xs (6 * n + 1)) G w v K zc zm hw hv hJ
  refine lv_aload_n hx hcb dL_law_481 rfl h1 ?_
  refine j_s (k := 1) C hS h0 h5 (by decide) (by omega) hL dL_law_482 dL_law_483 dL_law_485 dL_law_486 dL_law_487 ?_
  refine j_c (As := [.int (xs (6 * n + 1))]) (rest := []) C hI hS hw (m1 _) mv_X9_getSetting q_698 rfl hl.1 rfl (Nat.le_of_ble_eq_true rfl) dL_law_488 ⟨by decide, by decide⟩ ⟨l_ofr (by decide) hr.1, l_ofr (by decide) hr.2⟩ (fun r1 z1 H locs hp1 hI hS => ?_)
  refine lv_aload_n hx hcb dL_law_491 rfl h2 ?_
  refine j_s (k := 1) C hS h0 h5 (by decide) (by omega) hL dL_law_492 dL_law_493 dL_law_495 dL_law_496 dL_law_497 ?_
  refine j_m (As := [.int (xs (6 * n + 1))]) (rest := [.int r1]) C hI hS hv (m2 _) mv_X10_getSetting q_1445 rfl hl.1 rfl (Nat.le_of_ble_eq_true rfl) dL_law_498 ⟨by decide, by decide⟩ ⟨l_ofr2 (by decide) hr.1, l_ofr2 (by decide) hr.2⟩ (fun r2 z2 H locs hp2 hI hS => ?_)
  obtain ⟨er, hJ⟩ := ag _ _ _ _ hp1 hp2
  refine lv_icmp_eq (tgt := 2584) hx hcb dL_law_501 (by decide) (fun _ => ?_) (fun h => absurd er h)
  refine W.widen (k := cells + 48) (n := slots + 574) (l_ofr2 (by decide) (Nat.le_refl _)) (l_ofr2 (by decide) (Nat.le_refl _)) ?_
  exact hk K w z1 z2 f g H locs ls hw hJ hI hS hl
set_option maxRecDepth 100000 in
set_option maxHeartbeats 4000000 in
theorem k_totalEquity (C : lC p s m args c b L xs G cD) (hL : L ≤ 3072) (hn : 6 * n + 6 ≤ L) (hw : isC K w) (hv : isM v) (hJ : J K zc zm) (hI : lJ G w v zc zm ou od (lE1 G f) (lE2 cD g) s.heap.size H) (hS : va_S (lA s) s.heap H locs) (hl : lv_has ls 9 (lL b w v ou od n)) (hr : cells + 48 ≤ 601024 ∧ slots + 574 ≤ 7293034) (hk : lK p l e s m args below meth c cells slots Q G cD v ou od b n J)
    (hSim : lP l J yX9_totalEquity cX9_totalEquity 1 (some FieldType.int) rm_X9_totalEquity yX10_totalEquity cX10_totalEquity 3 (some FieldType.int) rm_X10_totalEquity []) : W p l e room_1 s m args below meth c H locs cells slots Q (F0 m 1009 ls []) := by
  have h0 := lv_at hl 0 rfl
  have h1 := lv_at hl 1 rfl
  have h2 := lv_at hl 2 rfl
  have h3 := lv_at hl 3 rfl
  have h4 := lv_at hl 4 rfl
  have h5 := lv_at hl 5 rfl
  obtain ⟨hx, hcb, hml, hown, hts, hK, hZ, hX, hbl⟩ := id C
  obtain ⟨P1, P2, m1, m2, ag⟩ := hSim  G w v K zc zm hw hv hJ
  refine lv_aload_n hx hcb dL_law_1009 rfl h1 ?_
  refine j_c (As := []) (rest := []) C hI hS hw (m1 _) mv_X9_totalEquity q_705 rfl hl.1 rfl (Nat.le_of_ble_eq_true rfl) dL_law_1010 ⟨by decide, by decide⟩ ⟨l_ofr (by decide) hr.1, l_ofr (by decide) hr.2⟩ (fun r1 z1 H locs hp1 hI hS => ?_)
  refine lv_aload_n hx hcb dL_law_1013 rfl h2 ?_
  refine j_m (As := []) (rest := [.int r1]) C hI hS hv (m2 _) mv_X10_totalEquity q_1504 rfl hl.1 rfl (Nat.le_of_ble_eq_true rfl) dL_law_1014 ⟨by decide, by decide⟩ ⟨l_ofr2 (by decide) hr.1, l_ofr2 (by decide) hr.2⟩ (fun r2 z2 H locs hp2 hI hS => ?_)
  obtain ⟨er, hJ⟩ := ag _ _ _ _ hp1 hp2
  refine lv_icmp_eq (tgt := 2584) hx hcb dL_law_1017 (by decide) (fun _ => ?_) (fun h => absurd er h)
  refine W.widen (k := cells + 48) (n := slots + 574) (l_ofr2 (by decide) (Nat.le_refl _)) (l_ofr2 (by decide) (Nat.le_refl _)) ?_
  exact hk K w z1 z2 f g H locs ls hw hJ hI hS hl
set_option maxRecDepth 100000 in
set_option maxHeartbeats 4000000 in
theorem k_reserve (C : lC p s m args c b L xs G cD) (hL : L ≤ 3072) (hn : 6 * n + 6 ≤ L) (hw : isC K w) (hv : isM v) (hJ : J K zc zm) (hI : lJ G w v zc zm ou od (lE1 G f) (lE2 cD g) s.heap.size H) (hS : va_S (lA s) s.heap H locs) (hl : lv_has ls 9 (lL b w v ou od n)) (hr : cells + 48 ≤ 601024 ∧ slots + 574 ≤ 7293034) (hk : lK p l e s m args below meth c cells slots Q G cD v ou od b n J)
    (hSim : lP l J yX9_reserve cX9_reserve 1 (some FieldType.int) rm_X9_reserve yX10_reserve cX10_reserve 1 (some FieldType.int) rm_X10_reserve []) : W p l e room_1 s m args below meth c H locs cells slots Q (F0 m 1022 ls []) := by
  have h0 := lv_at hl 0 rfl
  have h1 := lv_at hl 1 rfl
  have h2 := lv_at hl 2 rfl
  have h3 := lv_at hl 3 rfl
  have h4 := lv_at hl 4 rfl
  have h5 := lv_at hl 5 rfl
  obtain ⟨hx, hcb, hml, hown, hts, hK, hZ, hX, hbl⟩ := id C
  obtain ⟨P1, P2, m1, m2, ag⟩ := hSim  G w v K zc zm hw hv hJ
  refine lv_aload_n hx hcb dL_law_1022 rfl h1 ?_
  refine j_c (As := []) (rest := []) C hI hS hw (m1 _) mv_X9_reserve q_714 rfl hl.1 rfl (Nat.le_of_ble_eq_true rfl) dL_law_1023 ⟨by decide, by decide⟩ ⟨l_ofr (by decide) hr.1, l_ofr (by decide) hr.2⟩ (fun r1 z1 H locs hp1 hI hS => ?_)
  refine lv_aload_n hx hcb dL_law_1026 rfl h2 ?_
  refine j_m (As := []) (rest := [.int r1]) C hI hS hv (m2 _) mv_X10_reserve q_1508 rfl hl.1 rfl (Nat.le_of_ble_eq_true rfl) dL_law_1027 ⟨by decide, by decide⟩ ⟨l_ofr2 (by decide) hr.1, l_ofr2 (by decide) hr.2⟩ (fun r2 z2 H locs hp2 hI hS => ?_)
  obtain ⟨er, hJ⟩ := ag _ _ _ _ hp1 hp2
  refine lv_icmp_eq (tgt := 2584) hx hcb dL_law_1030 (by decide) (fun _ => ?_) (fun h => absurd er h)
  refine W.widen (k := cells + 48) (n := slots + 574) (l_ofr2 (by decide) (Nat.le_refl _)) (l_ofr2 (by decide) (Nat.le_refl _)) ?_
  exact hk K w z1 z2 f g H locs ls hw hJ hI hS hl
set_option maxRecDepth 100000 in
set_option maxHeartbeats 4000000 in
theorem k_topMember (C : lC p s m args c b L xs G cD) (hL : L ≤ 3072) (hn : 6 * n + 6 ≤ L) (hw : isC K w) (hv : isM v) (hJ : J K zc zm) (hI : lJ G w v zc zm ou od (lE1 G f) (lE2 cD g) s.heap.size H) (hS : va_S (lA s) s.heap H locs) (hl : lv_has ls 9 (lL b w v ou od n)) (hr : cells + 48 ≤ 601024 ∧ slots + 574 ≤ 7293034) (hk : lK p l e s m args below meth c cells slots Q G cD v ou od b n J)
    (hSim : ∀ x0 x1 x2 x3 : Int32, lP l J yX9_topMember cX9_topMember 9 (some FieldType.int) rm_X9_topMember yX10_topMember cX10_topMember 7 (some FieldType.int) rm_X10_topMember [.int x0, .int x1, .int x2, .int x3]) : W p l e room_1 s m args below meth c H locs cells slots Q (F0 m 1649 ls []) := by
  have h0 := lv_at hl 0 rfl
  have h1 := lv_at hl 1 rfl
  have h2 := lv_at hl 2 rfl
  have h3 := lv_at hl 3 rfl
  have h4 := lv_at hl 4 rfl
  have h5 := lv_at hl 5 rfl
  obtain ⟨hx, hcb, hml, hown, hts, hK, hZ, hX, hbl⟩ := id C
  obtain ⟨P1, P2, m1, m2, ag⟩ := hSim (xs (6 * n + 1)) (xs (6 * n + 2)) (xs (6 * n + 3)) (xs (6 * n + 4)) G w v K zc zm hw hv hJ
  refine lv_aload_n hx hcb dL_law_1649 rfl h1 ?_
  refine j_s (k := 1) C hS h0 h5 (by decide) (by omega) hL dL_law_1650 dL_law_1651 dL_law_1653 dL_law_1654 dL_law_1655 ?_
  refine j_s (k := 2) C hS h0 h5 (by decide) (by omega) hL dL_law_1656 dL_law_1657 dL_law_1659 dL_law_1660 dL_law_1661 ?_
  refine j_s (k := 3) C hS h0 h5 (by decide) (by omega) hL dL_law_1662 dL_law_1663 dL_law_1665 dL_law_1666 dL_law_1667 ?_
  refine j_s (k := 4) C hS h0 h5 (by decide) (by omega) hL dL_law_1668 dL_law_1669 dL_law_1671 dL_law_1672 dL_law_1673 ?_
  refine j_c (As := [.int (xs (6 * n + 1)), .int (xs (6 * n + 2)), .int (xs (6 * n + 3)), .int (xs (6 * n + 4))]) (rest := []) C hI hS hw (m1 _) mv_X9_topMember q_718 rfl hl.1 rfl (Nat.le_of_ble_eq_true rfl) dL_law_1674 ⟨by decide, by decide⟩ ⟨l_ofr (by decide) hr.1, l_ofr (by decide) hr.2⟩ (fun r1 z1 H locs hp1 hI hS => ?_)
  refine lv_aload_n hx hcb dL_law_1677 rfl h2 ?_
  refine j_s (k := 1) C hS h0 h5 (by decide) (by omega) hL dL_law_1678 dL_law_1679 dL_law_1681 dL_law_1682 dL_law_1683 ?_
  refine j_s (k := 2) C hS h0 h5 (by decide) (by omega) hL dL_law_1684 dL_law_1685 dL_law_1687 dL_law_1688 dL_law_1689 ?_
  refine j_s (k := 3) C hS h0 h5 (by decide) (by omega) hL dL_law_1690 dL_law_1691 dL_law_1693 dL_law_1694 dL_law_1695 ?_
  refine j_s (k := 4) C hS h0 h5 (by decide) (by omega) hL dL_law_1696 dL_law_1697 dL_law_1699 dL_law_1700 dL_law_1701 ?_
  refine j_m (As := [.int (xs (6 * n + 1)), .int (xs (6 * n + 2)), .int (xs (6 * n + 3)), .int (xs (6 * n + 4))]) (rest := [.int r1]) C hI hS hv (m2 _) mv_X10_topMember q_1559 rfl hl.1 rfl (Nat.le_of_ble_eq_true rfl) dL_law_1702 ⟨by decide, by decide⟩ ⟨l_ofr2 (by decide) hr.1, l_ofr2 (by decide) hr.2⟩ (fun r2 z2 H locs hp2 hI hS => ?_)
  obtain ⟨er, hJ⟩ := ag _ _ _ _ hp1 hp2
  refine lv_icmp_eq (tgt := 2584) hx hcb dL_law_1705 (by decide) (fun _ => ?_) (fun h => absurd er h)
  refine W.widen (k := cells + 48) (n := slots + 574) (l_ofr2 (by decide) (Nat.le_refl _)) (l_ofr2 (by decide) (Nat.le_refl _)) ?_
  exact hk K w z1 z2 f g H locs ls hw hJ hI hS hl
set_option maxRecDepth 100000 in
set_option maxHeartbeats 4000000 in
theorem k_redeemable (C : lC p s m args c b L xs G cD) (hL : L ≤ 3072) (hn : 6 * n + 6 ≤ L) (hw : isC K w) (hv : isM v) (hJ : J K zc zm) (hI : lJ G w v zc zm ou od (lE1 G f) (lE2 cD g) s.heap.size H) (hS : va_S (lA s) s.heap H locs) (hl : lv_has ls 9 (lL b w v ou od n)) (hr : cells + 48 ≤ 601024 ∧ slots + 574 ≤ 7293034) (hk : lK p l e s m args below meth c cells slots Q G cD v ou od b n J)
    (hSim : lP l J yX9_redeemable cX9_redeemable 1 (some FieldType.int) rm_X9_redeemable yX10_redeemable cX10_redeemable 1 (some FieldType.int) rm_X10_redeemable []) : W p l e room_1 s m args below meth c H locs cells slots Q (F0 m 1710 ls []) := by
  have h0 := lv_at hl 0 rfl
  have h1 := lv_at hl 1 rfl
  have h2 := lv_at hl 2 rfl
  have h3 := lv_at hl 3 rfl
  have h4 := lv_at hl 4 rfl
  have h5 := lv_at hl 5 rfl
  obtain ⟨hx, hcb, hml, hown, hts, hK, hZ, hX, hbl⟩ := id C
  obtain ⟨P1, P2, m1, m2, ag⟩ := hSim  G w v K zc zm hw hv hJ
  refine lv_aload_n hx hcb dL_law_1710 rfl h1 ?_
  refine j_c (As := []) (rest := []) C hI hS hw (m1 _) mv_X9_redeemable q_732 rfl hl.1 rfl (Nat.le_of_ble_eq_true rfl) dL_law_1711 ⟨by decide, by decide⟩ ⟨l_ofr (by decide) hr.1, l_ofr (by decide) hr.2⟩ (fun r1 z1 H locs hp1 hI hS => ?_)
  refine lv_aload_n hx hcb dL_law_1714 rfl h2 ?_
  refine j_m (As := []) (rest := [.int r1]) C hI hS hv (m2 _) mv_X10_redeemable q_1563 rfl hl.1 rfl (Nat.le_of_ble_eq_true rfl) dL_law_1715 ⟨by decide, by decide⟩ ⟨l_ofr2 (by decide) hr.1, l_ofr2 (by decide) hr.2⟩ (fun r2 z2 H locs hp2 hI hS => ?_)
  obtain ⟨er, hJ⟩ := ag _ _ _ _ hp1 hp2
  refine lv_icmp_eq (tgt := 2584) hx hcb dL_law_1718 (by decide) (fun _ => ?_) (fun h => absurd er h)
  refine W.widen (k := cells + 48) (n := slots + 574) (l_ofr2 (by decide) (Nat.le_refl _)) (l_ofr2 (by decide) (Nat.le_refl _)) ?_
  exact hk K w z1 z2 f g H locs ls hw hJ hI hS hl
set_option maxRecDepth 100000 in
set_option maxHeartbeats 4000000 in
theorem k_budgetThrough (C : lC p s m args c b L xs G cD) (hL : L ≤ 3072) (hn : 6 * n + 6 ≤ L) (hw : isC K w) (hv : isM v) (hJ : J K zc zm) (hI : lJ G w v zc zm ou od (lE1 G f) (lE2 cD g) s.heap.size H) (hS : va_S (lA s) s.heap H locs) (hl : lv_has ls 9 (lL b w v ou od n)) (hr : cells + 48 ≤ 601024 ∧ slots + 574 ≤ 7293034) (hk : lK p l e s m args below meth c cells slots Q G cD v ou od b n J)
    (hSim : ∀ x0 : Int32, lP l J yX9_budgetThrough cX9_budgetThrough 2 (some FieldType.int) rm_X9_budgetThrough yX10_budgetThrough cX10_budgetThrough 2 (some FieldType.int) rm_X10_budgetThrough [.int x0]) : W p l e room_1 s m args below meth c H locs cells slots Q (F0 m 1791 ls []) := by
  have h0 := lv_at hl 0 rfl
  have h1 := lv_at hl 1 rfl
  have h2 := lv_at hl 2 rfl
  have h3 := lv_at hl 3 rfl
  have h4 := lv_at hl 4 rfl
  have h5 := lv_at hl 5 rfl
  obtain ⟨hx, hcb, hml, hown, hts, hK, hZ, hX, hbl⟩ := id C
  obtain ⟨P1, P2, m1, m2, ag⟩ := hSim (xs (6 * n + 1)) G w v K zc zm hw hv hJ
  refine lv_aload_n hx hcb dL_law_1791 rfl h1 ?_
  refine j_s (k := 1) C hS h0 h5 (by decide) (by omega) hL dL_law_1792 dL_law_1793 dL_law_1795 dL_law_1796 dL_law_1797 ?_
  refine j_c (As := [.int (xs (6 * n + 1))]) (rest := []) C hI hS hw (m1 _) mv_X9_budgetThrough q_744 rfl hl.1 rfl (Nat.le_of_ble_eq_true rfl) dL_law_1798 ⟨by decide, by decide⟩ ⟨l_ofr (by decide) hr.1, l_ofr (by decide) hr.2⟩ (fun r1 z1 H locs hp1 hI hS => ?_)
  refine lv_aload_n hx hcb dL_law_1801 rfl h2 ?_
  refine j_s (k := 1) C hS h0 h5 (by decide) (by omega) hL dL_law_1802 dL_law_1803 dL_law_1805 dL_law_1806 dL_law_1807 ?_
  refine j_m (As := [.int (xs (6 * n + 1))]) (rest := [.int r1]) C hI hS hv (m2 _) mv_X10_budgetThrough q_1599 rfl hl.1 rfl (Nat.le_of_ble_eq_true rfl) dL_law_1808 ⟨by decide, by decide⟩ ⟨l_ofr2 (by decide) hr.1, l_ofr2 (by decide) hr.2⟩ (fun r2 z2 H locs hp2 hI hS => ?_)
  obtain ⟨er, hJ⟩ := ag _ _ _ _ hp1 hp2
  refine lv_icmp_eq (tgt := 2584) hx hcb dL_law_1811 (by decide) (fun _ => ?_) (fun h => absurd er h)
  refine W.widen (k := cells + 48) (n := slots + 574) (l_ofr2 (by decide) (Nat.le_refl _)) (l_ofr2 (by decide) (Nat.le_refl _)) ?_
  exact hk K w z1 z2 f g H locs ls hw hJ hI hS hl
set_option maxRecDepth 100000 in
set_option maxHeartbeats 4000000 in
theorem k_balance (C : lC p s m args c b L xs G cD) (hL : L ≤ 3072) (hn : 6 * n + 6 ≤ L) (hw : isC K w) (hv : isM v) (hJ : J K zc zm) (hI : lJ G w v zc zm ou od (lE1 G f) (lE2 cD g) s.heap.size H) (hS : va_S (lA s) s.heap H locs) (hl : lv_has ls 9 (lL b w v ou od n)) (hr : cells + 48 ≤ 601024 ∧ slots + 574 ≤ 7293034) (hk : lK p l e s m args below meth c cells slots Q G cD v ou od b n J)
    (hSim : lP l J yX9_balance cX9_balance 1 (some FieldType.int) rm_X9_balance yX10_balance cX10_balance 3 (some FieldType.int) rm_X10_balance []) : W p l e room_1 s m args below meth c H locs cells slots Q (F0 m 1940 ls []) := by
  have h0 := lv_at hl 0 rfl
  have h1 := lv_at hl 1 rfl
  have h2 := lv_at hl 2 rfl
  have h3 := lv_at hl 3 rfl
  have h4 := lv_at hl 4 rfl
  have h5 := lv_at hl 5 rfl
  obtain ⟨hx, hcb, hml, hown, hts, hK, hZ, hX, hbl⟩ := id C
  obtain ⟨P1, P2, m1, m2, ag⟩ := hSim  G w v K zc zm hw hv hJ
  refine lv_aload_n hx hcb dL_law_1940 rfl h1 ?_
  refine j_c (As := []) (rest := []) C hI hS hw (m1 _) mv_X9_balance q_752 rfl hl.1 rfl (Nat.le_of_ble_eq_true rfl) dL_law_1941 ⟨by decide, by decide⟩ ⟨l_ofr (by decide) hr.1, l_ofr (by decide) hr.2⟩ (fun r1 z1 H locs hp1 hI hS => ?_)
  refine lv_aload_n hx hcb dL_law_1944 rfl h2 ?_
  refine j_m (As := []) (rest := [.int r1]) C hI hS hv (m2 _) mv_X10_balance q_1611 rfl hl.1 rfl (Nat.le_of_ble_eq_true rfl) dL_law_1945 ⟨by decide, by decide⟩ ⟨l_ofr2 (by decide) hr.1, l_ofr2 (by decide) hr.2⟩ (fun r2 z2 H locs hp2 hI hS => ?_)
  obtain ⟨er, hJ⟩ := ag _ _ _ _ hp1 hp2
  refine lv_icmp_eq (tgt := 2584) hx hcb dL_law_1948 (by decide) (fun _ => ?_) (fun h => absurd er h)
  refine W.widen (k := cells + 48) (n := slots + 574) (l_ofr2 (by decide) (Nat.le_refl _)) (l_ofr2 (by decide) (Nat.le_refl _)) ?_
  exact hk K w z1 z2 f g H locs ls hw hJ hI hS hl
set_option maxRecDepth 100000 in
set_option maxHeartbeats 4000000 in
theorem k_nextInLine (C : lC p s m args c b L xs G cD) (hL : L ≤ 3072) (hn : 6 * n + 6 ≤ L) (hw : isC K w) (hv : isM v) (hJ : J K zc zm) (hI : lJ G w v zc zm ou od (lE1 G f) (lE2 cD g) s.heap.size H) (hS : va_S (lA s) s.heap H locs) (hl : lv_has ls 9 (lL b w v ou od n)) (hr : cells + 48 ≤ 601024 ∧ slots + 574 ≤ 7293034) (hk : lK p l e s m args below meth c cells slots Q G cD v ou od b n J)
    (hSim : lP l J yX9_nextInLine cX9_nextInLine 1 (some FieldType.int) rm_X9_nextInLine yX10_nextInLine cX10_nextInLine 3 (some FieldType.int) rm_X10_nextInLine []) : W p l e room_1 s m args below meth c H locs cells slots Q (F0 m 1953 ls []) := by
  have h0 := lv_at hl 0 rfl
  have h1 := lv_at hl 1 rfl
  have h2 := lv_at hl 2 rfl
  have h3 := lv_at hl 3 rfl
  have h4 := lv_at hl 4 rfl
  have h5 := lv_at hl 5 rfl
  obtain ⟨hx, hcb, hml, hown, hts, hK, hZ, hX, hbl⟩ := id C
  obtain ⟨P1, P2, m1, m2, ag⟩ := hSim  G w v K zc zm hw hv hJ
  refine lv_aload_n hx hcb dL_law_1953 rfl h1 ?_
  refine j_c (As := []) (rest := []) C hI hS hw (m1 _) mv_X9_nextInLine q_760 rfl hl.1 rfl (Nat.le_of_ble_eq_true rfl) dL_law_1954 ⟨by decide, by decide⟩ ⟨l_ofr (by decide) hr.1, l_ofr (by decide) hr.2⟩ (fun r1 z1 H locs hp1 hI hS => ?_)
  refine lv_aload_n hx hcb dL_law_1957 rfl h2 ?_
  refine j_m (As := []) (rest := [.int r1]) C hI hS hv (m2 _) mv_X10_nextInLine q_1615 rfl hl.1 rfl (Nat.le_of_ble_eq_true rfl) dL_law_1958 ⟨by decide, by decide⟩ ⟨l_ofr2 (by decide) hr.1, l_ofr2 (by decide) hr.2⟩ (fun r2 z2 H locs hp2 hI hS => ?_)
  obtain ⟨er, hJ⟩ := ag _ _ _ _ hp1 hp2
  refine lv_icmp_eq (tgt := 2584) hx hcb dL_law_1961 (by decide) (fun _ => ?_) (fun h => absurd er h)
  refine W.widen (k := cells + 48) (n := slots + 574) (l_ofr2 (by decide) (Nat.le_refl _)) (l_ofr2 (by decide) (Nat.le_refl _)) ?_
  exact hk K w z1 z2 f g H locs ls hw hJ hI hS hl
set_option maxRecDepth 100000 in
set_option maxHeartbeats 4000000 in
theorem k_equityOfYear (C : lC p s m args c b L xs G cD) (hL : L ≤ 3072) (hn : 6 * n + 6 ≤ L) (hw : isC K w) (hv : isM v) (hJ : J K zc zm) (hI : lJ G w v zc zm ou od (lE1 G f) (lE2 cD g) s.heap.size H) (hS : va_S (lA s) s.heap H locs) (hl : lv_has ls 9 (lL b w v ou od n)) (hr : cells + 48 ≤ 601024 ∧ slots + 574 ≤ 7293034) (hk : lK p l e s m args below meth c cells slots Q G cD v ou od b n J)
    (hSim : ∀ x0 : Int32, lP l J yX9_equityOfYear cX9_equityOfYear 4 (some FieldType.int) rm_X9_equityOfYear yX10_equityOfYear cX10_equityOfYear 4 (some FieldType.int) rm_X10_equityOfYear [.int x0]) : W p l e room_1 s m args below meth c H locs cells slots Q (F0 m 2034 ls []) := by
  have h0 := lv_at hl 0 rfl
  have h1 := lv_at hl 1 rfl
  have h2 := lv_at hl 2 rfl
  have h3 := lv_at hl 3 rfl
  have h4 := lv_at hl 4 rfl
  have h5 := lv_at hl 5 rfl
  obtain ⟨hx, hcb, hml, hown, hts, hK, hZ, hX, hbl⟩ := id C
  obtain ⟨P1, P2, m1, m2, ag⟩ := hSim (xs (6 * n + 1)) G w v K zc zm hw hv hJ
  refine lv_aload_n hx hcb dL_law_2034 rfl h1 ?_
  refine j_s (k := 1) C hS h0 h5 (by decide) (by omega) hL dL_law_2035 dL_law_2036 dL_law_2038 dL_law_2039 dL_law_2040 ?_
  refine j_c (As := [.int (xs (6 * n + 1))]) (rest := []) C hI hS hw (m1 _) mv_X9_equityOfYear q_795 rfl hl.1 rfl (Nat.le_of_ble_eq_true rfl) dL_law_2041 ⟨by decide, by decide⟩ ⟨l_ofr (by decide) hr.1, l_ofr (by decide) hr.2⟩ (fun r1 z1 H locs hp1 hI hS => ?_)
  refine lv_aload_n hx hcb dL_law_2044 rfl h2 ?_
  refine j_s (k := 1) C hS h0 h5 (by decide) (by omega) hL dL_law_2045 dL_law_2046 dL_law_2048 dL_law_2049 dL_law_2050 ?_
  refine j_m (As := [.int (xs (6 * n + 1))]) (rest := [.int r1]) C hI hS hv (m2 _) mv_X10_equityOfYear q_1624 rfl hl.1 rfl (Nat.le_of_ble_eq_true rfl) dL_law_2051 ⟨by decide, by decide⟩ ⟨l_ofr2 (by decide) hr.1, l_ofr2 (by decide) hr.2⟩ (fun r2 z2 H locs hp2 hI hS => ?_)
  obtain ⟨er, hJ⟩ := ag _ _ _ _ hp1 hp2
  refine lv_icmp_eq (tgt := 2584) hx hcb dL_law_2054 (by decide) (fun _ => ?_) (fun h => absurd er h)
  refine W.widen (k := cells + 48) (n := slots + 574) (l_ofr2 (by decide) (Nat.le_refl _)) (l_ofr2 (by decide) (Nat.le_refl _)) ?_
  exact hk K w z1 z2 f g H locs ls hw hJ hI hS hl
set_option maxRecDepth 100000 in
set_option maxHeartbeats 4000000 in
theorem k_wouldReserve (C : lC p s m args c b L xs G cD) (hL : L ≤ 3072) (hn : 6 * n + 6 ≤ L) (hw : isC K w) (hv : isM v) (hJ : J K zc zm) (hI : lJ G w v zc zm ou od (lE1 G f) (lE2 cD g) s.heap.size H) (hS : va_S (lA s) s.heap H locs) (hl : lv_has ls 9 (lL b w v ou od n)) (hr : cells + 48 ≤ 601024 ∧ slots + 574 ≤ 7293034) (hk : lK p l e s m args below meth c cells slots Q G cD v ou od b n J)
    (hSim : ∀ x0 x1 x2 x3 : Int32, lP l J yX9_wouldReserve cX9_wouldReserve 5 (some FieldType.int) rm_X9_wouldReserve yX10_wouldReserve cX10_wouldReserve 7 (some FieldType.int) rm_X10_wouldReserve [.int x0, .int x1, .int x2, .int x3]) : W p l e room_1 s m args below meth c H locs cells slots Q (F0 m 2059 ls []) := by
  have h0 := lv_at hl 0 rfl
  have h1 := lv_at hl 1 rfl
  have h2 := lv_at hl 2 rfl
  have h3 := lv_at hl 3 rfl
  have h4 := lv_at hl 4 rfl
  have h5 := lv_at hl 5 rfl
  obtain ⟨hx, hcb, hml, hown, hts, hK, hZ, hX, hbl⟩ := id C
  obtain ⟨P1, P2, m1, m2, ag⟩ := hSim (xs (6 * n + 1)) (xs (6 * n + 2)) (xs (6 * n + 3)) (xs (6 * n + 4)) G w v K zc zm hw hv hJ
  refine lv_aload_n hx hcb dL_law_2059 rfl h1 ?_
  refine j_s (k := 1) C hS h0 h5 (by decide) (by omega) hL dL_law_2060 dL_law_2061 dL_law_2063 dL_law_2064 dL_law_2065 ?_
  refine j_s (k := 2) C hS h0 h5 (by decide) (by omega) hL dL_law_2066 dL_law_2067 dL_law_2069 dL_law_2070 dL_law_2071 ?_
  refine j_s (k := 3) C hS h0 h5 (by decide) (by omega) hL dL_law_2072 dL_law_2073 dL_law_2075 dL_law_2076 dL_law_2077 ?_
  refine j_s (k := 4) C hS h0 h5 (by decide) (by omega) hL dL_law_2078 dL_law_2079 dL_law_2081 dL_law_2082 dL_law_2083 ?_
  refine j_c (As := [.int (xs (6 * n + 1)), .int (xs (6 * n + 2)), .int (xs (6 * n + 3)), .int (xs (6 * n + 4))]) (rest := []) C hI hS hw (m1 _) mv_X9_wouldReserve q_799 rfl hl.1 rfl (Nat.le_of_ble_eq_true rfl) dL_law_2084 ⟨by decide, by decide⟩ ⟨l_ofr (by decide) hr.1, l_ofr (by decide) hr.2⟩ (fun r1 z1 H locs hp1 hI hS => ?_)
  refine lv_aload_n hx hcb dL_law_2087 rfl h2 ?_
  refine j_s (k := 1) C hS h0 h5 (by decide) (by omega) hL dL_law_2088 dL_law_2089 dL_law_2091 dL_law_2092 dL_law_2093 ?_
  refine j_s (k := 2) C hS h0 h5 (by decide) (by omega) hL dL_law_2094 dL_law_2095 dL_law_2097 dL_law_2098 dL_law_2099 ?_
  refine j_s (k := 3) C hS h0 h5 (by decide) (by omega) hL dL_law_2100 dL_law_2101 dL_law_2103 dL_law_2104 dL_law_2105 ?_
  refine j_s (k := 4) C hS h0 h5 (by decide) (by omega) hL dL_law_2106 dL_law_2107 dL_law_2109 dL_law_2110 dL_law_2111 ?_
  refine j_m (As := [.int (xs (6 * n + 1)), .int (xs (6 * n + 2)), .int (xs (6 * n + 3)), .int (xs (6 * n + 4))]) (rest := [.int r1]) C hI hS hv (m2 _) mv_X10_wouldReserve q_1628 rfl hl.1 rfl (Nat.le_of_ble_eq_true rfl) dL_law_2112 ⟨by decide, by decide⟩ ⟨l_ofr2 (by decide) hr.1, l_ofr2 (by decide) hr.2⟩ (fun r2 z2 H locs hp2 hI hS => ?_)
  obtain ⟨er, hJ⟩ := ag _ _ _ _ hp1 hp2
  refine lv_icmp_eq (tgt := 2584) hx hcb dL_law_2115 (by decide) (fun _ => ?_) (fun h => absurd er h)
  refine W.widen (k := cells + 48) (n := slots + 574) (l_ofr2 (by decide) (Nat.le_refl _)) (l_ofr2 (by decide) (Nat.le_refl _)) ?_
  exact hk K w z1 z2 f g H locs ls hw hJ hI hS hl
set_option maxRecDepth 100000 in
set_option maxHeartbeats 4000000 in
theorem k_cashNeeded (C : lC p s m args c b L xs G cD) (hL : L ≤ 3072) (hn : 6 * n + 6 ≤ L) (hw : isC K w) (hv : isM v) (hJ : J K zc zm) (hI : lJ G w v zc zm ou od (lE1 G f) (lE2 cD g) s.heap.size H) (hS : va_S (lA s) s.heap H locs) (hl : lv_has ls 9 (lL b w v ou od n)) (hr : cells + 48 ≤ 601024 ∧ slots + 574 ≤ 7293034) (hk : lK p l e s m args below meth c cells slots Q G cD v ou od b n J)
    (hSim : ∀ x0 x1 x2 x3 : Int32, lP l J yX9_cashNeeded cX9_cashNeeded 5 (some FieldType.int) rm_X9_cashNeeded yX10_cashNeeded cX10_cashNeeded 9 (some FieldType.int) rm_X10_cashNeeded [.int x0, .int x1, .int x2, .int x3]) : W p l e room_1 s m args below meth c H locs cells slots Q (F0 m 2120 ls []) := by
  have h0 := lv_at hl 0 rfl
  have h1 := lv_at hl 1 rfl
  have h2 := lv_at hl 2 rfl
  have h3 := lv_at hl 3 rfl
  have h4 := lv_at hl 4 rfl
  have h5 := lv_at hl 5 rfl
  obtain ⟨hx, hcb, hml, hown, hts, hK, hZ, hX, hbl⟩ := id C
  obtain ⟨P1, P2, m1, m2, ag⟩ := hSim (xs (6 * n + 1)) (xs (6 * n + 2)) (xs (6 * n + 3)) (xs (6 * n + 4)) G w v K zc zm hw hv hJ
  refine lv_aload_n hx hcb dL_law_2120 rfl h1 ?_
  refine j_s (k := 1) C hS h0 h5 (by decide) (by omega) hL dL_law_2121 dL_law_2122 dL_law_2124 dL_law_2125 dL_law_2126 ?_
  refine j_s (k := 2) C hS h0 h5 (by decide) (by omega) hL dL_law_2127 dL_law_2128 dL_law_2130 dL_law_2131 dL_law_2132 ?_
  refine j_s (k := 3) C hS h0 h5 (by decide) (by omega) hL dL_law_2133 dL_law_2134 dL_law_2136 dL_law_2137 dL_law_2138 ?_
  refine j_s (k := 4) C hS h0 h5 (by decide) (by omega) hL dL_law_2139 dL_law_2140 dL_law_2142 dL_law_2143 dL_law_2144 ?_
  refine j_c (As := [.int (xs (6 * n + 1)), .int (xs (6 * n + 2)), .int (xs (6 * n + 3)), .int (xs (6 * n + 4))]) (rest := []) C hI hS hw (m1 _) mv_X9_cashNeeded q_804 rfl hl.1 rfl (Nat.le_of_ble_eq_true rfl) dL_law_2145 ⟨by decide, by decide⟩ ⟨l_ofr (by decide) hr.1, l_ofr (by decide) hr.2⟩ (fun r1 z1 H locs hp1 hI hS => ?_)
  refine lv_aload_n hx hcb dL_law_2148 rfl h2 ?_
  refine j_s (k := 1) C hS h0 h5 (by decide) (by omega) hL dL_law_2149 dL_law_2150 dL_law_2152 dL_law_2153 dL_law_2154 ?_
  refine j_s (k := 2) C hS h0 h5 (by decide) (by omega) hL dL_law_2155 dL_law_2156 dL_law_2158 dL_law_2159 dL_law_2160 ?_
  refine j_s (k := 3) C hS h0 h5 (by decide) (by omega) hL dL_law_2161 dL_law_2162 dL_law_2164 dL_law_2165 dL_law_2166 ?_
  refine j_s (k := 4) C hS h0 h5 (by decide) (by omega) hL dL_law_2167 dL_law_2168 dL_law_2170 dL_law_2171 dL_law_2172 ?_
  refine j_m (As := [.int (xs (6 * n + 1)), .int (xs (6 * n + 2)), .int (xs (6 * n + 3)), .int (xs (6 * n + 4))]) (rest := [.int r1]) C hI hS hv (m2 _) mv_X10_cashNeeded q_1632 rfl hl.1 rfl (Nat.le_of_ble_eq_true rfl) dL_law_2173 ⟨by decide, by decide⟩ ⟨l_ofr2 (by decide) hr.1, l_ofr2 (by decide) hr.2⟩ (fun r2 z2 H locs hp2 hI hS => ?_)
  obtain ⟨er, hJ⟩ := ag _ _ _ _ hp1 hp2
  refine lv_icmp_eq (tgt := 2584) hx hcb dL_law_2176 (by decide) (fun _ => ?_) (fun h => absurd er h)
  refine W.widen (k := cells + 48) (n := slots + 574) (l_ofr2 (by decide) (Nat.le_refl _)) (l_ofr2 (by decide) (Nat.le_refl _)) ?_
  exact hk K w z1 z2 f g H locs ls hw hJ hI hS hl
set_option maxRecDepth 100000 in
set_option maxHeartbeats 4000000 in
theorem k_richest (C : lC p s m args c b L xs G cD) (hL : L ≤ 3072) (hn : 6 * n + 6 ≤ L) (hw : isC K w) (hv : isM v) (hJ : J K zc zm) (hI : lJ G w v zc zm ou od (lE1 G f) (lE2 cD g) s.heap.size H) (hS : va_S (lA s) s.heap H locs) (hl : lv_has ls 9 (lL b w v ou od n)) (hr : cells + 48 ≤ 601024 ∧ slots + 574 ≤ 7293034) (hk : lK p l e s m args below meth c cells slots Q G cD v ou od b n J)
    (hSim : lP l J yX9_richest cX9_richest 5 (some FieldType.int) rm_X9_richest yX10_richest cX10_richest 3 (some FieldType.int) rm_X10_richest []) : W p l e room_1 s m args below meth c H locs cells slots Q (F0 m 2181 ls []) := by
  have h0 := lv_at hl 0 rfl
  have h1 := lv_at hl 1 rfl
  have h2 := lv_at hl 2 rfl
  have h3 := lv_at hl 3 rfl
  have h4 := lv_at hl 4 rfl
  have h5 := lv_at hl 5 rfl
  obtain ⟨hx, hcb, hml, hown, hts, hK, hZ, hX, hbl⟩ := id C
  obtain ⟨P1, P2, m1, m2, ag⟩ := hSim  G w v K zc zm hw hv hJ
  refine lv_aload_n hx hcb dL_law_2181 rfl h1 ?_
  refine j_c (As := []) (rest := []) C hI hS hw (m1 _) mv_X9_richest q_808 rfl hl.1 rfl (Nat.le_of_ble_eq_true rfl) dL_law_2182 ⟨by decide, by decide⟩ ⟨l_ofr (by decide) hr.1, l_ofr (by decide) hr.2⟩ (fun r1 z1 H locs hp1 hI hS => ?_)
  refine lv_aload_n hx hcb dL_law_2185 rfl h2 ?_
  refine j_m (As := []) (rest := [.int r1]) C hI hS hv (m2 _) mv_X10_richest q_1636 rfl hl.1 rfl (Nat.le_of_ble_eq_true rfl) dL_law_2186 ⟨by decide, by decide⟩ ⟨l_ofr2 (by decide) hr.1, l_ofr2 (by decide) hr.2⟩ (fun r2 z2 H locs hp2 hI hS => ?_)
  obtain ⟨er, hJ⟩ := ag _ _ _ _ hp1 hp2
  refine lv_icmp_eq (tgt := 2584) hx hcb dL_law_2189 (by decide) (fun _ => ?_) (fun h => absurd er h)
  refine W.widen (k := cells + 48) (n := slots + 574) (l_ofr2 (by decide) (Nat.le_refl _)) (l_ofr2 (by decide) (Nat.le_refl _)) ?_
  exact hk K w z1 z2 f g H locs ls hw hJ hI hS hl
set_option maxRecDepth 100000 in
set_option maxHeartbeats 4000000 in
theorem k_membersIn (C : lC p s m args c b L xs G cD) (hL : L ≤ 3072) (hn : 6 * n + 6 ≤ L) (hw : isC K w) (hv : isM v) (hJ : J K zc zm) (hI : lJ G w v zc zm ou od (lE1 G f) (lE2 cD g) s.heap.size H) (hS : va_S (lA s) s.heap H locs) (hl : lv_has ls 9 (lL b w v ou od n)) (hr : cells + 48 ≤ 601024 ∧ slots + 574 ≤ 7293034) (hk : lK p l e s m args below meth c cells slots Q G cD v ou od b n J)
    (hSim : ∀ x0 : Int32, lP l J yX9_membersIn cX9_membersIn 4 (some FieldType.int) rm_X9_membersIn yX10_membersIn cX10_membersIn 4 (some FieldType.int) rm_X10_membersIn [.int x0]) : W p l e room_1 s m args below meth c H locs cells slots Q (F0 m 2194 ls []) := by
  have h0 := lv_at hl 0 rfl
  have h1 := lv_at hl 1 rfl
  have h2 := lv_at hl 2 rfl
  have h3 := lv_at hl 3 rfl
  have h4 := lv_at hl 4 rfl
  have h5 := lv_at hl 5 rfl
  obtain ⟨hx, hcb, hml, hown, hts, hK, hZ, hX, hbl⟩ := id C
  obtain ⟨P1, P2, m1, m2, ag⟩ := hSim (xs (6 * n + 1)) G w v K zc zm hw hv hJ
  refine lv_aload_n hx hcb dL_law_2194 rfl h1 ?_
  refine j_s (k := 1) C hS h0 h5 (by decide) (by omega) hL dL_law_2195 dL_law_2196 dL_law_2198 dL_law_2199 dL_law_2200 ?_
  refine j_c (As := [.int (xs (6 * n + 1))]) (rest := []) C hI hS hw (m1 _) mv_X9_membersIn q_813 rfl hl.1 rfl (Nat.le_of_ble_eq_true rfl) dL_law_2201 ⟨by decide, by decide⟩ ⟨l_ofr (by decide) hr.1, l_ofr (by decide) hr.2⟩ (fun r1 z1 H locs hp1 hI hS => ?_)
  refine lv_aload_n hx hcb dL_law_2204 rfl h2 ?_
  refine j_s (k := 1) C hS h0 h5 (by decide) (by omega) hL dL_law_2205 dL_law_2206 dL_law_2208 dL_law_2209 dL_law_2210 ?_
  refine j_m (As := [.int (xs (6 * n + 1))]) (rest := [.int r1]) C hI hS hv (m2 _) mv_X10_membersIn q_1640 rfl hl.1 rfl (Nat.le_of_ble_eq_true rfl) dL_law_2211 ⟨by decide, by decide⟩ ⟨l_ofr2 (by decide) hr.1, l_ofr2 (by decide) hr.2⟩ (fun r2 z2 H locs hp2 hI hS => ?_)
  obtain ⟨er, hJ⟩ := ag _ _ _ _ hp1 hp2
  refine lv_icmp_eq (tgt := 2584) hx hcb dL_law_2214 (by decide) (fun _ => ?_) (fun h => absurd er h)
  refine W.widen (k := cells + 48) (n := slots + 574) (l_ofr2 (by decide) (Nat.le_refl _)) (l_ofr2 (by decide) (Nat.le_refl _)) ?_
  exact hk K w z1 z2 f g H locs ls hw hJ hI hS hl
set_option maxRecDepth 100000 in
set_option maxHeartbeats 4000000 in
theorem k_redemptionsNeeded (C : lC p s m args c b L xs G cD) (hL : L ≤ 3072) (hn : 6 * n + 6 ≤ L) (hw : isC K w) (hv : isM v) (hJ : J K zc zm) (hI : lJ G w v zc zm ou od (lE1 G f) (lE2 cD g) s.heap.size H) (hS : va_S (lA s) s.heap H locs) (hl : lv_has ls 9 (lL b w v ou od n)) (hr : cells + 48 ≤ 601024 ∧ slots + 574 ≤ 7293034) (hk : lK p l e s m args below meth c cells slots Q G cD v ou od b n J)
    (hSim : ∀ x0 : Int32, lP l J yX9_redemptionsNeeded cX9_redemptionsNeeded 3 (some FieldType.int) rm_X9_redemptionsNeeded yX10_redemptionsNeeded cX10_redemptionsNeeded 4 (some FieldType.int) rm_X10_redemptionsNeeded [.int x0]) : W p l e room_1 s m args below meth c H locs cells slots Q (F0 m 2296 ls []) := by
  have h0 := lv_at hl 0 rfl
  have h1 := lv_at hl 1 rfl
  have h2 := lv_at hl 2 rfl
  have h3 := lv_at hl 3 rfl
  have h4 := lv_at hl 4 rfl
  have h5 := lv_at hl 5 rfl
  obtain ⟨hx, hcb, hml, hown, hts, hK, hZ, hX, hbl⟩ := id C
  obtain ⟨P1, P2, m1, m2, ag⟩ := hSim (xs (6 * n + 1)) G w v K zc zm hw hv hJ
  refine lv_aload_n hx hcb dL_law_2296 rfl h1 ?_
  refine j_s (k := 1) C hS h0 h5 (by decide) (by omega) hL dL_law_2297 dL_law_2298 dL_law_2300 dL_law_2301 dL_law_2302 ?_
  refine j_c (As := [.int (xs (6 * n + 1))]) (rest := []) C hI hS hw (m1 _) mv_X9_redemptionsNeeded q_817 rfl hl.1 rfl (Nat.le_of_ble_eq_true rfl) dL_law_2303 ⟨by decide, by decide⟩ ⟨l_ofr (by decide) hr.1, l_ofr (by decide) hr.2⟩ (fun r1 z1 H locs hp1 hI hS => ?_)
  refine lv_aload_n hx hcb dL_law_2306 rfl h2 ?_
  refine j_s (k := 1) C hS h0 h5 (by decide) (by omega) hL dL_law_2307 dL_law_2308 dL_law_2310 dL_law_2311 dL_law_2312 ?_
  refine j_m (As := [.int (xs (6 * n + 1))]) (rest := [.int r1]) C hI hS hv (m2 _) mv_X10_redemptionsNeeded q_1649 rfl hl.1 rfl (Nat.le_of_ble_eq_true rfl) dL_law_2313 ⟨by decide, by decide⟩ ⟨l_ofr2 (by decide) hr.1, l_ofr2 (by decide) hr.2⟩ (fun r2 z2 H locs hp2 hI hS => ?_)
  obtain ⟨er, hJ⟩ := ag _ _ _ _ hp1 hp2
  refine lv_icmp_eq (tgt := 2584) hx hcb dL_law_2316 (by decide) (fun _ => ?_) (fun h => absurd er h)
  refine W.widen (k := cells + 48) (n := slots + 574) (l_ofr2 (by decide) (Nat.le_refl _)) (l_ofr2 (by decide) (Nat.le_refl _)) ?_
  exact hk K w z1 z2 f g H locs ls hw hJ hI hS hl
set_option maxRecDepth 100000 in
set_option maxHeartbeats 4000000 in
theorem k_trade (C : lC p s m args c b L xs G cD) (hL : L ≤ 3072) (hn : 6 * n + 6 ≤ L) (hw : isC K w) (hv : isM v) (hJ : J K zc zm) (hI : lJ G w v zc zm ou od (lE1 G f) (lE2 cD g) s.heap.size H) (hS : va_S (lA s) s.heap H locs) (hl : lv_has ls 9 (lL b w v ou od n)) (hr : cells + 48 ≤ 601024 ∧ slots + 574 ≤ 7293034) (hk : lK p l e s m args below meth c cells slots Q G cD v ou od b n J)
    (hSim : ∀ x0 x1 x2 : Int32, lG l J yX9_trade cX9_trade 5 (some FieldType.int) rm_X9_trade yX10_trade cX10_trade 5 (some FieldType.int) rm_X10_trade [.int x0, .int x1, .int x2]) : W p l e room_1 s m args below meth c H locs cells slots Q (F0 m 2321 ls []) := by
  have h0 := lv_at hl 0 rfl
  have h1 := lv_at hl 1 rfl
  have h2 := lv_at hl 2 rfl
  have h3 := lv_at hl 3 rfl
  have h4 := lv_at hl 4 rfl
  have h5 := lv_at hl 5 rfl
  obtain ⟨hx, hcb, hml, hown, hts, hK, hZ, hX, hbl⟩ := id C
  obtain ⟨P1, P2, m1, m2, hpX, ag⟩ := hSim (xs (6 * n + 1)) (xs (6 * n + 2)) (xs (6 * n + 3)) G w v K zc zm H.size hw hv hJ
  refine lv_aload_n hx hcb dL_law_2321 rfl h1 ?_
  refine j_s (k := 1) C hS h0 h5 (by decide) (by omega) hL dL_law_2322 dL_law_2323 dL_law_2325 dL_law_2326 dL_law_2327 ?_
  refine j_s (k := 2) C hS h0 h5 (by decide) (by omega) hL dL_law_2328 dL_law_2329 dL_law_2331 dL_law_2332 dL_law_2333 ?_
  refine j_s (k := 3) C hS h0 h5 (by decide) (by omega) hL dL_law_2334 dL_law_2335 dL_law_2337 dL_law_2338 dL_law_2339 ?_
  refine j_g (As := [.int (xs (6 * n + 1)), .int (xs (6 * n + 2)), .int (xs (6 * n + 3))]) (rest := []) C hI hS hw m1 hpX mv_X9_trade q_833 rfl hl.1 rfl (Nat.le_of_ble_eq_true rfl) dL_law_2340 ⟨by decide, by decide⟩ ⟨l_ofr (by decide) hr.1, l_ofr (by decide) hr.2⟩ (fun r1 w2 z1 H locs hp1 ew hI hS => ?_)
  refine lv_aload_n hx hcb dL_law_2343 rfl h2 ?_
  refine j_s (k := 1) C hS h0 h5 (by decide) (by omega) hL dL_law_2344 dL_law_2345 dL_law_2347 dL_law_2348 dL_law_2349 ?_
  refine j_s (k := 2) C hS h0 h5 (by decide) (by omega) hL dL_law_2350 dL_law_2351 dL_law_2353 dL_law_2354 dL_law_2355 ?_
  refine j_s (k := 3) C hS h0 h5 (by decide) (by omega) hL dL_law_2356 dL_law_2357 dL_law_2359 dL_law_2360 dL_law_2361 ?_
  refine j_m (As := [.int (xs (6 * n + 1)), .int (xs (6 * n + 2)), .int (xs (6 * n + 3))]) (rest := [.int r1]) C hI hS hv (m2 _) mv_X10_trade q_1665 rfl hl.1 rfl (Nat.le_of_ble_eq_true rfl) dL_law_2362 ⟨by decide, by decide⟩ ⟨l_ofr2 (by decide) hr.1, l_ofr2 (by decide) hr.2⟩ (fun r2 z2 H locs hp2 hI hS => ?_)
  obtain ⟨er, K2, hw2, hJ⟩ := ag _ _ _ _ hp1 hp2
  refine lv_icmp_eq (tgt := 2584) hx hcb dL_law_2365 (by decide) (fun _ => ?_) (fun h => absurd er h)
  refine W.widen (k := cells + 48) (n := slots + 574) (l_ofr2 (by decide) (Nat.le_refl _)) (l_ofr2 (by decide) (Nat.le_refl _)) ?_
  exact hk K2 w2 z1 z2 f g H locs ls hw2 hJ hI hS (by unfold lL; rw [ew]; exact hl)
set_option maxRecDepth 100000 in
set_option maxHeartbeats 4000000 in
theorem k_close (C : lC p s m args c b L xs G cD) (hL : L ≤ 3072) (hn : 6 * n + 6 ≤ L) (hw : isC K w) (hv : isM v) (hJ : J K zc zm) (hI : lJ G w v zc zm ou od (lE1 G f) (lE2 cD g) s.heap.size H) (hS : va_S (lA s) s.heap H locs) (hl : lv_has ls 9 (lL b w v ou od n)) (hr : cells + 48 ≤ 601024 ∧ slots + 574 ≤ 7293034) (hk : lK p l e s m args below meth c cells slots Q G cD v ou od b n J)
    (hSim : ∀ x0 x1 x2 x3 : Int32, lG l J yX9_close cX9_close 6 (some FieldType.int) rm_X9_close yX10_close cX10_close 5 (some FieldType.int) rm_X10_close [.int x0, .int x1, .int x2, .int x3]) : W p l e room_1 s m args below meth c H locs cells slots Q (F0 m 2370 ls []) := by
  have h0 := lv_at hl 0 rfl
  have h1 := lv_at hl 1 rfl
  have h2 := lv_at hl 2 rfl
  have h3 := lv_at hl 3 rfl
  have h4 := lv_at hl 4 rfl
  have h5 := lv_at hl 5 rfl
  obtain ⟨hx, hcb, hml, hown, hts, hK, hZ, hX, hbl⟩ := id C
  obtain ⟨P1, P2, m1, m2, hpX, ag⟩ := hSim (xs (6 * n + 1)) (xs (6 * n + 2)) (xs (6 * n + 3)) (xs (6 * n + 4)) G w v K zc zm H.size hw hv hJ
  refine lv_aload_n hx hcb dL_law_2370 rfl h1 ?_
  refine j_s (k := 1) C hS h0 h5 (by decide) (by omega) hL dL_law_2371 dL_law_2372 dL_law_2374 dL_law_2375 dL_law_2376 ?_
  refine j_s (k := 2) C hS h0 h5 (by decide) (by omega) hL dL_law_2377 dL_law_2378 dL_law_2380 dL_law_2381 dL_law_2382 ?_
  refine j_s (k := 3) C hS h0 h5 (by decide) (by omega) hL dL_law_2383 dL_law_2384 dL_law_2386 dL_law_2387 dL_law_2388 ?_
  refine j_s (k := 4) C hS h0 h5 (by decide) (by omega) hL dL_law_2389 dL_law_2390 dL_law_2392 dL_law_2393 dL_law_2394 ?_
  refine j_g (As := [.int (xs (6 * n + 1)), .int (xs (6 * n + 2)), .int (xs (6 * n + 3)), .int (xs (6 * n + 4))]) (rest := []) C hI hS hw m1 hpX mv_X9_close q_852 rfl hl.1 rfl (Nat.le_of_ble_eq_true rfl) dL_law_2395 ⟨by decide, by decide⟩ ⟨l_ofr (by decide) hr.1, l_ofr (by decide) hr.2⟩ (fun r1 w2 z1 H locs hp1 ew hI hS => ?_)
  refine lv_aload_n hx hcb dL_law_2398 rfl h2 ?_
  refine j_s (k := 1) C hS h0 h5 (by decide) (by omega) hL dL_law_2399 dL_law_2400 dL_law_2402 dL_law_2403 dL_law_2404 ?_
  refine j_s (k := 2) C hS h0 h5 (by decide) (by omega) hL dL_law_2405 dL_law_2406 dL_law_2408 dL_law_2409 dL_law_2410 ?_
  refine j_s (k := 3) C hS h0 h5 (by decide) (by omega) hL dL_law_2411 dL_law_2412 dL_law_2414 dL_law_2415 dL_law_2416 ?_
  refine j_s (k := 4) C hS h0 h5 (by decide) (by omega) hL dL_law_2417 dL_law_2418 dL_law_2420 dL_law_2421 dL_law_2422 ?_
  refine j_m (As := [.int (xs (6 * n + 1)), .int (xs (6 * n + 2)), .int (xs (6 * n + 3)), .int (xs (6 * n + 4))]) (rest := [.int r1]) C hI hS hv (m2 _) mv_X10_close q_1673 rfl hl.1 rfl (Nat.le_of_ble_eq_true rfl) dL_law_2423 ⟨by decide, by decide⟩ ⟨l_ofr2 (by decide) hr.1, l_ofr2 (by decide) hr.2⟩ (fun r2 z2 H locs hp2 hI hS => ?_)
  obtain ⟨er, K2, hw2, hJ⟩ := ag _ _ _ _ hp1 hp2
  refine lv_icmp_eq (tgt := 2584) hx hcb dL_law_2426 (by decide) (fun _ => ?_) (fun h => absurd er h)
  refine W.widen (k := cells + 48) (n := slots + 574) (l_ofr2 (by decide) (Nat.le_refl _)) (l_ofr2 (by decide) (Nat.le_refl _)) ?_
  exact hk K2 w2 z1 z2 f g H locs ls hw2 hJ hI hS (by unfold lL; rw [ew]; exact hl)
set_option maxRecDepth 100000 in
set_option maxHeartbeats 4000000 in
theorem k_redeem (C : lC p s m args c b L xs G cD) (hL : L ≤ 3072) (hn : 6 * n + 6 ≤ L) (hw : isC K w) (hv : isM v) (hJ : J K zc zm) (hI : lJ G w v zc zm ou od (lE1 G f) (lE2 cD g) s.heap.size H) (hS : va_S (lA s) s.heap H locs) (hl : lv_has ls 9 (lL b w v ou od n)) (hr : cells + 48 ≤ 601024 ∧ slots + 574 ≤ 7293034) (hk : lK p l e s m args below meth c cells slots Q G cD v ou od b n J)
    (hSim : ∀ x0 : Int32, lG l J yX9_redeem cX9_redeem 3 (some FieldType.int) rm_X9_redeem yX10_redeem cX10_redeem 3 (some FieldType.int) rm_X10_redeem [.int x0]) : W p l e room_1 s m args below meth c H locs cells slots Q (F0 m 2431 ls []) := by
  have h0 := lv_at hl 0 rfl
  have h1 := lv_at hl 1 rfl
  have h2 := lv_at hl 2 rfl
  have h3 := lv_at hl 3 rfl
  have h4 := lv_at hl 4 rfl
  have h5 := lv_at hl 5 rfl
  obtain ⟨hx, hcb, hml, hown, hts, hK, hZ, hX, hbl⟩ := id C
  obtain ⟨P1, P2, m1, m2, hpX, ag⟩ := hSim (xs (6 * n + 1)) G w v K zc zm H.size hw hv hJ
  refine lv_aload_n hx hcb dL_law_2431 rfl h1 ?_
  refine j_s (k := 1) C hS h0 h5 (by decide) (by omega) hL dL_law_2432 dL_law_2433 dL_law_2435 dL_law_2436 dL_law_2437 ?_
  refine j_g (As := [.int (xs (6 * n + 1))]) (rest := []) C hI hS hw m1 hpX mv_X9_redeem q_856 rfl hl.1 rfl (Nat.le_of_ble_eq_true rfl) dL_law_2438 ⟨by decide, by decide⟩ ⟨l_ofr (by decide) hr.1, l_ofr (by decide) hr.2⟩ (fun r1 w2 z1 H locs hp1 ew hI hS => ?_)
  refine lv_aload_n hx hcb dL_law_2441 rfl h2 ?_
  refine j_s (k := 1) C hS h0 h5 (by decide) (by omega) hL dL_law_2442 dL_law_2443 dL_law_2445 dL_law_2446 dL_law_2447 ?_
  refine j_m (As := [.int (xs (6 * n + 1))]) (rest := [.int r1]) C hI hS hv (m2 _) mv_X10_redeem q_1677 rfl hl.1 rfl (Nat.le_of_ble_eq_true rfl) dL_law_2448 ⟨by decide, by decide⟩ ⟨l_ofr2 (by decide) hr.1, l_ofr2 (by decide) hr.2⟩ (fun r2 z2 H locs hp2 hI hS => ?_)
  obtain ⟨er, K2, hw2, hJ⟩ := ag _ _ _ _ hp1 hp2
  refine lv_icmp_eq (tgt := 2584) hx hcb dL_law_2451 (by decide) (fun _ => ?_) (fun h => absurd er h)
  refine W.widen (k := cells + 48) (n := slots + 574) (l_ofr2 (by decide) (Nat.le_refl _)) (l_ofr2 (by decide) (Nat.le_refl _)) ?_
  exact hk K2 w2 z1 z2 f g H locs ls hw2 hJ hI hS (by unfold lL; rw [ew]; exact hl)
set_option maxRecDepth 100000 in
set_option maxHeartbeats 4000000 in
theorem k_leave (C : lC p s m args c b L xs G cD) (hL : L ≤ 3072) (hn : 6 * n + 6 ≤ L) (hw : isC K w) (hv : isM v) (hJ : J K zc zm) (hI : lJ G w v zc zm ou od (lE1 G f) (lE2 cD g) s.heap.size H) (hS : va_S (lA s) s.heap H locs) (hl : lv_has ls 9 (lL b w v ou od n)) (hr : cells + 48 ≤ 601024 ∧ slots + 574 ≤ 7293034) (hk : lK p l e s m args below meth c cells slots Q G cD v ou od b n J)
    (hSim : ∀ x0 : Int32, lG l J yX9_leave cX9_leave 3 (some FieldType.int) rm_X9_leave yX10_leave cX10_leave 3 (some FieldType.int) rm_X10_leave [.int x0]) : W p l e room_1 s m args below meth c H locs cells slots Q (F0 m 2456 ls []) := by
  have h0 := lv_at hl 0 rfl
  have h1 := lv_at hl 1 rfl
  have h2 := lv_at hl 2 rfl
  have h3 := lv_at hl 3 rfl
  have h4 := lv_at hl 4 rfl
  have h5 := lv_at hl 5 rfl
  obtain ⟨hx, hcb, hml, hown, hts, hK, hZ, hX, hbl⟩ := id C
  obtain ⟨P1, P2, m1, m2, hpX, ag⟩ := hSim (xs (6 * n + 1)) G w v K zc zm H.size hw hv hJ
  refine lv_aload_n hx hcb dL_law_2456 rfl h1 ?_
  refine j_s (k := 1) C hS h0 h5 (by decide) (by omega) hL dL_law_2457 dL_law_2458 dL_law_2460 dL_law_2461 dL_law_2462 ?_
  refine j_g (As := [.int (xs (6 * n + 1))]) (rest := []) C hI hS hw m1 hpX mv_X9_leave q_860 rfl hl.1 rfl (Nat.le_of_ble_eq_true rfl) dL_law_2463 ⟨by decide, by decide⟩ ⟨l_ofr (by decide) hr.1, l_ofr (by decide) hr.2⟩ (fun r1 w2 z1 H locs hp1 ew hI hS => ?_)
  refine lv_aload_n hx hcb dL_law_2466 rfl h2 ?_
  refine j_s (k := 1) C hS h0 h5 (by decide) (by omega) hL dL_law_2467 dL_law_2468 dL_law_2470 dL_law_2471 dL_law_2472 ?_
  refine j_m (As := [.int (xs (6 * n + 1))]) (rest := [.int r1]) C hI hS hv (m2 _) mv_X10_leave q_1681 rfl hl.1 rfl (Nat.le_of_ble_eq_true rfl) dL_law_2473 ⟨by decide, by decide⟩ ⟨l_ofr2 (by decide) hr.1, l_ofr2 (by decide) hr.2⟩ (fun r2 z2 H locs hp2 hI hS => ?_)
  obtain ⟨er, K2, hw2, hJ⟩ := ag _ _ _ _ hp1 hp2
  refine lv_icmp_eq (tgt := 2584) hx hcb dL_law_2476 (by decide) (fun _ => ?_) (fun h => absurd er h)
  refine W.widen (k := cells + 48) (n := slots + 574) (l_ofr2 (by decide) (Nat.le_refl _)) (l_ofr2 (by decide) (Nat.le_refl _)) ?_
  exact hk K2 w2 z1 z2 f g H locs ls hw2 hJ hI hS (by unfold lL; rw [ew]; exact hl)
set_option maxRecDepth 100000 in
set_option maxHeartbeats 4000000 in
theorem k_setConsent (C : lC p s m args c b L xs G cD) (hL : L ≤ 3072) (hn : 6 * n + 6 ≤ L) (hw : isC K w) (hv : isM v) (hJ : J K zc zm) (hI : lJ G w v zc zm ou od (lE1 G f) (lE2 cD g) s.heap.size H) (hS : va_S (lA s) s.heap H locs) (hl : lv_has ls 9 (lL b w v ou od n)) (hr : cells + 48 ≤ 601024 ∧ slots + 574 ≤ 7293034) (hk : lK p l e s m args below meth c cells slots Q G cD v ou od b n J)
    (hSim : ∀ x0 x1 : Int32, x1 = 0 ∨ x1 = 1 → lG l J yX9_setConsent cX9_setConsent 5 (some FieldType.int) rm_X9_setConsent yX10_setConsent cX10_setConsent 5 (some FieldType.int) rm_X10_setConsent [.int x0, .int x1]) : W p l e room_1 s m args below meth c H locs cells slots Q (F0 m 2481 ls []) := by
  have h0 := lv_at hl 0 rfl
  have h1 := lv_at hl 1 rfl
  have h2 := lv_at hl 2 rfl
  have h3 := lv_at hl 3 rfl
  have h4 := lv_at hl 4 rfl
  have h5 := lv_at hl 5 rfl
  obtain ⟨hx, hcb, hml, hown, hts, hK, hZ, hX, hbl⟩ := id C
  refine lv_aload_n hx hcb dL_law_2481 rfl h1 ?_
  refine j_s (k := 1) C hS h0 h5 (by decide) (by omega) hL dL_law_2482 dL_law_2483 dL_law_2485 dL_law_2486 dL_law_2487 ?_
  refine j_s (k := 2) C hS h0 h5 (by decide) (by omega) hL dL_law_2488 dL_law_2489 dL_law_2491 dL_law_2492 dL_law_2493 ?_
  refine lv_if_eq (tgt := 2501) hx hcb dL_law_2494 (by decide) (fun c1 => ?_) (fun c1 => ?_)
  · refine lv_iconst (v := 0) hx hcb dL_law_2501 (by decide) ?_
    obtain ⟨P1, P2, m1, m2, hpX, ag⟩ := hSim (xs (6 * n + 1)) 0 (by decide) G w v K zc zm H.size hw hv hJ
    refine j_g (As := [.int (xs (6 * n + 1)), .int 0]) (rest := []) C hI hS hw m1 hpX mv_X9_setConsent q_872 rfl hl.1 rfl (Nat.le_of_ble_eq_true rfl) dL_law_2502 ⟨by decide, by decide⟩ ⟨l_ofr (by decide) hr.1, l_ofr (by decide) hr.2⟩ (fun r1 w2 z1 H locs hp1 ew hI hS => ?_)
    refine lv_aload_n hx hcb dL_law_2505 rfl h2 ?_
    refine j_s (k := 1) C hS h0 h5 (by decide) (by omega) hL dL_law_2506 dL_law_2507 dL_law_2509 dL_law_2510 dL_law_2511 ?_
    refine j_s (k := 2) C hS h0 h5 (by decide) (by omega) hL dL_law_2512 dL_law_2513 dL_law_2515 dL_law_2516 dL_law_2517 ?_
    refine lv_if_eq (tgt := 2525) hx hcb dL_law_2518 (by decide) (fun _ => ?_) (fun c2 => absurd c1 c2)
    refine lv_iconst (v := 0) hx hcb dL_law_2525 (by decide) ?_
    refine j_m (As := [.int (xs (6 * n + 1)), .int 0]) (rest := [.int r1]) C hI hS hv (m2 _) mv_X10_setConsent q_1685 rfl hl.1 rfl (Nat.le_of_ble_eq_true rfl) dL_law_2526 ⟨by decide, by decide⟩ ⟨l_ofr2 (by decide) hr.1, l_ofr2 (by decide) hr.2⟩ (fun r2 z2 H locs hp2 hI hS => ?_)
    obtain ⟨er, K2, hw2, hJ⟩ := ag _ _ _ _ hp1 hp2
    refine lv_icmp_eq (tgt := 2584) hx hcb dL_law_2529 (by decide) (fun _ => ?_) (fun h => absurd er h)
    refine W.widen (k := cells + 48) (n := slots + 574) (l_ofr2 (by decide) (Nat.le_refl _)) (l_ofr2 (by decide) (Nat.le_refl _)) ?_
    exact hk K2 w2 z1 z2 f g H locs ls hw2 hJ hI hS (by unfold lL; rw [ew]; exact hl)
  · refine lv_iconst (v := 1) hx hcb dL_law_2497 (by decide) ?_
    refine lv_goto (tgt := 2502) hx hcb dL_law_2498 (by decide) ?_
    obtain ⟨P1, P2, m1, m2, hpX, ag⟩ := hSim (xs (6 * n + 1)) 1 (by decide) G w v K zc zm H.size hw hv hJ
    refine j_g (As := [.int (xs (6 * n + 1)), .int 1]) (rest := []) C hI hS hw m1 hpX mv_X9_setConsent q_872 rfl hl.1 rfl (Nat.le_of_ble_eq_true rfl) dL_law_2502 ⟨by decide, by decide⟩ ⟨l_ofr (by decide) hr.1, l_ofr (by decide) hr.2⟩ (fun r1 w2 z1 H locs hp1 ew hI hS => ?_)
    refine lv_aload_n hx hcb dL_law_2505 rfl h2 ?_
    refine j_s (k := 1) C hS h0 h5 (by decide) (by omega) hL dL_law_2506 dL_law_2507 dL_law_2509 dL_law_2510 dL_law_2511 ?_
    refine j_s (k := 2) C hS h0 h5 (by decide) (by omega) hL dL_law_2512 dL_law_2513 dL_law_2515 dL_law_2516 dL_law_2517 ?_
    refine lv_if_eq (tgt := 2525) hx hcb dL_law_2518 (by decide) (fun c2 => absurd c2 c1) (fun _ => ?_)
    refine lv_iconst (v := 1) hx hcb dL_law_2521 (by decide) ?_
    refine lv_goto (tgt := 2526) hx hcb dL_law_2522 (by decide) ?_
    refine j_m (As := [.int (xs (6 * n + 1)), .int 1]) (rest := [.int r1]) C hI hS hv (m2 _) mv_X10_setConsent q_1685 rfl hl.1 rfl (Nat.le_of_ble_eq_true rfl) dL_law_2526 ⟨by decide, by decide⟩ ⟨l_ofr2 (by decide) hr.1, l_ofr2 (by decide) hr.2⟩ (fun r2 z2 H locs hp2 hI hS => ?_)
    obtain ⟨er, K2, hw2, hJ⟩ := ag _ _ _ _ hp1 hp2
    refine lv_icmp_eq (tgt := 2584) hx hcb dL_law_2529 (by decide) (fun _ => ?_) (fun h => absurd er h)
    refine W.widen (k := cells + 48) (n := slots + 574) (l_ofr2 (by decide) (Nat.le_refl _)) (l_ofr2 (by decide) (Nat.le_refl _)) ?_
    exact hk K2 w2 z1 z2 f g H locs ls hw2 hJ hI hS (by unfold lL; rw [ew]; exact hl)
set_option maxRecDepth 100000 in
set_option maxHeartbeats 4000000 in
theorem k_setSetting (C : lC p s m args c b L xs G cD) (hL : L ≤ 3072) (hn : 6 * n + 6 ≤ L) (hw : isC K w) (hv : isM v) (hJ : J K zc zm) (hI : lJ G w v zc zm ou od (lE1 G f) (lE2 cD g) s.heap.size H) (hS : va_S (lA s) s.heap H locs) (hl : lv_has ls 9 (lL b w v ou od n)) (hr : cells + 48 ≤ 601024 ∧ slots + 574 ≤ 7293034) (hk : lK p l e s m args below meth c cells slots Q G cD v ou od b n J)
    (hSim : ∀ x0 x1 : Int32, lG l J yX9_setSetting cX9_setSetting 4 (some FieldType.int) rm_X9_setSetting yX10_setSetting cX10_setSetting 4 (some FieldType.int) rm_X10_setSetting [.int x0, .int x1]) : W p l e room_1 s m args below meth c H locs cells slots Q (F0 m 2534 ls []) := by
  have h0 := lv_at hl 0 rfl
  have h1 := lv_at hl 1 rfl
  have h2 := lv_at hl 2 rfl
  have h3 := lv_at hl 3 rfl
  have h4 := lv_at hl 4 rfl
  have h5 := lv_at hl 5 rfl
  obtain ⟨hx, hcb, hml, hown, hts, hK, hZ, hX, hbl⟩ := id C
  obtain ⟨P1, P2, m1, m2, hpX, ag⟩ := hSim (xs (6 * n + 1)) (xs (6 * n + 2)) G w v K zc zm H.size hw hv hJ
  refine lv_aload_n hx hcb dL_law_2534 rfl h1 ?_
  refine j_s (k := 1) C hS h0 h5 (by decide) (by omega) hL dL_law_2535 dL_law_2536 dL_law_2538 dL_law_2539 dL_law_2540 ?_
  refine j_s (k := 2) C hS h0 h5 (by decide) (by omega) hL dL_law_2541 dL_law_2542 dL_law_2544 dL_law_2545 dL_law_2546 ?_
  refine j_g (As := [.int (xs (6 * n + 1)), .int (xs (6 * n + 2))]) (rest := []) C hI hS hw m1 hpX mv_X9_setSetting q_876 rfl hl.1 rfl (Nat.le_of_ble_eq_true rfl) dL_law_2547 ⟨by decide, by decide⟩ ⟨l_ofr (by decide) hr.1, l_ofr (by decide) hr.2⟩ (fun r1 w2 z1 H locs hp1 ew hI hS => ?_)
  refine lv_aload_n hx hcb dL_law_2550 rfl h2 ?_
  refine j_s (k := 1) C hS h0 h5 (by decide) (by omega) hL dL_law_2551 dL_law_2552 dL_law_2554 dL_law_2555 dL_law_2556 ?_
  refine j_s (k := 2) C hS h0 h5 (by decide) (by omega) hL dL_law_2557 dL_law_2558 dL_law_2560 dL_law_2561 dL_law_2562 ?_
  refine j_m (As := [.int (xs (6 * n + 1)), .int (xs (6 * n + 2))]) (rest := [.int r1]) C hI hS hv (m2 _) mv_X10_setSetting q_1689 rfl hl.1 rfl (Nat.le_of_ble_eq_true rfl) dL_law_2563 ⟨by decide, by decide⟩ ⟨l_ofr2 (by decide) hr.1, l_ofr2 (by decide) hr.2⟩ (fun r2 z2 H locs hp2 hI hS => ?_)
  obtain ⟨er, K2, hw2, hJ⟩ := ag _ _ _ _ hp1 hp2
  refine lv_icmp_eq (tgt := 2584) hx hcb dL_law_2566 (by decide) (fun _ => ?_) (fun h => absurd er h)
  refine W.widen (k := cells + 48) (n := slots + 574) (l_ofr2 (by decide) (Nat.le_refl _)) (l_ofr2 (by decide) (Nat.le_refl _)) ?_
  exact hk K2 w2 z1 z2 f g H locs ls hw2 hJ hI hS (by unfold lL; rw [ew]; exact hl)
set_option maxRecDepth 100000 in
set_option maxHeartbeats 4000000 in
theorem k_undo (C : lC p s m args c b L xs G cD) (hL : L ≤ 3072) (hn : 6 * n + 6 ≤ L) (hw : isC K w) (hv : isM v) (hJ : J K zc zm) (hI : lJ G w v zc zm ou od (lE1 G f) (lE2 cD g) s.heap.size H) (hS : va_S (lA s) s.heap H locs) (hl : lv_has ls 9 (lL b w v ou od n)) (hr : cells + 48 ≤ 601024 ∧ slots + 574 ≤ 7293034) (hk : lK p l e s m args below meth c cells slots Q G cD v ou od b n J)
    (hSim : lP l J yX9_undo cX9_undo 1 (some FieldType.int) rm_X9_undo yX10_undo cX10_undo 2 (some FieldType.int) rm_X10_undo []) : W p l e room_1 s m args below meth c H locs cells slots Q (F0 m 2571 ls []) := by
  have h0 := lv_at hl 0 rfl
  have h1 := lv_at hl 1 rfl
  have h2 := lv_at hl 2 rfl
  have h3 := lv_at hl 3 rfl
  have h4 := lv_at hl 4 rfl
  have h5 := lv_at hl 5 rfl
  obtain ⟨hx, hcb, hml, hown, hts, hK, hZ, hX, hbl⟩ := id C
  obtain ⟨P1, P2, m1, m2, ag⟩ := hSim  G w v K zc zm hw hv hJ
  refine lv_aload_n hx hcb dL_law_2571 rfl h1 ?_
  refine j_c (As := []) (rest := []) C hI hS hw (m1 _) mv_X9_undo q_885 rfl hl.1 rfl (Nat.le_of_ble_eq_true rfl) dL_law_2572 ⟨by decide, by decide⟩ ⟨l_ofr (by decide) hr.1, l_ofr (by decide) hr.2⟩ (fun r1 z1 H locs hp1 hI hS => ?_)
  refine lv_aload_n hx hcb dL_law_2575 rfl h2 ?_
  refine j_m (As := []) (rest := [.int r1]) C hI hS hv (m2 _) mv_X10_undo q_1661 rfl hl.1 rfl (Nat.le_of_ble_eq_true rfl) dL_law_2576 ⟨by decide, by decide⟩ ⟨l_ofr2 (by decide) hr.1, l_ofr2 (by decide) hr.2⟩ (fun r2 z2 H locs hp2 hI hS => ?_)
  obtain ⟨er, hJ⟩ := ag _ _ _ _ hp1 hp2
  refine lv_icmp_eq (tgt := 2584) hx hcb dL_law_2579 (by decide) (fun _ => ?_) (fun h => absurd er h)
  refine W.widen (k := cells + 48) (n := slots + 574) (l_ofr2 (by decide) (Nat.le_refl _)) (l_ofr2 (by decide) (Nat.le_refl _)) ?_
  exact hk K w z1 z2 f g H locs ls hw hJ hI hS hl
end LLC
