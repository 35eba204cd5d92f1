/-! THE LAW'S START: what stands around it -/
theorem hA_l {s : State} : ∀ a : Nat, a < s.heap.size → ¬ lA s a := fun a h q => absurd h (Nat.not_lt.mpr q)
def zN : List Cond := flatC (Jvm.Cond.and given_1 narrow_1)
abbrev sTm (q : String × Nat × String) : Term := .string q.1 q.2.1
abbrev sVl (q : String × Nat × String) : Term := .field (.string q.1 q.2.1) "java/lang/String" "value" "[B"
def sReq (q : String × Nat × String) : List Cond := [Cond.exactly (sTm q) "java/lang/String", Cond.eq (.field (sTm q) "java/lang/String" "coder" "B") (.int 0), Cond.arrayOf (sVl q) .byte, Cond.eq (.length (sVl q)) (.int (Int32.ofNat q.2.2.toList.length))] ++ (List.range q.2.2.toList.length).map (fun j => Cond.eq (.elem (sVl q) (.int (Int32.ofNat j))) (.int (nI ((q.2.2.toList.getD j ' ').toNat))))
theorem seg_mem {l : List Cond} {i n : Nat} {ws : List Cond} (h : (l.drop i).take n = ws) : ∀ w ∈ ws, w ∈ l := fun w hw => by
  rw [← h] at hw
  exact List.mem_of_mem_drop (List.mem_of_mem_take hw)
set_option maxRecDepth 100000 in
theorem sg_0 : (zN.drop 85).take 10 = sReq (RX4, 53, "member") := by decide +kernel
set_option maxRecDepth 100000 in
theorem sg_1 : (zN.drop 95).take 10 = sReq (RX8, 53, "member") := by decide +kernel
set_option maxRecDepth 100000 in
theorem sg_2 : (zN.drop 106).take 9 = sReq (RX8, 59, "trade") := by decide +kernel
set_option maxRecDepth 100000 in
theorem sg_3 : (zN.drop 117).take 9 = sReq (RX8, 61, "close") := by decide +kernel
set_option maxRecDepth 100000 in
theorem sg_4 : (zN.drop 129).take 7 = sReq (RX8, 63, "set") := by decide +kernel
set_option maxRecDepth 100000 in
theorem sg_5 : (zN.drop 140).take 8 = sReq (RX8, 65, "cash") := by decide +kernel
set_option maxRecDepth 100000 in
theorem sg_6 : (zN.drop 153).take 9 = sReq (RX8, 67, "years") := by decide +kernel
set_option maxRecDepth 100000 in
theorem sg_7 : (zN.drop 168).take 8 = sReq (RX8, 69, "keep") := by decide +kernel
set_option maxRecDepth 100000 in
theorem sg_8 : (zN.drop 183).take 10 = sReq (RX8, 71, "policy") := by decide +kernel
set_option maxRecDepth 100000 in
theorem sg_9 : (zN.drop 201).take 11 = sReq (RX4, 94, "consent") := by decide +kernel
set_option maxRecDepth 100000 in
theorem sg_10 : (zN.drop 221).take 11 = sReq (RX4, 62, "section") := by decide +kernel
set_option maxRecDepth 100000 in
theorem sg_11 : (zN.drop 242).take 9 = sReq (RX4, 67, "trade") := by decide +kernel
set_option maxRecDepth 100000 in
theorem sg_12 : (zN.drop 262).take 9 = sReq (RX4, 72, "close") := by decide +kernel
set_option maxRecDepth 100000 in
theorem sg_13 : (zN.drop 283).take 7 = sReq (RX4, 77, "set") := by decide +kernel
set_option maxRecDepth 100000 in
theorem sg_14 : (zN.drop 303).take 8 = sReq (RX4, 156, "cash") := by decide +kernel
set_option maxRecDepth 100000 in
theorem sg_15 : (zN.drop 325).take 11 = sReq (RX4, 158, "reserve") := by decide +kernel
set_option maxRecDepth 100000 in
theorem sg_16 : (zN.drop 351).take 9 = sReq (RX4, 160, "years") := by decide +kernel
set_option maxRecDepth 100000 in
theorem sg_17 : (zN.drop 376).take 8 = sReq (RX4, 162, "keep") := by decide +kernel
set_option maxRecDepth 100000 in
theorem sg_18 : (zN.drop 401).take 10 = sReq (RX4, 164, "policy") := by decide +kernel
set_option maxRecDepth 100000 in
theorem sg_19 : (zN.drop 429).take 18 = sReq (RX9, 289, "no such member") := by decide +kernel
set_option maxRecDepth 100000 in
theorem sg_20 : (zN.drop 466).take 22 = sReq (RX9, 294, "no such department") := by decide +kernel
set_option maxRecDepth 100000 in
theorem sg_21 : (zN.drop 508).take 74 = sReq (RX10, 175, "member section trade close set consent cash reserve years keep policy ") := by decide +kernel
theorem xS1_of {args : Array Value} {s : State} {q : String × Nat × String} (hq : (Cond.stringRef q.1 q.2.1 q.2.2).before args s = true) (hr : ∀ w ∈ sReq q, w.before args s = true) (hl : q.2.2.toList.length < 2 ^ 31) : xS1 q (lA s) s s.heap := by
  have m1 := hr (Cond.exactly (sTm q) "java/lang/String") (List.mem_append_left _ (by simp))
  have m2 := hr (Cond.eq (.field (sTm q) "java/lang/String" "coder" "B") (.int 0)) (List.mem_append_left _ (by simp))
  have m3 := hr (Cond.arrayOf (sVl q) .byte) (List.mem_append_left _ (by simp))
  have m4 := hr (Cond.eq (.length (sVl q)) (.int (Int32.ofNat q.2.2.toList.length))) (List.mem_append_left _ (by simp))
  obtain ⟨a, c, cA, kA, q1, q2, q3, q4, q5, q6, -⟩ := Cond.exactly_spec (args := args) (first := s) (o := none) (s := s) (idx := []) (t := sTm q) (cls := "java/lang/String") m1
  obtain ⟨v, hv, hT⟩ := va_Tof (tm := sVl q) (ty := .byte) (N := q.2.2.toList.length) (f := fun j => .int (nI ((q.2.2.toList.getD j ' ').toNat))) (A := lA s) hl m3 (va_eqt m4) (fun j hj => va_eqt (hr _ (List.mem_append_right _ (List.mem_map.mpr ⟨j, List.mem_range.mpr hj, rfl⟩)))) hA_l
  exact ⟨a, v, vk_R.of hq q1, va_Oof m1 q1 hA_l, vk_OFof q1 (va_eqt m2) hA_l, vk_OFof q1 hv hA_l, hT⟩
abbrev tTm (n : String) : Term := .static RX9 n "[I"
def tReq (n : String) (f : Nat → Int32) : List Cond := [Cond.arrayOf (tTm n) .int, Cond.eq (.length (tTm n)) (.int (Int32.ofNat 5))] ++ (List.range 5).map (fun j => Cond.eq (.elem (tTm n) (.int (Int32.ofNat j))) (.int (f j)))
set_option maxRecDepth 100000 in
theorem sg_xIni : (zN.drop 5).take 7 = tReq "INITIAL_VALUES" xIni := by decide +kernel
set_option maxRecDepth 100000 in
theorem sg_xLea : (zN.drop 18).take 7 = tReq "LEAST_VALUES" xLea := by decide +kernel
set_option maxRecDepth 100000 in
theorem sg_xGre : (zN.drop 26).take 7 = tReq "GREATEST_VALUES" xGre := by decide +kernel
theorem xTb_of {args : Array Value} {s : State} {n : String} {f : Nat → Int32} (hl : (Cond.laysStatic RX9 n "[I").before args s = true) (hi : (Cond.initialized RX9).before args s = true) (hr : ∀ w ∈ tReq n f, w.before args s = true) : xTb n f (lA s) s s.heap := by
  obtain ⟨t, ht, hT⟩ := va_Tof (tm := tTm n) (ty := .int) (N := 5) (f := fun j => .int (f j)) (A := lA s) (by decide) (hr (Cond.arrayOf (tTm n) .int) (List.mem_append_left _ (by simp))) (va_eqt (hr (Cond.eq (.length (tTm n)) (.int (Int32.ofNat 5))) (List.mem_append_left _ (by simp)))) (fun j hj => va_eqt (hr _ (List.mem_append_right _ (List.mem_map.mpr ⟨j, List.mem_range.mpr hj, rfl⟩)))) hA_l
  exact ⟨t, va_Zref hl hi ht hA_l, hT⟩
theorem zN_at {w : Cond} (i : Nat) (h : zN[i]? = some w) : w ∈ zN := List.mem_of_getElem? h
set_option maxRecDepth 100000 in
theorem zN_c : Cond.eq (.static RJ0 "COMPACT_STRINGS" "Z") (.int 1) ∈ zN := zN_at 12 (by decide +kernel)
set_option maxRecDepth 100000 in
theorem zN_f : Cond.isRef (.static RJ3 "SIOOBE_FORMATTER" "Ljava/util/function/BiFunction;") ∈ zN := zN_at 13 (by decide +kernel)
set_option maxRecDepth 100000 in
theorem zN_u : Cond.isRef (.static Bundle.tN "UNASSIGNED_STACK" Bundle.steD) ∈ zN := zN_at 33 (by decide +kernel)
set_option maxRecDepth 100000 in
theorem zN_s : Cond.isRef (.static Bundle.tN "SUPPRESSED_SENTINEL" Bundle.listD) ∈ zN := zN_at 34 (by decide +kernel)
theorem xNb_on : ∀ w ∈ xNb, w.onTables = true := by
  intro w hw
  simp only [xNb, List.mem_cons, List.not_mem_nil, or_false] at hw
  rcases hw with rfl | rfl | rfl | rfl | rfl | rfl | rfl | rfl | rfl | rfl | rfl | rfl | rfl | rfl | rfl | rfl | rfl <;> rfl
theorem z_start {args : Array Value} {s : State} (hts : ∀ w ∈ lw_tbl, w.before args s = true) (hgv : (Jvm.Cond.and given_1 narrow_1).before args s = true) : xZ (lA s) s s.heap := by
  have hs : ∀ w ∈ zN, w.before args s = true := flat_of_before _ hgv
  have hx9 : (Cond.initialized RX9).before args s = true := hts _ (xw_tbl q_72)
  refine ⟨⟨fun w hw => va_Nw.of (xNb_on w hw) (hts w (xNb_tbl w hw)), va_AO.of (hts _ q_169), va_AO.of (hts _ q_171), va_AO.of (hts _ q_316)⟩, ⟨xTb_of (hts _ q_251) hx9 (fun w hw => hs w (seg_mem sg_xIni w hw)), xTb_of (hts _ q_648) hx9 (fun w hw => hs w (seg_mem sg_xLea w hw)), xTb_of (hts _ q_650) hx9 (fun w hw => hs w (seg_mem sg_xGre w hw))⟩, ?_, va_Zof (hts _ q_460) (hts _ (xw_tbl q_85)) (va_eqt (hs _ zN_c)) hA_l, va_Zqof (hts _ q_476) (hts _ (xw_tbl q_87)) (hs _ zN_f) hA_l, vx_Zqof (hts _ q_936) (hts _ (xw_tbl q_90)) (hs _ zN_u) hA_l, vx_Zqof (hts _ q_938) (hts _ (xw_tbl q_90)) (hs _ zN_s) hA_l⟩
  intro q hq
  simp only [xSs, List.mem_cons, List.not_mem_nil, or_false] at hq
  rcases hq with rfl | rfl | rfl | rfl | rfl | rfl | rfl | rfl | rfl | rfl | rfl | rfl | rfl | rfl | rfl | rfl | rfl | rfl | rfl | rfl | rfl | rfl
  · exact xS1_of (hts _ q_446) (fun w hw => hs w (seg_mem sg_0 w hw)) (by decide)
  · exact xS1_of (hts _ q_512) (fun w hw => hs w (seg_mem sg_1 w hw)) (by decide)
  · exact xS1_of (hts _ q_514) (fun w hw => hs w (seg_mem sg_2 w hw)) (by decide)
  · exact xS1_of (hts _ q_515) (fun w hw => hs w (seg_mem sg_3 w hw)) (by decide)
  · exact xS1_of (hts _ q_516) (fun w hw => hs w (seg_mem sg_4 w hw)) (by decide)
  · exact xS1_of (hts _ q_517) (fun w hw => hs w (seg_mem sg_5 w hw)) (by decide)
  · exact xS1_of (hts _ q_518) (fun w hw => hs w (seg_mem sg_6 w hw)) (by decide)
  · exact xS1_of (hts _ q_519) (fun w hw => hs w (seg_mem sg_7 w hw)) (by decide)
  · exact xS1_of (hts _ q_520) (fun w hw => hs w (seg_mem sg_8 w hw)) (by decide)
  · exact xS1_of (hts _ q_544) (fun w hw => hs w (seg_mem sg_9 w hw)) (by decide)
  · exact xS1_of (hts _ q_545) (fun w hw => hs w (seg_mem sg_10 w hw)) (by decide)
  · exact xS1_of (hts _ q_558) (fun w hw => hs w (seg_mem sg_11 w hw)) (by decide)
  · exact xS1_of (hts _ q_574) (fun w hw => hs w (seg_mem sg_12 w hw)) (by decide)
  · exact xS1_of (hts _ q_633) (fun w hw => hs w (seg_mem sg_13 w hw)) (by decide)
  · exact xS1_of (hts _ q_642) (fun w hw => hs w (seg_mem sg_14 w hw)) (by decide)
  · exact xS1_of (hts _ q_643) (fun w hw => hs w (seg_mem sg_15 w hw)) (by decide)
  · exact xS1_of (hts _ q_644) (fun w hw => hs w (seg_mem sg_16 w hw)) (by decide)
  · exact xS1_of (hts _ q_645) (fun w hw => hs w (seg_mem sg_17 w hw)) (by decide)
  · exact xS1_of (hts _ q_646) (fun w hw => hs w (seg_mem sg_18 w hw)) (by decide)
  · exact xS1_of (hts _ q_948) (fun w hw => hs w (seg_mem sg_19 w hw)) (by decide)
  · exact xS1_of (hts _ q_992) (fun w hw => hs w (seg_mem sg_20 w hw)) (by decide)
  · exact xS1_of (hts _ q_1293) (fun w hw => hs w (seg_mem sg_21 w hw)) (by decide)
theorem arr_of {args : Array Value} {s : State} {ty : FieldType} (h : (Cond.arrayClass ty).before args s = true) : ∃ cA : ClassId, ArrOfT s cA ty ∧ s.vm.findClass ("[" ++ ty.toString) = some cA := by
  obtain ⟨cA, kA, comp, h1, h2, h3⟩ := Cond.arrayClass_spec h
  exact ⟨cA, fun n z => ⟨fun k h => (by cases h), kA, h2, comp, h3⟩, h1⟩
theorem arr_ofO {args : Array Value} {s : State} {C : String} (h : (Cond.arrayOver (.object C)).before args s = true) : ∃ cA : ClassId, ArrOfT s cA (.object C) ∧ va_RA s cA (.object C) := by
  obtain ⟨comp, cA, kA, h1, -, h2, h3, h4⟩ := Cond.arrayOver_spec h
  exact ⟨cA, fun n z => ⟨fun k h => (by cases h), kA, h2, comp, h3⟩, kA, comp, h2, h3, h1, h4⟩
theorem k_start {args : Array Value} {s : State} (hts : ∀ w ∈ lw_tbl, w.before args s = true) : ∃ (G : xGl) (cD : ClassId), va_K G.1 vwCl (xtyD G cD) s := by
  have hx : ∀ w ∈ xw, w.before args s = true := fun w h => hts w (xw_tbl h)
  obtain ⟨c0, i0, h0⟩ := u_known (C := RX0) (T := TX0) (N := 9) (n := 9) hx inX0 (hx _ q_163)
  obtain ⟨c1, i1, h1⟩ := u_known (C := RX1) (T := TX1) (N := 1) (n := 1) hx inX1 (hx _ q_124)
  obtain ⟨c2, i2, h2⟩ := u_known (C := RX2) (T := TX2) (N := 3) (n := 3) hx inX2 (hx _ q_232)
  obtain ⟨c3, i3, h3⟩ := u_known (C := RX3) (T := TX3) (N := 3) (n := 3) hx inX3 (hx _ q_310)
  obtain ⟨c4, i4, h4⟩ := u_known (C := RX4) (T := TX4) (N := 5) (n := 5) hx inX4 (hx _ q_354)
  obtain ⟨c5, i5, h5⟩ := u_known (C := RX5) (T := TX5) (N := 10) (n := 10) hx inX5 (hx _ q_172)
  obtain ⟨c6, i6, h6⟩ := u_known (C := RX6) (T := TX6) (N := 6) (n := 6) hx inX6 (hx _ q_329)
  obtain ⟨c7, i7, h7⟩ := u_known (C := RX7) (T := TX7) (N := 4) (n := 4) hx inX7 (hx _ q_103)
  obtain ⟨c8, i8, h8⟩ := u_known (C := RX8) (T := TX8) (N := 6) (n := 6) hx inX8 (hx _ q_134)
  obtain ⟨c9, i9, h9⟩ := u_known (C := RX9) (T := TX9) (N := 9) (n := 9) hx inX9 (hx _ q_95)
  obtain ⟨c10, i10, h10⟩ := u_known (C := RX10) (T := TX10) (N := 32) (n := 32) hx inX10 (hx _ q_1157)
  obtain ⟨a0, g0, f0⟩ := arr_of (ty := .int) (hx _ q_121)
  obtain ⟨a1, g1, f1⟩ := arr_of (ty := .byte) (hx _ q_161)
  obtain ⟨a2, g2, f2⟩ := arr_of (ty := .boolean) (hx _ q_375)
  obtain ⟨a3, g3, f3⟩ := arr_of (ty := .long) (hx _ q_122)
  obtain ⟨a4, g4, f4⟩ := arr_ofO (C := RX0) (hts _ q_316)
  obtain ⟨a5, g5, f5⟩ := arr_ofO (C := RX2) (hts _ q_171)
  obtain ⟨a6, g6, f6⟩ := arr_ofO (C := RX5) (hts _ q_169)
  obtain ⟨aD, gD, fD⟩ := arr_of (ty := .double) (hx _ q_1693)
  refine ⟨((fun k => [c0, c1, c2, c3, c4, c5, c6, c7, c8, c9, c10].getD k c0, fun k => [i0, i1, i2, i3, i4, i5, i6, i7, i8, i9, i10].getD k i0), fun k => [a0, a1, a2, a3, a4, a5, a6].getD k a0), aD, fun k q hq => ?_, fun k q hq => ?_⟩
  · match k, hq with
    | 0, hq => cases hq; exact h0
    | 1, hq => cases hq; exact h1
    | 2, hq => cases hq; exact h2
    | 3, hq => cases hq; exact h3
    | 4, hq => cases hq; exact h4
    | 5, hq => cases hq; exact h5
    | 6, hq => cases hq; exact h6
    | 7, hq => cases hq; exact h7
    | 8, hq => cases hq; exact h8
    | 9, hq => cases hq; exact h9
    | 10, hq => cases hq; exact h10
    | k + 11, hq => simp [vwCl] at hq
  · match k, hq with
    | 0, hq => cases hq; exact ⟨g0, f0⟩
    | 1, hq => cases hq; exact ⟨g1, f1⟩
    | 2, hq => cases hq; exact ⟨g2, f2⟩
    | 3, hq => cases hq; exact ⟨g3, f3⟩
    | 4, hq => cases hq; exact ⟨g4, f4⟩
    | 5, hq => cases hq; exact ⟨g5, f5⟩
    | 6, hq => cases hq; exact ⟨g6, f6⟩
    | 7, hq => cases hq; exact ⟨gD, fD⟩
    | k + 8, hq => simp [xtys] at hq
