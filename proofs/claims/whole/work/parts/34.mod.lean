/-! THE REFERENCE: rows of numbers -/
def mQ (z : xSt) (k : Nat) : Nat := (z.1 2 k).toNatClampNeg
def yQ (z : xSt) : Nat := (z.1 4 494).toNatClampNeg
def rOk (z : xSt) : Prop := z.1 2 12 = nI (mQ z 12) ∧ mQ z 12 ≤ 8 ∧ z.1 2 13 = nI (mQ z 13) ∧ mQ z 13 ≤ 4 ∧ z.1 4 494 = nI (yQ z) ∧ yQ z ≤ 24
def lfQ (z : xSt) (m y : Nat) : Int32 := z.1 4 (61 + 24 * m + y)
def eqQ (z : xSt) (m : Nat) : Int32 := bx_sum (lfQ z m) 24
def ck (z : xSt) (P : Prop) [Decidable P] : xSt := u1 z 0 0 (if P then 0 else 1)
theorem le4 {x : Int32} (h : inR x 5) : ¬ nI 4 < x := by
  obtain ⟨h1, h2⟩ := inR_k (by omega) h
  rw [h1]; exact fun q => absurd ((nI_ltI (by omega) (by omega)).mp q) (by omega)
theorem lt5 {x : Int32} (h : x ≤ nI 4) : x < nI 5 := Int32.lt_of_le_of_lt h (by decide)
theorem le2 {x : Int32} (h : inR x 3) : ¬ nI 2 < x := by
  obtain ⟨h1, h2⟩ := inR_k (by omega) h
  rw [h1]; exact fun q => absurd ((nI_ltI (by omega) (by omega)).mp q) (by omega)
theorem lt3 {x : Int32} (h : x ≤ nI 2) : x < nI 3 := Int32.lt_of_le_of_lt h (by decide)
def rm_X10_thrown : Room := { frames := 0, cells := 0, slots := 0, locals := 0 }
set_option maxRecDepth 100000 in
set_option maxHeartbeats 4000000 in
theorem c_X10_thrown (l : Launch) (G : xGl) (w : xWd) (hw : isM w) (z : xSt) (sz : Nat)   : xMi l yX10_thrown cX10_thrown 1 (some FieldType.int) rm_X10_thrown G w z sz [.ref (w.2.2 0)] (fun r z1 => r = z.1 0 0 ∧ z1 = z) := by
  refine x_mi (by decide) (Nat.le_of_ble_eq_true rfl) ?_
  intro p e s mt args below meth c ls Q hsz X hR hS hl hret
  obtain ⟨hx, hcb, hml, hown, hts, hlk, hK, hZ⟩ := X
  have hl : lv_has ls 1 [(0, .ref (w.2.2 0))] := hl
  refine lv_aload_n hx hcb dX10_thrown_0 rfl (lv_at hl 0 rfl) ?_
  refine x_getI hx hcb hts hown hK xc10 hR (hw.lo (by decide)) (hw.s0 rfl) 0 (by decide) rfl q_1166 dX10_thrown_1 ?_
  exact hret (z.1 0 0) z _ _ _ _ dX10_thrown_4 rfl hR hS (⟨rfl, rfl⟩)
def rm_X10_left : Room := { frames := 0, cells := 0, slots := 0, locals := 0 }
set_option maxRecDepth 100000 in
set_option maxHeartbeats 4000000 in
theorem c_X10_left (l : Launch) (G : xGl) (w : xWd) (hw : isM w) (z : xSt) (sz : Nat) (m : Nat) (y : Nat) (hm : m < 8) (hy : y < 24) : xMi l yX10_left cX10_left 3 (some FieldType.int) rm_X10_left G w z sz [.ref (w.2.2 0), .int (nI m), .int (nI y)] (fun r z1 => r = lfQ z m y ∧ z1 = z) := by
  refine x_mi (by decide) (Nat.le_of_ble_eq_true rfl) ?_
  intro p e s mt args below meth c ls Q hsz X hR hS hl hret
  obtain ⟨hx, hcb, hml, hown, hts, hlk, hK, hZ⟩ := X
  have hl : lv_has ls 3 [(0, .ref (w.2.2 0)), (1, .int (nI m)), (2, .int (nI y))] := hl
  refine lv_aload_n hx hcb dX10_left_0 rfl (lv_at hl 0 rfl) ?_
  refine x_getR hx hcb hts hown hK xc10 hR (hw.lo (by decide)) (hw.s0 rfl) 5 (by decide) rfl q_1171 dX10_left_1 ?_
  refine lv_bipush (v := (nI 61)) hx hcb dX10_left_4 (by decide) ?_
  refine lv_bipush (v := (nI 24)) hx hcb dX10_left_6 (by decide) ?_
  refine lv_iload_n hx hcb dX10_left_8 rfl (lv_at hl 1 rfl) ?_
  refine x_imulN hx hcb dX10_left_9 ?_
  refine x_iaddN hx hcb dX10_left_10 ?_
  refine lv_iload_n hx hcb dX10_left_11 rfl (lv_at hl 2 rfl) ?_
  refine x_iaddN hx hcb dX10_left_12 ?_
  refine x_iald hx hcb hK hR (hw.lo (by decide)) (hw.s0 rfl) (k := ((61 + (24 * m)) + y)) (by omega) (by decide) dX10_left_13 ?_
  exact hret (z.1 4 ((61 + (24 * m)) + y)) z _ _ _ _ dX10_left_14 rfl hR hS (⟨rfl, rfl⟩)
def rm_X10_takes : Room := { frames := 0, cells := 0, slots := 0, locals := 0 }
set_option maxRecDepth 100000 in
set_option maxHeartbeats 4000000 in
theorem c_X10_takes (l : Launch) (G : xGl) (w : xWd) (hw : isM w) (z : xSt) (sz : Nat) (m : Nat) (y : Nat) (a : Int32) (hm : m < 8) (hy : y < 24) : xMv l yX10_takes cX10_takes 4 rm_X10_takes G w z sz [.ref (w.2.2 0), .int (nI m), .int (nI y), .int a] (fun z1 => z1 = u1 z 4 (61 + 24 * m + y) (lfQ z m y - a)) := by
  refine x_mv (by decide) (Nat.le_of_ble_eq_true rfl) ?_
  intro p e s mt args below meth c ls Q hsz X hR hS hl hret
  obtain ⟨hx, hcb, hml, hown, hts, hlk, hK, hZ⟩ := X
  have hl : lv_has ls 4 [(0, .ref (w.2.2 0)), (1, .int (nI m)), (2, .int (nI y)), (3, .int a)] := hl
  refine lv_aload_n hx hcb dX10_takes_0 rfl (lv_at hl 0 rfl) ?_
  refine x_getR hx hcb hts hown hK xc10 hR (hw.lo (by decide)) (hw.s0 rfl) 5 (by decide) rfl q_1171 dX10_takes_1 ?_
  refine lv_bipush (v := (nI 61)) hx hcb dX10_takes_4 (by decide) ?_
  refine lv_bipush (v := (nI 24)) hx hcb dX10_takes_6 (by decide) ?_
  refine lv_iload_n hx hcb dX10_takes_8 rfl (lv_at hl 1 rfl) ?_
  refine x_imulN hx hcb dX10_takes_9 ?_
  refine x_iaddN hx hcb dX10_takes_10 ?_
  refine lv_iload_n hx hcb dX10_takes_11 rfl (lv_at hl 2 rfl) ?_
  refine x_iaddN hx hcb dX10_takes_12 ?_
  refine lv_dup2_11 hx hcb dX10_takes_13 rfl rfl ?_
  refine x_iald hx hcb hK hR (hw.lo (by decide)) (hw.s0 rfl) (k := ((61 + (24 * m)) + y)) (by omega) (by decide) dX10_takes_14 ?_
  refine lv_iload_n hx hcb dX10_takes_15 rfl (lv_at hl 3 rfl) ?_
  refine lv_isub hx hcb dX10_takes_16 ?_
  refine x_iast hx hcb hK hR hS (hw.lo (by decide)) (hw.s0 rfl) (k := ((61 + (24 * m)) + y)) (v := ((z.1 4 ((61 + (24 * m)) + y)) - a)) (by omega) (by decide) dX10_takes_17 (fun H locs hR hS => ?_)
  exact hret (u1 z 4 ((61 + (24 * m)) + y) ((z.1 4 ((61 + (24 * m)) + y)) - a)) _ _ _ _ dX10_takes_18 hR hS rfl
def rm_X10_pays : Room := { frames := 0, cells := 0, slots := 0, locals := 0 }
set_option maxRecDepth 100000 in
set_option maxHeartbeats 4000000 in
theorem c_X10_pays (l : Launch) (G : xGl) (w : xWd) (hw : isM w) (z : xSt) (sz : Nat) (m : Nat) (k : Nat) (a : Int32) (hm : m < 8) (hk : k < 3) : xMv l yX10_pays cX10_pays 4 rm_X10_pays G w z sz [.ref (w.2.2 0), .int (nI m), .int (nI k), .int a] (fun z1 => z1 = u1 z 4 (445 + 3 * m + k) (z.1 4 (445 + 3 * m + k) + a)) := by
  refine x_mv (by decide) (Nat.le_of_ble_eq_true rfl) ?_
  intro p e s mt args below meth c ls Q hsz X hR hS hl hret
  obtain ⟨hx, hcb, hml, hown, hts, hlk, hK, hZ⟩ := X
  have hl : lv_has ls 4 [(0, .ref (w.2.2 0)), (1, .int (nI m)), (2, .int (nI k)), (3, .int a)] := hl
  refine lv_aload_n hx hcb dX10_pays_0 rfl (lv_at hl 0 rfl) ?_
  refine x_getR hx hcb hts hown hK xc10 hR (hw.lo (by decide)) (hw.s0 rfl) 5 (by decide) rfl q_1171 dX10_pays_1 ?_
  refine lv_sipush (v := (nI 445)) hx hcb dX10_pays_4 (by decide) ?_
  refine lv_iconst (v := (nI 3)) hx hcb dX10_pays_7 (by decide) ?_
  refine lv_iload_n hx hcb dX10_pays_8 rfl (lv_at hl 1 rfl) ?_
  refine x_imulN hx hcb dX10_pays_9 ?_
  refine x_iaddN hx hcb dX10_pays_10 ?_
  refine lv_iload_n hx hcb dX10_pays_11 rfl (lv_at hl 2 rfl) ?_
  refine x_iaddN hx hcb dX10_pays_12 ?_
  refine lv_dup2_11 hx hcb dX10_pays_13 rfl rfl ?_
  refine x_iald hx hcb hK hR (hw.lo (by decide)) (hw.s0 rfl) (k := ((445 + (3 * m)) + k)) (by omega) (by decide) dX10_pays_14 ?_
  refine lv_iload_n hx hcb dX10_pays_15 rfl (lv_at hl 3 rfl) ?_
  refine lv_iadd hx hcb dX10_pays_16 ?_
  refine x_iast hx hcb hK hR hS (hw.lo (by decide)) (hw.s0 rfl) (k := ((445 + (3 * m)) + k)) (v := ((z.1 4 ((445 + (3 * m)) + k)) + a)) (by omega) (by decide) dX10_pays_17 (fun H locs hR hS => ?_)
  exact hret (u1 z 4 ((445 + (3 * m)) + k) ((z.1 4 ((445 + (3 * m)) + k)) + a)) _ _ _ _ dX10_pays_18 hR hS rfl
def rm_X10_equity : Room := { frames := 1, cells := 0, slots := 0, locals := 22 }
set_option maxRecDepth 100000 in
set_option maxHeartbeats 4000000 in
theorem c_X10_equity (l : Launch) (G : xGl) (w : xWd) (hw : isM w) (z : xSt) (sz : Nat) (m : Nat) (hm : m < 8) : xMi l yX10_equity cX10_equity 4 (some FieldType.int) rm_X10_equity G w z sz [.ref (w.2.2 0), .int (nI m)] (fun r z1 => r = eqQ z m ∧ z1 = z) := by
  refine x_mi (by decide) (Nat.le_of_ble_eq_true rfl) ?_
  intro p e s mt args below meth c ls Q hsz X hR hS hl hret
  obtain ⟨hx, hcb, hml, hown, hts, hlk, hK, hZ⟩ := X
  have hl : lv_has ls 4 [(0, .ref (w.2.2 0)), (1, .int (nI m))] := hl
  refine lv_iconst (v := (nI 0)) hx hcb dX10_equity_0 (by decide) ?_
  refine lv_istore_n (lv' := [(2, .int (nI 0)), (0, .ref (w.2.2 0)), (1, .int (nI m))]) hx hcb dX10_equity_1 rfl hl (by decide) rfl (fun ls hl => ?_)
  refine lv_iconst (v := (nI 0)) hx hcb dX10_equity_2 (by decide) ?_
  refine lv_istore_n (lv' := [(3, .int (nI 0)), (2, .int (nI 0)), (0, .ref (w.2.2 0)), (1, .int (nI m))]) hx hcb dX10_equity_3 rfl hl (by decide) rfl (fun ls hl => ?_)
  rw [show (nI 0) = (bx_sum (lfQ z m) 0) from rfl] at hl
  suffices LP_4 : ∀ (nn : Nat) (i_ : Nat) (_ : 24 - i_ < nn) (hi_ : i_ ≤ 24) (H : Heap) (locs : List Loc) (ls : Array Slot), Rh G w z H → va_S (xA w s.heap.size) s.heap H locs → lv_has ls 4 [(0, .ref (w.2.2 0)), (1, .int (nI m)), (2, .int (bx_sum (lfQ z m) i_)), (3, .int (nI i_))] → W p l e rm_X10_equity s mt args below meth c H locs 0 0 Q (F0 mt 4 ls []) from LP_4 ((_) + 1) 0 (Nat.lt_succ_self _) (by omega) _ _ _ hR hS (lv_sub hl [2, 3, 1, 0] rfl)
  intro nn
  induction nn with
  | zero => intro i_ hm_ ; exact absurd hm_ (Nat.not_lt_zero _)
  | succ nn ih_4 =>
    intro i_ hm_4 hi_ H locs ls hR hS hl
    refine lv_iload_n hx hcb dX10_equity_4 rfl (lv_at hl 3 rfl) ?_
    refine lv_bipush (v := (nI 24)) hx hcb dX10_equity_5 (by decide) ?_
    refine lv_icmp_ge (tgt := 25) hx hcb dX10_equity_7 (by decide) (fun c_1 => ?_) (fun c_1 => ?_)
    · skip
      have c_1 : 24 ≤ i_ := (nI_leI (by omega) (by omega)).mp c_1
      obtain rfl : 24 = i_ := by omega
      refine lv_iload_n hx hcb dX10_equity_25 rfl (lv_at hl 2 rfl) ?_
      exact hret (bx_sum (lfQ z m) 24) z _ _ _ _ dX10_equity_26 rfl hR hS (⟨rfl, rfl⟩)
    · skip
      have c_1 : ¬ 24 ≤ i_ := fun h_ => c_1 ((nI_leI (by omega) (by omega)).mpr h_)
      refine lv_iload_n hx hcb dX10_equity_10 rfl (lv_at hl 2 rfl) ?_
      refine lv_aload_n hx hcb dX10_equity_11 rfl (lv_at hl 0 rfl) ?_
      refine lv_iload_n hx hcb dX10_equity_12 rfl (lv_at hl 1 rfl) ?_
      refine lv_iload_n hx hcb dX10_equity_13 rfl (lv_at hl 3 rfl) ?_
      refine x_ci0 rfl rfl (x_runV hx hcb hml hown hts (c_X10_left l G w hw z _ m i_ (by omega) (by omega)) mv_X10_left q_1390 hK hZ hR hS (hw.lo (by decide)) xc10 (hw.s0 rfl) rfl hl.1 rfl (Nat.le_of_ble_eq_true rfl) dX10_equity_14 ⟨by decide, by decide⟩ ⟨by decide, by decide⟩) hS (fun r_2 z_3 H locs hp_4 hR hS => ?_)
      rw [hp_4.2] at hR; rw [hp_4.1]
      refine lv_iadd hx hcb dX10_equity_17 ?_
      refine lv_istore_n (lv' := [(2, .int ((bx_sum (lfQ z m) i_) + (lfQ z m i_))), (0, .ref (w.2.2 0)), (1, .int (nI m)), (3, .int (nI i_))]) hx hcb dX10_equity_18 rfl hl (by decide) rfl (fun ls hl => ?_)
      refine lv_iinc (v := (nI (i_ + 1))) (lv' := [(3, .int (nI (i_ + 1))), (2, .int ((bx_sum (lfQ z m) i_) + (lfQ z m i_))), (0, .ref (w.2.2 0)), (1, .int (nI m))]) hx hcb dX10_equity_19 hl (k := 3) rfl (x_iinc1 _) (by decide) rfl (fun ls hl => ?_)
      refine lv_goto (tgt := 4) hx hcb dX10_equity_22 (by decide) ?_
      exact ih_4 (i_ + 1) (by omega) (by omega) _ _ _ hR hS (lv_sub hl [2, 3, 1, 0] rfl)
def rm_X10_traded : Room := { frames := 0, cells := 0, slots := 0, locals := 0 }
set_option maxRecDepth 100000 in
set_option maxHeartbeats 4000000 in
theorem c_X10_traded (l : Launch) (G : xGl) (w : xWd) (hw : isM w) (z : xSt) (sz : Nat) (d : Nat) (hO : rOk z) (hd : d < 4) : xMi l yX10_traded cX10_traded 4 (some FieldType.int) rm_X10_traded G w z sz [.ref (w.2.2 0), .int (nI d)] (fun r z1 => r = bx_sum (fun m => z.1 4 (29 + 4 * m + d)) (mQ z 12) ∧ z1 = z) := by
  refine x_mi (by decide) (Nat.le_of_ble_eq_true rfl) ?_
  intro p e s mt args below meth c ls Q hsz X hR hS hl hret
  obtain ⟨hx, hcb, hml, hown, hts, hlk, hK, hZ⟩ := X
  have hl : lv_has ls 4 [(0, .ref (w.2.2 0)), (1, .int (nI d))] := hl
  have hm8_ := hO.2.1
  have hd4_ := hO.2.2.2.1
  have hy24_ := hO.2.2.2.2.2
  refine lv_iconst (v := (nI 0)) hx hcb dX10_traded_0 (by decide) ?_
  refine lv_istore_n (lv' := [(2, .int (nI 0)), (0, .ref (w.2.2 0)), (1, .int (nI d))]) hx hcb dX10_traded_1 rfl hl (by decide) rfl (fun ls hl => ?_)
  refine lv_iconst (v := (nI 0)) hx hcb dX10_traded_2 (by decide) ?_
  refine lv_istore_n (lv' := [(3, .int (nI 0)), (2, .int (nI 0)), (0, .ref (w.2.2 0)), (1, .int (nI d))]) hx hcb dX10_traded_3 rfl hl (by decide) rfl (fun ls hl => ?_)
  rw [show (nI 0) = (bx_sum (fun m => z.1 4 (29 + 4 * m + d)) 0) from rfl] at hl
  suffices LP_4 : ∀ (nn : Nat) (i_ : Nat) (_ : mQ z 12 - i_ < nn) (hi_ : i_ ≤ mQ z 12) (H : Heap) (locs : List Loc) (ls : Array Slot), Rh G w z H → va_S (xA w s.heap.size) s.heap H locs → lv_has ls 4 [(0, .ref (w.2.2 0)), (1, .int (nI d)), (2, .int (bx_sum (fun m => z.1 4 (29 + 4 * m + d)) i_)), (3, .int (nI i_))] → W p l e rm_X10_traded s mt args below meth c H locs 0 0 Q (F0 mt 4 ls []) from LP_4 ((_) + 1) 0 (Nat.lt_succ_self _) (Nat.zero_le _) _ _ _ hR hS (lv_sub hl [2, 3, 1, 0] rfl)
  intro nn
  induction nn with
  | zero => intro i_ hm_ ; exact absurd hm_ (Nat.not_lt_zero _)
  | succ nn ih_4 =>
    intro i_ hm_4 hi_ H locs ls hR hS hl
    refine lv_iload_n hx hcb dX10_traded_4 rfl (lv_at hl 3 rfl) ?_
    refine lv_aload_n hx hcb dX10_traded_5 rfl (lv_at hl 0 rfl) ?_
    refine x_getR hx hcb hts hown hK xc10 hR (hw.lo (by decide)) (hw.s0 rfl) 3 (by decide) rfl q_1169 dX10_traded_6 ?_
    refine lv_bipush (v := (nI 12)) hx hcb dX10_traded_9 (by decide) ?_
    refine x_iald hx hcb hK hR (hw.lo (by decide)) (hw.s0 rfl) (k := 12) (by omega) (by decide) dX10_traded_11 ?_
    refine x_top (show (z.1 2 12) = (nI (mQ z 12)) from hO.1) ?_
    refine lv_icmp_ge (tgt := 37) hx hcb dX10_traded_12 (by decide) (fun c_1 => ?_) (fun c_1 => ?_)
    · skip
      have c_1 : (mQ z 12) ≤ i_ := (nI_leI (by omega) (by omega)).mp c_1
      obtain rfl : mQ z 12 = i_ := by omega
      refine lv_iload_n hx hcb dX10_traded_37 rfl (lv_at hl 2 rfl) ?_
      exact hret (bx_sum (fun m => z.1 4 (29 + 4 * m + d)) (mQ z 12)) z _ _ _ _ dX10_traded_38 rfl hR hS (⟨rfl, rfl⟩)
    · skip
      have c_1 : ¬ (mQ z 12) ≤ i_ := fun h_ => c_1 ((nI_leI (by omega) (by omega)).mpr h_)
      refine lv_iload_n hx hcb dX10_traded_15 rfl (lv_at hl 2 rfl) ?_
      refine lv_aload_n hx hcb dX10_traded_16 rfl (lv_at hl 0 rfl) ?_
      refine x_getR hx hcb hts hown hK xc10 hR (hw.lo (by decide)) (hw.s0 rfl) 5 (by decide) rfl q_1171 dX10_traded_17 ?_
      refine lv_bipush (v := (nI 29)) hx hcb dX10_traded_20 (by decide) ?_
      refine lv_iconst (v := (nI 4)) hx hcb dX10_traded_22 (by decide) ?_
      refine lv_iload_n hx hcb dX10_traded_23 rfl (lv_at hl 3 rfl) ?_
      refine x_imulN hx hcb dX10_traded_24 ?_
      refine x_iaddN hx hcb dX10_traded_25 ?_
      refine lv_iload_n hx hcb dX10_traded_26 rfl (lv_at hl 1 rfl) ?_
      refine x_iaddN hx hcb dX10_traded_27 ?_
      refine x_iald hx hcb hK hR (hw.lo (by decide)) (hw.s0 rfl) (k := ((29 + (4 * i_)) + d)) (by omega) (by decide) dX10_traded_28 ?_
      refine lv_iadd hx hcb dX10_traded_29 ?_
      refine lv_istore_n (lv' := [(2, .int ((bx_sum (fun m => z.1 4 (29 + 4 * m + d)) i_) + (z.1 4 ((29 + (4 * i_)) + d)))), (0, .ref (w.2.2 0)), (1, .int (nI d)), (3, .int (nI i_))]) hx hcb dX10_traded_30 rfl hl (by decide) rfl (fun ls hl => ?_)
      refine lv_iinc (v := (nI (i_ + 1))) (lv' := [(3, .int (nI (i_ + 1))), (2, .int ((bx_sum (fun m => z.1 4 (29 + 4 * m + d)) i_) + (z.1 4 ((29 + (4 * i_)) + d)))), (0, .ref (w.2.2 0)), (1, .int (nI d))]) hx hcb dX10_traded_31 hl (k := 3) rfl (x_iinc1 _) (by decide) rfl (fun ls hl => ?_)
      refine lv_goto (tgt := 4) hx hcb dX10_traded_34 (by decide) ?_
      exact ih_4 (i_ + 1) (by omega) (by omega) _ _ _ hR hS (lv_sub hl [2, 3, 1, 0] rfl)
def rm_X10_isMember : Room := { frames := 0, cells := 0, slots := 0, locals := 0 }
set_option maxRecDepth 100000 in
set_option maxHeartbeats 4000000 in
theorem c_X10_isMember (l : Launch) (G : xGl) (w : xWd) (hw : isM w) (z : xSt) (sz : Nat) (x : Int32) (hO : rOk z) : xMi l yX10_isMember cX10_isMember 2 (some FieldType.boolean) rm_X10_isMember G w z sz [.ref (w.2.2 0), .int x] (fun r z1 => r = (if inR x (mQ z 12) then 1 else 0) ∧ z1 = z) := by
  refine x_mi (by decide) (Nat.le_of_ble_eq_true rfl) ?_
  intro p e s mt args below meth c ls Q hsz X hR hS hl hret
  obtain ⟨hx, hcb, hml, hown, hts, hlk, hK, hZ⟩ := X
  have hl : lv_has ls 2 [(0, .ref (w.2.2 0)), (1, .int x)] := hl
  have hm8_ := hO.2.1
  have hd4_ := hO.2.2.2.1
  have hy24_ := hO.2.2.2.2.2
  refine lv_iload_n hx hcb dX10_isMember_0 rfl (lv_at hl 1 rfl) ?_
  refine lv_if_lt (tgt := 19) hx hcb dX10_isMember_1 (by decide) (fun c_1 => ?_) (fun c_1 => ?_)
  · skip
    have h_ : ¬ inR x (mQ z 12) := fun q_ => q_.1 c_1
    refine lv_iconst (v := (nI 0)) hx hcb dX10_isMember_19 (by decide) ?_
    exact hret (nI 0) z _ _ _ _ dX10_isMember_20 rfl hR hS (⟨by first | (rw [if_pos h_]; first | done | rfl) | (rw [if_neg h_]; first | done | rfl), rfl⟩)
  · skip
    have h0_ := c_1
    refine lv_iload_n hx hcb dX10_isMember_4 rfl (lv_at hl 1 rfl) ?_
    refine lv_aload_n hx hcb dX10_isMember_5 rfl (lv_at hl 0 rfl) ?_
    refine x_getR hx hcb hts hown hK xc10 hR (hw.lo (by decide)) (hw.s0 rfl) 3 (by decide) rfl q_1169 dX10_isMember_6 ?_
    refine lv_bipush (v := (nI 12)) hx hcb dX10_isMember_9 (by decide) ?_
    refine x_iald hx hcb hK hR (hw.lo (by decide)) (hw.s0 rfl) (k := 12) (by omega) (by decide) dX10_isMember_11 ?_
    refine x_top (show (z.1 2 12) = (nI (mQ z 12)) from hO.1) ?_
    refine lv_icmp_ge (tgt := 19) hx hcb dX10_isMember_12 (by decide) (fun c_2 => ?_) (fun c_2 => ?_)
    · skip
      have h_ : ¬ inR x (mQ z 12) := fun q_ => absurd q_.2 (Int32.not_lt.mpr c_2)
      refine lv_iconst (v := (nI 0)) hx hcb dX10_isMember_19 (by decide) ?_
      exact hret (nI 0) z _ _ _ _ dX10_isMember_20 rfl hR hS (⟨by first | (rw [if_pos h_]; first | done | rfl) | (rw [if_neg h_]; first | done | rfl), rfl⟩)
    · skip
      have h_ : inR x (mQ z 12) := ⟨h0_, Int32.not_le.mp c_2⟩
      refine lv_iconst (v := (nI 1)) hx hcb dX10_isMember_15 (by decide) ?_
      refine lv_goto (tgt := 20) hx hcb dX10_isMember_16 (by decide) ?_
      exact hret (nI 1) z _ _ _ _ dX10_isMember_20 rfl hR hS (⟨by first | (rw [if_pos h_]; first | done | rfl) | (rw [if_neg h_]; first | done | rfl), rfl⟩)
def rm_X10_isDepartment : Room := { frames := 0, cells := 0, slots := 0, locals := 0 }
set_option maxRecDepth 100000 in
set_option maxHeartbeats 4000000 in
theorem c_X10_isDepartment (l : Launch) (G : xGl) (w : xWd) (hw : isM w) (z : xSt) (sz : Nat) (x : Int32) (hO : rOk z) : xMi l yX10_isDepartment cX10_isDepartment 2 (some FieldType.boolean) rm_X10_isDepartment G w z sz [.ref (w.2.2 0), .int x] (fun r z1 => r = (if inR x (mQ z 13) then 1 else 0) ∧ z1 = z) := by
  refine x_mi (by decide) (Nat.le_of_ble_eq_true rfl) ?_
  intro p e s mt args below meth c ls Q hsz X hR hS hl hret
  obtain ⟨hx, hcb, hml, hown, hts, hlk, hK, hZ⟩ := X
  have hl : lv_has ls 2 [(0, .ref (w.2.2 0)), (1, .int x)] := hl
  have hm8_ := hO.2.1
  have hd4_ := hO.2.2.2.1
  have hy24_ := hO.2.2.2.2.2
  refine lv_iload_n hx hcb dX10_isDepartment_0 rfl (lv_at hl 1 rfl) ?_
  refine lv_if_lt (tgt := 19) hx hcb dX10_isDepartment_1 (by decide) (fun c_1 => ?_) (fun c_1 => ?_)
  · skip
    have h_ : ¬ inR x (mQ z 13) := fun q_ => q_.1 c_1
    refine lv_iconst (v := (nI 0)) hx hcb dX10_isDepartment_19 (by decide) ?_
    exact hret (nI 0) z _ _ _ _ dX10_isDepartment_20 rfl hR hS (⟨by first | (rw [if_pos h_]; first | done | rfl) | (rw [if_neg h_]; first | done | rfl), rfl⟩)
  · skip
    have h0_ := c_1
    refine lv_iload_n hx hcb dX10_isDepartment_4 rfl (lv_at hl 1 rfl) ?_
    refine lv_aload_n hx hcb dX10_isDepartment_5 rfl (lv_at hl 0 rfl) ?_
    refine x_getR hx hcb hts hown hK xc10 hR (hw.lo (by decide)) (hw.s0 rfl) 3 (by decide) rfl q_1169 dX10_isDepartment_6 ?_
    refine lv_bipush (v := (nI 13)) hx hcb dX10_isDepartment_9 (by decide) ?_
    refine x_iald hx hcb hK hR (hw.lo (by decide)) (hw.s0 rfl) (k := 13) (by omega) (by decide) dX10_isDepartment_11 ?_
    refine x_top (show (z.1 2 13) = (nI (mQ z 13)) from hO.2.2.1) ?_
    refine lv_icmp_ge (tgt := 19) hx hcb dX10_isDepartment_12 (by decide) (fun c_2 => ?_) (fun c_2 => ?_)
    · skip
      have h_ : ¬ inR x (mQ z 13) := fun q_ => absurd q_.2 (Int32.not_lt.mpr c_2)
      refine lv_iconst (v := (nI 0)) hx hcb dX10_isDepartment_19 (by decide) ?_
      exact hret (nI 0) z _ _ _ _ dX10_isDepartment_20 rfl hR hS (⟨by first | (rw [if_pos h_]; first | done | rfl) | (rw [if_neg h_]; first | done | rfl), rfl⟩)
    · skip
      have h_ : inR x (mQ z 13) := ⟨h0_, Int32.not_le.mp c_2⟩
      refine lv_iconst (v := (nI 1)) hx hcb dX10_isDepartment_15 (by decide) ?_
      refine lv_goto (tgt := 20) hx hcb dX10_isDepartment_16 (by decide) ?_
      exact hret (nI 1) z _ _ _ _ dX10_isDepartment_20 rfl hR hS (⟨by first | (rw [if_pos h_]; first | done | rfl) | (rw [if_neg h_]; first | done | rfl), rfl⟩)
def rm_X10_isClosed : Room := { frames := 0, cells := 0, slots := 0, locals := 0 }
set_option maxRecDepth 100000 in
set_option maxHeartbeats 4000000 in
theorem c_X10_isClosed (l : Launch) (G : xGl) (w : xWd) (hw : isM w) (z : xSt) (sz : Nat) (x : Int32) (hO : rOk z) : xMi l yX10_isClosed cX10_isClosed 2 (some FieldType.boolean) rm_X10_isClosed G w z sz [.ref (w.2.2 0), .int x] (fun r z1 => r = (if inR x (yQ z) then 1 else 0) ∧ z1 = z) := by
  refine x_mi (by decide) (Nat.le_of_ble_eq_true rfl) ?_
  intro p e s mt args below meth c ls Q hsz X hR hS hl hret
  obtain ⟨hx, hcb, hml, hown, hts, hlk, hK, hZ⟩ := X
  have hl : lv_has ls 2 [(0, .ref (w.2.2 0)), (1, .int x)] := hl
  have hm8_ := hO.2.1
  have hd4_ := hO.2.2.2.1
  have hy24_ := hO.2.2.2.2.2
  refine lv_iload_n hx hcb dX10_isClosed_0 rfl (lv_at hl 1 rfl) ?_
  refine lv_if_lt (tgt := 20) hx hcb dX10_isClosed_1 (by decide) (fun c_1 => ?_) (fun c_1 => ?_)
  · skip
    have h_ : ¬ inR x (yQ z) := fun q_ => q_.1 c_1
    refine lv_iconst (v := (nI 0)) hx hcb dX10_isClosed_20 (by decide) ?_
    exact hret (nI 0) z _ _ _ _ dX10_isClosed_21 rfl hR hS (⟨by first | (rw [if_pos h_]; first | done | rfl) | (rw [if_neg h_]; first | done | rfl), rfl⟩)
  · skip
    have h0_ := c_1
    refine lv_iload_n hx hcb dX10_isClosed_4 rfl (lv_at hl 1 rfl) ?_
    refine lv_aload_n hx hcb dX10_isClosed_5 rfl (lv_at hl 0 rfl) ?_
    refine x_getR hx hcb hts hown hK xc10 hR (hw.lo (by decide)) (hw.s0 rfl) 5 (by decide) rfl q_1171 dX10_isClosed_6 ?_
    refine lv_sipush (v := (nI 494)) hx hcb dX10_isClosed_9 (by decide) ?_
    refine x_iald hx hcb hK hR (hw.lo (by decide)) (hw.s0 rfl) (k := 494) (by omega) (by decide) dX10_isClosed_12 ?_
    refine x_top (show (z.1 4 494) = (nI (yQ z)) from hO.2.2.2.2.1) ?_
    refine lv_icmp_ge (tgt := 20) hx hcb dX10_isClosed_13 (by decide) (fun c_2 => ?_) (fun c_2 => ?_)
    · skip
      have h_ : ¬ inR x (yQ z) := fun q_ => absurd q_.2 (Int32.not_lt.mpr c_2)
      refine lv_iconst (v := (nI 0)) hx hcb dX10_isClosed_20 (by decide) ?_
      exact hret (nI 0) z _ _ _ _ dX10_isClosed_21 rfl hR hS (⟨by first | (rw [if_pos h_]; first | done | rfl) | (rw [if_neg h_]; first | done | rfl), rfl⟩)
    · skip
      have h_ : inR x (yQ z) := ⟨h0_, Int32.not_le.mp c_2⟩
      refine lv_iconst (v := (nI 1)) hx hcb dX10_isClosed_16 (by decide) ?_
      refine lv_goto (tgt := 21) hx hcb dX10_isClosed_17 (by decide) ?_
      exact hret (nI 1) z _ _ _ _ dX10_isClosed_21 rfl hR hS (⟨by first | (rw [if_pos h_]; first | done | rfl) | (rw [if_neg h_]; first | done | rfl), rfl⟩)
def rm_X10_isSetting : Room := { frames := 0, cells := 0, slots := 0, locals := 0 }
set_option maxRecDepth 100000 in
set_option maxHeartbeats 4000000 in
theorem c_X10_isSetting (l : Launch) (G : xGl) (w : xWd) (hw : isM w) (z : xSt) (sz : Nat) (x : Int32)  : xMi l yX10_isSetting cX10_isSetting 1 (some FieldType.boolean) rm_X10_isSetting G w z sz [.int x] (fun r z1 => r = (if inR x 5 then 1 else 0) ∧ z1 = z) := by
  refine x_mi (by decide) (Nat.le_of_ble_eq_true rfl) ?_
  intro p e s mt args below meth c ls Q hsz X hR hS hl hret
  obtain ⟨hx, hcb, hml, hown, hts, hlk, hK, hZ⟩ := X
  have hl : lv_has ls 1 [(0, .int x)] := hl
  refine lv_iload_n hx hcb dX10_isSetting_0 rfl (lv_at hl 0 rfl) ?_
  refine lv_if_lt (tgt := 13) hx hcb dX10_isSetting_1 (by decide) (fun c_1 => ?_) (fun c_1 => ?_)
  · skip
    have h_ : ¬ inR x 5 := fun q_ => q_.1 c_1
    refine lv_iconst (v := (nI 0)) hx hcb dX10_isSetting_13 (by decide) ?_
    exact hret (nI 0) z _ _ _ _ dX10_isSetting_14 rfl hR hS (⟨by first | (rw [if_pos h_]; first | done | rfl) | (rw [if_neg h_]; first | done | rfl), rfl⟩)
  · skip
    have h0_ := c_1
    refine lv_iload_n hx hcb dX10_isSetting_4 rfl (lv_at hl 0 rfl) ?_
    refine lv_iconst (v := (nI 4)) hx hcb dX10_isSetting_5 (by decide) ?_
    refine lv_icmp_gt (tgt := 13) hx hcb dX10_isSetting_6 (by decide) (fun c_2 => ?_) (fun c_2 => ?_)
    · skip
      have h_ : ¬ inR x 5 := fun q_ => absurd c_2 (le4 q_)
      refine lv_iconst (v := (nI 0)) hx hcb dX10_isSetting_13 (by decide) ?_
      exact hret (nI 0) z _ _ _ _ dX10_isSetting_14 rfl hR hS (⟨by first | (rw [if_pos h_]; first | done | rfl) | (rw [if_neg h_]; first | done | rfl), rfl⟩)
    · skip
      have h_ : inR x 5 := ⟨h0_, lt5 (Int32.not_lt.mp c_2)⟩
      refine lv_iconst (v := (nI 1)) hx hcb dX10_isSetting_9 (by decide) ?_
      refine lv_goto (tgt := 14) hx hcb dX10_isSetting_10 (by decide) ?_
      exact hret (nI 1) z _ _ _ _ dX10_isSetting_14 rfl hR hS (⟨by first | (rw [if_pos h_]; first | done | rfl) | (rw [if_neg h_]; first | done | rfl), rfl⟩)
def rm_X10_checks : Room := { frames := 0, cells := 0, slots := 0, locals := 0 }
set_option maxRecDepth 100000 in
set_option maxHeartbeats 4000000 in
theorem c_X10_checks (l : Launch) (G : xGl) (w : xWd) (hw : isM w) (z : xSt) (sz : Nat) (b : Int32) (P : Prop) [Decidable P] (hb : b = if P then 1 else 0) : xMi l yX10_checks cX10_checks 2 (some FieldType.boolean) rm_X10_checks G w z sz [.ref (w.2.2 0), .int b] (fun r z1 => r = (if P then 1 else 0) ∧ z1 = ck z P) := by
  refine x_mi (by decide) (Nat.le_of_ble_eq_true rfl) ?_
  intro p e s mt args below meth c ls Q hsz X hR hS hl hret
  obtain ⟨hx, hcb, hml, hown, hts, hlk, hK, hZ⟩ := X
  have hl : lv_has ls 2 [(0, .ref (w.2.2 0)), (1, .int b)] := hl
  refine lv_aload_n hx hcb dX10_checks_0 rfl (lv_at hl 0 rfl) ?_
  refine lv_iload_n hx hcb dX10_checks_1 rfl (lv_at hl 1 rfl) ?_
  refine lv_if_eq (tgt := 9) hx hcb dX10_checks_2 (by decide) (fun c_1 => ?_) (fun c_1 => ?_)
  · skip
    have h_ : ¬ P := fun q_ => absurd (c_1) (by rw [hb, if_pos q_]; decide)
    refine lv_iconst (v := (nI 1)) hx hcb dX10_checks_9 (by decide) ?_
    refine x_putI hx hcb hts hown hK xc10 hR hS (hw.lo (by decide)) (hw.s0 rfl) 0 (by decide) rfl q_1166 rfl (v := 1) rfl rfl dX10_checks_10 (fun H locs hR hS => ?_)
    refine lv_iload_n hx hcb dX10_checks_13 rfl (lv_at hl 1 rfl) ?_
    exact hret b (u1 z 0 0 1) _ _ _ _ dX10_checks_14 (by rw [hb]; split <;> rfl) hR hS (⟨hb, by unfold ck; first | rw [if_pos h_]; done | rw [if_neg h_]; done | (rw [if_pos h_]; rfl) | (rw [if_neg h_]; rfl)⟩)
  · skip
    have h_ : P := Classical.byContradiction (fun q_ => c_1 (by rw [hb, if_neg q_]))
    refine lv_iconst (v := (nI 0)) hx hcb dX10_checks_5 (by decide) ?_
    refine lv_goto (tgt := 10) hx hcb dX10_checks_6 (by decide) ?_
    refine x_putI hx hcb hts hown hK xc10 hR hS (hw.lo (by decide)) (hw.s0 rfl) 0 (by decide) rfl q_1166 rfl (v := 0) rfl rfl dX10_checks_10 (fun H locs hR hS => ?_)
    refine lv_iload_n hx hcb dX10_checks_13 rfl (lv_at hl 1 rfl) ?_
    exact hret b (u1 z 0 0 0) _ _ _ _ dX10_checks_14 (by rw [hb]; split <;> rfl) hR hS (⟨hb, by unfold ck; first | rw [if_pos h_]; done | rw [if_neg h_]; done | (rw [if_pos h_]; rfl) | (rw [if_neg h_]; rfl)⟩)
def rm_X10_memberCount : Room := { frames := 0, cells := 0, slots := 0, locals := 0 }
set_option maxRecDepth 100000 in
set_option maxHeartbeats 4000000 in
theorem c_X10_memberCount (l : Launch) (G : xGl) (w : xWd) (hw : isM w) (z : xSt) (sz : Nat)   : xMi l yX10_memberCount cX10_memberCount 1 (some FieldType.int) rm_X10_memberCount G w z sz [.ref (w.2.2 0)] (fun r z1 => r = z.1 2 12 ∧ z1 = u1 z 0 0 0) := by
  refine x_mi (by decide) (Nat.le_of_ble_eq_true rfl) ?_
  intro p e s mt args below meth c ls Q hsz X hR hS hl hret
  obtain ⟨hx, hcb, hml, hown, hts, hlk, hK, hZ⟩ := X
  have hl : lv_has ls 1 [(0, .ref (w.2.2 0))] := hl
  refine lv_aload_n hx hcb dX10_memberCount_0 rfl (lv_at hl 0 rfl) ?_
  refine lv_iconst (v := (nI 0)) hx hcb dX10_memberCount_1 (by decide) ?_
  refine x_putI hx hcb hts hown hK xc10 hR hS (hw.lo (by decide)) (hw.s0 rfl) 0 (by decide) rfl q_1166 rfl (v := 0) rfl rfl dX10_memberCount_2 (fun H locs hR hS => ?_)
  refine lv_aload_n hx hcb dX10_memberCount_5 rfl (lv_at hl 0 rfl) ?_
  refine x_getR hx hcb hts hown hK xc10 hR (hw.lo (by decide)) (hw.s0 rfl) 3 (by decide) rfl q_1169 dX10_memberCount_6 ?_
  refine lv_bipush (v := (nI 12)) hx hcb dX10_memberCount_9 (by decide) ?_
  refine x_iald hx hcb hK hR (hw.lo (by decide)) (hw.s0 rfl) (k := 12) (by omega) (by decide) dX10_memberCount_11 ?_
  exact hret ((u1 z 0 0 0).1 2 12) (u1 z 0 0 0) _ _ _ _ dX10_memberCount_12 rfl hR hS (⟨rfl, rfl⟩)
def rm_X10_departmentCount : Room := { frames := 0, cells := 0, slots := 0, locals := 0 }
set_option maxRecDepth 100000 in
set_option maxHeartbeats 4000000 in
theorem c_X10_departmentCount (l : Launch) (G : xGl) (w : xWd) (hw : isM w) (z : xSt) (sz : Nat)   : xMi l yX10_departmentCount cX10_departmentCount 1 (some FieldType.int) rm_X10_departmentCount G w z sz [.ref (w.2.2 0)] (fun r z1 => r = z.1 2 13 ∧ z1 = u1 z 0 0 0) := by
  refine x_mi (by decide) (Nat.le_of_ble_eq_true rfl) ?_
  intro p e s mt args below meth c ls Q hsz X hR hS hl hret
  obtain ⟨hx, hcb, hml, hown, hts, hlk, hK, hZ⟩ := X
  have hl : lv_has ls 1 [(0, .ref (w.2.2 0))] := hl
  refine lv_aload_n hx hcb dX10_departmentCount_0 rfl (lv_at hl 0 rfl) ?_
  refine lv_iconst (v := (nI 0)) hx hcb dX10_departmentCount_1 (by decide) ?_
  refine x_putI hx hcb hts hown hK xc10 hR hS (hw.lo (by decide)) (hw.s0 rfl) 0 (by decide) rfl q_1166 rfl (v := 0) rfl rfl dX10_departmentCount_2 (fun H locs hR hS => ?_)
  refine lv_aload_n hx hcb dX10_departmentCount_5 rfl (lv_at hl 0 rfl) ?_
  refine x_getR hx hcb hts hown hK xc10 hR (hw.lo (by decide)) (hw.s0 rfl) 3 (by decide) rfl q_1169 dX10_departmentCount_6 ?_
  refine lv_bipush (v := (nI 13)) hx hcb dX10_departmentCount_9 (by decide) ?_
  refine x_iald hx hcb hK hR (hw.lo (by decide)) (hw.s0 rfl) (k := 13) (by omega) (by decide) dX10_departmentCount_11 ?_
  exact hret ((u1 z 0 0 0).1 2 13) (u1 z 0 0 0) _ _ _ _ dX10_departmentCount_12 rfl hR hS (⟨rfl, rfl⟩)
def rm_X10_year : Room := { frames := 0, cells := 0, slots := 0, locals := 0 }
set_option maxRecDepth 100000 in
set_option maxHeartbeats 4000000 in
theorem c_X10_year (l : Launch) (G : xGl) (w : xWd) (hw : isM w) (z : xSt) (sz : Nat)   : xMi l yX10_year cX10_year 1 (some FieldType.int) rm_X10_year G w z sz [.ref (w.2.2 0)] (fun r z1 => r = z.1 4 494 ∧ z1 = u1 z 0 0 0) := by
  refine x_mi (by decide) (Nat.le_of_ble_eq_true rfl) ?_
  intro p e s mt args below meth c ls Q hsz X hR hS hl hret
  obtain ⟨hx, hcb, hml, hown, hts, hlk, hK, hZ⟩ := X
  have hl : lv_has ls 1 [(0, .ref (w.2.2 0))] := hl
  refine lv_aload_n hx hcb dX10_year_0 rfl (lv_at hl 0 rfl) ?_
  refine lv_iconst (v := (nI 0)) hx hcb dX10_year_1 (by decide) ?_
  refine x_putI hx hcb hts hown hK xc10 hR hS (hw.lo (by decide)) (hw.s0 rfl) 0 (by decide) rfl q_1166 rfl (v := 0) rfl rfl dX10_year_2 (fun H locs hR hS => ?_)
  refine lv_aload_n hx hcb dX10_year_5 rfl (lv_at hl 0 rfl) ?_
  refine x_getR hx hcb hts hown hK xc10 hR (hw.lo (by decide)) (hw.s0 rfl) 5 (by decide) rfl q_1171 dX10_year_6 ?_
  refine lv_sipush (v := (nI 494)) hx hcb dX10_year_9 (by decide) ?_
  refine x_iald hx hcb hK hR (hw.lo (by decide)) (hw.s0 rfl) (k := 494) (by omega) (by decide) dX10_year_12 ?_
  exact hret ((u1 z 0 0 0).1 4 494) (u1 z 0 0 0) _ _ _ _ dX10_year_13 rfl hR hS (⟨rfl, rfl⟩)
def rm_X10_undoCount : Room := { frames := 0, cells := 0, slots := 0, locals := 0 }
set_option maxRecDepth 100000 in
set_option maxHeartbeats 4000000 in
theorem c_X10_undoCount (l : Launch) (G : xGl) (w : xWd) (hw : isM w) (z : xSt) (sz : Nat)   : xMi l yX10_undoCount cX10_undoCount 1 (some FieldType.int) rm_X10_undoCount G w z sz [.ref (w.2.2 0)] (fun r z1 => r = z.1 0 8 ∧ z1 = u1 z 0 0 0) := by
  refine x_mi (by decide) (Nat.le_of_ble_eq_true rfl) ?_
  intro p e s mt args below meth c ls Q hsz X hR hS hl hret
  obtain ⟨hx, hcb, hml, hown, hts, hlk, hK, hZ⟩ := X
  have hl : lv_has ls 1 [(0, .ref (w.2.2 0))] := hl
  refine lv_aload_n hx hcb dX10_undoCount_0 rfl (lv_at hl 0 rfl) ?_
  refine lv_iconst (v := (nI 0)) hx hcb dX10_undoCount_1 (by decide) ?_
  refine x_putI hx hcb hts hown hK xc10 hR hS (hw.lo (by decide)) (hw.s0 rfl) 0 (by decide) rfl q_1166 rfl (v := 0) rfl rfl dX10_undoCount_2 (fun H locs hR hS => ?_)
  refine lv_aload_n hx hcb dX10_undoCount_5 rfl (lv_at hl 0 rfl) ?_
  refine x_getI hx hcb hts hown hK xc10 hR (hw.lo (by decide)) (hw.s0 rfl) 8 (by decide) rfl q_1174 dX10_undoCount_6 ?_
  exact hret ((u1 z 0 0 0).1 0 8) (u1 z 0 0 0) _ _ _ _ dX10_undoCount_9 rfl hR hS (⟨rfl, rfl⟩)
def rm_X10_errorPosition : Room := { frames := 0, cells := 0, slots := 0, locals := 0 }
set_option maxRecDepth 100000 in
set_option maxHeartbeats 4000000 in
theorem c_X10_errorPosition (l : Launch) (G : xGl) (w : xWd) (hw : isM w) (z : xSt) (sz : Nat)   : xMi l yX10_errorPosition cX10_errorPosition 1 (some FieldType.int) rm_X10_errorPosition G w z sz [.ref (w.2.2 0)] (fun r z1 => r = z.1 0 28 ∧ z1 = u1 z 0 0 0) := by
  refine x_mi (by decide) (Nat.le_of_ble_eq_true rfl) ?_
  intro p e s mt args below meth c ls Q hsz X hR hS hl hret
  obtain ⟨hx, hcb, hml, hown, hts, hlk, hK, hZ⟩ := X
  have hl : lv_has ls 1 [(0, .ref (w.2.2 0))] := hl
  refine lv_aload_n hx hcb dX10_errorPosition_0 rfl (lv_at hl 0 rfl) ?_
  refine lv_iconst (v := (nI 0)) hx hcb dX10_errorPosition_1 (by decide) ?_
  refine x_putI hx hcb hts hown hK xc10 hR hS (hw.lo (by decide)) (hw.s0 rfl) 0 (by decide) rfl q_1166 rfl (v := 0) rfl rfl dX10_errorPosition_2 (fun H locs hR hS => ?_)
  refine lv_aload_n hx hcb dX10_errorPosition_5 rfl (lv_at hl 0 rfl) ?_
  refine x_getI hx hcb hts hown hK xc10 hR (hw.lo (by decide)) (hw.s0 rfl) 28 (by decide) rfl q_1194 dX10_errorPosition_6 ?_
  exact hret ((u1 z 0 0 0).1 0 28) (u1 z 0 0 0) _ _ _ _ dX10_errorPosition_9 rfl hR hS (⟨rfl, rfl⟩)
def rm_X10_reserve : Room := { frames := 0, cells := 0, slots := 0, locals := 0 }
set_option maxRecDepth 100000 in
set_option maxHeartbeats 4000000 in
theorem c_X10_reserve (l : Launch) (G : xGl) (w : xWd) (hw : isM w) (z : xSt) (sz : Nat)   : xMi l yX10_reserve cX10_reserve 1 (some FieldType.int) rm_X10_reserve G w z sz [.ref (w.2.2 0)] (fun r z1 => r = z.1 4 493 ∧ z1 = u1 z 0 0 0) := by
  refine x_mi (by decide) (Nat.le_of_ble_eq_true rfl) ?_
  intro p e s mt args below meth c ls Q hsz X hR hS hl hret
  obtain ⟨hx, hcb, hml, hown, hts, hlk, hK, hZ⟩ := X
  have hl : lv_has ls 1 [(0, .ref (w.2.2 0))] := hl
  refine lv_aload_n hx hcb dX10_reserve_0 rfl (lv_at hl 0 rfl) ?_
  refine lv_iconst (v := (nI 0)) hx hcb dX10_reserve_1 (by decide) ?_
  refine x_putI hx hcb hts hown hK xc10 hR hS (hw.lo (by decide)) (hw.s0 rfl) 0 (by decide) rfl q_1166 rfl (v := 0) rfl rfl dX10_reserve_2 (fun H locs hR hS => ?_)
  refine lv_aload_n hx hcb dX10_reserve_5 rfl (lv_at hl 0 rfl) ?_
  refine x_getR hx hcb hts hown hK xc10 hR (hw.lo (by decide)) (hw.s0 rfl) 5 (by decide) rfl q_1171 dX10_reserve_6 ?_
  refine lv_sipush (v := (nI 493)) hx hcb dX10_reserve_9 (by decide) ?_
  refine x_iald hx hcb hK hR (hw.lo (by decide)) (hw.s0 rfl) (k := 493) (by omega) (by decide) dX10_reserve_12 ?_
  exact hret ((u1 z 0 0 0).1 4 493) (u1 z 0 0 0) _ _ _ _ dX10_reserve_13 rfl hR hS (⟨rfl, rfl⟩)
def rm_X10_found : Room := { frames := 0, cells := 0, slots := 0, locals := 0 }
set_option maxRecDepth 100000 in
set_option maxHeartbeats 4000000 in
theorem c_X10_found (l : Launch) (G : xGl) (w : xWd) (hw : isM w) (z : xSt) (sz : Nat) (f : Nat) (n : Nat) (nm : Int32) (hf : f + n ≤ 14) : xMi l yX10_found cX10_found 5 (some FieldType.int) rm_X10_found G w z sz [.ref (w.2.2 0), .int (nI f), .int (nI n), .int nm] (fun r z1 => r = xff (fun k => decide (z.1 2 (f + k) = nm)) n 0 ∧ z1 = z) := by
  refine x_mi (by decide) (Nat.le_of_ble_eq_true rfl) ?_
  intro p e s mt args below meth c ls Q hsz X hR hS hl hret
  obtain ⟨hx, hcb, hml, hown, hts, hlk, hK, hZ⟩ := X
  have hl : lv_has ls 5 [(0, .ref (w.2.2 0)), (1, .int (nI f)), (2, .int (nI n)), (3, .int nm)] := hl
  refine lv_iconst (v := (nI 0)) hx hcb dX10_found_0 (by decide) ?_
  refine lv_istore (lv' := [(4, .int (nI 0)), (0, .ref (w.2.2 0)), (1, .int (nI f)), (2, .int (nI n)), (3, .int nm)]) hx hcb dX10_found_1 hl (by decide) rfl (fun ls hl => ?_)
  suffices LP_3 : ∀ (nn : Nat) (i_ : Nat) (_ : n - i_ < nn) (hi_ : i_ ≤ n) (hf_ : xff (fun k => decide (z.1 2 (f + k) = nm)) n 0 = xff (fun k => decide (z.1 2 (f + k) = nm)) (n - i_) i_) (H : Heap) (locs : List Loc) (ls : Array Slot), Rh G w z H → va_S (xA w s.heap.size) s.heap H locs → lv_has ls 5 [(0, .ref (w.2.2 0)), (1, .int (nI f)), (2, .int (nI n)), (3, .int nm), (4, .int (nI i_))] → W p l e rm_X10_found s mt args below meth c H locs 0 0 Q (F0 mt 3 ls []) from LP_3 ((_) + 1) 0 (Nat.lt_succ_self _) (Nat.zero_le _) rfl _ _ _ hR hS (lv_sub hl [1, 2, 3, 4, 0] rfl)
  intro nn
  induction nn with
  | zero => intro i_ hm_ ; exact absurd hm_ (Nat.not_lt_zero _)
  | succ nn ih_3 =>
    intro i_ hm_3 hi_ hf_ H locs ls hR hS hl
    refine lv_iload hx hcb dX10_found_3 (lv_at hl 4 rfl) ?_
    refine lv_iload_n hx hcb dX10_found_5 rfl (lv_at hl 2 rfl) ?_
    refine lv_icmp_ge (tgt := 31) hx hcb dX10_found_6 (by decide) (fun c_1 => ?_) (fun c_1 => ?_)
    · skip
      have c_1 : n ≤ i_ := (nI_leI (by omega) (by omega)).mp c_1
      have he_ : xff (fun k => decide (z.1 2 (f + k) = nm)) n 0 = (-1) := by rw [hf_, show n - i_ = 0 by omega]; rfl
      refine lv_iconst (v := (-1)) hx hcb dX10_found_31 (by decide) ?_
      exact hret (-1) z _ _ _ _ dX10_found_32 rfl hR hS (⟨he_.symm, rfl⟩)
    · skip
      have c_1 : ¬ n ≤ i_ := fun h_ => c_1 ((nI_leI (by omega) (by omega)).mpr h_)
      refine lv_aload_n hx hcb dX10_found_9 rfl (lv_at hl 0 rfl) ?_
      refine x_getR hx hcb hts hown hK xc10 hR (hw.lo (by decide)) (hw.s0 rfl) 3 (by decide) rfl q_1169 dX10_found_10 ?_
      refine lv_iload_n hx hcb dX10_found_13 rfl (lv_at hl 1 rfl) ?_
      refine lv_iload hx hcb dX10_found_14 (lv_at hl 4 rfl) ?_
      refine x_iaddN hx hcb dX10_found_16 ?_
      refine x_iald hx hcb hK hR (hw.lo (by decide)) (hw.s0 rfl) (k := (f + i_)) (by omega) (by decide) dX10_found_17 ?_
      refine lv_iload_n hx hcb dX10_found_18 rfl (lv_at hl 3 rfl) ?_
      refine lv_icmp_ne (tgt := 25) hx hcb dX10_found_19 (by decide) (fun c_2 => ?_) (fun c_2 => ?_)
      · skip
        have hq_ := c_2
        refine lv_iinc (v := (nI (i_ + 1))) (lv' := [(4, .int (nI (i_ + 1))), (0, .ref (w.2.2 0)), (1, .int (nI f)), (2, .int (nI n)), (3, .int nm)]) hx hcb dX10_found_25 hl (k := 4) rfl (x_iinc1 _) (by decide) rfl (fun ls hl => ?_)
        refine lv_goto (tgt := 3) hx hcb dX10_found_28 (by decide) ?_
        exact ih_3 (i_ + 1) (by omega) (by omega) (by rw [hf_, xff_s (k := n - (i_ + 1)) (by omega), if_neg (fun q_ => hq_ (of_decide_eq_true q_))]) _ _ _ hR hS (lv_sub hl [1, 2, 3, 4, 0] rfl)
      · skip
        have he_ : xff (fun k => decide (z.1 2 (f + k) = nm)) n 0 = nI i_ := by rw [hf_, xff_s (k := n - (i_ + 1)) (by omega), if_pos (decide_eq_true c_2)]
        refine lv_iload hx hcb dX10_found_22 (lv_at hl 4 rfl) ?_
        exact hret (nI i_) z _ _ _ _ dX10_found_24 rfl hR hS (⟨he_.symm, rfl⟩)
def rm_X10_memberNamed : Room := { frames := 1, cells := 0, slots := 0, locals := 24 }
set_option maxRecDepth 100000 in
set_option maxHeartbeats 4000000 in
theorem c_X10_memberNamed (l : Launch) (G : xGl) (w : xWd) (hw : isM w) (z : xSt) (sz : Nat) (nm : Int32) (hO : rOk z) : xMi l yX10_memberNamed cX10_memberNamed 2 (some FieldType.int) rm_X10_memberNamed G w z sz [.ref (w.2.2 0), .int nm] (fun r z1 => r = xff (fun k => decide (z.1 2 (0 + k) = nm)) (mQ z 12) 0 ∧ z1 = u1 z 0 0 0) := by
  refine x_mi (by decide) (Nat.le_of_ble_eq_true rfl) ?_
  intro p e s mt args below meth c ls Q hsz X hR hS hl hret
  obtain ⟨hx, hcb, hml, hown, hts, hlk, hK, hZ⟩ := X
  have hl : lv_has ls 2 [(0, .ref (w.2.2 0)), (1, .int nm)] := hl
  have hm8_ := hO.2.1
  have hd4_ := hO.2.2.2.1
  have hy24_ := hO.2.2.2.2.2
  refine lv_aload_n hx hcb dX10_memberNamed_0 rfl (lv_at hl 0 rfl) ?_
  refine lv_iconst (v := (nI 0)) hx hcb dX10_memberNamed_1 (by decide) ?_
  refine x_putI hx hcb hts hown hK xc10 hR hS (hw.lo (by decide)) (hw.s0 rfl) 0 (by decide) rfl q_1166 rfl (v := 0) rfl rfl dX10_memberNamed_2 (fun H locs hR hS => ?_)
  refine lv_aload_n hx hcb dX10_memberNamed_5 rfl (lv_at hl 0 rfl) ?_
  refine lv_iconst (v := (nI 0)) hx hcb dX10_memberNamed_6 (by decide) ?_
  refine lv_aload_n hx hcb dX10_memberNamed_7 rfl (lv_at hl 0 rfl) ?_
  refine x_getR hx hcb hts hown hK xc10 hR (hw.lo (by decide)) (hw.s0 rfl) 3 (by decide) rfl q_1169 dX10_memberNamed_8 ?_
  refine lv_bipush (v := (nI 12)) hx hcb dX10_memberNamed_11 (by decide) ?_
  refine x_iald hx hcb hK hR (hw.lo (by decide)) (hw.s0 rfl) (k := 12) (by omega) (by decide) dX10_memberNamed_13 ?_
  refine x_top (show ((u1 z 0 0 0).1 2 12) = (nI (mQ z 12)) from hO.1) ?_
  refine lv_iload_n hx hcb dX10_memberNamed_14 rfl (lv_at hl 1 rfl) ?_
  refine x_ci0 rfl rfl (x_runV hx hcb hml hown hts (c_X10_found l G w hw (u1 z 0 0 0) _ 0 (mQ z 12) nm (by omega)) mv_X10_found q_1324 hK hZ hR hS (hw.lo (by decide)) xc10 (hw.s0 rfl) rfl hl.1 rfl (Nat.le_of_ble_eq_true rfl) dX10_memberNamed_15 ⟨by decide, by decide⟩ ⟨by decide, by decide⟩) hS (fun r_1 z_2 H locs hp_3 hR hS => ?_)
  rw [hp_3.2] at hR; rw [hp_3.1]
  exact hret (xff (fun k => decide ((u1 z 0 0 0).1 2 (0 + k) = nm)) (mQ z 12) 0) (u1 z 0 0 0) _ _ _ _ dX10_memberNamed_18 rfl hR hS (⟨rfl, rfl⟩)
def rm_X10_departmentNamed : Room := { frames := 1, cells := 0, slots := 0, locals := 24 }
set_option maxRecDepth 100000 in
set_option maxHeartbeats 4000000 in
theorem c_X10_departmentNamed (l : Launch) (G : xGl) (w : xWd) (hw : isM w) (z : xSt) (sz : Nat) (nm : Int32) (hO : rOk z) : xMi l yX10_departmentNamed cX10_departmentNamed 2 (some FieldType.int) rm_X10_departmentNamed G w z sz [.ref (w.2.2 0), .int nm] (fun r z1 => r = xff (fun k => decide (z.1 2 (8 + k) = nm)) (mQ z 13) 0 ∧ z1 = u1 z 0 0 0) := by
  refine x_mi (by decide) (Nat.le_of_ble_eq_true rfl) ?_
  intro p e s mt args below meth c ls Q hsz X hR hS hl hret
  obtain ⟨hx, hcb, hml, hown, hts, hlk, hK, hZ⟩ := X
  have hl : lv_has ls 2 [(0, .ref (w.2.2 0)), (1, .int nm)] := hl
  have hm8_ := hO.2.1
  have hd4_ := hO.2.2.2.1
  have hy24_ := hO.2.2.2.2.2
  refine lv_aload_n hx hcb dX10_departmentNamed_0 rfl (lv_at hl 0 rfl) ?_
  refine lv_iconst (v := (nI 0)) hx hcb dX10_departmentNamed_1 (by decide) ?_
  refine x_putI hx hcb hts hown hK xc10 hR hS (hw.lo (by decide)) (hw.s0 rfl) 0 (by decide) rfl q_1166 rfl (v := 0) rfl rfl dX10_departmentNamed_2 (fun H locs hR hS => ?_)
  refine lv_aload_n hx hcb dX10_departmentNamed_5 rfl (lv_at hl 0 rfl) ?_
  refine lv_bipush (v := (nI 8)) hx hcb dX10_departmentNamed_6 (by decide) ?_
  refine lv_aload_n hx hcb dX10_departmentNamed_8 rfl (lv_at hl 0 rfl) ?_
  refine x_getR hx hcb hts hown hK xc10 hR (hw.lo (by decide)) (hw.s0 rfl) 3 (by decide) rfl q_1169 dX10_departmentNamed_9 ?_
  refine lv_bipush (v := (nI 13)) hx hcb dX10_departmentNamed_12 (by decide) ?_
  refine x_iald hx hcb hK hR (hw.lo (by decide)) (hw.s0 rfl) (k := 13) (by omega) (by decide) dX10_departmentNamed_14 ?_
  refine x_top (show ((u1 z 0 0 0).1 2 13) = (nI (mQ z 13)) from hO.2.2.1) ?_
  refine lv_iload_n hx hcb dX10_departmentNamed_15 rfl (lv_at hl 1 rfl) ?_
  refine x_ci0 rfl rfl (x_runV hx hcb hml hown hts (c_X10_found l G w hw (u1 z 0 0 0) _ 8 (mQ z 13) nm (by omega)) mv_X10_found q_1324 hK hZ hR hS (hw.lo (by decide)) xc10 (hw.s0 rfl) rfl hl.1 rfl (Nat.le_of_ble_eq_true rfl) dX10_departmentNamed_16 ⟨by decide, by decide⟩ ⟨by decide, by decide⟩) hS (fun r_1 z_2 H locs hp_3 hR hS => ?_)
  rw [hp_3.2] at hR; rw [hp_3.1]
  exact hret (xff (fun k => decide ((u1 z 0 0 0).1 2 (8 + k) = nm)) (mQ z 13) 0) (u1 z 0 0 0) _ _ _ _ dX10_departmentNamed_19 rfl hR hS (⟨rfl, rfl⟩)
def rm_X10_getSetting : Room := { frames := 1, cells := 0, slots := 0, locals := 20 }
set_option maxRecDepth 100000 in
set_option maxHeartbeats 4000000 in
theorem c_X10_getSetting (l : Launch) (G : xGl) (w : xWd) (hw : isM w) (z : xSt) (sz : Nat) (x : Int32)  : xMi l yX10_getSetting cX10_getSetting 2 (some FieldType.int) rm_X10_getSetting G w z sz [.ref (w.2.2 0), .int x] (fun r z1 => r = (if inR x 5 then z.1 4 (0 + x.toNatClampNeg) else (-2)) ∧ z1 = u1 z 0 0 0) := by
  refine x_mi (by decide) (Nat.le_of_ble_eq_true rfl) ?_
  intro p e s mt args below meth c ls Q hsz X hR hS hl hret
  obtain ⟨hx, hcb, hml, hown, hts, hlk, hK, hZ⟩ := X
  have hl : lv_has ls 2 [(0, .ref (w.2.2 0)), (1, .int x)] := hl
  refine lv_aload_n hx hcb dX10_getSetting_0 rfl (lv_at hl 0 rfl) ?_
  refine lv_iconst (v := (nI 0)) hx hcb dX10_getSetting_1 (by decide) ?_
  refine x_putI hx hcb hts hown hK xc10 hR hS (hw.lo (by decide)) (hw.s0 rfl) 0 (by decide) rfl q_1166 rfl (v := 0) rfl rfl dX10_getSetting_2 (fun H locs hR hS => ?_)
  refine lv_iload_n hx hcb dX10_getSetting_5 rfl (lv_at hl 1 rfl) ?_
  refine x_ci0 rfl rfl (x_runS hx hcb hml hown hts (c_X10_isSetting l G w hw (u1 z 0 0 0) _ x) ms_X10_isSetting q_1449 hK hZ hR hS rfl hl.1 rfl (Nat.le_of_ble_eq_true rfl) dX10_getSetting_6 ⟨by decide, by decide⟩ ⟨by decide, by decide⟩) hS (fun r_1 z_2 H locs hp_3 hR hS => ?_)
  rw [hp_3.2] at hR; rw [hp_3.1]
  refine lv_if_eq (tgt := 23) hx hcb dX10_getSetting_9 (by decide) (fun c_4 => ?_) (fun c_4 => ?_)
  · skip
    have h_ : ¬ (inR x 5) := fun q_ => absurd c_4 (by rw [if_pos q_]; decide)
    refine lv_bipush (v := (-2)) hx hcb dX10_getSetting_23 (by decide) ?_
    exact hret (-2) (u1 z 0 0 0) _ _ _ _ dX10_getSetting_25 rfl hR hS (⟨by first | (rw [if_pos h_, ← ek_]; rfl) | (rw [if_neg h_]; done), rfl⟩)
  · skip
    have h_ : inR x 5 := Classical.byContradiction (fun q_ => c_4 (if_neg q_))
    have hxk_ := inR_k (n := 5) (by omega) h_
    obtain ⟨k_, ek_⟩ : ∃ q_, q_ = x.toNatClampNeg := ⟨_, rfl⟩
    rw [← ek_] at hxk_
    have hltk_ := hxk_.2
    rw [hxk_.1] at hl
    refine lv_aload_n hx hcb dX10_getSetting_12 rfl (lv_at hl 0 rfl) ?_
    refine x_getR hx hcb hts hown hK xc10 hR (hw.lo (by decide)) (hw.s0 rfl) 5 (by decide) rfl q_1171 dX10_getSetting_13 ?_
    refine lv_iconst (v := (nI 0)) hx hcb dX10_getSetting_16 (by decide) ?_
    refine lv_iload_n hx hcb dX10_getSetting_17 rfl (lv_at hl 1 rfl) ?_
    refine x_iaddN hx hcb dX10_getSetting_18 ?_
    refine x_iald hx hcb hK hR (hw.lo (by decide)) (hw.s0 rfl) (k := (0 + k_)) (by omega) (by decide) dX10_getSetting_19 ?_
    refine lv_goto (tgt := 25) hx hcb dX10_getSetting_20 (by decide) ?_
    exact hret ((u1 z 0 0 0).1 4 (0 + k_)) (u1 z 0 0 0) _ _ _ _ dX10_getSetting_25 rfl hR hS (⟨by first | (rw [if_pos h_, ← ek_]; rfl) | (rw [if_neg h_]; done), rfl⟩)
def rm_X10_stateOf : Room := { frames := 1, cells := 0, slots := 0, locals := 21 }
set_option maxRecDepth 100000 in
set_option maxHeartbeats 4000000 in
theorem c_X10_stateOf (l : Launch) (G : xGl) (w : xWd) (hw : isM w) (z : xSt) (sz : Nat) (x : Int32) (hO : rOk z) : xMi l yX10_stateOf cX10_stateOf 2 (some FieldType.int) rm_X10_stateOf G w z sz [.ref (w.2.2 0), .int x] (fun r z1 => r = (if inR x (mQ z 12) then z.1 4 (5 + x.toNatClampNeg) else 0) ∧ z1 = ck z (inR x (mQ z 12))) := by
  refine x_mi (by decide) (Nat.le_of_ble_eq_true rfl) ?_
  intro p e s mt args below meth c ls Q hsz X hR hS hl hret
  obtain ⟨hx, hcb, hml, hown, hts, hlk, hK, hZ⟩ := X
  have hl : lv_has ls 2 [(0, .ref (w.2.2 0)), (1, .int x)] := hl
  have hm8_ := hO.2.1
  have hd4_ := hO.2.2.2.1
  have hy24_ := hO.2.2.2.2.2
  refine lv_aload_n hx hcb dX10_stateOf_0 rfl (lv_at hl 0 rfl) ?_
  refine lv_aload_n hx hcb dX10_stateOf_1 rfl (lv_at hl 0 rfl) ?_
  refine lv_iload_n hx hcb dX10_stateOf_2 rfl (lv_at hl 1 rfl) ?_
  refine x_ci0 rfl rfl (x_runV hx hcb hml hown hts (c_X10_isMember l G w hw z _ x hO) mv_X10_isMember q_1456 hK hZ hR hS (hw.lo (by decide)) xc10 (hw.s0 rfl) rfl hl.1 rfl (Nat.le_of_ble_eq_true rfl) dX10_stateOf_3 ⟨by decide, by decide⟩ ⟨by decide, by decide⟩) hS (fun r_1 z_2 H locs hp_3 hR hS => ?_)
  rw [hp_3.2] at hR; rw [hp_3.1]
  refine x_ci0 rfl rfl (x_runV hx hcb hml hown hts (c_X10_checks l G w hw z _ (if inR x (mQ z 12) then 1 else 0) (inR x (mQ z 12)) rfl) mv_X10_checks q_1460 hK hZ hR hS (hw.lo (by decide)) xc10 (hw.s0 rfl) rfl hl.1 rfl (Nat.le_of_ble_eq_true rfl) dX10_stateOf_6 ⟨by decide, by decide⟩ ⟨by decide, by decide⟩) hS (fun r_4 z_5 H locs hp_6 hR hS => ?_)
  rw [hp_6.2] at hR; rw [hp_6.1]
  refine lv_if_eq (tgt := 23) hx hcb dX10_stateOf_9 (by decide) (fun c_7 => ?_) (fun c_7 => ?_)
  · skip
    have h_ : ¬ (inR x (mQ z 12)) := fun q_ => absurd c_7 (by rw [if_pos q_]; decide)
    refine lv_iconst (v := (nI 0)) hx hcb dX10_stateOf_23 (by decide) ?_
    exact hret (nI 0) (ck z (inR x (mQ z 12))) _ _ _ _ dX10_stateOf_24 rfl hR hS (⟨by first | (rw [if_pos h_, ← ek_]; rfl) | (rw [if_neg h_]; rfl), rfl⟩)
  · skip
    have h_ : inR x (mQ z 12) := Classical.byContradiction (fun q_ => c_7 (if_neg q_))
    have hxk_ := inR_k (n := mQ z 12) (by omega) h_
    obtain ⟨k_, ek_⟩ : ∃ q_, q_ = x.toNatClampNeg := ⟨_, rfl⟩
    rw [← ek_] at hxk_
    have hltk_ := hxk_.2
    rw [hxk_.1] at hl
    refine lv_aload_n hx hcb dX10_stateOf_12 rfl (lv_at hl 0 rfl) ?_
    refine x_getR hx hcb hts hown hK xc10 hR (hw.lo (by decide)) (hw.s0 rfl) 5 (by decide) rfl q_1171 dX10_stateOf_13 ?_
    refine lv_iconst (v := (nI 5)) hx hcb dX10_stateOf_16 (by decide) ?_
    refine lv_iload_n hx hcb dX10_stateOf_17 rfl (lv_at hl 1 rfl) ?_
    refine x_iaddN hx hcb dX10_stateOf_18 ?_
    refine x_iald hx hcb hK hR (hw.lo (by decide)) (hw.s0 rfl) (k := (5 + k_)) (by omega) (by decide) dX10_stateOf_19 ?_
    refine lv_goto (tgt := 24) hx hcb dX10_stateOf_20 (by decide) ?_
    exact hret ((ck z (inR x (mQ z 12))).1 4 (5 + k_)) (ck z (inR x (mQ z 12))) _ _ _ _ dX10_stateOf_24 rfl hR hS (⟨by first | (rw [if_pos h_, ← ek_]; rfl) | (rw [if_neg h_]; rfl), rfl⟩)
def rm_X10_lastAllocation : Room := { frames := 1, cells := 0, slots := 0, locals := 21 }
set_option maxRecDepth 100000 in
set_option maxHeartbeats 4000000 in
theorem c_X10_lastAllocation (l : Launch) (G : xGl) (w : xWd) (hw : isM w) (z : xSt) (sz : Nat) (x : Int32) (hO : rOk z) : xMi l yX10_lastAllocation cX10_lastAllocation 2 (some FieldType.int) rm_X10_lastAllocation G w z sz [.ref (w.2.2 0), .int x] (fun r z1 => r = (if inR x (mQ z 12) then z.1 4 (469 + x.toNatClampNeg) else 0) ∧ z1 = ck z (inR x (mQ z 12))) := by
  refine x_mi (by decide) (Nat.le_of_ble_eq_true rfl) ?_
  intro p e s mt args below meth c ls Q hsz X hR hS hl hret
  obtain ⟨hx, hcb, hml, hown, hts, hlk, hK, hZ⟩ := X
  have hl : lv_has ls 2 [(0, .ref (w.2.2 0)), (1, .int x)] := hl
  have hm8_ := hO.2.1
  have hd4_ := hO.2.2.2.1
  have hy24_ := hO.2.2.2.2.2
  refine lv_aload_n hx hcb dX10_lastAllocation_0 rfl (lv_at hl 0 rfl) ?_
  refine lv_aload_n hx hcb dX10_lastAllocation_1 rfl (lv_at hl 0 rfl) ?_
  refine lv_iload_n hx hcb dX10_lastAllocation_2 rfl (lv_at hl 1 rfl) ?_
  refine x_ci0 rfl rfl (x_runV hx hcb hml hown hts (c_X10_isMember l G w hw z _ x hO) mv_X10_isMember q_1456 hK hZ hR hS (hw.lo (by decide)) xc10 (hw.s0 rfl) rfl hl.1 rfl (Nat.le_of_ble_eq_true rfl) dX10_lastAllocation_3 ⟨by decide, by decide⟩ ⟨by decide, by decide⟩) hS (fun r_1 z_2 H locs hp_3 hR hS => ?_)
  rw [hp_3.2] at hR; rw [hp_3.1]
  refine x_ci0 rfl rfl (x_runV hx hcb hml hown hts (c_X10_checks l G w hw z _ (if inR x (mQ z 12) then 1 else 0) (inR x (mQ z 12)) rfl) mv_X10_checks q_1460 hK hZ hR hS (hw.lo (by decide)) xc10 (hw.s0 rfl) rfl hl.1 rfl (Nat.le_of_ble_eq_true rfl) dX10_lastAllocation_6 ⟨by decide, by decide⟩ ⟨by decide, by decide⟩) hS (fun r_4 z_5 H locs hp_6 hR hS => ?_)
  rw [hp_6.2] at hR; rw [hp_6.1]
  refine lv_if_eq (tgt := 25) hx hcb dX10_lastAllocation_9 (by decide) (fun c_7 => ?_) (fun c_7 => ?_)
  · skip
    have h_ : ¬ (inR x (mQ z 12)) := fun q_ => absurd c_7 (by rw [if_pos q_]; decide)
    refine lv_iconst (v := (nI 0)) hx hcb dX10_lastAllocation_25 (by decide) ?_
    exact hret (nI 0) (ck z (inR x (mQ z 12))) _ _ _ _ dX10_lastAllocation_26 rfl hR hS (⟨by first | (rw [if_pos h_, ← ek_]; rfl) | (rw [if_neg h_]; rfl), rfl⟩)
  · skip
    have h_ : inR x (mQ z 12) := Classical.byContradiction (fun q_ => c_7 (if_neg q_))
    have hxk_ := inR_k (n := mQ z 12) (by omega) h_
    obtain ⟨k_, ek_⟩ : ∃ q_, q_ = x.toNatClampNeg := ⟨_, rfl⟩
    rw [← ek_] at hxk_
    have hltk_ := hxk_.2
    rw [hxk_.1] at hl
    refine lv_aload_n hx hcb dX10_lastAllocation_12 rfl (lv_at hl 0 rfl) ?_
    refine x_getR hx hcb hts hown hK xc10 hR (hw.lo (by decide)) (hw.s0 rfl) 5 (by decide) rfl q_1171 dX10_lastAllocation_13 ?_
    refine lv_sipush (v := (nI 469)) hx hcb dX10_lastAllocation_16 (by decide) ?_
    refine lv_iload_n hx hcb dX10_lastAllocation_19 rfl (lv_at hl 1 rfl) ?_
    refine x_iaddN hx hcb dX10_lastAllocation_20 ?_
    refine x_iald hx hcb hK hR (hw.lo (by decide)) (hw.s0 rfl) (k := (469 + k_)) (by omega) (by decide) dX10_lastAllocation_21 ?_
    refine lv_goto (tgt := 26) hx hcb dX10_lastAllocation_22 (by decide) ?_
    exact hret ((ck z (inR x (mQ z 12))).1 4 (469 + k_)) (ck z (inR x (mQ z 12))) _ _ _ _ dX10_lastAllocation_26 rfl hR hS (⟨by first | (rw [if_pos h_, ← ek_]; rfl) | (rw [if_neg h_]; rfl), rfl⟩)
def rm_X10_lastRecapture : Room := { frames := 1, cells := 0, slots := 0, locals := 21 }
set_option maxRecDepth 100000 in
set_option maxHeartbeats 4000000 in
theorem c_X10_lastRecapture (l : Launch) (G : xGl) (w : xWd) (hw : isM w) (z : xSt) (sz : Nat) (x : Int32) (hO : rOk z) : xMi l yX10_lastRecapture cX10_lastRecapture 2 (some FieldType.int) rm_X10_lastRecapture G w z sz [.ref (w.2.2 0), .int x] (fun r z1 => r = (if inR x (mQ z 12) then z.1 4 (477 + x.toNatClampNeg) else 0) ∧ z1 = ck z (inR x (mQ z 12))) := by
  refine x_mi (by decide) (Nat.le_of_ble_eq_true rfl) ?_
  intro p e s mt args below meth c ls Q hsz X hR hS hl hret
  obtain ⟨hx, hcb, hml, hown, hts, hlk, hK, hZ⟩ := X
  have hl : lv_has ls 2 [(0, .ref (w.2.2 0)), (1, .int x)] := hl
  have hm8_ := hO.2.1
  have hd4_ := hO.2.2.2.1
  have hy24_ := hO.2.2.2.2.2
  refine lv_aload_n hx hcb dX10_lastRecapture_0 rfl (lv_at hl 0 rfl) ?_
  refine lv_aload_n hx hcb dX10_lastRecapture_1 rfl (lv_at hl 0 rfl) ?_
  refine lv_iload_n hx hcb dX10_lastRecapture_2 rfl (lv_at hl 1 rfl) ?_
  refine x_ci0 rfl rfl (x_runV hx hcb hml hown hts (c_X10_isMember l G w hw z _ x hO) mv_X10_isMember q_1456 hK hZ hR hS (hw.lo (by decide)) xc10 (hw.s0 rfl) rfl hl.1 rfl (Nat.le_of_ble_eq_true rfl) dX10_lastRecapture_3 ⟨by decide, by decide⟩ ⟨by decide, by decide⟩) hS (fun r_1 z_2 H locs hp_3 hR hS => ?_)
  rw [hp_3.2] at hR; rw [hp_3.1]
  refine x_ci0 rfl rfl (x_runV hx hcb hml hown hts (c_X10_checks l G w hw z _ (if inR x (mQ z 12) then 1 else 0) (inR x (mQ z 12)) rfl) mv_X10_checks q_1460 hK hZ hR hS (hw.lo (by decide)) xc10 (hw.s0 rfl) rfl hl.1 rfl (Nat.le_of_ble_eq_true rfl) dX10_lastRecapture_6 ⟨by decide, by decide⟩ ⟨by decide, by decide⟩) hS (fun r_4 z_5 H locs hp_6 hR hS => ?_)
  rw [hp_6.2] at hR; rw [hp_6.1]
  refine lv_if_eq (tgt := 25) hx hcb dX10_lastRecapture_9 (by decide) (fun c_7 => ?_) (fun c_7 => ?_)
  · skip
    have h_ : ¬ (inR x (mQ z 12)) := fun q_ => absurd c_7 (by rw [if_pos q_]; decide)
    refine lv_iconst (v := (nI 0)) hx hcb dX10_lastRecapture_25 (by decide) ?_
    exact hret (nI 0) (ck z (inR x (mQ z 12))) _ _ _ _ dX10_lastRecapture_26 rfl hR hS (⟨by first | (rw [if_pos h_, ← ek_]; rfl) | (rw [if_neg h_]; rfl), rfl⟩)
  · skip
    have h_ : inR x (mQ z 12) := Classical.byContradiction (fun q_ => c_7 (if_neg q_))
    have hxk_ := inR_k (n := mQ z 12) (by omega) h_
    obtain ⟨k_, ek_⟩ : ∃ q_, q_ = x.toNatClampNeg := ⟨_, rfl⟩
    rw [← ek_] at hxk_
    have hltk_ := hxk_.2
    rw [hxk_.1] at hl
    refine lv_aload_n hx hcb dX10_lastRecapture_12 rfl (lv_at hl 0 rfl) ?_
    refine x_getR hx hcb hts hown hK xc10 hR (hw.lo (by decide)) (hw.s0 rfl) 5 (by decide) rfl q_1171 dX10_lastRecapture_13 ?_
    refine lv_sipush (v := (nI 477)) hx hcb dX10_lastRecapture_16 (by decide) ?_
    refine lv_iload_n hx hcb dX10_lastRecapture_19 rfl (lv_at hl 1 rfl) ?_
    refine x_iaddN hx hcb dX10_lastRecapture_20 ?_
    refine x_iald hx hcb hK hR (hw.lo (by decide)) (hw.s0 rfl) (k := (477 + k_)) (by omega) (by decide) dX10_lastRecapture_21 ?_
    refine lv_goto (tgt := 26) hx hcb dX10_lastRecapture_22 (by decide) ?_
    exact hret ((ck z (inR x (mQ z 12))).1 4 (477 + k_)) (ck z (inR x (mQ z 12))) _ _ _ _ dX10_lastRecapture_26 rfl hR hS (⟨by first | (rw [if_pos h_, ← ek_]; rfl) | (rw [if_neg h_]; rfl), rfl⟩)
def rm_X10_installmentsLeft : Room := { frames := 1, cells := 0, slots := 0, locals := 21 }
set_option maxRecDepth 100000 in
set_option maxHeartbeats 4000000 in
theorem c_X10_installmentsLeft (l : Launch) (G : xGl) (w : xWd) (hw : isM w) (z : xSt) (sz : Nat) (x : Int32) (hO : rOk z) : xMi l yX10_installmentsLeft cX10_installmentsLeft 2 (some FieldType.int) rm_X10_installmentsLeft G w z sz [.ref (w.2.2 0), .int x] (fun r z1 => r = (if inR x (mQ z 12) then z.1 4 (21 + x.toNatClampNeg) else 0) ∧ z1 = ck z (inR x (mQ z 12))) := by
  refine x_mi (by decide) (Nat.le_of_ble_eq_true rfl) ?_
  intro p e s mt args below meth c ls Q hsz X hR hS hl hret
  obtain ⟨hx, hcb, hml, hown, hts, hlk, hK, hZ⟩ := X
  have hl : lv_has ls 2 [(0, .ref (w.2.2 0)), (1, .int x)] := hl
  have hm8_ := hO.2.1
  have hd4_ := hO.2.2.2.1
  have hy24_ := hO.2.2.2.2.2
  refine lv_aload_n hx hcb dX10_installmentsLeft_0 rfl (lv_at hl 0 rfl) ?_
  refine lv_aload_n hx hcb dX10_installmentsLeft_1 rfl (lv_at hl 0 rfl) ?_
  refine lv_iload_n hx hcb dX10_installmentsLeft_2 rfl (lv_at hl 1 rfl) ?_
  refine x_ci0 rfl rfl (x_runV hx hcb hml hown hts (c_X10_isMember l G w hw z _ x hO) mv_X10_isMember q_1456 hK hZ hR hS (hw.lo (by decide)) xc10 (hw.s0 rfl) rfl hl.1 rfl (Nat.le_of_ble_eq_true rfl) dX10_installmentsLeft_3 ⟨by decide, by decide⟩ ⟨by decide, by decide⟩) hS (fun r_1 z_2 H locs hp_3 hR hS => ?_)
  rw [hp_3.2] at hR; rw [hp_3.1]
  refine x_ci0 rfl rfl (x_runV hx hcb hml hown hts (c_X10_checks l G w hw z _ (if inR x (mQ z 12) then 1 else 0) (inR x (mQ z 12)) rfl) mv_X10_checks q_1460 hK hZ hR hS (hw.lo (by decide)) xc10 (hw.s0 rfl) rfl hl.1 rfl (Nat.le_of_ble_eq_true rfl) dX10_installmentsLeft_6 ⟨by decide, by decide⟩ ⟨by decide, by decide⟩) hS (fun r_4 z_5 H locs hp_6 hR hS => ?_)
  rw [hp_6.2] at hR; rw [hp_6.1]
  refine lv_if_eq (tgt := 24) hx hcb dX10_installmentsLeft_9 (by decide) (fun c_7 => ?_) (fun c_7 => ?_)
  · skip
    have h_ : ¬ (inR x (mQ z 12)) := fun q_ => absurd c_7 (by rw [if_pos q_]; decide)
    refine lv_iconst (v := (nI 0)) hx hcb dX10_installmentsLeft_24 (by decide) ?_
    exact hret (nI 0) (ck z (inR x (mQ z 12))) _ _ _ _ dX10_installmentsLeft_25 rfl hR hS (⟨by first | (rw [if_pos h_, ← ek_]; rfl) | (rw [if_neg h_]; rfl), rfl⟩)
  · skip
    have h_ : inR x (mQ z 12) := Classical.byContradiction (fun q_ => c_7 (if_neg q_))
    have hxk_ := inR_k (n := mQ z 12) (by omega) h_
    obtain ⟨k_, ek_⟩ : ∃ q_, q_ = x.toNatClampNeg := ⟨_, rfl⟩
    rw [← ek_] at hxk_
    have hltk_ := hxk_.2
    rw [hxk_.1] at hl
    refine lv_aload_n hx hcb dX10_installmentsLeft_12 rfl (lv_at hl 0 rfl) ?_
    refine x_getR hx hcb hts hown hK xc10 hR (hw.lo (by decide)) (hw.s0 rfl) 5 (by decide) rfl q_1171 dX10_installmentsLeft_13 ?_
    refine lv_bipush (v := (nI 21)) hx hcb dX10_installmentsLeft_16 (by decide) ?_
    refine lv_iload_n hx hcb dX10_installmentsLeft_18 rfl (lv_at hl 1 rfl) ?_
    refine x_iaddN hx hcb dX10_installmentsLeft_19 ?_
    refine x_iald hx hcb hK hR (hw.lo (by decide)) (hw.s0 rfl) (k := (21 + k_)) (by omega) (by decide) dX10_installmentsLeft_20 ?_
    refine lv_goto (tgt := 25) hx hcb dX10_installmentsLeft_21 (by decide) ?_
    exact hret ((ck z (inR x (mQ z 12))).1 4 (21 + k_)) (ck z (inR x (mQ z 12))) _ _ _ _ dX10_installmentsLeft_25 rfl hR hS (⟨by first | (rw [if_pos h_, ← ek_]; rfl) | (rw [if_neg h_]; rfl), rfl⟩)
def rm_X10_consents : Room := { frames := 1, cells := 0, slots := 0, locals := 21 }
set_option maxRecDepth 100000 in
set_option maxHeartbeats 4000000 in
theorem c_X10_consents (l : Launch) (G : xGl) (w : xWd) (hw : isM w) (z : xSt) (sz : Nat) (x : Int32) (hO : rOk z) : xMi l yX10_consents cX10_consents 2 (some FieldType.boolean) rm_X10_consents G w z sz [.ref (w.2.2 0), .int x] (fun r z1 => r = (if inR x (mQ z 12) ∧ z.1 4 (13 + x.toNatClampNeg) = nI 1 then 1 else 0) ∧ z1 = ck z (inR x (mQ z 12))) := by
  refine x_mi (by decide) (Nat.le_of_ble_eq_true rfl) ?_
  intro p e s mt args below meth c ls Q hsz X hR hS hl hret
  obtain ⟨hx, hcb, hml, hown, hts, hlk, hK, hZ⟩ := X
  have hl : lv_has ls 2 [(0, .ref (w.2.2 0)), (1, .int x)] := hl
  have hm8_ := hO.2.1
  have hd4_ := hO.2.2.2.1
  have hy24_ := hO.2.2.2.2.2
  refine lv_aload_n hx hcb dX10_consents_0 rfl (lv_at hl 0 rfl) ?_
  refine lv_aload_n hx hcb dX10_consents_1 rfl (lv_at hl 0 rfl) ?_
  refine lv_iload_n hx hcb dX10_consents_2 rfl (lv_at hl 1 rfl) ?_
  refine x_ci0 rfl rfl (x_runV hx hcb hml hown hts (c_X10_isMember l G w hw z _ x hO) mv_X10_isMember q_1456 hK hZ hR hS (hw.lo (by decide)) xc10 (hw.s0 rfl) rfl hl.1 rfl (Nat.le_of_ble_eq_true rfl) dX10_consents_3 ⟨by decide, by decide⟩ ⟨by decide, by decide⟩) hS (fun r_1 z_2 H locs hp_3 hR hS => ?_)
  rw [hp_3.2] at hR; rw [hp_3.1]
  refine x_ci0 rfl rfl (x_runV hx hcb hml hown hts (c_X10_checks l G w hw z _ (if inR x (mQ z 12) then 1 else 0) (inR x (mQ z 12)) rfl) mv_X10_checks q_1460 hK hZ hR hS (hw.lo (by decide)) xc10 (hw.s0 rfl) rfl hl.1 rfl (Nat.le_of_ble_eq_true rfl) dX10_consents_6 ⟨by decide, by decide⟩ ⟨by decide, by decide⟩) hS (fun r_4 z_5 H locs hp_6 hR hS => ?_)
  rw [hp_6.2] at hR; rw [hp_6.1]
  refine lv_if_eq (tgt := 29) hx hcb dX10_consents_9 (by decide) (fun c_7 => ?_) (fun c_7 => ?_)
  · skip
    have h_ : ¬ (inR x (mQ z 12)) := fun q_ => absurd c_7 (by rw [if_pos q_]; decide)
    refine lv_iconst (v := (nI 0)) hx hcb dX10_consents_29 (by decide) ?_
    exact hret (nI 0) (ck z (inR x (mQ z 12))) _ _ _ _ dX10_consents_30 rfl hR hS (⟨by first | (rw [if_neg (fun q_ => h_ q_.1)]; rfl) | (rw [← ek_, if_pos ⟨h_, h2_⟩]; rfl) | (rw [← ek_, if_neg (fun q_ => h2_ q_.2)]; rfl), rfl⟩)
  · skip
    have h_ : inR x (mQ z 12) := Classical.byContradiction (fun q_ => c_7 (if_neg q_))
    have hxk_ := inR_k (n := mQ z 12) (by omega) h_
    obtain ⟨k_, ek_⟩ : ∃ q_, q_ = x.toNatClampNeg := ⟨_, rfl⟩
    rw [← ek_] at hxk_
    have hltk_ := hxk_.2
    rw [hxk_.1] at hl
    refine lv_aload_n hx hcb dX10_consents_12 rfl (lv_at hl 0 rfl) ?_
    refine x_getR hx hcb hts hown hK xc10 hR (hw.lo (by decide)) (hw.s0 rfl) 5 (by decide) rfl q_1171 dX10_consents_13 ?_
    refine lv_bipush (v := (nI 13)) hx hcb dX10_consents_16 (by decide) ?_
    refine lv_iload_n hx hcb dX10_consents_18 rfl (lv_at hl 1 rfl) ?_
    refine x_iaddN hx hcb dX10_consents_19 ?_
    refine x_iald hx hcb hK hR (hw.lo (by decide)) (hw.s0 rfl) (k := (13 + k_)) (by omega) (by decide) dX10_consents_20 ?_
    refine lv_iconst (v := (nI 1)) hx hcb dX10_consents_21 (by decide) ?_
    refine lv_icmp_ne (tgt := 29) hx hcb dX10_consents_22 (by decide) (fun c_8 => ?_) (fun c_8 => ?_)
    · skip
      have h2_ : ¬ z.1 4 (13 + k_) = nI 1 := c_8
      refine lv_iconst (v := (nI 0)) hx hcb dX10_consents_29 (by decide) ?_
      exact hret (nI 0) (ck z (inR x (mQ z 12))) _ _ _ _ dX10_consents_30 rfl hR hS (⟨by first | (rw [if_neg (fun q_ => h_ q_.1)]; rfl) | (rw [← ek_, if_pos ⟨h_, h2_⟩]; rfl) | (rw [← ek_, if_neg (fun q_ => h2_ q_.2)]; rfl), rfl⟩)
    · skip
      have h2_ : z.1 4 (13 + k_) = nI 1 := c_8
      refine lv_iconst (v := (nI 1)) hx hcb dX10_consents_25 (by decide) ?_
      refine lv_goto (tgt := 30) hx hcb dX10_consents_26 (by decide) ?_
      exact hret (nI 1) (ck z (inR x (mQ z 12))) _ _ _ _ dX10_consents_30 rfl hR hS (⟨by first | (rw [if_neg (fun q_ => h_ q_.1)]; rfl) | (rw [← ek_, if_pos ⟨h_, h2_⟩]; rfl) | (rw [← ek_, if_neg (fun q_ => h2_ q_.2)]; rfl), rfl⟩)
def rm_X10_totalPatronage : Room := { frames := 1, cells := 0, slots := 0, locals := 23 }
set_option maxRecDepth 100000 in
set_option maxHeartbeats 4000000 in
theorem c_X10_totalPatronage (l : Launch) (G : xGl) (w : xWd) (hw : isM w) (z : xSt) (sz : Nat) (x : Int32) (hO : rOk z) : xMi l yX10_totalPatronage cX10_totalPatronage 2 (some FieldType.int) rm_X10_totalPatronage G w z sz [.ref (w.2.2 0), .int x] (fun r z1 => r = (if inR x (mQ z 13) then bx_sum (fun m => z.1 4 (29 + 4 * m + x.toNatClampNeg)) (mQ z 12) else 0) ∧ z1 = ck z (inR x (mQ z 13))) := by
  refine x_mi (by decide) (Nat.le_of_ble_eq_true rfl) ?_
  intro p e s mt args below meth c ls Q hsz X hR hS hl hret
  obtain ⟨hx, hcb, hml, hown, hts, hlk, hK, hZ⟩ := X
  have hl : lv_has ls 2 [(0, .ref (w.2.2 0)), (1, .int x)] := hl
  have hm8_ := hO.2.1
  have hd4_ := hO.2.2.2.1
  have hy24_ := hO.2.2.2.2.2
  refine lv_aload_n hx hcb dX10_totalPatronage_0 rfl (lv_at hl 0 rfl) ?_
  refine lv_aload_n hx hcb dX10_totalPatronage_1 rfl (lv_at hl 0 rfl) ?_
  refine lv_iload_n hx hcb dX10_totalPatronage_2 rfl (lv_at hl 1 rfl) ?_
  refine x_ci0 rfl rfl (x_runV hx hcb hml hown hts (c_X10_isDepartment l G w hw z _ x hO) mv_X10_isDepartment q_1472 hK hZ hR hS (hw.lo (by decide)) xc10 (hw.s0 rfl) rfl hl.1 rfl (Nat.le_of_ble_eq_true rfl) dX10_totalPatronage_3 ⟨by decide, by decide⟩ ⟨by decide, by decide⟩) hS (fun r_1 z_2 H locs hp_3 hR hS => ?_)
  rw [hp_3.2] at hR; rw [hp_3.1]
  refine x_ci0 rfl rfl (x_runV hx hcb hml hown hts (c_X10_checks l G w hw z _ (if inR x (mQ z 13) then 1 else 0) (inR x (mQ z 13)) rfl) mv_X10_checks q_1460 hK hZ hR hS (hw.lo (by decide)) xc10 (hw.s0 rfl) rfl hl.1 rfl (Nat.le_of_ble_eq_true rfl) dX10_totalPatronage_6 ⟨by decide, by decide⟩ ⟨by decide, by decide⟩) hS (fun r_4 z_5 H locs hp_6 hR hS => ?_)
  rw [hp_6.2] at hR; rw [hp_6.1]
  refine lv_if_eq (tgt := 20) hx hcb dX10_totalPatronage_9 (by decide) (fun c_7 => ?_) (fun c_7 => ?_)
  · skip
    have h_ : ¬ (inR x (mQ z 13)) := fun q_ => absurd c_7 (by rw [if_pos q_]; decide)
    refine lv_iconst (v := (nI 0)) hx hcb dX10_totalPatronage_20 (by decide) ?_
    exact hret (nI 0) (ck z (inR x (mQ z 13))) _ _ _ _ dX10_totalPatronage_21 rfl hR hS (⟨by first | (rw [if_pos h_, ← ek_]; rfl) | (rw [if_neg h_]; rfl), rfl⟩)
  · skip
    have h_ : inR x (mQ z 13) := Classical.byContradiction (fun q_ => c_7 (if_neg q_))
    have hxk_ := inR_k (n := mQ z 13) (by omega) h_
    obtain ⟨k_, ek_⟩ : ∃ q_, q_ = x.toNatClampNeg := ⟨_, rfl⟩
    rw [← ek_] at hxk_
    have hltk_ := hxk_.2
    rw [hxk_.1] at hl
    refine lv_aload_n hx hcb dX10_totalPatronage_12 rfl (lv_at hl 0 rfl) ?_
    refine lv_iload_n hx hcb dX10_totalPatronage_13 rfl (lv_at hl 1 rfl) ?_
    refine x_ci0 rfl rfl (x_runV hx hcb hml hown hts (c_X10_traded l G w hw (ck z (inR x (mQ z 13))) _ k_ hO (by omega)) mv_X10_traded q_1374 hK hZ hR hS (hw.lo (by decide)) xc10 (hw.s0 rfl) rfl hl.1 rfl (Nat.le_of_ble_eq_true rfl) dX10_totalPatronage_14 ⟨by decide, by decide⟩ ⟨by decide, by decide⟩) hS (fun r_8 z_9 H locs hp_10 hR hS => ?_)
    rw [hp_10.2] at hR; rw [hp_10.1]
    refine lv_goto (tgt := 21) hx hcb dX10_totalPatronage_17 (by decide) ?_
    exact hret (bx_sum (fun m => (ck z (inR x (mQ z 13))).1 4 (29 + 4 * m + k_)) (mQ (ck z (inR x (mQ z 13))) 12)) (ck z (inR x (mQ z 13))) _ _ _ _ dX10_totalPatronage_21 rfl hR hS (⟨by first | (rw [if_pos h_, ← ek_]; rfl) | (rw [if_neg h_]; rfl), rfl⟩)
def rm_X10_patronage : Room := { frames := 1, cells := 0, slots := 0, locals := 21 }
set_option maxRecDepth 100000 in
set_option maxHeartbeats 4000000 in
theorem c_X10_patronage (l : Launch) (G : xGl) (w : xWd) (hw : isM w) (z : xSt) (sz : Nat) (x : Int32) (y : Int32) (hO : rOk z) : xMi l yX10_patronage cX10_patronage 3 (some FieldType.int) rm_X10_patronage G w z sz [.ref (w.2.2 0), .int x, .int y] (fun r z1 => r = (if inR x (mQ z 12) ∧ inR y (mQ z 13) then z.1 4 (29 + 4 * x.toNatClampNeg + y.toNatClampNeg) else 0) ∧ z1 = ck z (inR x (mQ z 12) ∧ inR y (mQ z 13))) := by
  refine x_mi (by decide) (Nat.le_of_ble_eq_true rfl) ?_
  intro p e s mt args below meth c ls Q hsz X hR hS hl hret
  obtain ⟨hx, hcb, hml, hown, hts, hlk, hK, hZ⟩ := X
  have hl : lv_has ls 3 [(0, .ref (w.2.2 0)), (1, .int x), (2, .int y)] := hl
  have hm8_ := hO.2.1
  have hd4_ := hO.2.2.2.1
  have hy24_ := hO.2.2.2.2.2
  refine lv_aload_n hx hcb dX10_patronage_0 rfl (lv_at hl 0 rfl) ?_
  refine lv_aload_n hx hcb dX10_patronage_1 rfl (lv_at hl 0 rfl) ?_
  refine lv_iload_n hx hcb dX10_patronage_2 rfl (lv_at hl 1 rfl) ?_
  refine x_ci0 rfl rfl (x_runV hx hcb hml hown hts (c_X10_isMember l G w hw z _ x hO) mv_X10_isMember q_1456 hK hZ hR hS (hw.lo (by decide)) xc10 (hw.s0 rfl) rfl hl.1 rfl (Nat.le_of_ble_eq_true rfl) dX10_patronage_3 ⟨by decide, by decide⟩ ⟨by decide, by decide⟩) hS (fun r_1 z_2 H locs hp_3 hR hS => ?_)
  rw [hp_3.2] at hR; rw [hp_3.1]
  refine lv_if_eq (tgt := 21) hx hcb dX10_patronage_6 (by decide) (fun c_4 => ?_) (fun c_4 => ?_)
  · skip
    have h1_ : ¬ (inR x (mQ z 12)) := fun q_ => absurd c_4 (by rw [if_pos q_]; decide)
    have hb_ : ¬ (inR x (mQ z 12) ∧ inR y (mQ z 13)) := fun q_ => h1_ q_.1
    refine lv_iconst (v := (nI 0)) hx hcb dX10_patronage_21 (by decide) ?_
    refine x_ci0 rfl rfl (x_runV hx hcb hml hown hts (c_X10_checks l G w hw z _ 0 (inR x (mQ z 12) ∧ inR y (mQ z 13)) (by first | (rw [if_pos hb_]; first | done | rfl) | (rw [if_neg hb_]; first | done | rfl))) mv_X10_checks q_1460 hK hZ hR hS (hw.lo (by decide)) xc10 (hw.s0 rfl) rfl hl.1 rfl (Nat.le_of_ble_eq_true rfl) dX10_patronage_22 ⟨by decide, by decide⟩ ⟨by decide, by decide⟩) hS (fun r_5 z_6 H locs hp_7 hR hS => ?_)
    rw [hp_7.2] at hR; rw [hp_7.1]
    refine lv_if_eq (tgt := 44) hx hcb dX10_patronage_25 (by decide) (fun c_8 => ?_) (fun c_8 => ?_)
    · skip
      have h_ : ¬ (inR x (mQ z 12) ∧ inR y (mQ z 13)) := fun q_ => absurd c_8 (by rw [if_pos q_]; decide)
      refine lv_iconst (v := (nI 0)) hx hcb dX10_patronage_44 (by decide) ?_
      exact hret (nI 0) (ck z (inR x (mQ z 12) ∧ inR y (mQ z 13))) _ _ _ _ dX10_patronage_45 rfl hR hS (⟨by first | (rw [if_pos h_, ← ek_, ← ej_]; rfl) | (rw [if_neg h_]; rfl), rfl⟩)
    · skip
      have h_ : inR x (mQ z 12) ∧ inR y (mQ z 13) := Classical.byContradiction (fun q_ => c_8 (if_neg q_))
      have hxk_ := inR_k (n := mQ z 12) (by omega) h_.1
      obtain ⟨k_, ek_⟩ : ∃ q_, q_ = x.toNatClampNeg := ⟨_, rfl⟩
      rw [← ek_] at hxk_
      have hltk_ := hxk_.2
      rw [hxk_.1] at hl
      have hxj_ := inR_k (n := mQ z 13) (by omega) h_.2
      obtain ⟨j_, ej_⟩ : ∃ q_, q_ = y.toNatClampNeg := ⟨_, rfl⟩
      rw [← ej_] at hxj_
      have hltj_ := hxj_.2
      rw [hxj_.1] at hl
      refine lv_aload_n hx hcb dX10_patronage_28 rfl (lv_at hl 0 rfl) ?_
      refine x_getR hx hcb hts hown hK xc10 hR (hw.lo (by decide)) (hw.s0 rfl) 5 (by decide) rfl q_1171 dX10_patronage_29 ?_
      refine lv_bipush (v := (nI 29)) hx hcb dX10_patronage_32 (by decide) ?_
      refine lv_iconst (v := (nI 4)) hx hcb dX10_patronage_34 (by decide) ?_
      refine lv_iload_n hx hcb dX10_patronage_35 rfl (lv_at hl 1 rfl) ?_
      refine x_imulN hx hcb dX10_patronage_36 ?_
      refine x_iaddN hx hcb dX10_patronage_37 ?_
      refine lv_iload_n hx hcb dX10_patronage_38 rfl (lv_at hl 2 rfl) ?_
      refine x_iaddN hx hcb dX10_patronage_39 ?_
      refine x_iald hx hcb hK hR (hw.lo (by decide)) (hw.s0 rfl) (k := ((29 + (4 * k_)) + j_)) (by omega) (by decide) dX10_patronage_40 ?_
      refine lv_goto (tgt := 45) hx hcb dX10_patronage_41 (by decide) ?_
      exact hret ((ck z (inR x (mQ z 12) ∧ inR y (mQ z 13))).1 4 ((29 + (4 * k_)) + j_)) (ck z (inR x (mQ z 12) ∧ inR y (mQ z 13))) _ _ _ _ dX10_patronage_45 rfl hR hS (⟨by first | (rw [if_pos h_, ← ek_, ← ej_]; rfl) | (rw [if_neg h_]; rfl), rfl⟩)
  · skip
    have h1_ : inR x (mQ z 12) := Classical.byContradiction (fun q_ => c_4 (if_neg q_))
    refine lv_aload_n hx hcb dX10_patronage_9 rfl (lv_at hl 0 rfl) ?_
    refine lv_iload_n hx hcb dX10_patronage_10 rfl (lv_at hl 2 rfl) ?_
    refine x_ci0 rfl rfl (x_runV hx hcb hml hown hts (c_X10_isDepartment l G w hw z _ y hO) mv_X10_isDepartment q_1472 hK hZ hR hS (hw.lo (by decide)) xc10 (hw.s0 rfl) rfl hl.1 rfl (Nat.le_of_ble_eq_true rfl) dX10_patronage_11 ⟨by decide, by decide⟩ ⟨by decide, by decide⟩) hS (fun r_9 z_10 H locs hp_11 hR hS => ?_)
    rw [hp_11.2] at hR; rw [hp_11.1]
    refine lv_if_eq (tgt := 21) hx hcb dX10_patronage_14 (by decide) (fun c_12 => ?_) (fun c_12 => ?_)
    · skip
      have h2_ : ¬ (inR y (mQ z 13)) := fun q_ => absurd c_12 (by rw [if_pos q_]; decide)
      have hb_ : ¬ (inR x (mQ z 12) ∧ inR y (mQ z 13)) := fun q_ => h2_ q_.2
      refine lv_iconst (v := (nI 0)) hx hcb dX10_patronage_21 (by decide) ?_
      refine x_ci0 rfl rfl (x_runV hx hcb hml hown hts (c_X10_checks l G w hw z _ 0 (inR x (mQ z 12) ∧ inR y (mQ z 13)) (by first | (rw [if_pos hb_]; first | done | rfl) | (rw [if_neg hb_]; first | done | rfl))) mv_X10_checks q_1460 hK hZ hR hS (hw.lo (by decide)) xc10 (hw.s0 rfl) rfl hl.1 rfl (Nat.le_of_ble_eq_true rfl) dX10_patronage_22 ⟨by decide, by decide⟩ ⟨by decide, by decide⟩) hS (fun r_13 z_14 H locs hp_15 hR hS => ?_)
      rw [hp_15.2] at hR; rw [hp_15.1]
      refine lv_if_eq (tgt := 44) hx hcb dX10_patronage_25 (by decide) (fun c_16 => ?_) (fun c_16 => ?_)
      · skip
        have h_ : ¬ (inR x (mQ z 12) ∧ inR y (mQ z 13)) := fun q_ => absurd c_16 (by rw [if_pos q_]; decide)
        refine lv_iconst (v := (nI 0)) hx hcb dX10_patronage_44 (by decide) ?_
        exact hret (nI 0) (ck z (inR x (mQ z 12) ∧ inR y (mQ z 13))) _ _ _ _ dX10_patronage_45 rfl hR hS (⟨by first | (rw [if_pos h_, ← ek_, ← ej_]; rfl) | (rw [if_neg h_]; rfl), rfl⟩)
      · skip
        have h_ : inR x (mQ z 12) ∧ inR y (mQ z 13) := Classical.byContradiction (fun q_ => c_16 (if_neg q_))
        have hxk_ := inR_k (n := mQ z 12) (by omega) h_.1
        obtain ⟨k_, ek_⟩ : ∃ q_, q_ = x.toNatClampNeg := ⟨_, rfl⟩
        rw [← ek_] at hxk_
        have hltk_ := hxk_.2
        rw [hxk_.1] at hl
        have hxj_ := inR_k (n := mQ z 13) (by omega) h_.2
        obtain ⟨j_, ej_⟩ : ∃ q_, q_ = y.toNatClampNeg := ⟨_, rfl⟩
        rw [← ej_] at hxj_
        have hltj_ := hxj_.2
        rw [hxj_.1] at hl
        refine lv_aload_n hx hcb dX10_patronage_28 rfl (lv_at hl 0 rfl) ?_
        refine x_getR hx hcb hts hown hK xc10 hR (hw.lo (by decide)) (hw.s0 rfl) 5 (by decide) rfl q_1171 dX10_patronage_29 ?_
        refine lv_bipush (v := (nI 29)) hx hcb dX10_patronage_32 (by decide) ?_
        refine lv_iconst (v := (nI 4)) hx hcb dX10_patronage_34 (by decide) ?_
        refine lv_iload_n hx hcb dX10_patronage_35 rfl (lv_at hl 1 rfl) ?_
        refine x_imulN hx hcb dX10_patronage_36 ?_
        refine x_iaddN hx hcb dX10_patronage_37 ?_
        refine lv_iload_n hx hcb dX10_patronage_38 rfl (lv_at hl 2 rfl) ?_
        refine x_iaddN hx hcb dX10_patronage_39 ?_
        refine x_iald hx hcb hK hR (hw.lo (by decide)) (hw.s0 rfl) (k := ((29 + (4 * k_)) + j_)) (by omega) (by decide) dX10_patronage_40 ?_
        refine lv_goto (tgt := 45) hx hcb dX10_patronage_41 (by decide) ?_
        exact hret ((ck z (inR x (mQ z 12) ∧ inR y (mQ z 13))).1 4 ((29 + (4 * k_)) + j_)) (ck z (inR x (mQ z 12) ∧ inR y (mQ z 13))) _ _ _ _ dX10_patronage_45 rfl hR hS (⟨by first | (rw [if_pos h_, ← ek_, ← ej_]; rfl) | (rw [if_neg h_]; rfl), rfl⟩)
    · skip
      have h2_ : inR y (mQ z 13) := Classical.byContradiction (fun q_ => c_12 (if_neg q_))
      have hb_ : inR x (mQ z 12) ∧ inR y (mQ z 13) := ⟨h1_, h2_⟩
      refine lv_iconst (v := (nI 1)) hx hcb dX10_patronage_17 (by decide) ?_
      refine lv_goto (tgt := 22) hx hcb dX10_patronage_18 (by decide) ?_
      refine x_ci0 rfl rfl (x_runV hx hcb hml hown hts (c_X10_checks l G w hw z _ 1 (inR x (mQ z 12) ∧ inR y (mQ z 13)) (by first | (rw [if_pos hb_]; first | done | rfl) | (rw [if_neg hb_]; first | done | rfl))) mv_X10_checks q_1460 hK hZ hR hS (hw.lo (by decide)) xc10 (hw.s0 rfl) rfl hl.1 rfl (Nat.le_of_ble_eq_true rfl) dX10_patronage_22 ⟨by decide, by decide⟩ ⟨by decide, by decide⟩) hS (fun r_17 z_18 H locs hp_19 hR hS => ?_)
      rw [hp_19.2] at hR; rw [hp_19.1]
      refine lv_if_eq (tgt := 44) hx hcb dX10_patronage_25 (by decide) (fun c_20 => ?_) (fun c_20 => ?_)
      · skip
        have h_ : ¬ (inR x (mQ z 12) ∧ inR y (mQ z 13)) := fun q_ => absurd c_20 (by rw [if_pos q_]; decide)
        refine lv_iconst (v := (nI 0)) hx hcb dX10_patronage_44 (by decide) ?_
        exact hret (nI 0) (ck z (inR x (mQ z 12) ∧ inR y (mQ z 13))) _ _ _ _ dX10_patronage_45 rfl hR hS (⟨by first | (rw [if_pos h_, ← ek_, ← ej_]; rfl) | (rw [if_neg h_]; rfl), rfl⟩)
      · skip
        have h_ : inR x (mQ z 12) ∧ inR y (mQ z 13) := Classical.byContradiction (fun q_ => c_20 (if_neg q_))
        have hxk_ := inR_k (n := mQ z 12) (by omega) h_.1
        obtain ⟨k_, ek_⟩ : ∃ q_, q_ = x.toNatClampNeg := ⟨_, rfl⟩
        rw [← ek_] at hxk_
        have hltk_ := hxk_.2
        rw [hxk_.1] at hl
        have hxj_ := inR_k (n := mQ z 13) (by omega) h_.2
        obtain ⟨j_, ej_⟩ : ∃ q_, q_ = y.toNatClampNeg := ⟨_, rfl⟩
        rw [← ej_] at hxj_
        have hltj_ := hxj_.2
        rw [hxj_.1] at hl
        refine lv_aload_n hx hcb dX10_patronage_28 rfl (lv_at hl 0 rfl) ?_
        refine x_getR hx hcb hts hown hK xc10 hR (hw.lo (by decide)) (hw.s0 rfl) 5 (by decide) rfl q_1171 dX10_patronage_29 ?_
        refine lv_bipush (v := (nI 29)) hx hcb dX10_patronage_32 (by decide) ?_
        refine lv_iconst (v := (nI 4)) hx hcb dX10_patronage_34 (by decide) ?_
        refine lv_iload_n hx hcb dX10_patronage_35 rfl (lv_at hl 1 rfl) ?_
        refine x_imulN hx hcb dX10_patronage_36 ?_
        refine x_iaddN hx hcb dX10_patronage_37 ?_
        refine lv_iload_n hx hcb dX10_patronage_38 rfl (lv_at hl 2 rfl) ?_
        refine x_iaddN hx hcb dX10_patronage_39 ?_
        refine x_iald hx hcb hK hR (hw.lo (by decide)) (hw.s0 rfl) (k := ((29 + (4 * k_)) + j_)) (by omega) (by decide) dX10_patronage_40 ?_
        refine lv_goto (tgt := 45) hx hcb dX10_patronage_41 (by decide) ?_
        exact hret ((ck z (inR x (mQ z 12) ∧ inR y (mQ z 13))).1 4 ((29 + (4 * k_)) + j_)) (ck z (inR x (mQ z 12) ∧ inR y (mQ z 13))) _ _ _ _ dX10_patronage_45 rfl hR hS (⟨by first | (rw [if_pos h_, ← ek_, ← ej_]; rfl) | (rw [if_neg h_]; rfl), rfl⟩)
def rm_X10_certificate : Room := { frames := 1, cells := 0, slots := 0, locals := 22 }
set_option maxRecDepth 100000 in
set_option maxHeartbeats 4000000 in
theorem c_X10_certificate (l : Launch) (G : xGl) (w : xWd) (hw : isM w) (z : xSt) (sz : Nat) (x : Int32) (y : Int32) (hO : rOk z) : xMi l yX10_certificate cX10_certificate 3 (some FieldType.int) rm_X10_certificate G w z sz [.ref (w.2.2 0), .int x, .int y] (fun r z1 => r = (if inR x (mQ z 12) then (if inR y (yQ z) then lfQ z x.toNatClampNeg y.toNatClampNeg else (-2)) else 0) ∧ z1 = ck z (inR x (mQ z 12))) := by
  refine x_mi (by decide) (Nat.le_of_ble_eq_true rfl) ?_
  intro p e s mt args below meth c ls Q hsz X hR hS hl hret
  obtain ⟨hx, hcb, hml, hown, hts, hlk, hK, hZ⟩ := X
  have hl : lv_has ls 3 [(0, .ref (w.2.2 0)), (1, .int x), (2, .int y)] := hl
  have hm8_ := hO.2.1
  have hd4_ := hO.2.2.2.1
  have hy24_ := hO.2.2.2.2.2
  refine lv_aload_n hx hcb dX10_certificate_0 rfl (lv_at hl 0 rfl) ?_
  refine lv_aload_n hx hcb dX10_certificate_1 rfl (lv_at hl 0 rfl) ?_
  refine lv_iload_n hx hcb dX10_certificate_2 rfl (lv_at hl 1 rfl) ?_
  refine x_ci0 rfl rfl (x_runV hx hcb hml hown hts (c_X10_isMember l G w hw z _ x hO) mv_X10_isMember q_1456 hK hZ hR hS (hw.lo (by decide)) xc10 (hw.s0 rfl) rfl hl.1 rfl (Nat.le_of_ble_eq_true rfl) dX10_certificate_3 ⟨by decide, by decide⟩ ⟨by decide, by decide⟩) hS (fun r_1 z_2 H locs hp_3 hR hS => ?_)
  rw [hp_3.2] at hR; rw [hp_3.1]
  refine x_ci0 rfl rfl (x_runV hx hcb hml hown hts (c_X10_checks l G w hw z _ (if inR x (mQ z 12) then 1 else 0) (inR x (mQ z 12)) rfl) mv_X10_checks q_1460 hK hZ hR hS (hw.lo (by decide)) xc10 (hw.s0 rfl) rfl hl.1 rfl (Nat.le_of_ble_eq_true rfl) dX10_certificate_6 ⟨by decide, by decide⟩ ⟨by decide, by decide⟩) hS (fun r_4 z_5 H locs hp_6 hR hS => ?_)
  rw [hp_6.2] at hR; rw [hp_6.1]
  refine lv_if_ne (tgt := 14) hx hcb dX10_certificate_9 (by decide) (fun c_7 => ?_) (fun c_7 => ?_)
  · skip
    have h_ : inR x (mQ z 12) := Classical.byContradiction (fun q_ => c_7 (if_neg q_))
    have hxk_ := inR_k (n := mQ z 12) (by omega) h_
    obtain ⟨k_, ek_⟩ : ∃ q_, q_ = x.toNatClampNeg := ⟨_, rfl⟩
    rw [← ek_] at hxk_
    have hltk_ := hxk_.2
    rw [hxk_.1] at hl
    refine lv_aload_n hx hcb dX10_certificate_14 rfl (lv_at hl 0 rfl) ?_
    refine lv_iload_n hx hcb dX10_certificate_15 rfl (lv_at hl 2 rfl) ?_
    refine x_ci0 rfl rfl (x_runV hx hcb hml hown hts (c_X10_isClosed l G w hw (ck z (inR x (mQ z 12))) _ y hO) mv_X10_isClosed q_1484 hK hZ hR hS (hw.lo (by decide)) xc10 (hw.s0 rfl) rfl hl.1 rfl (Nat.le_of_ble_eq_true rfl) dX10_certificate_16 ⟨by decide, by decide⟩ ⟨by decide, by decide⟩) hS (fun r_8 z_9 H locs hp_10 hR hS => ?_)
    rw [hp_10.2] at hR; rw [hp_10.1]
    refine x_top (show (if inR y (yQ (ck z (inR x (mQ z 12)))) then 1 else 0) = (if inR y (yQ z) then 1 else 0) from rfl) ?_
    refine lv_if_eq (tgt := 31) hx hcb dX10_certificate_19 (by decide) (fun c_11 => ?_) (fun c_11 => ?_)
    · skip
      have h2_ : ¬ (inR y (yQ z)) := fun q_ => absurd c_11 (by rw [if_pos q_]; decide)
      refine lv_bipush (v := (-2)) hx hcb dX10_certificate_31 (by decide) ?_
      exact hret (-2) (ck z (inR x (mQ z 12))) _ _ _ _ dX10_certificate_33 rfl hR hS (⟨by first | (rw [if_pos h_, if_pos h2_, ← ek_, ← ej_]; rfl) | (rw [if_pos h_, if_neg h2_]; done), rfl⟩)
    · skip
      have h2_ : inR y (yQ z) := Classical.byContradiction (fun q_ => c_11 (if_neg q_))
      have hxj_ := inR_k (n := yQ z) (by omega) h2_
      obtain ⟨j_, ej_⟩ : ∃ q_, q_ = y.toNatClampNeg := ⟨_, rfl⟩
      rw [← ej_] at hxj_
      have hltj_ := hxj_.2
      rw [hxj_.1] at hl
      refine lv_aload_n hx hcb dX10_certificate_22 rfl (lv_at hl 0 rfl) ?_
      refine lv_iload_n hx hcb dX10_certificate_23 rfl (lv_at hl 1 rfl) ?_
      refine lv_iload_n hx hcb dX10_certificate_24 rfl (lv_at hl 2 rfl) ?_
      refine x_ci0 rfl rfl (x_runV hx hcb hml hown hts (c_X10_left l G w hw (ck z (inR x (mQ z 12))) _ k_ j_ (by omega) (by omega)) mv_X10_left q_1390 hK hZ hR hS (hw.lo (by decide)) xc10 (hw.s0 rfl) rfl hl.1 rfl (Nat.le_of_ble_eq_true rfl) dX10_certificate_25 ⟨by decide, by decide⟩ ⟨by decide, by decide⟩) hS (fun r_12 z_13 H locs hp_14 hR hS => ?_)
      rw [hp_14.2] at hR; rw [hp_14.1]
      refine lv_goto (tgt := 33) hx hcb dX10_certificate_28 (by decide) ?_
      exact hret (lfQ (ck z (inR x (mQ z 12))) k_ j_) (ck z (inR x (mQ z 12))) _ _ _ _ dX10_certificate_33 rfl hR hS (⟨by first | (rw [if_pos h_, if_pos h2_, ← ek_, ← ej_]; rfl) | (rw [if_pos h_, if_neg h2_]; done), rfl⟩)
  · skip
    have h_ : ¬ (inR x (mQ z 12)) := fun q_ => absurd c_7 (by rw [if_pos q_]; decide)
    refine lv_iconst (v := (nI 0)) hx hcb dX10_certificate_12 (by decide) ?_
    exact hret (nI 0) (ck z (inR x (mQ z 12))) _ _ _ _ dX10_certificate_13 rfl hR hS (⟨by rw [if_neg h_]; rfl, rfl⟩)
def rm_X10_kindOf : Room := { frames := 1, cells := 0, slots := 0, locals := 22 }
set_option maxRecDepth 100000 in
set_option maxHeartbeats 4000000 in
theorem c_X10_kindOf (l : Launch) (G : xGl) (w : xWd) (hw : isM w) (z : xSt) (sz : Nat) (x : Int32) (y : Int32) (hO : rOk z) : xMi l yX10_kindOf cX10_kindOf 3 (some FieldType.int) rm_X10_kindOf G w z sz [.ref (w.2.2 0), .int x, .int y] (fun r z1 => r = (if inR x (mQ z 12) then (if inR y (yQ z) then (if lfQ z x.toNatClampNeg y.toNatClampNeg = 0 then (-1) else z.1 4 (253 + 24 * x.toNatClampNeg + y.toNatClampNeg)) else (-2)) else 0) ∧ z1 = ck z (inR x (mQ z 12))) := by
  refine x_mi (by decide) (Nat.le_of_ble_eq_true rfl) ?_
  intro p e s mt args below meth c ls Q hsz X hR hS hl hret
  obtain ⟨hx, hcb, hml, hown, hts, hlk, hK, hZ⟩ := X
  have hl : lv_has ls 3 [(0, .ref (w.2.2 0)), (1, .int x), (2, .int y)] := hl
  have hm8_ := hO.2.1
  have hd4_ := hO.2.2.2.1
  have hy24_ := hO.2.2.2.2.2
  refine lv_aload_n hx hcb dX10_kindOf_0 rfl (lv_at hl 0 rfl) ?_
  refine lv_aload_n hx hcb dX10_kindOf_1 rfl (lv_at hl 0 rfl) ?_
  refine lv_iload_n hx hcb dX10_kindOf_2 rfl (lv_at hl 1 rfl) ?_
  refine x_ci0 rfl rfl (x_runV hx hcb hml hown hts (c_X10_isMember l G w hw z _ x hO) mv_X10_isMember q_1456 hK hZ hR hS (hw.lo (by decide)) xc10 (hw.s0 rfl) rfl hl.1 rfl (Nat.le_of_ble_eq_true rfl) dX10_kindOf_3 ⟨by decide, by decide⟩ ⟨by decide, by decide⟩) hS (fun r_1 z_2 H locs hp_3 hR hS => ?_)
  rw [hp_3.2] at hR; rw [hp_3.1]
  refine x_ci0 rfl rfl (x_runV hx hcb hml hown hts (c_X10_checks l G w hw z _ (if inR x (mQ z 12) then 1 else 0) (inR x (mQ z 12)) rfl) mv_X10_checks q_1460 hK hZ hR hS (hw.lo (by decide)) xc10 (hw.s0 rfl) rfl hl.1 rfl (Nat.le_of_ble_eq_true rfl) dX10_kindOf_6 ⟨by decide, by decide⟩ ⟨by decide, by decide⟩) hS (fun r_4 z_5 H locs hp_6 hR hS => ?_)
  rw [hp_6.2] at hR; rw [hp_6.1]
  refine lv_if_ne (tgt := 14) hx hcb dX10_kindOf_9 (by decide) (fun c_7 => ?_) (fun c_7 => ?_)
  · skip
    have h_ : inR x (mQ z 12) := Classical.byContradiction (fun q_ => c_7 (if_neg q_))
    have hxk_ := inR_k (n := mQ z 12) (by omega) h_
    obtain ⟨k_, ek_⟩ : ∃ q_, q_ = x.toNatClampNeg := ⟨_, rfl⟩
    rw [← ek_] at hxk_
    have hltk_ := hxk_.2
    rw [hxk_.1] at hl
    refine lv_aload_n hx hcb dX10_kindOf_14 rfl (lv_at hl 0 rfl) ?_
    refine lv_iload_n hx hcb dX10_kindOf_15 rfl (lv_at hl 2 rfl) ?_
    refine x_ci0 rfl rfl (x_runV hx hcb hml hown hts (c_X10_isClosed l G w hw (ck z (inR x (mQ z 12))) _ y hO) mv_X10_isClosed q_1484 hK hZ hR hS (hw.lo (by decide)) xc10 (hw.s0 rfl) rfl hl.1 rfl (Nat.le_of_ble_eq_true rfl) dX10_kindOf_16 ⟨by decide, by decide⟩ ⟨by decide, by decide⟩) hS (fun r_8 z_9 H locs hp_10 hR hS => ?_)
    rw [hp_10.2] at hR; rw [hp_10.1]
    refine x_top (show (if inR y (yQ (ck z (inR x (mQ z 12)))) then 1 else 0) = (if inR y (yQ z) then 1 else 0) from rfl) ?_
    refine lv_if_ne (tgt := 25) hx hcb dX10_kindOf_19 (by decide) (fun c_11 => ?_) (fun c_11 => ?_)
    · skip
      have h2_ : inR y (yQ z) := Classical.byContradiction (fun q_ => c_11 (if_neg q_))
      have hxj_ := inR_k (n := yQ z) (by omega) h2_
      obtain ⟨j_, ej_⟩ : ∃ q_, q_ = y.toNatClampNeg := ⟨_, rfl⟩
      rw [← ej_] at hxj_
      have hltj_ := hxj_.2
      rw [hxj_.1] at hl
      refine lv_aload_n hx hcb dX10_kindOf_25 rfl (lv_at hl 0 rfl) ?_
      refine lv_iload_n hx hcb dX10_kindOf_26 rfl (lv_at hl 1 rfl) ?_
      refine lv_iload_n hx hcb dX10_kindOf_27 rfl (lv_at hl 2 rfl) ?_
      refine x_ci0 rfl rfl (x_runV hx hcb hml hown hts (c_X10_left l G w hw (ck z (inR x (mQ z 12))) _ k_ j_ (by omega) (by omega)) mv_X10_left q_1390 hK hZ hR hS (hw.lo (by decide)) xc10 (hw.s0 rfl) rfl hl.1 rfl (Nat.le_of_ble_eq_true rfl) dX10_kindOf_28 ⟨by decide, by decide⟩ ⟨by decide, by decide⟩) hS (fun r_12 z_13 H locs hp_14 hR hS => ?_)
      rw [hp_14.2] at hR; rw [hp_14.1]
      refine lv_if_ne (tgt := 38) hx hcb dX10_kindOf_31 (by decide) (fun c_15 => ?_) (fun c_15 => ?_)
      · skip
        have h3_ : ¬ lfQ z k_ j_ = 0 := c_15
        refine lv_aload_n hx hcb dX10_kindOf_38 rfl (lv_at hl 0 rfl) ?_
        refine x_getR hx hcb hts hown hK xc10 hR (hw.lo (by decide)) (hw.s0 rfl) 5 (by decide) rfl q_1171 dX10_kindOf_39 ?_
        refine lv_sipush (v := (nI 253)) hx hcb dX10_kindOf_42 (by decide) ?_
        refine lv_bipush (v := (nI 24)) hx hcb dX10_kindOf_45 (by decide) ?_
        refine lv_iload_n hx hcb dX10_kindOf_47 rfl (lv_at hl 1 rfl) ?_
        refine x_imulN hx hcb dX10_kindOf_48 ?_
        refine x_iaddN hx hcb dX10_kindOf_49 ?_
        refine lv_iload_n hx hcb dX10_kindOf_50 rfl (lv_at hl 2 rfl) ?_
        refine x_iaddN hx hcb dX10_kindOf_51 ?_
        refine x_iald hx hcb hK hR (hw.lo (by decide)) (hw.s0 rfl) (k := ((253 + (24 * k_)) + j_)) (by omega) (by decide) dX10_kindOf_52 ?_
        exact hret ((ck z (inR x (mQ z 12))).1 4 ((253 + (24 * k_)) + j_)) (ck z (inR x (mQ z 12))) _ _ _ _ dX10_kindOf_53 rfl hR hS (⟨by first | (rw [if_pos h_, if_pos h2_, ← ek_, ← ej_, if_pos h3_]; done) | (rw [if_pos h_, if_pos h2_, ← ek_, ← ej_, if_neg h3_]; rfl), rfl⟩)
      · skip
        have h3_ : lfQ z k_ j_ = 0 := c_15
        refine lv_iconst (v := (-1)) hx hcb dX10_kindOf_34 (by decide) ?_
        refine lv_goto (tgt := 53) hx hcb dX10_kindOf_35 (by decide) ?_
        exact hret (-1) (ck z (inR x (mQ z 12))) _ _ _ _ dX10_kindOf_53 rfl hR hS (⟨by first | (rw [if_pos h_, if_pos h2_, ← ek_, ← ej_, if_pos h3_]; done) | (rw [if_pos h_, if_pos h2_, ← ek_, ← ej_, if_neg h3_]; rfl), rfl⟩)
    · skip
      have h2_ : ¬ (inR y (yQ z)) := fun q_ => absurd c_11 (by rw [if_pos q_]; decide)
      refine lv_bipush (v := (-2)) hx hcb dX10_kindOf_22 (by decide) ?_
      exact hret (-2) (ck z (inR x (mQ z 12))) _ _ _ _ dX10_kindOf_24 rfl hR hS (⟨by rw [if_pos h_, if_neg h2_], rfl⟩)
  · skip
    have h_ : ¬ (inR x (mQ z 12)) := fun q_ => absurd c_7 (by rw [if_pos q_]; decide)
    refine lv_iconst (v := (nI 0)) hx hcb dX10_kindOf_12 (by decide) ?_
    exact hret (nI 0) (ck z (inR x (mQ z 12))) _ _ _ _ dX10_kindOf_13 rfl hR hS (⟨by rw [if_neg h_]; rfl, rfl⟩)
def rm_X10_equityOf : Room := { frames := 2, cells := 0, slots := 0, locals := 45 }
set_option maxRecDepth 100000 in
set_option maxHeartbeats 4000000 in
theorem c_X10_equityOf (l : Launch) (G : xGl) (w : xWd) (hw : isM w) (z : xSt) (sz : Nat) (x : Int32) (hO : rOk z) : xMi l yX10_equityOf cX10_equityOf 2 (some FieldType.int) rm_X10_equityOf G w z sz [.ref (w.2.2 0), .int x] (fun r z1 => r = (if inR x (mQ z 12) then eqQ z x.toNatClampNeg else 0) ∧ z1 = ck z (inR x (mQ z 12))) := by
  refine x_mi (by decide) (Nat.le_of_ble_eq_true rfl) ?_
  intro p e s mt args below meth c ls Q hsz X hR hS hl hret
  obtain ⟨hx, hcb, hml, hown, hts, hlk, hK, hZ⟩ := X
  have hl : lv_has ls 2 [(0, .ref (w.2.2 0)), (1, .int x)] := hl
  have hm8_ := hO.2.1
  have hd4_ := hO.2.2.2.1
  have hy24_ := hO.2.2.2.2.2
  refine lv_aload_n hx hcb dX10_equityOf_0 rfl (lv_at hl 0 rfl) ?_
  refine lv_aload_n hx hcb dX10_equityOf_1 rfl (lv_at hl 0 rfl) ?_
  refine lv_iload_n hx hcb dX10_equityOf_2 rfl (lv_at hl 1 rfl) ?_
  refine x_ci0 rfl rfl (x_runV hx hcb hml hown hts (c_X10_isMember l G w hw z _ x hO) mv_X10_isMember q_1456 hK hZ hR hS (hw.lo (by decide)) xc10 (hw.s0 rfl) rfl hl.1 rfl (Nat.le_of_ble_eq_true rfl) dX10_equityOf_3 ⟨by decide, by decide⟩ ⟨by decide, by decide⟩) hS (fun r_1 z_2 H locs hp_3 hR hS => ?_)
  rw [hp_3.2] at hR; rw [hp_3.1]
  refine x_ci0 rfl rfl (x_runV hx hcb hml hown hts (c_X10_checks l G w hw z _ (if inR x (mQ z 12) then 1 else 0) (inR x (mQ z 12)) rfl) mv_X10_checks q_1460 hK hZ hR hS (hw.lo (by decide)) xc10 (hw.s0 rfl) rfl hl.1 rfl (Nat.le_of_ble_eq_true rfl) dX10_equityOf_6 ⟨by decide, by decide⟩ ⟨by decide, by decide⟩) hS (fun r_4 z_5 H locs hp_6 hR hS => ?_)
  rw [hp_6.2] at hR; rw [hp_6.1]
  refine lv_if_eq (tgt := 20) hx hcb dX10_equityOf_9 (by decide) (fun c_7 => ?_) (fun c_7 => ?_)
  · skip
    have h_ : ¬ (inR x (mQ z 12)) := fun q_ => absurd c_7 (by rw [if_pos q_]; decide)
    refine lv_iconst (v := (nI 0)) hx hcb dX10_equityOf_20 (by decide) ?_
    exact hret (nI 0) (ck z (inR x (mQ z 12))) _ _ _ _ dX10_equityOf_21 rfl hR hS (⟨by first | (rw [if_pos h_, ← ek_]; rfl) | (rw [if_neg h_]; rfl), rfl⟩)
  · skip
    have h_ : inR x (mQ z 12) := Classical.byContradiction (fun q_ => c_7 (if_neg q_))
    have hxk_ := inR_k (n := mQ z 12) (by omega) h_
    obtain ⟨k_, ek_⟩ : ∃ q_, q_ = x.toNatClampNeg := ⟨_, rfl⟩
    rw [← ek_] at hxk_
    have hltk_ := hxk_.2
    rw [hxk_.1] at hl
    refine lv_aload_n hx hcb dX10_equityOf_12 rfl (lv_at hl 0 rfl) ?_
    refine lv_iload_n hx hcb dX10_equityOf_13 rfl (lv_at hl 1 rfl) ?_
    refine x_ci0 rfl rfl (x_runV hx hcb hml hown hts (c_X10_equity l G w hw (ck z (inR x (mQ z 12))) _ k_ (by omega)) mv_X10_equity q_1403 hK hZ hR hS (hw.lo (by decide)) xc10 (hw.s0 rfl) rfl hl.1 rfl (Nat.le_of_ble_eq_true rfl) dX10_equityOf_14 ⟨by decide, by decide⟩ ⟨by decide, by decide⟩) hS (fun r_8 z_9 H locs hp_10 hR hS => ?_)
    rw [hp_10.2] at hR; rw [hp_10.1]
    refine lv_goto (tgt := 21) hx hcb dX10_equityOf_17 (by decide) ?_
    exact hret (eqQ (ck z (inR x (mQ z 12))) k_) (ck z (inR x (mQ z 12))) _ _ _ _ dX10_equityOf_21 rfl hR hS (⟨by first | (rw [if_pos h_, ← ek_]; rfl) | (rw [if_neg h_]; rfl), rfl⟩)
def rm_X10_equityOfKind : Room := { frames := 1, cells := 0, slots := 0, locals := 22 }
set_option maxRecDepth 100000 in
set_option maxHeartbeats 4000000 in
theorem c_X10_equityOfKind (l : Launch) (G : xGl) (w : xWd) (hw : isM w) (z : xSt) (sz : Nat) (m : Nat) (kd : Int32) (hO : rOk z) (hm : m < 8) : xMi l yX10_equityOfKind cX10_equityOfKind 5 (some FieldType.int) rm_X10_equityOfKind G w z sz [.ref (w.2.2 0), .int (nI m), .int kd] (fun r z1 => r = bx_sum (fun y => if z.1 4 (253 + 24 * m + y) = kd then lfQ z m y else 0) (yQ z) ∧ z1 = z) := by
  refine x_mi (by decide) (Nat.le_of_ble_eq_true rfl) ?_
  intro p e s mt args below meth c ls Q hsz X hR hS hl hret
  obtain ⟨hx, hcb, hml, hown, hts, hlk, hK, hZ⟩ := X
  have hl : lv_has ls 5 [(0, .ref (w.2.2 0)), (1, .int (nI m)), (2, .int kd)] := hl
  have hm8_ := hO.2.1
  have hd4_ := hO.2.2.2.1
  have hy24_ := hO.2.2.2.2.2
  refine lv_iconst (v := (nI 0)) hx hcb dX10_equityOfKind_0 (by decide) ?_
  refine lv_istore_n (lv' := [(3, .int (nI 0)), (0, .ref (w.2.2 0)), (1, .int (nI m)), (2, .int kd)]) hx hcb dX10_equityOfKind_1 rfl hl (by decide) rfl (fun ls hl => ?_)
  refine lv_iconst (v := (nI 0)) hx hcb dX10_equityOfKind_2 (by decide) ?_
  refine lv_istore (lv' := [(4, .int (nI 0)), (3, .int (nI 0)), (0, .ref (w.2.2 0)), (1, .int (nI m)), (2, .int kd)]) hx hcb dX10_equityOfKind_3 hl (by decide) rfl (fun ls hl => ?_)
  rw [show (nI 0) = (bx_sum (fun y => if z.1 4 (253 + 24 * m + y) = kd then lfQ z m y else 0) 0) from rfl] at hl
  suffices LP_5 : ∀ (nn : Nat) (i_ : Nat) (_ : yQ z - i_ < nn) (hi_ : i_ ≤ yQ z) (H : Heap) (locs : List Loc) (ls : Array Slot), Rh G w z H → va_S (xA w s.heap.size) s.heap H locs → lv_has ls 5 [(0, .ref (w.2.2 0)), (1, .int (nI m)), (2, .int kd), (3, .int (bx_sum (fun y => if z.1 4 (253 + 24 * m + y) = kd then lfQ z m y else 0) i_)), (4, .int (nI i_))] → W p l e rm_X10_equityOfKind s mt args below meth c H locs 0 0 Q (F0 mt 5 ls []) from LP_5 ((_) + 1) 0 (Nat.lt_succ_self _) (Nat.zero_le _) _ _ _ hR hS (lv_sub hl [2, 3, 4, 1, 0] rfl)
  intro nn
  induction nn with
  | zero => intro i_ hm_ ; exact absurd hm_ (Nat.not_lt_zero _)
  | succ nn ih_5 =>
    intro i_ hm_5 hi_ H locs ls hR hS hl
    refine lv_iload hx hcb dX10_equityOfKind_5 (lv_at hl 4 rfl) ?_
    refine lv_aload_n hx hcb dX10_equityOfKind_7 rfl (lv_at hl 0 rfl) ?_
    refine x_getR hx hcb hts hown hK xc10 hR (hw.lo (by decide)) (hw.s0 rfl) 5 (by decide) rfl q_1171 dX10_equityOfKind_8 ?_
    refine lv_sipush (v := (nI 494)) hx hcb dX10_equityOfKind_11 (by decide) ?_
    refine x_iald hx hcb hK hR (hw.lo (by decide)) (hw.s0 rfl) (k := 494) (by omega) (by decide) dX10_equityOfKind_14 ?_
    refine x_top (show (z.1 4 494) = (nI (yQ z)) from hO.2.2.2.2.1) ?_
    refine lv_icmp_ge (tgt := 58) hx hcb dX10_equityOfKind_15 (by decide) (fun c_1 => ?_) (fun c_1 => ?_)
    · skip
      have c_1 : (yQ z) ≤ i_ := (nI_leI (by omega) (by omega)).mp c_1
      obtain rfl : yQ z = i_ := by omega
      refine lv_iload_n hx hcb dX10_equityOfKind_58 rfl (lv_at hl 3 rfl) ?_
      exact hret (bx_sum (fun y => if z.1 4 (253 + 24 * m + y) = kd then lfQ z m y else 0) (yQ z)) z _ _ _ _ dX10_equityOfKind_59 rfl hR hS (⟨rfl, rfl⟩)
    · skip
      have c_1 : ¬ (yQ z) ≤ i_ := fun h_ => c_1 ((nI_leI (by omega) (by omega)).mpr h_)
      refine lv_iload_n hx hcb dX10_equityOfKind_18 rfl (lv_at hl 3 rfl) ?_
      refine lv_aload_n hx hcb dX10_equityOfKind_19 rfl (lv_at hl 0 rfl) ?_
      refine x_getR hx hcb hts hown hK xc10 hR (hw.lo (by decide)) (hw.s0 rfl) 5 (by decide) rfl q_1171 dX10_equityOfKind_20 ?_
      refine lv_sipush (v := (nI 253)) hx hcb dX10_equityOfKind_23 (by decide) ?_
      refine lv_bipush (v := (nI 24)) hx hcb dX10_equityOfKind_26 (by decide) ?_
      refine lv_iload_n hx hcb dX10_equityOfKind_28 rfl (lv_at hl 1 rfl) ?_
      refine x_imulN hx hcb dX10_equityOfKind_29 ?_
      refine x_iaddN hx hcb dX10_equityOfKind_30 ?_
      refine lv_iload hx hcb dX10_equityOfKind_31 (lv_at hl 4 rfl) ?_
      refine x_iaddN hx hcb dX10_equityOfKind_33 ?_
      refine x_iald hx hcb hK hR (hw.lo (by decide)) (hw.s0 rfl) (k := ((253 + (24 * m)) + i_)) (by omega) (by decide) dX10_equityOfKind_34 ?_
      refine lv_iload_n hx hcb dX10_equityOfKind_35 rfl (lv_at hl 2 rfl) ?_
      refine lv_icmp_ne (tgt := 49) hx hcb dX10_equityOfKind_36 (by decide) (fun c_2 => ?_) (fun c_2 => ?_)
      · skip
        have hq_ := c_2
        refine lv_iconst (v := (nI 0)) hx hcb dX10_equityOfKind_49 (by decide) ?_
        refine lv_iadd hx hcb dX10_equityOfKind_50 ?_
        refine lv_istore_n (lv' := [(3, .int ((bx_sum (fun y => if z.1 4 (253 + 24 * m + y) = kd then lfQ z m y else 0) i_) + (nI 0))), (0, .ref (w.2.2 0)), (1, .int (nI m)), (2, .int kd), (4, .int (nI i_))]) hx hcb dX10_equityOfKind_51 rfl hl (by decide) rfl (fun ls hl => ?_)
        refine lv_iinc (v := (nI (i_ + 1))) (lv' := [(4, .int (nI (i_ + 1))), (3, .int ((bx_sum (fun y => if z.1 4 (253 + 24 * m + y) = kd then lfQ z m y else 0) i_) + (nI 0))), (0, .ref (w.2.2 0)), (1, .int (nI m)), (2, .int kd)]) hx hcb dX10_equityOfKind_52 hl (k := 4) rfl (x_iinc1 _) (by decide) rfl (fun ls hl => ?_)
        refine lv_goto (tgt := 5) hx hcb dX10_equityOfKind_55 (by decide) ?_
        rw [show ((bx_sum (fun y => if z.1 4 (253 + 24 * m + y) = kd then lfQ z m y else 0) i_) + (nI 0)) = (bx_sum (fun y => if z.1 4 (253 + 24 * m + y) = kd then lfQ z m y else 0) (i_ + 1)) from by show _ = bx_sum (fun y => if z.1 4 (253 + 24 * m + y) = kd then lfQ z m y else 0) i_ + (fun y => if z.1 4 (253 + 24 * m + y) = kd then lfQ z m y else 0) i_; first | (dsimp only; rw [if_pos hq_]; done) | (dsimp only; rw [if_neg hq_]; rfl)] at hl
        exact ih_5 (i_ + 1) (by omega) (by omega) _ _ _ hR hS (lv_sub hl [2, 3, 4, 1, 0] rfl)
      · skip
        have hq_ := c_2
        refine lv_aload_n hx hcb dX10_equityOfKind_39 rfl (lv_at hl 0 rfl) ?_
        refine lv_iload_n hx hcb dX10_equityOfKind_40 rfl (lv_at hl 1 rfl) ?_
        refine lv_iload hx hcb dX10_equityOfKind_41 (lv_at hl 4 rfl) ?_
        refine x_ci0 rfl rfl (x_runV hx hcb hml hown hts (c_X10_left l G w hw z _ m i_ (by omega) (by omega)) mv_X10_left q_1390 hK hZ hR hS (hw.lo (by decide)) xc10 (hw.s0 rfl) rfl hl.1 rfl (Nat.le_of_ble_eq_true rfl) dX10_equityOfKind_43 ⟨by decide, by decide⟩ ⟨by decide, by decide⟩) hS (fun r_3 z_4 H locs hp_5 hR hS => ?_)
        rw [hp_5.2] at hR; rw [hp_5.1]
        refine lv_goto (tgt := 50) hx hcb dX10_equityOfKind_46 (by decide) ?_
        refine lv_iadd hx hcb dX10_equityOfKind_50 ?_
        refine lv_istore_n (lv' := [(3, .int ((bx_sum (fun y => if z.1 4 (253 + 24 * m + y) = kd then lfQ z m y else 0) i_) + (lfQ z m i_))), (0, .ref (w.2.2 0)), (1, .int (nI m)), (2, .int kd), (4, .int (nI i_))]) hx hcb dX10_equityOfKind_51 rfl hl (by decide) rfl (fun ls hl => ?_)
        refine lv_iinc (v := (nI (i_ + 1))) (lv' := [(4, .int (nI (i_ + 1))), (3, .int ((bx_sum (fun y => if z.1 4 (253 + 24 * m + y) = kd then lfQ z m y else 0) i_) + (lfQ z m i_))), (0, .ref (w.2.2 0)), (1, .int (nI m)), (2, .int kd)]) hx hcb dX10_equityOfKind_52 hl (k := 4) rfl (x_iinc1 _) (by decide) rfl (fun ls hl => ?_)
        refine lv_goto (tgt := 5) hx hcb dX10_equityOfKind_55 (by decide) ?_
        rw [show ((bx_sum (fun y => if z.1 4 (253 + 24 * m + y) = kd then lfQ z m y else 0) i_) + (lfQ z m i_)) = (bx_sum (fun y => if z.1 4 (253 + 24 * m + y) = kd then lfQ z m y else 0) (i_ + 1)) from by show _ = bx_sum (fun y => if z.1 4 (253 + 24 * m + y) = kd then lfQ z m y else 0) i_ + (fun y => if z.1 4 (253 + 24 * m + y) = kd then lfQ z m y else 0) i_; first | (dsimp only; rw [if_pos hq_]; done) | (dsimp only; rw [if_neg hq_]; rfl)] at hl
        exact ih_5 (i_ + 1) (by omega) (by omega) _ _ _ hR hS (lv_sub hl [2, 3, 4, 1, 0] rfl)
def rm_X10_equityIn : Room := { frames := 2, cells := 0, slots := 0, locals := 46 }
set_option maxRecDepth 100000 in
set_option maxHeartbeats 4000000 in
theorem c_X10_equityIn (l : Launch) (G : xGl) (w : xWd) (hw : isM w) (z : xSt) (sz : Nat) (x : Int32) (kd : Int32) (hO : rOk z) : xMi l yX10_equityIn cX10_equityIn 3 (some FieldType.int) rm_X10_equityIn G w z sz [.ref (w.2.2 0), .int x, .int kd] (fun r z1 => r = (if inR x (mQ z 12) then (if kd = 0 ∨ kd = nI 1 then bx_sum (fun y => if z.1 4 (253 + 24 * x.toNatClampNeg + y) = kd then lfQ z x.toNatClampNeg y else 0) (yQ z) else (-2)) else 0) ∧ z1 = ck z (inR x (mQ z 12))) := by
  refine x_mi (by decide) (Nat.le_of_ble_eq_true rfl) ?_
  intro p e s mt args below meth c ls Q hsz X hR hS hl hret
  obtain ⟨hx, hcb, hml, hown, hts, hlk, hK, hZ⟩ := X
  have hl : lv_has ls 3 [(0, .ref (w.2.2 0)), (1, .int x), (2, .int kd)] := hl
  have hm8_ := hO.2.1
  have hd4_ := hO.2.2.2.1
  have hy24_ := hO.2.2.2.2.2
  refine lv_aload_n hx hcb dX10_equityIn_0 rfl (lv_at hl 0 rfl) ?_
  refine lv_aload_n hx hcb dX10_equityIn_1 rfl (lv_at hl 0 rfl) ?_
  refine lv_iload_n hx hcb dX10_equityIn_2 rfl (lv_at hl 1 rfl) ?_
  refine x_ci0 rfl rfl (x_runV hx hcb hml hown hts (c_X10_isMember l G w hw z _ x hO) mv_X10_isMember q_1456 hK hZ hR hS (hw.lo (by decide)) xc10 (hw.s0 rfl) rfl hl.1 rfl (Nat.le_of_ble_eq_true rfl) dX10_equityIn_3 ⟨by decide, by decide⟩ ⟨by decide, by decide⟩) hS (fun r_1 z_2 H locs hp_3 hR hS => ?_)
  rw [hp_3.2] at hR; rw [hp_3.1]
  refine x_ci0 rfl rfl (x_runV hx hcb hml hown hts (c_X10_checks l G w hw z _ (if inR x (mQ z 12) then 1 else 0) (inR x (mQ z 12)) rfl) mv_X10_checks q_1460 hK hZ hR hS (hw.lo (by decide)) xc10 (hw.s0 rfl) rfl hl.1 rfl (Nat.le_of_ble_eq_true rfl) dX10_equityIn_6 ⟨by decide, by decide⟩ ⟨by decide, by decide⟩) hS (fun r_4 z_5 H locs hp_6 hR hS => ?_)
  rw [hp_6.2] at hR; rw [hp_6.1]
  refine lv_if_ne (tgt := 14) hx hcb dX10_equityIn_9 (by decide) (fun c_7 => ?_) (fun c_7 => ?_)
  · skip
    have h_ : inR x (mQ z 12) := Classical.byContradiction (fun q_ => c_7 (if_neg q_))
    have hxk_ := inR_k (n := mQ z 12) (by omega) h_
    obtain ⟨k_, ek_⟩ : ∃ q_, q_ = x.toNatClampNeg := ⟨_, rfl⟩
    rw [← ek_] at hxk_
    have hltk_ := hxk_.2
    rw [hxk_.1] at hl
    refine lv_iload_n hx hcb dX10_equityIn_14 rfl (lv_at hl 2 rfl) ?_
    refine lv_if_eq (tgt := 23) hx hcb dX10_equityIn_15 (by decide) (fun c_8 => ?_) (fun c_8 => ?_)
    · skip
      have h2_ : kd = 0 ∨ kd = nI 1 := Or.inl c_8
      refine lv_aload_n hx hcb dX10_equityIn_23 rfl (lv_at hl 0 rfl) ?_
      refine lv_iload_n hx hcb dX10_equityIn_24 rfl (lv_at hl 1 rfl) ?_
      refine lv_iload_n hx hcb dX10_equityIn_25 rfl (lv_at hl 2 rfl) ?_
      refine x_ci0 rfl rfl (x_runV hx hcb hml hown hts (c_X10_equityOfKind l G w hw (ck z (inR x (mQ z 12))) _ k_ kd hO (by omega)) mv_X10_equityOfKind q_1500 hK hZ hR hS (hw.lo (by decide)) xc10 (hw.s0 rfl) rfl hl.1 rfl (Nat.le_of_ble_eq_true rfl) dX10_equityIn_26 ⟨by decide, by decide⟩ ⟨by decide, by decide⟩) hS (fun r_9 z_10 H locs hp_11 hR hS => ?_)
      rw [hp_11.2] at hR; rw [hp_11.1]
      refine lv_goto (tgt := 34) hx hcb dX10_equityIn_29 (by decide) ?_
      exact hret (bx_sum (fun y => if (ck z (inR x (mQ z 12))).1 4 (253 + 24 * k_ + y) = kd then lfQ (ck z (inR x (mQ z 12))) k_ y else 0) (yQ (ck z (inR x (mQ z 12))))) (ck z (inR x (mQ z 12))) _ _ _ _ dX10_equityIn_34 rfl hR hS (⟨by first | (rw [if_pos h_, if_pos h2_, ← ek_]; rfl) | (rw [if_pos h_, if_neg h2_]; done), rfl⟩)
    · skip
      have h0_ := c_8
      refine lv_iload_n hx hcb dX10_equityIn_18 rfl (lv_at hl 2 rfl) ?_
      refine lv_iconst (v := (nI 1)) hx hcb dX10_equityIn_19 (by decide) ?_
      refine lv_icmp_ne (tgt := 32) hx hcb dX10_equityIn_20 (by decide) (fun c_12 => ?_) (fun c_12 => ?_)
      · skip
        have h2_ : ¬ (kd = 0 ∨ kd = nI 1) := fun q_ => q_.elim h0_ c_12
        refine lv_bipush (v := (-2)) hx hcb dX10_equityIn_32 (by decide) ?_
        exact hret (-2) (ck z (inR x (mQ z 12))) _ _ _ _ dX10_equityIn_34 rfl hR hS (⟨by first | (rw [if_pos h_, if_pos h2_, ← ek_]; rfl) | (rw [if_pos h_, if_neg h2_]; done), rfl⟩)
      · skip
        have h2_ : kd = 0 ∨ kd = nI 1 := Or.inr c_12
        refine lv_aload_n hx hcb dX10_equityIn_23 rfl (lv_at hl 0 rfl) ?_
        refine lv_iload_n hx hcb dX10_equityIn_24 rfl (lv_at hl 1 rfl) ?_
        refine lv_iload_n hx hcb dX10_equityIn_25 rfl (lv_at hl 2 rfl) ?_
        refine x_ci0 rfl rfl (x_runV hx hcb hml hown hts (c_X10_equityOfKind l G w hw (ck z (inR x (mQ z 12))) _ k_ kd hO (by omega)) mv_X10_equityOfKind q_1500 hK hZ hR hS (hw.lo (by decide)) xc10 (hw.s0 rfl) rfl hl.1 rfl (Nat.le_of_ble_eq_true rfl) dX10_equityIn_26 ⟨by decide, by decide⟩ ⟨by decide, by decide⟩) hS (fun r_13 z_14 H locs hp_15 hR hS => ?_)
        rw [hp_15.2] at hR; rw [hp_15.1]
        refine lv_goto (tgt := 34) hx hcb dX10_equityIn_29 (by decide) ?_
        exact hret (bx_sum (fun y => if (ck z (inR x (mQ z 12))).1 4 (253 + 24 * k_ + y) = kd then lfQ (ck z (inR x (mQ z 12))) k_ y else 0) (yQ (ck z (inR x (mQ z 12))))) (ck z (inR x (mQ z 12))) _ _ _ _ dX10_equityIn_34 rfl hR hS (⟨by first | (rw [if_pos h_, if_pos h2_, ← ek_]; rfl) | (rw [if_pos h_, if_neg h2_]; done), rfl⟩)
  · skip
    have h_ : ¬ (inR x (mQ z 12)) := fun q_ => absurd c_7 (by rw [if_pos q_]; decide)
    refine lv_iconst (v := (nI 0)) hx hcb dX10_equityIn_12 (by decide) ?_
    exact hret (nI 0) (ck z (inR x (mQ z 12))) _ _ _ _ dX10_equityIn_13 rfl hR hS (⟨by rw [if_neg h_]; rfl, rfl⟩)
def rm_X10_totalEquity : Room := { frames := 2, cells := 0, slots := 0, locals := 45 }
set_option maxRecDepth 100000 in
set_option maxHeartbeats 4000000 in
theorem c_X10_totalEquity (l : Launch) (G : xGl) (w : xWd) (hw : isM w) (z : xSt) (sz : Nat)  (hO : rOk z) : xMi l yX10_totalEquity cX10_totalEquity 3 (some FieldType.int) rm_X10_totalEquity G w z sz [.ref (w.2.2 0)] (fun r z1 => r = bx_sum (eqQ z) (mQ z 12) ∧ z1 = u1 z 0 0 0) := by
  refine x_mi (by decide) (Nat.le_of_ble_eq_true rfl) ?_
  intro p e s mt args below meth c ls Q hsz X hR hS hl hret
  obtain ⟨hx, hcb, hml, hown, hts, hlk, hK, hZ⟩ := X
  have hl : lv_has ls 3 [(0, .ref (w.2.2 0))] := hl
  have hm8_ := hO.2.1
  have hd4_ := hO.2.2.2.1
  have hy24_ := hO.2.2.2.2.2
  refine lv_aload_n hx hcb dX10_totalEquity_0 rfl (lv_at hl 0 rfl) ?_
  refine lv_iconst (v := (nI 0)) hx hcb dX10_totalEquity_1 (by decide) ?_
  refine x_putI hx hcb hts hown hK xc10 hR hS (hw.lo (by decide)) (hw.s0 rfl) 0 (by decide) rfl q_1166 rfl (v := 0) rfl rfl dX10_totalEquity_2 (fun H locs hR hS => ?_)
  refine lv_iconst (v := (nI 0)) hx hcb dX10_totalEquity_5 (by decide) ?_
  refine lv_istore_n (lv' := [(1, .int (nI 0)), (0, .ref (w.2.2 0))]) hx hcb dX10_totalEquity_6 rfl hl (by decide) rfl (fun ls hl => ?_)
  refine lv_iconst (v := (nI 0)) hx hcb dX10_totalEquity_7 (by decide) ?_
  refine lv_istore_n (lv' := [(2, .int (nI 0)), (1, .int (nI 0)), (0, .ref (w.2.2 0))]) hx hcb dX10_totalEquity_8 rfl hl (by decide) rfl (fun ls hl => ?_)
  rw [show (nI 0) = (bx_sum (eqQ z) 0) from rfl] at hl
  suffices LP_9 : ∀ (nn : Nat) (i_ : Nat) (_ : mQ z 12 - i_ < nn) (hi_ : i_ ≤ mQ z 12) (H : Heap) (locs : List Loc) (ls : Array Slot), Rh G w (u1 z 0 0 0) H → va_S (xA w s.heap.size) s.heap H locs → lv_has ls 3 [(0, .ref (w.2.2 0)), (1, .int (bx_sum (eqQ z) i_)), (2, .int (nI i_))] → W p l e rm_X10_totalEquity s mt args below meth c H locs 0 0 Q (F0 mt 9 ls []) from LP_9 ((_) + 1) 0 (Nat.lt_succ_self _) (Nat.zero_le _) _ _ _ hR hS (lv_sub hl [2, 1, 0] rfl)
  intro nn
  induction nn with
  | zero => intro i_ hm_ ; exact absurd hm_ (Nat.not_lt_zero _)
  | succ nn ih_9 =>
    intro i_ hm_9 hi_ H locs ls hR hS hl
    refine lv_iload_n hx hcb dX10_totalEquity_9 rfl (lv_at hl 2 rfl) ?_
    refine lv_aload_n hx hcb dX10_totalEquity_10 rfl (lv_at hl 0 rfl) ?_
    refine x_getR hx hcb hts hown hK xc10 hR (hw.lo (by decide)) (hw.s0 rfl) 3 (by decide) rfl q_1169 dX10_totalEquity_11 ?_
    refine lv_bipush (v := (nI 12)) hx hcb dX10_totalEquity_14 (by decide) ?_
    refine x_iald hx hcb hK hR (hw.lo (by decide)) (hw.s0 rfl) (k := 12) (by omega) (by decide) dX10_totalEquity_16 ?_
    refine x_top (show ((u1 z 0 0 0).1 2 12) = (nI (mQ z 12)) from hO.1) ?_
    refine lv_icmp_ge (tgt := 34) hx hcb dX10_totalEquity_17 (by decide) (fun c_1 => ?_) (fun c_1 => ?_)
    · skip
      have c_1 : (mQ z 12) ≤ i_ := (nI_leI (by omega) (by omega)).mp c_1
      obtain rfl : mQ z 12 = i_ := by omega
      refine lv_iload_n hx hcb dX10_totalEquity_34 rfl (lv_at hl 1 rfl) ?_
      exact hret (bx_sum (eqQ z) (mQ z 12)) (u1 z 0 0 0) _ _ _ _ dX10_totalEquity_35 rfl hR hS (⟨rfl, rfl⟩)
    · skip
      have c_1 : ¬ (mQ z 12) ≤ i_ := fun h_ => c_1 ((nI_leI (by omega) (by omega)).mpr h_)
      refine lv_iload_n hx hcb dX10_totalEquity_20 rfl (lv_at hl 1 rfl) ?_
      refine lv_aload_n hx hcb dX10_totalEquity_21 rfl (lv_at hl 0 rfl) ?_
      refine lv_iload_n hx hcb dX10_totalEquity_22 rfl (lv_at hl 2 rfl) ?_
      refine x_ci0 rfl rfl (x_runV hx hcb hml hown hts (c_X10_equity l G w hw (u1 z 0 0 0) _ i_ (by omega)) mv_X10_equity q_1403 hK hZ hR hS (hw.lo (by decide)) xc10 (hw.s0 rfl) rfl hl.1 rfl (Nat.le_of_ble_eq_true rfl) dX10_totalEquity_23 ⟨by decide, by decide⟩ ⟨by decide, by decide⟩) hS (fun r_2 z_3 H locs hp_4 hR hS => ?_)
      rw [hp_4.2] at hR; rw [hp_4.1]
      refine x_top (show (eqQ (u1 z 0 0 0) i_) = (eqQ z i_) from rfl) ?_
      refine lv_iadd hx hcb dX10_totalEquity_26 ?_
      refine lv_istore_n (lv' := [(1, .int ((bx_sum (eqQ z) i_) + (eqQ z i_))), (0, .ref (w.2.2 0)), (2, .int (nI i_))]) hx hcb dX10_totalEquity_27 rfl hl (by decide) rfl (fun ls hl => ?_)
      refine lv_iinc (v := (nI (i_ + 1))) (lv' := [(2, .int (nI (i_ + 1))), (1, .int ((bx_sum (eqQ z) i_) + (eqQ z i_))), (0, .ref (w.2.2 0))]) hx hcb dX10_totalEquity_28 hl (k := 2) rfl (x_iinc1 _) (by decide) rfl (fun ls hl => ?_)
      refine lv_goto (tgt := 9) hx hcb dX10_totalEquity_31 (by decide) ?_
      exact ih_9 (i_ + 1) (by omega) (by omega) _ _ _ hR hS (lv_sub hl [2, 1, 0] rfl)
def rm_X10_paidTo : Room := { frames := 1, cells := 0, slots := 0, locals := 21 }
set_option maxRecDepth 100000 in
set_option maxHeartbeats 4000000 in
theorem c_X10_paidTo (l : Launch) (G : xGl) (w : xWd) (hw : isM w) (z : xSt) (sz : Nat) (x : Int32) (y : Int32) (hO : rOk z) : xMi l yX10_paidTo cX10_paidTo 3 (some FieldType.int) rm_X10_paidTo G w z sz [.ref (w.2.2 0), .int x, .int y] (fun r z1 => r = (if inR x (mQ z 12) then (if inR y 3 then z.1 4 (445 + 3 * x.toNatClampNeg + y.toNatClampNeg) else (-2)) else 0) ∧ z1 = ck z (inR x (mQ z 12))) := by
  refine x_mi (by decide) (Nat.le_of_ble_eq_true rfl) ?_
  intro p e s mt args below meth c ls Q hsz X hR hS hl hret
  obtain ⟨hx, hcb, hml, hown, hts, hlk, hK, hZ⟩ := X
  have hl : lv_has ls 3 [(0, .ref (w.2.2 0)), (1, .int x), (2, .int y)] := hl
  have hm8_ := hO.2.1
  have hd4_ := hO.2.2.2.1
  have hy24_ := hO.2.2.2.2.2
  refine lv_aload_n hx hcb dX10_paidTo_0 rfl (lv_at hl 0 rfl) ?_
  refine lv_aload_n hx hcb dX10_paidTo_1 rfl (lv_at hl 0 rfl) ?_
  refine lv_iload_n hx hcb dX10_paidTo_2 rfl (lv_at hl 1 rfl) ?_
  refine x_ci0 rfl rfl (x_runV hx hcb hml hown hts (c_X10_isMember l G w hw z _ x hO) mv_X10_isMember q_1456 hK hZ hR hS (hw.lo (by decide)) xc10 (hw.s0 rfl) rfl hl.1 rfl (Nat.le_of_ble_eq_true rfl) dX10_paidTo_3 ⟨by decide, by decide⟩ ⟨by decide, by decide⟩) hS (fun r_1 z_2 H locs hp_3 hR hS => ?_)
  rw [hp_3.2] at hR; rw [hp_3.1]
  refine x_ci0 rfl rfl (x_runV hx hcb hml hown hts (c_X10_checks l G w hw z _ (if inR x (mQ z 12) then 1 else 0) (inR x (mQ z 12)) rfl) mv_X10_checks q_1460 hK hZ hR hS (hw.lo (by decide)) xc10 (hw.s0 rfl) rfl hl.1 rfl (Nat.le_of_ble_eq_true rfl) dX10_paidTo_6 ⟨by decide, by decide⟩ ⟨by decide, by decide⟩) hS (fun r_4 z_5 H locs hp_6 hR hS => ?_)
  rw [hp_6.2] at hR; rw [hp_6.1]
  refine lv_if_ne (tgt := 14) hx hcb dX10_paidTo_9 (by decide) (fun c_7 => ?_) (fun c_7 => ?_)
  · skip
    have h_ : inR x (mQ z 12) := Classical.byContradiction (fun q_ => c_7 (if_neg q_))
    have hxk_ := inR_k (n := mQ z 12) (by omega) h_
    obtain ⟨k_, ek_⟩ : ∃ q_, q_ = x.toNatClampNeg := ⟨_, rfl⟩
    rw [← ek_] at hxk_
    have hltk_ := hxk_.2
    rw [hxk_.1] at hl
    refine lv_iload_n hx hcb dX10_paidTo_14 rfl (lv_at hl 2 rfl) ?_
    refine lv_if_lt (tgt := 40) hx hcb dX10_paidTo_15 (by decide) (fun c_8 => ?_) (fun c_8 => ?_)
    · skip
      have h2_ : ¬ inR y 3 := fun q_ => q_.1 c_8
      refine lv_bipush (v := (-2)) hx hcb dX10_paidTo_40 (by decide) ?_
      exact hret (-2) (ck z (inR x (mQ z 12))) _ _ _ _ dX10_paidTo_42 rfl hR hS (⟨by first | (rw [if_pos h_, if_pos h2_, ← ek_, ← ej_]; rfl) | (rw [if_pos h_, if_neg h2_]; done), rfl⟩)
    · skip
      have h0_ := c_8
      refine lv_iload_n hx hcb dX10_paidTo_18 rfl (lv_at hl 2 rfl) ?_
      refine lv_iconst (v := (nI 2)) hx hcb dX10_paidTo_19 (by decide) ?_
      refine lv_icmp_gt (tgt := 40) hx hcb dX10_paidTo_20 (by decide) (fun c_9 => ?_) (fun c_9 => ?_)
      · skip
        have h2_ : ¬ inR y 3 := fun q_ => absurd c_9 (le2 q_)
        refine lv_bipush (v := (-2)) hx hcb dX10_paidTo_40 (by decide) ?_
        exact hret (-2) (ck z (inR x (mQ z 12))) _ _ _ _ dX10_paidTo_42 rfl hR hS (⟨by first | (rw [if_pos h_, if_pos h2_, ← ek_, ← ej_]; rfl) | (rw [if_pos h_, if_neg h2_]; done), rfl⟩)
      · skip
        have h2_ : inR y 3 := ⟨h0_, lt3 (Int32.not_lt.mp c_9)⟩
        have hxj_ := inR_k (n := 3) (by omega) h2_
        obtain ⟨j_, ej_⟩ : ∃ q_, q_ = y.toNatClampNeg := ⟨_, rfl⟩
        rw [← ej_] at hxj_
        have hltj_ := hxj_.2
        rw [hxj_.1] at hl
        refine lv_aload_n hx hcb dX10_paidTo_23 rfl (lv_at hl 0 rfl) ?_
        refine x_getR hx hcb hts hown hK xc10 hR (hw.lo (by decide)) (hw.s0 rfl) 5 (by decide) rfl q_1171 dX10_paidTo_24 ?_
        refine lv_sipush (v := (nI 445)) hx hcb dX10_paidTo_27 (by decide) ?_
        refine lv_iconst (v := (nI 3)) hx hcb dX10_paidTo_30 (by decide) ?_
        refine lv_iload_n hx hcb dX10_paidTo_31 rfl (lv_at hl 1 rfl) ?_
        refine x_imulN hx hcb dX10_paidTo_32 ?_
        refine x_iaddN hx hcb dX10_paidTo_33 ?_
        refine lv_iload_n hx hcb dX10_paidTo_34 rfl (lv_at hl 2 rfl) ?_
        refine x_iaddN hx hcb dX10_paidTo_35 ?_
        refine x_iald hx hcb hK hR (hw.lo (by decide)) (hw.s0 rfl) (k := ((445 + (3 * k_)) + j_)) (by omega) (by decide) dX10_paidTo_36 ?_
        refine lv_goto (tgt := 42) hx hcb dX10_paidTo_37 (by decide) ?_
        exact hret ((ck z (inR x (mQ z 12))).1 4 ((445 + (3 * k_)) + j_)) (ck z (inR x (mQ z 12))) _ _ _ _ dX10_paidTo_42 rfl hR hS (⟨by first | (rw [if_pos h_, if_pos h2_, ← ek_, ← ej_]; rfl) | (rw [if_pos h_, if_neg h2_]; done), rfl⟩)
  · skip
    have h_ : ¬ (inR x (mQ z 12)) := fun q_ => absurd c_7 (by rw [if_pos q_]; decide)
    refine lv_iconst (v := (nI 0)) hx hcb dX10_paidTo_12 (by decide) ?_
    exact hret (nI 0) (ck z (inR x (mQ z 12))) _ _ _ _ dX10_paidTo_13 rfl hR hS (⟨by rw [if_neg h_]; rfl, rfl⟩)
