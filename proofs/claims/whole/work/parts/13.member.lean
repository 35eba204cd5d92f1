def rm_X5_equity : Room := { frames := 0, cells := 0, slots := 0, locals := 0 }
set_option maxRecDepth 100000 in
set_option maxHeartbeats 4000000 in
theorem c_X5_equity (l : Launch) (G : xGl) (w : xWd) (K : Nat) (hw : isC K w) (z : xSt) (sz : Nat) (b m : Nat) (hb : b < 2 + K) (hm : m < 8)  : xMi l yX5_equity cX5_equity 3 (some FieldType.int) rm_X5_equity G w z sz [.ref (w.2.2 (oM b m))] (fun r z1 => r = bx_sum (z.1 (oLf b m)) 25 ∧ z1 = z) := by
  refine x_mi (by decide) (Nat.le_of_ble_eq_true rfl) ?_
  intro p e s mt args below meth c ls Q hsz X hR hS hl hret
  obtain ⟨hx, hcb, hml, hown, hts, hlk, hK, hZ⟩ := X
  have hl : lv_has ls 3 [(0, .ref (w.2.2 (oM b m)))] := hl
  refine lv_iconst (v := (nI 0)) hx hcb dX5_equity_0 (by decide) ?_
  refine lv_istore_n (lv' := [(1, .int (nI 0)), (0, .ref (w.2.2 (oM b m)))]) hx hcb dX5_equity_1 rfl hl (by decide) rfl (fun ls hl => ?_)
  refine lv_iconst (v := (nI 0)) hx hcb dX5_equity_2 (by decide) ?_
  refine lv_istore_n (lv' := [(2, .int (nI 0)), (1, .int (nI 0)), (0, .ref (w.2.2 (oM b m)))]) hx hcb dX5_equity_3 rfl hl (by decide) rfl (fun ls hl => ?_)
  suffices LP_4 : ∀ (nn : Nat) (i_ : Nat) (_ : 25 - i_ < nn) (hi_ : i_ ≤ 25) (H : Heap) (locs : List Loc) (ls : Array Slot), Rh G w z H → va_S (xA w s.heap.size) s.heap H locs → lv_has ls 3 [(0, .ref (w.2.2 (oM b m))), (1, .int (bx_sum (z.1 (oLf b m)) i_)), (2, .int (nI i_))] → W p l e rm_X5_equity s mt args below meth c H locs 0 0 Q (F0 mt 4 ls []) from LP_4 ((_) + 1) 0 (Nat.lt_succ_self _) (by omega) _ _ _ hR hS (lv_sub hl [2, 1, 0] rfl)
  intro nn
  induction nn with
  | zero => intro i_ hm_ ; exact absurd hm_ (Nat.not_lt_zero _)
  | succ nn ih_4 =>
    intro i_ hm_4 hi_ H locs ls hR hS hl
    refine lv_iload_n hx hcb dX5_equity_4 rfl (lv_at hl 2 rfl) ?_
    refine lv_bipush (v := (nI 25)) hx hcb dX5_equity_5 (by decide) ?_
    refine lv_icmp_ge (tgt := 25) hx hcb dX5_equity_7 (by decide) (fun c_1 => ?_) (fun c_1 => ?_)
    · skip
      have c_1 : 25 ≤ i_ := (nI_leI (by omega) (by omega)).mp c_1
      obtain rfl : 25 = i_ := by omega
      refine lv_iload_n hx hcb dX5_equity_25 rfl (lv_at hl 1 rfl) ?_
      exact hret (bx_sum (z.1 (oLf b m)) 25) z _ _ _ _ dX5_equity_26 rfl hR hS (⟨rfl, rfl⟩)
    · skip
      have c_1 : ¬ 25 ≤ i_ := fun h_ => c_1 ((nI_leI (by omega) (by omega)).mpr h_)
      refine lv_iload_n hx hcb dX5_equity_10 rfl (lv_at hl 1 rfl) ?_
      refine lv_aload_n hx hcb dX5_equity_11 rfl (lv_at hl 0 rfl) ?_
      refine x_getR hx hcb hts hown hK xc5 hR (hoM hw hb hm) (hsM hw hm) 7 (by decide) rfl q_200 dX5_equity_12 ?_
      refine lv_iload_n hx hcb dX5_equity_15 rfl (lv_at hl 2 rfl) ?_
      refine x_iald hx hcb hK hR (hoLf hw hb hm) (hsLf hw hm) (k := i_) (by omega) (by decide) dX5_equity_16 ?_
      refine lv_iadd hx hcb dX5_equity_17 ?_
      refine lv_istore_n (lv' := [(1, .int ((bx_sum (z.1 (oLf b m)) i_) + (z.1 (oLf b m) i_))), (0, .ref (w.2.2 (oM b m))), (2, .int (nI i_))]) hx hcb dX5_equity_18 rfl hl (by decide) rfl (fun ls hl => ?_)
      refine lv_iinc (v := (nI (i_ + 1))) (lv' := [(2, .int (nI (i_ + 1))), (1, .int ((bx_sum (z.1 (oLf b m)) i_) + (z.1 (oLf b m) i_))), (0, .ref (w.2.2 (oM b m)))]) hx hcb dX5_equity_19 hl (k := 2) rfl (x_iinc1 _) (by decide) rfl (fun ls hl => ?_)
      refine lv_goto (tgt := 4) hx hcb dX5_equity_22 (by decide) ?_
      exact ih_4 (i_ + 1) (by omega) (by omega) _ _ _ hR hS (lv_sub hl [2, 1, 0] rfl)
def rm_X5_equityOfKind : Room := { frames := 0, cells := 0, slots := 0, locals := 0 }
set_option maxRecDepth 100000 in
set_option maxHeartbeats 4000000 in
theorem c_X5_equityOfKind (l : Launch) (G : xGl) (w : xWd) (K : Nat) (hw : isC K w) (z : xSt) (sz : Nat) (b m : Nat) (hb : b < 2 + K) (hm : m < 8) (kind : Int32)  : xMi l yX5_equityOfKind cX5_equityOfKind 4 (some FieldType.int) rm_X5_equityOfKind G w z sz [.ref (w.2.2 (oM b m)), .int kind] (fun r z1 => r = bx_sum (fun y => if (z.1 (oKd b m)) y = kind then (z.1 (oLf b m)) y else 0) 25 ∧ z1 = z) := by
  refine x_mi (by decide) (Nat.le_of_ble_eq_true rfl) ?_
  intro p e s mt args below meth c ls Q hsz X hR hS hl hret
  obtain ⟨hx, hcb, hml, hown, hts, hlk, hK, hZ⟩ := X
  have hl : lv_has ls 4 [(0, .ref (w.2.2 (oM b m))), (1, .int kind)] := hl
  refine lv_iconst (v := (nI 0)) hx hcb dX5_equityOfKind_0 (by decide) ?_
  refine lv_istore_n (lv' := [(2, .int (nI 0)), (0, .ref (w.2.2 (oM b m))), (1, .int kind)]) hx hcb dX5_equityOfKind_1 rfl hl (by decide) rfl (fun ls hl => ?_)
  refine lv_iconst (v := (nI 0)) hx hcb dX5_equityOfKind_2 (by decide) ?_
  refine lv_istore_n (lv' := [(3, .int (nI 0)), (2, .int (nI 0)), (0, .ref (w.2.2 (oM b m))), (1, .int kind)]) hx hcb dX5_equityOfKind_3 rfl hl (by decide) rfl (fun ls hl => ?_)
  suffices LP_4 : ∀ (nn : Nat) (i_ : Nat) (_ : 25 - i_ < nn) (hi_ : i_ ≤ 25) (H : Heap) (locs : List Loc) (ls : Array Slot), Rh G w z H → va_S (xA w s.heap.size) s.heap H locs → lv_has ls 4 [(0, .ref (w.2.2 (oM b m))), (1, .int kind), (2, .int (bx_sum (fun y => if (z.1 (oKd b m)) y = kind then (z.1 (oLf b m)) y else 0) i_)), (3, .int (nI i_))] → W p l e rm_X5_equityOfKind s mt args below meth c H locs 0 0 Q (F0 mt 4 ls []) from LP_4 ((_) + 1) 0 (Nat.lt_succ_self _) (by omega) _ _ _ hR hS (lv_sub hl [2, 3, 1, 0] rfl)
  intro nn
  induction nn with
  | zero => intro i_ hm_ ; exact absurd hm_ (Nat.not_lt_zero _)
  | succ nn ih_4 =>
    intro i_ hm_4 hi_ H locs ls hR hS hl
    refine lv_iload_n hx hcb dX5_equityOfKind_4 rfl (lv_at hl 3 rfl) ?_
    refine lv_bipush (v := (nI 25)) hx hcb dX5_equityOfKind_5 (by decide) ?_
    refine lv_icmp_ge (tgt := 35) hx hcb dX5_equityOfKind_7 (by decide) (fun c_1 => ?_) (fun c_1 => ?_)
    · skip
      have c_1 : 25 ≤ i_ := (nI_leI (by omega) (by omega)).mp c_1
      obtain rfl : 25 = i_ := by omega
      refine lv_iload_n hx hcb dX5_equityOfKind_35 rfl (lv_at hl 2 rfl) ?_
      exact hret (bx_sum (fun y => if (z.1 (oKd b m)) y = kind then (z.1 (oLf b m)) y else 0) 25) z _ _ _ _ dX5_equityOfKind_36 rfl hR hS (⟨rfl, rfl⟩)
    · skip
      have c_1 : ¬ 25 ≤ i_ := fun h_ => c_1 ((nI_leI (by omega) (by omega)).mpr h_)
      refine lv_aload_n hx hcb dX5_equityOfKind_10 rfl (lv_at hl 0 rfl) ?_
      refine x_getR hx hcb hts hown hK xc5 hR (hoM hw hb hm) (hsM hw hm) 8 (by decide) rfl q_204 dX5_equityOfKind_11 ?_
      refine lv_iload_n hx hcb dX5_equityOfKind_14 rfl (lv_at hl 3 rfl) ?_
      refine x_iald hx hcb hK hR (hoKd hw hb hm) (hsKd hw hm) (k := i_) (by omega) (by decide) dX5_equityOfKind_15 ?_
      refine lv_iload_n hx hcb dX5_equityOfKind_16 rfl (lv_at hl 1 rfl) ?_
      refine lv_icmp_ne (tgt := 29) hx hcb dX5_equityOfKind_17 (by decide) (fun c_2 => ?_) (fun c_2 => ?_)
      · skip
        refine lv_iinc (v := (nI (i_ + 1))) (lv' := [(3, .int (nI (i_ + 1))), (0, .ref (w.2.2 (oM b m))), (1, .int kind), (2, .int (bx_sum (fun y => if (z.1 (oKd b m)) y = kind then (z.1 (oLf b m)) y else 0) i_))]) hx hcb dX5_equityOfKind_29 hl (k := 3) rfl (x_iinc1 _) (by decide) rfl (fun ls hl => ?_)
        refine lv_goto (tgt := 4) hx hcb dX5_equityOfKind_32 (by decide) ?_
        rw [show (bx_sum (fun y => if (z.1 (oKd b m)) y = kind then (z.1 (oLf b m)) y else 0) i_) = (bx_sum (fun y => if (z.1 (oKd b m)) y = kind then (z.1 (oLf b m)) y else 0) (i_ + 1)) from by simp only [bx_sum]; split <;> simp_all] at hl
        exact ih_4 (i_ + 1) (by omega) (by omega) _ _ _ hR hS (lv_sub hl [1, 2, 3, 0] rfl)
      · skip
        refine lv_iload_n hx hcb dX5_equityOfKind_20 rfl (lv_at hl 2 rfl) ?_
        refine lv_aload_n hx hcb dX5_equityOfKind_21 rfl (lv_at hl 0 rfl) ?_
        refine x_getR hx hcb hts hown hK xc5 hR (hoM hw hb hm) (hsM hw hm) 7 (by decide) rfl q_200 dX5_equityOfKind_22 ?_
        refine lv_iload_n hx hcb dX5_equityOfKind_25 rfl (lv_at hl 3 rfl) ?_
        refine x_iald hx hcb hK hR (hoLf hw hb hm) (hsLf hw hm) (k := i_) (by omega) (by decide) dX5_equityOfKind_26 ?_
        refine lv_iadd hx hcb dX5_equityOfKind_27 ?_
        refine lv_istore_n (lv' := [(2, .int ((bx_sum (fun y => if (z.1 (oKd b m)) y = kind then (z.1 (oLf b m)) y else 0) i_) + (z.1 (oLf b m) i_))), (0, .ref (w.2.2 (oM b m))), (1, .int kind), (3, .int (nI i_))]) hx hcb dX5_equityOfKind_28 rfl hl (by decide) rfl (fun ls hl => ?_)
        refine lv_iinc (v := (nI (i_ + 1))) (lv' := [(3, .int (nI (i_ + 1))), (2, .int ((bx_sum (fun y => if (z.1 (oKd b m)) y = kind then (z.1 (oLf b m)) y else 0) i_) + (z.1 (oLf b m) i_))), (0, .ref (w.2.2 (oM b m))), (1, .int kind)]) hx hcb dX5_equityOfKind_29 hl (k := 3) rfl (x_iinc1 _) (by decide) rfl (fun ls hl => ?_)
        refine lv_goto (tgt := 4) hx hcb dX5_equityOfKind_32 (by decide) ?_
        rw [show ((bx_sum (fun y => if (z.1 (oKd b m)) y = kind then (z.1 (oLf b m)) y else 0) i_) + (z.1 (oLf b m) i_)) = (bx_sum (fun y => if (z.1 (oKd b m)) y = kind then (z.1 (oLf b m)) y else 0) (i_ + 1)) from by simp only [bx_sum]; split <;> simp_all] at hl
        exact ih_4 (i_ + 1) (by omega) (by omega) _ _ _ hR hS (lv_sub hl [2, 3, 1, 0] rfl)
def rm_X5_weightedAge : Room := { frames := 0, cells := 0, slots := 0, locals := 0 }
set_option maxRecDepth 100000 in
set_option maxHeartbeats 4000000 in
theorem c_X5_weightedAge (l : Launch) (G : xGl) (w : xWd) (K : Nat) (hw : isC K w) (z : xSt) (sz : Nat) (b m : Nat) (hb : b < 2 + K) (hm : m < 8) (py : Int32)  : xMl l yX5_weightedAge cX5_weightedAge 5 (some FieldType.long) rm_X5_weightedAge G w z sz [.ref (w.2.2 (oM b m)), .int py] (fun r z1 => r = xls (fun y => ((z.1 (oLf b m)) y).toInt64 * (py - nI y).toInt64) 25 ∧ z1 = z) := by
  refine x_ml (by decide) (Nat.le_of_ble_eq_true rfl) ?_
  intro p e s mt args below meth c ls Q hsz X hR hS hl hret
  obtain ⟨hx, hcb, hml, hown, hts, hlk, hK, hZ⟩ := X
  have hl : lv_has ls 5 [(0, .ref (w.2.2 (oM b m))), (1, .int py)] := hl
  refine lv_lconst (v := 0) hx hcb dX5_weightedAge_0 (by decide) ?_
  refine lv_lstore_n (lv' := [(2, .long 0), (0, .ref (w.2.2 (oM b m))), (1, .int py)]) hx hcb dX5_weightedAge_1 rfl hl (by decide) rfl (fun ls hl => ?_)
  refine lv_iconst (v := (nI 0)) hx hcb dX5_weightedAge_2 (by decide) ?_
  refine lv_istore (lv' := [(4, .int (nI 0)), (2, .long 0), (0, .ref (w.2.2 (oM b m))), (1, .int py)]) hx hcb dX5_weightedAge_3 hl (by decide) rfl (fun ls hl => ?_)
  suffices LP_5 : ∀ (nn : Nat) (i_ : Nat) (_ : 25 - i_ < nn) (hi_ : i_ ≤ 25) (H : Heap) (locs : List Loc) (ls : Array Slot), Rh G w z H → va_S (xA w s.heap.size) s.heap H locs → lv_has ls 5 [(0, .ref (w.2.2 (oM b m))), (1, .int py), (2, .long (xls (fun y => ((z.1 (oLf b m)) y).toInt64 * (py - nI y).toInt64) i_)), (4, .int (nI i_))] → W p l e rm_X5_weightedAge s mt args below meth c H locs 0 0 Q (F0 mt 5 ls []) from LP_5 ((_) + 1) 0 (Nat.lt_succ_self _) (by omega) _ _ _ hR hS (lv_sub hl [2, 3, 1, 0] rfl)
  intro nn
  induction nn with
  | zero => intro i_ hm_ ; exact absurd hm_ (Nat.not_lt_zero _)
  | succ nn ih_5 =>
    intro i_ hm_5 hi_ H locs ls hR hS hl
    refine lv_iload hx hcb dX5_weightedAge_5 (lv_at hl 3 rfl) ?_
    refine lv_bipush (v := (nI 25)) hx hcb dX5_weightedAge_7 (by decide) ?_
    refine lv_icmp_ge (tgt := 35) hx hcb dX5_weightedAge_9 (by decide) (fun c_1 => ?_) (fun c_1 => ?_)
    · skip
      have c_1 : 25 ≤ i_ := (nI_leI (by omega) (by omega)).mp c_1
      obtain rfl : 25 = i_ := by omega
      refine lv_lload_n hx hcb dX5_weightedAge_35 rfl (lv_at hl 2 rfl) ?_
      exact hret (xls (fun y => ((z.1 (oLf b m)) y).toInt64 * (py - nI y).toInt64) 25) z _ _ _ _ dX5_weightedAge_36 hR hS (⟨rfl, rfl⟩)
    · skip
      have c_1 : ¬ 25 ≤ i_ := fun h_ => c_1 ((nI_leI (by omega) (by omega)).mpr h_)
      refine lv_lload_n hx hcb dX5_weightedAge_12 rfl (lv_at hl 2 rfl) ?_
      refine lv_aload_n hx hcb dX5_weightedAge_13 rfl (lv_at hl 0 rfl) ?_
      refine x_getR hx hcb hts hown hK xc5 hR (hoM hw hb hm) (hsM hw hm) 7 (by decide) rfl q_200 dX5_weightedAge_14 ?_
      refine lv_iload hx hcb dX5_weightedAge_17 (lv_at hl 3 rfl) ?_
      refine x_iald hx hcb hK hR (hoLf hw hb hm) (hsLf hw hm) (k := i_) (by omega) (by decide) dX5_weightedAge_19 ?_
      refine lv_i2l hx hcb dX5_weightedAge_20 rfl ?_
      refine lv_iload_n hx hcb dX5_weightedAge_21 rfl (lv_at hl 1 rfl) ?_
      refine lv_iload hx hcb dX5_weightedAge_22 (lv_at hl 3 rfl) ?_
      refine lv_isub hx hcb dX5_weightedAge_24 ?_
      refine lv_i2l hx hcb dX5_weightedAge_25 rfl ?_
      refine lv_lmul hx hcb dX5_weightedAge_26 ?_
      refine lv_ladd hx hcb dX5_weightedAge_27 ?_
      refine lv_lstore_n (lv' := [(2, .long ((xls (fun y => ((z.1 (oLf b m)) y).toInt64 * (py - nI y).toInt64) i_) + (((z.1 (oLf b m) i_).toInt64) * ((py - (nI i_)).toInt64)))), (0, .ref (w.2.2 (oM b m))), (1, .int py), (4, .int (nI i_))]) hx hcb dX5_weightedAge_28 rfl hl (by decide) rfl (fun ls hl => ?_)
      refine lv_iinc (v := (nI (i_ + 1))) (lv' := [(4, .int (nI (i_ + 1))), (2, .long ((xls (fun y => ((z.1 (oLf b m)) y).toInt64 * (py - nI y).toInt64) i_) + (((z.1 (oLf b m) i_).toInt64) * ((py - (nI i_)).toInt64)))), (0, .ref (w.2.2 (oM b m))), (1, .int py)]) hx hcb dX5_weightedAge_29 hl (k := 3) rfl (x_iinc1 _) (by decide) rfl (fun ls hl => ?_)
      refine lv_goto (tgt := 5) hx hcb dX5_weightedAge_32 (by decide) ?_
      exact ih_5 (i_ + 1) (by omega) (by omega) _ _ _ hR hS (lv_sub hl [2, 3, 1, 0] rfl)
def rm_X5_earliestYear : Room := { frames := 0, cells := 0, slots := 0, locals := 0 }
set_option maxRecDepth 100000 in
set_option maxHeartbeats 4000000 in
theorem c_X5_earliestYear (l : Launch) (G : xGl) (w : xWd) (K : Nat) (hw : isC K w) (z : xSt) (sz : Nat) (b m : Nat) (hb : b < 2 + K) (hm : m < 8)  : xMi l yX5_earliestYear cX5_earliestYear 2 (some FieldType.int) rm_X5_earliestYear G w z sz [.ref (w.2.2 (oM b m))] (fun r z1 => r = xff (fun y => decide (0 < (z.1 (oLf b m)) y)) 25 0 ∧ z1 = z) := by
  refine x_mi (by decide) (Nat.le_of_ble_eq_true rfl) ?_
  intro p e s mt args below meth c ls Q hsz X hR hS hl hret
  obtain ⟨hx, hcb, hml, hown, hts, hlk, hK, hZ⟩ := X
  have hl : lv_has ls 2 [(0, .ref (w.2.2 (oM b m)))] := hl
  refine lv_iconst (v := (nI 0)) hx hcb dX5_earliestYear_0 (by decide) ?_
  refine lv_istore_n (lv' := [(1, .int (nI 0)), (0, .ref (w.2.2 (oM b m)))]) hx hcb dX5_earliestYear_1 rfl hl (by decide) rfl (fun ls hl => ?_)
  suffices LP_2 : ∀ (nn : Nat) (i_ : Nat) (_ : 25 - i_ < nn) (hi_ : i_ ≤ 25) (hf_ : xff (fun y => decide (0 < (z.1 (oLf b m)) y)) 25 0 = xff (fun y => decide (0 < (z.1 (oLf b m)) y)) (25 - i_) i_) (H : Heap) (locs : List Loc) (ls : Array Slot), Rh G w z H → va_S (xA w s.heap.size) s.heap H locs → lv_has ls 2 [(0, .ref (w.2.2 (oM b m))), (1, .int (nI i_))] → W p l e rm_X5_earliestYear s mt args below meth c H locs 0 0 Q (F0 mt 2 ls []) from LP_2 ((_) + 1) 0 (Nat.lt_succ_self _) (by omega) rfl _ _ _ hR hS (lv_sub hl [1, 0] rfl)
  intro nn
  induction nn with
  | zero => intro i_ hm_ ; exact absurd hm_ (Nat.not_lt_zero _)
  | succ nn ih_2 =>
    intro i_ hm_2 hi_ hf_ H locs ls hR hS hl
    refine lv_iload_n hx hcb dX5_earliestYear_2 rfl (lv_at hl 1 rfl) ?_
    refine lv_bipush (v := (nI 25)) hx hcb dX5_earliestYear_3 (by decide) ?_
    refine lv_icmp_ge (tgt := 25) hx hcb dX5_earliestYear_5 (by decide) (fun c_1 => ?_) (fun c_1 => ?_)
    · skip
      have c_1 : 25 ≤ i_ := (nI_leI (by omega) (by omega)).mp c_1
      obtain rfl : 25 = i_ := by omega
      refine lv_iconst (v := (-1)) hx hcb dX5_earliestYear_25 (by decide) ?_
      exact hret (-1) z _ _ _ _ dX5_earliestYear_26 rfl hR hS (⟨by rw [hf_]; rfl, rfl⟩)
    · skip
      have c_1 : ¬ 25 ≤ i_ := fun h_ => c_1 ((nI_leI (by omega) (by omega)).mpr h_)
      refine lv_aload_n hx hcb dX5_earliestYear_8 rfl (lv_at hl 0 rfl) ?_
      refine x_getR hx hcb hts hown hK xc5 hR (hoM hw hb hm) (hsM hw hm) 7 (by decide) rfl q_200 dX5_earliestYear_9 ?_
      refine lv_iload_n hx hcb dX5_earliestYear_12 rfl (lv_at hl 1 rfl) ?_
      refine x_iald hx hcb hK hR (hoLf hw hb hm) (hsLf hw hm) (k := i_) (by omega) (by decide) dX5_earliestYear_13 ?_
      refine lv_if_le (tgt := 19) hx hcb dX5_earliestYear_14 (by decide) (fun c_2 => ?_) (fun c_2 => ?_)
      · skip
        have hq_ : ¬ 0 < (z.1 (oLf b m)) i_ := Int32.not_lt.mpr c_2
        refine lv_iinc (v := (nI (i_ + 1))) (lv' := [(1, .int (nI (i_ + 1))), (0, .ref (w.2.2 (oM b m)))]) hx hcb dX5_earliestYear_19 hl (k := 1) rfl (x_iinc1 _) (by decide) rfl (fun ls hl => ?_)
        refine lv_goto (tgt := 2) hx hcb dX5_earliestYear_22 (by decide) ?_
        exact ih_2 (i_ + 1) (by omega) (by omega) (by rw [hf_, xff_s (k := 25 - (i_ + 1)) (by omega), if_neg (by simpa using hq_)]) _ _ _ hR hS (lv_sub hl [1, 0] rfl)
      · skip
        have hq_ : 0 < (z.1 (oLf b m)) i_ := Int32.not_le.mp c_2
        refine lv_iload_n hx hcb dX5_earliestYear_17 rfl (lv_at hl 1 rfl) ?_
        exact hret (nI i_) z _ _ _ _ dX5_earliestYear_18 rfl hR hS (⟨by rw [hf_, xff_s (k := 25 - (i_ + 1)) (by omega), if_pos (by simpa using hq_)], rfl⟩)
def rm_X5_hasPatronage : Room := { frames := 0, cells := 0, slots := 0, locals := 0 }
set_option maxRecDepth 100000 in
set_option maxHeartbeats 4000000 in
theorem c_X5_hasPatronage (l : Launch) (G : xGl) (w : xWd) (K : Nat) (hw : isC K w) (z : xSt) (sz : Nat) (b m : Nat) (hb : b < 2 + K) (hm : m < 8)  : xMi l yX5_hasPatronage cX5_hasPatronage 2 (some FieldType.boolean) rm_X5_hasPatronage G w z sz [.ref (w.2.2 (oM b m))] (fun r z1 => r = xan (fun y => decide (0 < (z.1 (oPt b m)) y)) 4 0 ∧ z1 = z) := by
  refine x_mi (by decide) (Nat.le_of_ble_eq_true rfl) ?_
  intro p e s mt args below meth c ls Q hsz X hR hS hl hret
  obtain ⟨hx, hcb, hml, hown, hts, hlk, hK, hZ⟩ := X
  have hl : lv_has ls 2 [(0, .ref (w.2.2 (oM b m)))] := hl
  refine lv_iconst (v := (nI 0)) hx hcb dX5_hasPatronage_0 (by decide) ?_
  refine lv_istore_n (lv' := [(1, .int (nI 0)), (0, .ref (w.2.2 (oM b m)))]) hx hcb dX5_hasPatronage_1 rfl hl (by decide) rfl (fun ls hl => ?_)
  suffices LP_2 : ∀ (nn : Nat) (i_ : Nat) (_ : 4 - i_ < nn) (hi_ : i_ ≤ 4) (hf_ : xan (fun y => decide (0 < (z.1 (oPt b m)) y)) 4 0 = xan (fun y => decide (0 < (z.1 (oPt b m)) y)) (4 - i_) i_) (H : Heap) (locs : List Loc) (ls : Array Slot), Rh G w z H → va_S (xA w s.heap.size) s.heap H locs → lv_has ls 2 [(0, .ref (w.2.2 (oM b m))), (1, .int (nI i_))] → W p l e rm_X5_hasPatronage s mt args below meth c H locs 0 0 Q (F0 mt 2 ls []) from LP_2 ((_) + 1) 0 (Nat.lt_succ_self _) (by omega) rfl _ _ _ hR hS (lv_sub hl [1, 0] rfl)
  intro nn
  induction nn with
  | zero => intro i_ hm_ ; exact absurd hm_ (Nat.not_lt_zero _)
  | succ nn ih_2 =>
    intro i_ hm_2 hi_ hf_ H locs ls hR hS hl
    refine lv_iload_n hx hcb dX5_hasPatronage_2 rfl (lv_at hl 1 rfl) ?_
    refine lv_iconst (v := (nI 4)) hx hcb dX5_hasPatronage_3 (by decide) ?_
    refine lv_icmp_ge (tgt := 24) hx hcb dX5_hasPatronage_4 (by decide) (fun c_1 => ?_) (fun c_1 => ?_)
    · skip
      have c_1 : 4 ≤ i_ := (nI_leI (by omega) (by omega)).mp c_1
      obtain rfl : 4 = i_ := by omega
      refine lv_iconst (v := (nI 0)) hx hcb dX5_hasPatronage_24 (by decide) ?_
      exact hret (nI 0) z _ _ _ _ dX5_hasPatronage_25 rfl hR hS (⟨by rw [hf_]; rfl, rfl⟩)
    · skip
      have c_1 : ¬ 4 ≤ i_ := fun h_ => c_1 ((nI_leI (by omega) (by omega)).mpr h_)
      refine lv_aload_n hx hcb dX5_hasPatronage_7 rfl (lv_at hl 0 rfl) ?_
      refine x_getR hx hcb hts hown hK xc5 hR (hoM hw hb hm) (hsM hw hm) 6 (by decide) rfl q_195 dX5_hasPatronage_8 ?_
      refine lv_iload_n hx hcb dX5_hasPatronage_11 rfl (lv_at hl 1 rfl) ?_
      refine x_iald hx hcb hK hR (hoPt hw hb hm) (hsPt hw hm) (k := i_) (by omega) (by decide) dX5_hasPatronage_12 ?_
      refine lv_if_le (tgt := 18) hx hcb dX5_hasPatronage_13 (by decide) (fun c_2 => ?_) (fun c_2 => ?_)
      · skip
        have hq_ : ¬ 0 < (z.1 (oPt b m)) i_ := Int32.not_lt.mpr c_2
        refine lv_iinc (v := (nI (i_ + 1))) (lv' := [(1, .int (nI (i_ + 1))), (0, .ref (w.2.2 (oM b m)))]) hx hcb dX5_hasPatronage_18 hl (k := 1) rfl (x_iinc1 _) (by decide) rfl (fun ls hl => ?_)
        refine lv_goto (tgt := 2) hx hcb dX5_hasPatronage_21 (by decide) ?_
        exact ih_2 (i_ + 1) (by omega) (by omega) (by rw [hf_, xan_s (k := 4 - (i_ + 1)) (by omega), if_neg (by simpa using hq_)]) _ _ _ hR hS (lv_sub hl [1, 0] rfl)
      · skip
        have hq_ : 0 < (z.1 (oPt b m)) i_ := Int32.not_le.mp c_2
        refine lv_iconst (v := (nI 1)) hx hcb dX5_hasPatronage_16 (by decide) ?_
        exact hret (nI 1) z _ _ _ _ dX5_hasPatronage_17 rfl hR hS (⟨by rw [hf_, xan_s (k := 4 - (i_ + 1)) (by omega), if_pos (by simpa using hq_)]; rfl, rfl⟩)
def rm_X5_roundedUp : Room := { frames := 0, cells := 0, slots := 0, locals := 0 }
set_option maxRecDepth 100000 in
set_option maxHeartbeats 4000000 in
theorem c_X5_roundedUp (l : Launch) (G : xGl) (w : xWd) (K : Nat) (hw : isC K w) (z : xSt) (sz : Nat) (am : Int32) (parts : Int32)  : xMi l yX5_roundedUp cX5_roundedUp 2 (some FieldType.int) rm_X5_roundedUp G w z sz [.int am, .int parts] (fun r z1 => r = rup am parts ∧ z1 = z) := by
  refine x_mi (by decide) (Nat.le_of_ble_eq_true rfl) ?_
  intro p e s mt args below meth c ls Q hsz X hR hS hl hret
  obtain ⟨hx, hcb, hml, hown, hts, hlk, hK, hZ⟩ := X
  have hl : lv_has ls 2 [(0, .int am), (1, .int parts)] := hl
  refine lv_iload_n hx hcb dX5_roundedUp_0 rfl (lv_at hl 1 rfl) ?_
  refine lv_if_le (tgt := 14) hx hcb dX5_roundedUp_1 (by decide) (fun c_1 => ?_) (fun c_1 => ?_)
  · skip
    have hq_ : ¬ 0 < parts := Int32.not_lt.mpr c_1
    refine lv_iload_n hx hcb dX5_roundedUp_14 rfl (lv_at hl 0 rfl) ?_
    exact hret am z _ _ _ _ dX5_roundedUp_15 rfl hR hS (⟨by unfold rup; first | (rw [if_pos hq_]; rfl) | rw [if_neg hq_], rfl⟩)
  · skip
    have hq_ : 0 < parts := Int32.not_le.mp c_1
    refine lv_iload_n hx hcb dX5_roundedUp_4 rfl (lv_at hl 0 rfl) ?_
    refine lv_iload_n hx hcb dX5_roundedUp_5 rfl (lv_at hl 1 rfl) ?_
    refine lv_iadd hx hcb dX5_roundedUp_6 ?_
    refine lv_iconst (v := (nI 1)) hx hcb dX5_roundedUp_7 (by decide) ?_
    refine lv_isub hx hcb dX5_roundedUp_8 ?_
    refine lv_iload_n hx hcb dX5_roundedUp_9 rfl (lv_at hl 1 rfl) ?_
    refine lv_idiv hx hcb dX5_roundedUp_10 (fun h_ => by rw [h_] at hq_; exact absurd hq_ (by decide)) ?_
    refine lv_goto (tgt := 15) hx hcb dX5_roundedUp_11 (by decide) ?_
    exact hret (((am + parts) - (nI 1)) / parts) z _ _ _ _ dX5_roundedUp_15 rfl hR hS (⟨by unfold rup; first | (rw [if_pos hq_]; rfl) | rw [if_neg hq_], rfl⟩)
def rm_X5_certify : Room := { frames := 0, cells := 0, slots := 0, locals := 0 }
set_option maxRecDepth 100000 in
set_option maxHeartbeats 4000000 in
theorem c_X5_certify (l : Launch) (G : xGl) (w : xWd) (K : Nat) (hw : isC K w) (z : xSt) (sz : Nat) (b m : Nat) (hb : b < 2 + K) (hm : m < 8) (yr : Nat) (am : Int32) (kind : Int32) (hyr : yr < 25) : xMv l yX5_certify cX5_certify 4 rm_X5_certify G w z sz [.ref (w.2.2 (oM b m)), .int (nI yr), .int am, .int kind] (fun z1 => z1 = if 0 < am then u1 (u1 z (oLf b m) yr am) (oKd b m) yr kind else z) := by
  refine x_mv (by decide) (Nat.le_of_ble_eq_true rfl) ?_
  intro p e s mt args below meth c ls Q hsz X hR hS hl hret
  obtain ⟨hx, hcb, hml, hown, hts, hlk, hK, hZ⟩ := X
  have hl : lv_has ls 4 [(0, .ref (w.2.2 (oM b m))), (1, .int (nI yr)), (2, .int am), (3, .int kind)] := hl
  refine lv_iload_n hx hcb dX5_certify_0 rfl (lv_at hl 2 rfl) ?_
  refine lv_if_le (tgt := 28) hx hcb dX5_certify_1 (by decide) (fun c_1 => ?_) (fun c_1 => ?_)
  · skip
    have hq_ : ¬ 0 < am := Int32.not_lt.mpr c_1
    exact hret z _ _ _ _ dX5_certify_28 hR hS (by first | rw [if_pos hq_] | rw [if_neg hq_])
  · skip
    have hq_ : 0 < am := Int32.not_le.mp c_1
    refine lv_iload_n hx hcb dX5_certify_4 rfl (lv_at hl 1 rfl) ?_
    refine lv_if_lt (tgt := 28) hx hcb dX5_certify_5 (by decide) (fun c_2 => ?_) (fun c_2 => ?_)
    · skip
      have c_2 : yr < 0 := (nI_ltI (a := yr) (b := 0) (by omega) (by omega)).mp c_2
      omega
    · skip
      have c_2 : ¬ yr < 0 := fun h_ => c_2 ((nI_ltI (a := yr) (b := 0) (by omega) (by omega)).mpr h_)
      refine lv_iload_n hx hcb dX5_certify_8 rfl (lv_at hl 1 rfl) ?_
      refine lv_bipush (v := (nI 25)) hx hcb dX5_certify_9 (by decide) ?_
      refine lv_icmp_ge (tgt := 28) hx hcb dX5_certify_11 (by decide) (fun c_3 => ?_) (fun c_3 => ?_)
      · skip
        have c_3 : 25 ≤ yr := (nI_leI (by omega) (by omega)).mp c_3
        omega
      · skip
        have c_3 : ¬ 25 ≤ yr := fun h_ => c_3 ((nI_leI (by omega) (by omega)).mpr h_)
        refine lv_aload_n hx hcb dX5_certify_14 rfl (lv_at hl 0 rfl) ?_
        refine x_getR hx hcb hts hown hK xc5 hR (hoM hw hb hm) (hsM hw hm) 7 (by decide) rfl q_200 dX5_certify_15 ?_
        refine lv_iload_n hx hcb dX5_certify_18 rfl (lv_at hl 1 rfl) ?_
        refine lv_iload_n hx hcb dX5_certify_19 rfl (lv_at hl 2 rfl) ?_
        refine x_iast hx hcb hK hR hS (hoLf hw hb hm) (hsLf hw hm) (k := yr) (by omega) (by decide) dX5_certify_20 (fun H locs hR hS => ?_)
        refine lv_aload_n hx hcb dX5_certify_21 rfl (lv_at hl 0 rfl) ?_
        refine x_getR hx hcb hts hown hK xc5 hR (hoM hw hb hm) (hsM hw hm) 8 (by decide) rfl q_204 dX5_certify_22 ?_
        refine lv_iload_n hx hcb dX5_certify_25 rfl (lv_at hl 1 rfl) ?_
        refine lv_iload_n hx hcb dX5_certify_26 rfl (lv_at hl 3 rfl) ?_
        refine x_iast hx hcb hK hR hS (hoKd hw hb hm) (hsKd hw hm) (k := yr) (by omega) (by decide) dX5_certify_27 (fun H locs hR hS => ?_)
        exact hret (u1 (u1 z (oLf b m) yr am) (oKd b m) yr kind) _ _ _ _ dX5_certify_28 hR hS (by first | rw [if_pos hq_] | rw [if_neg hq_])
def rm_X5_startLeaving : Room := { frames := 1, cells := 0, slots := 0, locals := 22 }
set_option maxRecDepth 100000 in
set_option maxHeartbeats 4000000 in
theorem c_X5_startLeaving (l : Launch) (G : xGl) (w : xWd) (K : Nat) (hw : isC K w) (z : xSt) (sz : Nat) (b m : Nat) (hb : b < 2 + K) (hm : m < 8) (yrs : Int32)  : xMv l yX5_startLeaving cX5_startLeaving 3 rm_X5_startLeaving G w z sz [.ref (w.2.2 (oM b m)), .int yrs] (fun z1 => z1 = if 0 < bx_sum (z.1 (oLf b m)) 25 then u1 (u1 z (oM b m) 2 1) (oM b m) 3 yrs else u1 (u1 z (oM b m) 2 2) (oM b m) 3 0) := by
  refine x_mv (by decide) (Nat.le_of_ble_eq_true rfl) ?_
  intro p e s mt args below meth c ls Q hsz X hR hS hl hret
  obtain ⟨hx, hcb, hml, hown, hts, hlk, hK, hZ⟩ := X
  have hl : lv_has ls 3 [(0, .ref (w.2.2 (oM b m))), (1, .int yrs)] := hl
  refine lv_aload_n hx hcb dX5_startLeaving_0 rfl (lv_at hl 0 rfl) ?_
  refine x_ci0 rfl rfl (x_runV hx hcb hml hown hts (c_X5_equity l G w K hw z _ b m hb hm) mv_X5_equity q_625 hK hZ hR hS (hoM hw hb hm) xc5 (hsM hw hm) rfl hl.1 rfl (Nat.le_of_ble_eq_true rfl) dX5_startLeaving_1 ⟨by decide, by decide⟩ ⟨by decide, by decide⟩) hS (fun r_1 z_2 H locs hp_3 hR hS => ?_)
  rw [hp_3.2] at hR; rw [hp_3.1]
  refine lv_if_le (tgt := 11) hx hcb dX5_startLeaving_4 (by decide) (fun c_4 => ?_) (fun c_4 => ?_)
  · skip
    have hq_ : ¬ 0 < bx_sum (z.1 (oLf b m)) 25 := Int32.not_lt.mpr c_4
    refine lv_iconst (v := (nI 0)) hx hcb dX5_startLeaving_11 (by decide) ?_
    refine lv_istore_n (lv' := [(2, .int (nI 0)), (0, .ref (w.2.2 (oM b m))), (1, .int yrs)]) hx hcb dX5_startLeaving_12 rfl hl (by decide) rfl (fun ls hl => ?_)
    refine lv_aload_n hx hcb dX5_startLeaving_13 rfl (lv_at hl 1 rfl) ?_
    refine lv_iload_n hx hcb dX5_startLeaving_14 rfl (lv_at hl 0 rfl) ?_
    refine lv_if_eq (tgt := 22) hx hcb dX5_startLeaving_15 (by decide) (fun c_5 => ?_) (fun c_5 => ?_)
    · skip
      refine lv_iconst (v := (nI 2)) hx hcb dX5_startLeaving_22 (by decide) ?_
      refine x_putI hx hcb hts hown hK xc5 hR hS (hoM hw hb hm) (hsM hw hm) 2 (by decide) rfl q_183 rfl (v := (nI 2)) rfl rfl dX5_startLeaving_23 (fun H locs hR hS => ?_)
      refine lv_aload_n hx hcb dX5_startLeaving_26 rfl (lv_at hl 1 rfl) ?_
      refine lv_iload_n hx hcb dX5_startLeaving_27 rfl (lv_at hl 0 rfl) ?_
      refine lv_if_eq (tgt := 35) hx hcb dX5_startLeaving_28 (by decide) (fun c_6 => ?_) (fun c_6 => ?_)
      · skip
        refine lv_iconst (v := (nI 0)) hx hcb dX5_startLeaving_35 (by decide) ?_
        refine x_putI hx hcb hts hown hK xc5 hR hS (hoM hw hb hm) (hsM hw hm) 3 (by decide) rfl q_187 rfl (v := (nI 0)) rfl rfl dX5_startLeaving_36 (fun H locs hR hS => ?_)
        exact hret (u1 (u1 z (oM b m) 2 (nI 2)) (oM b m) 3 (nI 0)) _ _ _ _ dX5_startLeaving_39 hR hS (by first | (rw [if_pos hq_]; rfl) | (rw [if_neg hq_]; rfl))
      · skip
        first | exact absurd c_6 (by decide) | exact absurd (by decide) c_6
    · skip
      first | exact absurd c_5 (by decide) | exact absurd (by decide) c_5
  · skip
    have hq_ : 0 < bx_sum (z.1 (oLf b m)) 25 := Int32.not_le.mp c_4
    refine lv_iconst (v := (nI 1)) hx hcb dX5_startLeaving_7 (by decide) ?_
    refine lv_goto (tgt := 12) hx hcb dX5_startLeaving_8 (by decide) ?_
    refine lv_istore_n (lv' := [(2, .int (nI 1)), (0, .ref (w.2.2 (oM b m))), (1, .int yrs)]) hx hcb dX5_startLeaving_12 rfl hl (by decide) rfl (fun ls hl => ?_)
    refine lv_aload_n hx hcb dX5_startLeaving_13 rfl (lv_at hl 1 rfl) ?_
    refine lv_iload_n hx hcb dX5_startLeaving_14 rfl (lv_at hl 0 rfl) ?_
    refine lv_if_eq (tgt := 22) hx hcb dX5_startLeaving_15 (by decide) (fun c_7 => ?_) (fun c_7 => ?_)
    · skip
      first | exact absurd c_7 (by decide) | exact absurd (by decide) c_7
    · skip
      refine lv_iconst (v := (nI 1)) hx hcb dX5_startLeaving_18 (by decide) ?_
      refine lv_goto (tgt := 23) hx hcb dX5_startLeaving_19 (by decide) ?_
      refine x_putI hx hcb hts hown hK xc5 hR hS (hoM hw hb hm) (hsM hw hm) 2 (by decide) rfl q_183 rfl (v := (nI 1)) rfl rfl dX5_startLeaving_23 (fun H locs hR hS => ?_)
      refine lv_aload_n hx hcb dX5_startLeaving_26 rfl (lv_at hl 1 rfl) ?_
      refine lv_iload_n hx hcb dX5_startLeaving_27 rfl (lv_at hl 0 rfl) ?_
      refine lv_if_eq (tgt := 35) hx hcb dX5_startLeaving_28 (by decide) (fun c_8 => ?_) (fun c_8 => ?_)
      · skip
        first | exact absurd c_8 (by decide) | exact absurd (by decide) c_8
      · skip
        refine lv_iload_n hx hcb dX5_startLeaving_31 rfl (lv_at hl 2 rfl) ?_
        refine lv_goto (tgt := 36) hx hcb dX5_startLeaving_32 (by decide) ?_
        refine x_putI hx hcb hts hown hK xc5 hR hS (hoM hw hb hm) (hsM hw hm) 3 (by decide) rfl q_187 rfl (v := yrs) rfl rfl dX5_startLeaving_36 (fun H locs hR hS => ?_)
        exact hret (u1 (u1 z (oM b m) 2 (nI 1)) (oM b m) 3 yrs) _ _ _ _ dX5_startLeaving_39 hR hS (by first | (rw [if_pos hq_]; rfl) | (rw [if_neg hq_]; rfl))
def rm_X5_recaptureFrom : Room := { frames := 1, cells := 0, slots := 0, locals := 13 }
set_option maxRecDepth 100000 in
set_option maxHeartbeats 4000000 in
theorem c_X5_recaptureFrom (l : Launch) (G : xGl) (w : xWd) (K : Nat) (hw : isC K w) (z : xSt) (sz : Nat) (b m : Nat) (hb : b < 2 + K) (hm : m < 8) (loss : Int32)  : xMi l yX5_recaptureFrom cX5_recaptureFrom 5 (some FieldType.int) rm_X5_recaptureFrom G w z sz [.ref (w.2.2 (oM b m)), .int loss] (fun r z1 => r = loss - (rcp 25 (z.1 (oLf b m)) loss).2 ∧ z1 = ur z (oLf b m) (rcp 25 (z.1 (oLf b m)) loss).1) := by
  refine x_mi (by decide) (Nat.le_of_ble_eq_true rfl) ?_
  intro p e s mt args below meth c ls Q hsz X hR hS hl hret
  obtain ⟨hx, hcb, hml, hown, hts, hlk, hK, hZ⟩ := X
  have hl : lv_has ls 5 [(0, .ref (w.2.2 (oM b m))), (1, .int loss)] := hl
  refine lv_iload_n hx hcb dX5_recaptureFrom_0 rfl (lv_at hl 1 rfl) ?_
  refine lv_istore_n (lv' := [(2, .int loss), (0, .ref (w.2.2 (oM b m))), (1, .int loss)]) hx hcb dX5_recaptureFrom_1 rfl hl (by decide) rfl (fun ls hl => ?_)
  refine lv_bipush (v := (nI 24)) hx hcb dX5_recaptureFrom_2 (by decide) ?_
  refine lv_istore_n (lv' := [(3, .int (nI 24)), (2, .int loss), (0, .ref (w.2.2 (oM b m))), (1, .int loss)]) hx hcb dX5_recaptureFrom_4 rfl hl (by decide) rfl (fun ls hl => ?_)
  rw [← ur_id z (oLf b m)] at hR
  rw [show (nI 24) = (nI 25 - 1) from by decide] at hl
  suffices LP_5 : ∀ (nn : Nat) (n_ : Nat) (f_ : Nat → Int32) (o_ : Int32) (_ : n_ < nn) (hn_ : n_ ≤ 25) (hf_ : rcp 25 (z.1 (oLf b m)) loss = rcp n_ f_ o_) (H : Heap) (locs : List Loc) (ls : Array Slot), Rh G w (ur z (oLf b m) f_) H → va_S (xA w s.heap.size) s.heap H locs → lv_has ls 5 [(0, .ref (w.2.2 (oM b m))), (1, .int loss), (2, .int o_), (3, .int (nI n_ - 1))] → W p l e rm_X5_recaptureFrom s mt args below meth c H locs 0 0 Q (F0 mt 5 ls []) from LP_5 ((_) + 1) 25 (z.1 (oLf b m)) loss (Nat.lt_succ_self _) (by omega) rfl _ _ _ hR hS (lv_sub hl [2, 3, 1, 0] rfl)
  intro nn
  induction nn with
  | zero => intro n_ f_ o_ hm_ ; exact absurd hm_ (Nat.not_lt_zero _)
  | succ nn ih_5 =>
    intro n_ f_ o_ hm_5 hn_ hf_ H locs ls hR hS hl
    refine lv_iload_n hx hcb dX5_recaptureFrom_5 rfl (lv_at hl 3 rfl) ?_
    refine lv_if_lt (tgt := 47) hx hcb dX5_recaptureFrom_6 (by decide) (fun c_1 => ?_) (fun c_1 => ?_)
    · skip
      have hq_ := pred_neg (by omega) c_1
      obtain rfl : 0 = n_ := hq_.symm
      have hf_ : rcp 25 (z.1 (oLf b m)) loss = (f_, o_) := hf_
      refine lv_iload_n hx hcb dX5_recaptureFrom_47 rfl (lv_at hl 1 rfl) ?_
      refine lv_iload_n hx hcb dX5_recaptureFrom_48 rfl (lv_at hl 2 rfl) ?_
      refine lv_isub hx hcb dX5_recaptureFrom_49 ?_
      exact hret (loss - o_) (ur z (oLf b m) f_) _ _ _ _ dX5_recaptureFrom_50 rfl hR hS (⟨by rw [hf_], by rw [hf_]⟩)
    · skip
      obtain ⟨k_, rfl⟩ := pred_pos (by omega) c_1
      rw [nI_pred] at hl
      refine lv_iload_n hx hcb dX5_recaptureFrom_9 rfl (lv_at hl 2 rfl) ?_
      refine lv_if_le (tgt := 47) hx hcb dX5_recaptureFrom_10 (by decide) (fun c_2 => ?_) (fun c_2 => ?_)
      · skip
        have hf_ : rcp 25 (z.1 (oLf b m)) loss = (f_, o_) := hf_.trans (rcp_no (Int32.not_lt.mpr c_2))
        refine lv_iload_n hx hcb dX5_recaptureFrom_47 rfl (lv_at hl 1 rfl) ?_
        refine lv_iload_n hx hcb dX5_recaptureFrom_48 rfl (lv_at hl 2 rfl) ?_
        refine lv_isub hx hcb dX5_recaptureFrom_49 ?_
        exact hret (loss - o_) (ur z (oLf b m) f_) _ _ _ _ dX5_recaptureFrom_50 rfl hR hS (⟨by rw [hf_], by rw [hf_]⟩)
      · skip
        have hq_ : 0 < o_ := Int32.not_le.mp c_2
        refine lv_iload_n hx hcb dX5_recaptureFrom_13 rfl (lv_at hl 2 rfl) ?_
        refine lv_aload_n hx hcb dX5_recaptureFrom_14 rfl (lv_at hl 0 rfl) ?_
        refine x_getR hx hcb hts hown hK xc5 hR (hoM hw hb hm) (hsM hw hm) 7 (by decide) rfl q_200 dX5_recaptureFrom_15 ?_
        refine lv_iload_n hx hcb dX5_recaptureFrom_18 rfl (lv_at hl 3 rfl) ?_
        refine x_iald hx hcb hK hR (hoLf hw hb hm) (hsLf hw hm) (k := k_) (by omega) (by decide) dX5_recaptureFrom_19 ?_
        refine x_top (show ((ur z (oLf b m) f_).1 (oLf b m) k_) = (f_ k_) from by rw [ur_at]) ?_
        refine x_min hx hcb hml hown hts hl.1 q_620 (by decide) (Nat.le_of_ble_eq_true rfl) (by decide) (by decide) dX5_recaptureFrom_20 ?_
        refine x_top (show (if (f_ k_) < o_ then (f_ k_) else o_) = (imin o_ (f_ k_)) from rfl) ?_
        refine lv_istore (lv' := [(4, .int (imin o_ (f_ k_))), (0, .ref (w.2.2 (oM b m))), (1, .int loss), (2, .int o_), (3, .int (nI k_))]) hx hcb dX5_recaptureFrom_23 hl (by decide) rfl (fun ls hl => ?_)
        refine lv_aload_n hx hcb dX5_recaptureFrom_25 rfl (lv_at hl 1 rfl) ?_
        refine x_getR hx hcb hts hown hK xc5 hR (hoM hw hb hm) (hsM hw hm) 7 (by decide) rfl q_200 dX5_recaptureFrom_26 ?_
        refine lv_iload_n hx hcb dX5_recaptureFrom_29 rfl (lv_at hl 4 rfl) ?_
        refine lv_dup2_11 hx hcb dX5_recaptureFrom_30 rfl rfl ?_
        refine x_iald hx hcb hK hR (hoLf hw hb hm) (hsLf hw hm) (k := k_) (by omega) (by decide) dX5_recaptureFrom_31 ?_
        refine x_top (show ((ur z (oLf b m) f_).1 (oLf b m) k_) = (f_ k_) from by rw [ur_at]) ?_
        refine lv_iload hx hcb dX5_recaptureFrom_32 (lv_at hl 0 rfl) ?_
        refine lv_isub hx hcb dX5_recaptureFrom_34 ?_
        refine x_iast hx hcb hK hR hS (hoLf hw hb hm) (hsLf hw hm) (k := k_) (by omega) (by decide) dX5_recaptureFrom_35 (fun H locs hR hS => ?_)
        rw [show u1 (ur z (oLf b m) f_) (oLf b m) k_ ((f_ k_) - (imin o_ (f_ k_))) = ur z (oLf b m) (va_up f_ k_ (f_ k_ - imin o_ (f_ k_))) from u1_ur ..] at hR
        refine lv_iload_n hx hcb dX5_recaptureFrom_36 rfl (lv_at hl 3 rfl) ?_
        refine lv_iload hx hcb dX5_recaptureFrom_37 (lv_at hl 0 rfl) ?_
        refine lv_isub hx hcb dX5_recaptureFrom_39 ?_
        refine lv_istore_n (lv' := [(2, .int (o_ - (imin o_ (f_ k_)))), (4, .int (imin o_ (f_ k_))), (0, .ref (w.2.2 (oM b m))), (1, .int loss), (3, .int (nI k_))]) hx hcb dX5_recaptureFrom_40 rfl hl (by decide) rfl (fun ls hl => ?_)
        refine lv_iinc (v := ((nI k_) + (-1))) (lv' := [(3, .int ((nI k_) + (-1))), (2, .int (o_ - (imin o_ (f_ k_)))), (4, .int (imin o_ (f_ k_))), (0, .ref (w.2.2 (oM b m))), (1, .int loss)]) hx hcb dX5_recaptureFrom_41 hl (k := 4) rfl rfl (by decide) rfl (fun ls hl => ?_)
        refine lv_goto (tgt := 5) hx hcb dX5_recaptureFrom_44 (by decide) ?_
        rw [show ((nI k_) + (-1)) = (nI k_ - 1) from nI_m1 _] at hl
        exact ih_5 k_ (va_up f_ k_ (f_ k_ - imin o_ (f_ k_))) (o_ - imin o_ (f_ k_)) (by omega) (by omega) (by rw [hf_]; exact if_pos hq_) _ _ _ hR hS (lv_sub hl [3, 4, 1, 0] rfl)
def rm_X5_payInstallment : Room := { frames := 1, cells := 0, slots := 0, locals := 22 }
set_option maxRecDepth 100000 in
set_option maxHeartbeats 4000000 in
theorem c_X5_payInstallment (l : Launch) (G : xGl) (w : xWd) (K : Nat) (hw : isC K w) (z : xSt) (sz : Nat) (b m : Nat) (hb : b < 2 + K) (hm : m < 8)  : xMv l yX5_payInstallment cX5_payInstallment 5 rm_X5_payInstallment G w z sz [.ref (w.2.2 (oM b m))] (fun z1 => z1 = pIns z b m) := by
  refine x_mv (by decide) (Nat.le_of_ble_eq_true rfl) ?_
  intro p e s mt args below meth c ls Q hsz X hR hS hl hret
  obtain ⟨hx, hcb, hml, hown, hts, hlk, hK, hZ⟩ := X
  have hl : lv_has ls 5 [(0, .ref (w.2.2 (oM b m)))] := hl
  refine lv_aload_n hx hcb dX5_payInstallment_0 rfl (lv_at hl 0 rfl) ?_
  refine x_ci0 rfl rfl (x_runV hx hcb hml hown hts (c_X5_equity l G w K hw z _ b m hb hm) mv_X5_equity q_625 hK hZ hR hS (hoM hw hb hm) xc5 (hsM hw hm) rfl hl.1 rfl (Nat.le_of_ble_eq_true rfl) dX5_payInstallment_1 ⟨by decide, by decide⟩ ⟨by decide, by decide⟩) hS (fun r_1 z_2 H locs hp_3 hR hS => ?_)
  rw [hp_3.2] at hR; rw [hp_3.1]
  refine lv_aload_n hx hcb dX5_payInstallment_4 rfl (lv_at hl 0 rfl) ?_
  refine x_getI hx hcb hts hown hK xc5 hR (hoM hw hb hm) (hsM hw hm) 3 (by decide) rfl q_187 dX5_payInstallment_5 ?_
  refine x_ci0 rfl rfl (x_runS hx hcb hml hown hts (c_X5_roundedUp l G w K hw z _ (bx_sum (z.1 (oLf b m)) 25) (z.1 (oM b m) 3)) ms_X5_roundedUp q_629 hK hZ hR hS rfl hl.1 rfl (Nat.le_of_ble_eq_true rfl) dX5_payInstallment_8 ⟨by decide, by decide⟩ ⟨by decide, by decide⟩) hS (fun r_4 z_5 H locs hp_6 hR hS => ?_)
  rw [hp_6.2] at hR; rw [hp_6.1]
  refine lv_istore_n (lv' := [(1, .int (rup (bx_sum (z.1 (oLf b m)) 25) (z.1 (oM b m) 3))), (0, .ref (w.2.2 (oM b m)))]) hx hcb dX5_payInstallment_11 rfl hl (by decide) rfl (fun ls hl => ?_)
  refine lv_iload_n hx hcb dX5_payInstallment_12 rfl (lv_at hl 0 rfl) ?_
  refine lv_istore_n (lv' := [(2, .int (rup (bx_sum (z.1 (oLf b m)) 25) (z.1 (oM b m) 3))), (1, .int (rup (bx_sum (z.1 (oLf b m)) 25) (z.1 (oM b m) 3))), (0, .ref (w.2.2 (oM b m)))]) hx hcb dX5_payInstallment_13 rfl hl (by decide) rfl (fun ls hl => ?_)
  refine lv_iconst (v := (nI 0)) hx hcb dX5_payInstallment_14 (by decide) ?_
  refine lv_istore_n (lv' := [(3, .int (nI 0)), (2, .int (rup (bx_sum (z.1 (oLf b m)) 25) (z.1 (oM b m) 3))), (1, .int (rup (bx_sum (z.1 (oLf b m)) 25) (z.1 (oM b m) 3))), (0, .ref (w.2.2 (oM b m)))]) hx hcb dX5_payInstallment_15 rfl hl (by decide) rfl (fun ls hl => ?_)
  rw [← ur_id z (oLf b m)] at hR
  suffices LP_16 : ∀ (nn : Nat) (i_ : Nat) (f_ : Nat → Int32) (o_ : Int32) (_ : 25 - i_ < nn) (hi_ : i_ ≤ 25) (hf_ : ipy 25 0 (z.1 (oLf b m)) (rup (bx_sum (z.1 (oLf b m)) 25) (z.1 (oM b m) 3)) = ipy (25 - i_) i_ f_ o_) (H : Heap) (locs : List Loc) (ls : Array Slot), Rh G w (ur z (oLf b m) f_) H → va_S (xA w s.heap.size) s.heap H locs → lv_has ls 5 [(0, .ref (w.2.2 (oM b m))), (1, .int (rup (bx_sum (z.1 (oLf b m)) 25) (z.1 (oM b m) 3))), (2, .int o_), (3, .int (nI i_))] → W p l e rm_X5_payInstallment s mt args below meth c H locs 0 0 Q (F0 mt 16 ls []) from LP_16 ((_) + 1) 0 (z.1 (oLf b m)) (rup (bx_sum (z.1 (oLf b m)) 25) (z.1 (oM b m) 3)) (Nat.lt_succ_self _) (by omega) rfl _ _ _ hR hS (lv_sub hl [3, 2, 1, 0] rfl)
  intro nn
  induction nn with
  | zero => intro i_ f_ o_ hm_ ; exact absurd hm_ (Nat.not_lt_zero _)
  | succ nn ih_16 =>
    intro i_ f_ o_ hm_16 hi_ hf_ H locs ls hR hS hl
    refine lv_iload_n hx hcb dX5_payInstallment_16 rfl (lv_at hl 3 rfl) ?_
    refine lv_bipush (v := (nI 25)) hx hcb dX5_payInstallment_17 (by decide) ?_
    refine lv_icmp_ge (tgt := 60) hx hcb dX5_payInstallment_19 (by decide) (fun c_7 => ?_) (fun c_7 => ?_)
    · skip
      have c_7 : 25 ≤ i_ := (nI_leI (by omega) (by omega)).mp c_7
      have hf_ : ipy 25 0 (z.1 (oLf b m)) (rup (bx_sum (z.1 (oLf b m)) 25) (z.1 (oM b m) 3)) = (f_, o_) := by rw [hf_, show 25 - i_ = 0 by omega]; rfl
      obtain rfl : f_ = (ipy 25 0 (z.1 (oLf b m)) (rup (bx_sum (z.1 (oLf b m)) 25) (z.1 (oM b m) 3))).1 := by rw [hf_]
      refine lv_aload_n hx hcb dX5_payInstallment_60 rfl (lv_at hl 0 rfl) ?_
      refine x_getR hx hcb hts hown hK xc5 hR (hoM hw hb hm) (hsM hw hm) 9 (by decide) rfl q_206 dX5_payInstallment_61 ?_
      refine lv_iconst (v := (nI 2)) hx hcb dX5_payInstallment_64 (by decide) ?_
      refine lv_dup2_11 hx hcb dX5_payInstallment_65 rfl rfl ?_
      refine x_iald hx hcb hK hR (hoPd hw hb hm) (hsPd hw hm) (k := 2) (by omega) (by decide) dX5_payInstallment_66 ?_
      refine lv_iload_n hx hcb dX5_payInstallment_67 rfl (lv_at hl 1 rfl) ?_
      refine lv_iadd hx hcb dX5_payInstallment_68 ?_
      refine x_iast hx hcb hK hR hS (hoPd hw hb hm) (hsPd hw hm) (k := 2) (by omega) (by decide) dX5_payInstallment_69 (fun H locs hR hS => ?_)
      refine lv_aload_n hx hcb dX5_payInstallment_70 rfl (lv_at hl 0 rfl) ?_
      refine lv_dup hx hcb dX5_payInstallment_71 rfl ?_
      refine x_getI hx hcb hts hown hK xc5 hR (hoM hw hb hm) (hsM hw hm) 3 (by decide) rfl q_187 dX5_payInstallment_72 ?_
      refine lv_iconst (v := (nI 1)) hx hcb dX5_payInstallment_75 (by decide) ?_
      refine lv_isub hx hcb dX5_payInstallment_76 ?_
      refine x_putI hx hcb hts hown hK xc5 hR hS (hoM hw hb hm) (hsM hw hm) 3 (by decide) rfl q_187 rfl (v := (((u1 (ur z (oLf b m) (ipy 25 0 (z.1 (oLf b m)) (rup (bx_sum (z.1 (oLf b m)) 25) (z.1 (oM b m) 3))).1) (oPd b m) 2 (((ur z (oLf b m) (ipy 25 0 (z.1 (oLf b m)) (rup (bx_sum (z.1 (oLf b m)) 25) (z.1 (oM b m) 3))).1).1 (oPd b m) 2) + (rup (bx_sum (z.1 (oLf b m)) 25) (z.1 (oM b m) 3)))).1 (oM b m) 3) - (nI 1))) rfl rfl dX5_payInstallment_77 (fun H locs hR hS => ?_)
      refine lv_aload_n hx hcb dX5_payInstallment_80 rfl (lv_at hl 0 rfl) ?_
      refine x_getI hx hcb hts hown hK xc5 hR (hoM hw hb hm) (hsM hw hm) 3 (by decide) rfl q_187 dX5_payInstallment_81 ?_
      refine lv_if_gt (tgt := 97) hx hcb dX5_payInstallment_84 (by decide) (fun c_8 => ?_) (fun c_8 => ?_)
      · skip
        have hq_ := c_8
        exact hret (u1 (u1 (ur z (oLf b m) (ipy 25 0 (z.1 (oLf b m)) (rup (bx_sum (z.1 (oLf b m)) 25) (z.1 (oM b m) 3))).1) (oPd b m) 2 (((ur z (oLf b m) (ipy 25 0 (z.1 (oLf b m)) (rup (bx_sum (z.1 (oLf b m)) 25) (z.1 (oM b m) 3))).1).1 (oPd b m) 2) + (rup (bx_sum (z.1 (oLf b m)) 25) (z.1 (oM b m) 3)))) (oM b m) 3 (((u1 (ur z (oLf b m) (ipy 25 0 (z.1 (oLf b m)) (rup (bx_sum (z.1 (oLf b m)) 25) (z.1 (oM b m) 3))).1) (oPd b m) 2 (((ur z (oLf b m) (ipy 25 0 (z.1 (oLf b m)) (rup (bx_sum (z.1 (oLf b m)) 25) (z.1 (oM b m) 3))).1).1 (oPd b m) 2) + (rup (bx_sum (z.1 (oLf b m)) 25) (z.1 (oM b m) 3)))).1 (oM b m) 3) - (nI 1))) _ _ _ _ dX5_payInstallment_97 hR hS (by unfold pIns; first | exact (if_pos hq_).symm | exact (if_neg hq_).symm)
      · skip
        have hq_ := c_8
        refine lv_aload_n hx hcb dX5_payInstallment_87 rfl (lv_at hl 0 rfl) ?_
        refine lv_iconst (v := (nI 0)) hx hcb dX5_payInstallment_88 (by decide) ?_
        refine x_putI hx hcb hts hown hK xc5 hR hS (hoM hw hb hm) (hsM hw hm) 3 (by decide) rfl q_187 rfl (v := (nI 0)) rfl rfl dX5_payInstallment_89 (fun H locs hR hS => ?_)
        refine lv_aload_n hx hcb dX5_payInstallment_92 rfl (lv_at hl 0 rfl) ?_
        refine lv_iconst (v := (nI 2)) hx hcb dX5_payInstallment_93 (by decide) ?_
        refine x_putI hx hcb hts hown hK xc5 hR hS (hoM hw hb hm) (hsM hw hm) 2 (by decide) rfl q_183 rfl (v := (nI 2)) rfl rfl dX5_payInstallment_94 (fun H locs hR hS => ?_)
        exact hret (u1 (u1 (u1 (u1 (ur z (oLf b m) (ipy 25 0 (z.1 (oLf b m)) (rup (bx_sum (z.1 (oLf b m)) 25) (z.1 (oM b m) 3))).1) (oPd b m) 2 (((ur z (oLf b m) (ipy 25 0 (z.1 (oLf b m)) (rup (bx_sum (z.1 (oLf b m)) 25) (z.1 (oM b m) 3))).1).1 (oPd b m) 2) + (rup (bx_sum (z.1 (oLf b m)) 25) (z.1 (oM b m) 3)))) (oM b m) 3 (((u1 (ur z (oLf b m) (ipy 25 0 (z.1 (oLf b m)) (rup (bx_sum (z.1 (oLf b m)) 25) (z.1 (oM b m) 3))).1) (oPd b m) 2 (((ur z (oLf b m) (ipy 25 0 (z.1 (oLf b m)) (rup (bx_sum (z.1 (oLf b m)) 25) (z.1 (oM b m) 3))).1).1 (oPd b m) 2) + (rup (bx_sum (z.1 (oLf b m)) 25) (z.1 (oM b m) 3)))).1 (oM b m) 3) - (nI 1))) (oM b m) 3 (nI 0)) (oM b m) 2 (nI 2)) _ _ _ _ dX5_payInstallment_97 hR hS (by unfold pIns; first | exact (if_pos hq_).symm | exact (if_neg hq_).symm)
    · skip
      have c_7 : ¬ 25 ≤ i_ := fun h_ => c_7 ((nI_leI (by omega) (by omega)).mpr h_)
      refine lv_iload_n hx hcb dX5_payInstallment_22 rfl (lv_at hl 2 rfl) ?_
      refine lv_if_le (tgt := 60) hx hcb dX5_payInstallment_23 (by decide) (fun c_9 => ?_) (fun c_9 => ?_)
      · skip
        have hf_ : ipy 25 0 (z.1 (oLf b m)) (rup (bx_sum (z.1 (oLf b m)) 25) (z.1 (oM b m) 3)) = (f_, o_) := hf_.trans (ipy_no (Int32.not_lt.mpr c_9))
        obtain rfl : f_ = (ipy 25 0 (z.1 (oLf b m)) (rup (bx_sum (z.1 (oLf b m)) 25) (z.1 (oM b m) 3))).1 := by rw [hf_]
        refine lv_aload_n hx hcb dX5_payInstallment_60 rfl (lv_at hl 0 rfl) ?_
        refine x_getR hx hcb hts hown hK xc5 hR (hoM hw hb hm) (hsM hw hm) 9 (by decide) rfl q_206 dX5_payInstallment_61 ?_
        refine lv_iconst (v := (nI 2)) hx hcb dX5_payInstallment_64 (by decide) ?_
        refine lv_dup2_11 hx hcb dX5_payInstallment_65 rfl rfl ?_
        refine x_iald hx hcb hK hR (hoPd hw hb hm) (hsPd hw hm) (k := 2) (by omega) (by decide) dX5_payInstallment_66 ?_
        refine lv_iload_n hx hcb dX5_payInstallment_67 rfl (lv_at hl 1 rfl) ?_
        refine lv_iadd hx hcb dX5_payInstallment_68 ?_
        refine x_iast hx hcb hK hR hS (hoPd hw hb hm) (hsPd hw hm) (k := 2) (by omega) (by decide) dX5_payInstallment_69 (fun H locs hR hS => ?_)
        refine lv_aload_n hx hcb dX5_payInstallment_70 rfl (lv_at hl 0 rfl) ?_
        refine lv_dup hx hcb dX5_payInstallment_71 rfl ?_
        refine x_getI hx hcb hts hown hK xc5 hR (hoM hw hb hm) (hsM hw hm) 3 (by decide) rfl q_187 dX5_payInstallment_72 ?_
        refine lv_iconst (v := (nI 1)) hx hcb dX5_payInstallment_75 (by decide) ?_
        refine lv_isub hx hcb dX5_payInstallment_76 ?_
        refine x_putI hx hcb hts hown hK xc5 hR hS (hoM hw hb hm) (hsM hw hm) 3 (by decide) rfl q_187 rfl (v := (((u1 (ur z (oLf b m) (ipy 25 0 (z.1 (oLf b m)) (rup (bx_sum (z.1 (oLf b m)) 25) (z.1 (oM b m) 3))).1) (oPd b m) 2 (((ur z (oLf b m) (ipy 25 0 (z.1 (oLf b m)) (rup (bx_sum (z.1 (oLf b m)) 25) (z.1 (oM b m) 3))).1).1 (oPd b m) 2) + (rup (bx_sum (z.1 (oLf b m)) 25) (z.1 (oM b m) 3)))).1 (oM b m) 3) - (nI 1))) rfl rfl dX5_payInstallment_77 (fun H locs hR hS => ?_)
        refine lv_aload_n hx hcb dX5_payInstallment_80 rfl (lv_at hl 0 rfl) ?_
        refine x_getI hx hcb hts hown hK xc5 hR (hoM hw hb hm) (hsM hw hm) 3 (by decide) rfl q_187 dX5_payInstallment_81 ?_
        refine lv_if_gt (tgt := 97) hx hcb dX5_payInstallment_84 (by decide) (fun c_10 => ?_) (fun c_10 => ?_)
        · skip
          have hq_ := c_10
          exact hret (u1 (u1 (ur z (oLf b m) (ipy 25 0 (z.1 (oLf b m)) (rup (bx_sum (z.1 (oLf b m)) 25) (z.1 (oM b m) 3))).1) (oPd b m) 2 (((ur z (oLf b m) (ipy 25 0 (z.1 (oLf b m)) (rup (bx_sum (z.1 (oLf b m)) 25) (z.1 (oM b m) 3))).1).1 (oPd b m) 2) + (rup (bx_sum (z.1 (oLf b m)) 25) (z.1 (oM b m) 3)))) (oM b m) 3 (((u1 (ur z (oLf b m) (ipy 25 0 (z.1 (oLf b m)) (rup (bx_sum (z.1 (oLf b m)) 25) (z.1 (oM b m) 3))).1) (oPd b m) 2 (((ur z (oLf b m) (ipy 25 0 (z.1 (oLf b m)) (rup (bx_sum (z.1 (oLf b m)) 25) (z.1 (oM b m) 3))).1).1 (oPd b m) 2) + (rup (bx_sum (z.1 (oLf b m)) 25) (z.1 (oM b m) 3)))).1 (oM b m) 3) - (nI 1))) _ _ _ _ dX5_payInstallment_97 hR hS (by unfold pIns; first | exact (if_pos hq_).symm | exact (if_neg hq_).symm)
        · skip
          have hq_ := c_10
          refine lv_aload_n hx hcb dX5_payInstallment_87 rfl (lv_at hl 0 rfl) ?_
          refine lv_iconst (v := (nI 0)) hx hcb dX5_payInstallment_88 (by decide) ?_
          refine x_putI hx hcb hts hown hK xc5 hR hS (hoM hw hb hm) (hsM hw hm) 3 (by decide) rfl q_187 rfl (v := (nI 0)) rfl rfl dX5_payInstallment_89 (fun H locs hR hS => ?_)
          refine lv_aload_n hx hcb dX5_payInstallment_92 rfl (lv_at hl 0 rfl) ?_
          refine lv_iconst (v := (nI 2)) hx hcb dX5_payInstallment_93 (by decide) ?_
          refine x_putI hx hcb hts hown hK xc5 hR hS (hoM hw hb hm) (hsM hw hm) 2 (by decide) rfl q_183 rfl (v := (nI 2)) rfl rfl dX5_payInstallment_94 (fun H locs hR hS => ?_)
          exact hret (u1 (u1 (u1 (u1 (ur z (oLf b m) (ipy 25 0 (z.1 (oLf b m)) (rup (bx_sum (z.1 (oLf b m)) 25) (z.1 (oM b m) 3))).1) (oPd b m) 2 (((ur z (oLf b m) (ipy 25 0 (z.1 (oLf b m)) (rup (bx_sum (z.1 (oLf b m)) 25) (z.1 (oM b m) 3))).1).1 (oPd b m) 2) + (rup (bx_sum (z.1 (oLf b m)) 25) (z.1 (oM b m) 3)))) (oM b m) 3 (((u1 (ur z (oLf b m) (ipy 25 0 (z.1 (oLf b m)) (rup (bx_sum (z.1 (oLf b m)) 25) (z.1 (oM b m) 3))).1) (oPd b m) 2 (((ur z (oLf b m) (ipy 25 0 (z.1 (oLf b m)) (rup (bx_sum (z.1 (oLf b m)) 25) (z.1 (oM b m) 3))).1).1 (oPd b m) 2) + (rup (bx_sum (z.1 (oLf b m)) 25) (z.1 (oM b m) 3)))).1 (oM b m) 3) - (nI 1))) (oM b m) 3 (nI 0)) (oM b m) 2 (nI 2)) _ _ _ _ dX5_payInstallment_97 hR hS (by unfold pIns; first | exact (if_pos hq_).symm | exact (if_neg hq_).symm)
      · skip
        have hq_ : 0 < o_ := Int32.not_le.mp c_9
        refine lv_iload_n hx hcb dX5_payInstallment_26 rfl (lv_at hl 2 rfl) ?_
        refine lv_aload_n hx hcb dX5_payInstallment_27 rfl (lv_at hl 0 rfl) ?_
        refine x_getR hx hcb hts hown hK xc5 hR (hoM hw hb hm) (hsM hw hm) 7 (by decide) rfl q_200 dX5_payInstallment_28 ?_
        refine lv_iload_n hx hcb dX5_payInstallment_31 rfl (lv_at hl 3 rfl) ?_
        refine x_iald hx hcb hK hR (hoLf hw hb hm) (hsLf hw hm) (k := i_) (by omega) (by decide) dX5_payInstallment_32 ?_
        refine x_top (show ((ur z (oLf b m) f_).1 (oLf b m) i_) = (f_ i_) from by rw [ur_at]) ?_
        refine x_min hx hcb hml hown hts hl.1 q_620 (by decide) (Nat.le_of_ble_eq_true rfl) (by decide) (by decide) dX5_payInstallment_33 ?_
        refine x_top (show (if (f_ i_) < o_ then (f_ i_) else o_) = (imin o_ (f_ i_)) from rfl) ?_
        refine lv_istore (lv' := [(4, .int (imin o_ (f_ i_))), (0, .ref (w.2.2 (oM b m))), (1, .int (rup (bx_sum (z.1 (oLf b m)) 25) (z.1 (oM b m) 3))), (2, .int o_), (3, .int (nI i_))]) hx hcb dX5_payInstallment_36 hl (by decide) rfl (fun ls hl => ?_)
        refine lv_aload_n hx hcb dX5_payInstallment_38 rfl (lv_at hl 1 rfl) ?_
        refine x_getR hx hcb hts hown hK xc5 hR (hoM hw hb hm) (hsM hw hm) 7 (by decide) rfl q_200 dX5_payInstallment_39 ?_
        refine lv_iload_n hx hcb dX5_payInstallment_42 rfl (lv_at hl 4 rfl) ?_
        refine lv_dup2_11 hx hcb dX5_payInstallment_43 rfl rfl ?_
        refine x_iald hx hcb hK hR (hoLf hw hb hm) (hsLf hw hm) (k := i_) (by omega) (by decide) dX5_payInstallment_44 ?_
        refine x_top (show ((ur z (oLf b m) f_).1 (oLf b m) i_) = (f_ i_) from by rw [ur_at]) ?_
        refine lv_iload hx hcb dX5_payInstallment_45 (lv_at hl 0 rfl) ?_
        refine lv_isub hx hcb dX5_payInstallment_47 ?_
        refine x_iast hx hcb hK hR hS (hoLf hw hb hm) (hsLf hw hm) (k := i_) (by omega) (by decide) dX5_payInstallment_48 (fun H locs hR hS => ?_)
        rw [show u1 (ur z (oLf b m) f_) (oLf b m) i_ ((f_ i_) - (imin o_ (f_ i_))) = ur z (oLf b m) (va_up f_ i_ (f_ i_ - imin o_ (f_ i_))) from u1_ur ..] at hR
        refine lv_iload_n hx hcb dX5_payInstallment_49 rfl (lv_at hl 3 rfl) ?_
        refine lv_iload hx hcb dX5_payInstallment_50 (lv_at hl 0 rfl) ?_
        refine lv_isub hx hcb dX5_payInstallment_52 ?_
        refine lv_istore_n (lv' := [(2, .int (o_ - (imin o_ (f_ i_)))), (4, .int (imin o_ (f_ i_))), (0, .ref (w.2.2 (oM b m))), (1, .int (rup (bx_sum (z.1 (oLf b m)) 25) (z.1 (oM b m) 3))), (3, .int (nI i_))]) hx hcb dX5_payInstallment_53 rfl hl (by decide) rfl (fun ls hl => ?_)
        refine lv_iinc (v := (nI (i_ + 1))) (lv' := [(3, .int (nI (i_ + 1))), (2, .int (o_ - (imin o_ (f_ i_)))), (4, .int (imin o_ (f_ i_))), (0, .ref (w.2.2 (oM b m))), (1, .int (rup (bx_sum (z.1 (oLf b m)) 25) (z.1 (oM b m) 3)))]) hx hcb dX5_payInstallment_54 hl (k := 4) rfl (x_iinc1 _) (by decide) rfl (fun ls hl => ?_)
        refine lv_goto (tgt := 16) hx hcb dX5_payInstallment_57 (by decide) ?_
        exact ih_16 (i_ + 1) (va_up f_ i_ (f_ i_ - imin o_ (f_ i_))) (o_ - imin o_ (f_ i_)) (by omega) (by omega) (by rw [hf_, ipy_s (k := 25 - (i_ + 1)) (by omega)]; exact if_pos hq_) _ _ _ hR hS (lv_sub hl [3, 4, 1, 0] rfl)
def rm_X5_installmentAfter : Room := { frames := 1, cells := 0, slots := 0, locals := 22 }
set_option maxRecDepth 100000 in
set_option maxHeartbeats 4000000 in
theorem c_X5_installmentAfter (l : Launch) (G : xGl) (w : xWd) (K : Nat) (hw : isC K w) (z : xSt) (sz : Nat) (b m : Nat) (hb : b < 2 + K) (hm : m < 8) (k : Int32)  : xMi l yX5_installmentAfter cX5_installmentAfter 4 (some FieldType.int) rm_X5_installmentAfter G w z sz [.ref (w.2.2 (oM b m)), .int k] (fun r z1 => r = (if k < 0 ∨ ¬ k < z.1 (oM b m) 3 then -1 else rup (insA (bx_sum (z.1 (oLf b m)) 25) (z.1 (oM b m) 3) k.toNatClampNeg) (z.1 (oM b m) 3 - k)) ∧ z1 = z) := by
  refine x_mi (by decide) (Nat.le_of_ble_eq_true rfl) ?_
  intro p e s mt args below meth c ls Q hsz X hR hS hl hret
  obtain ⟨hx, hcb, hml, hown, hts, hlk, hK, hZ⟩ := X
  have hl : lv_has ls 4 [(0, .ref (w.2.2 (oM b m))), (1, .int k)] := hl
  refine lv_iload_n hx hcb dX5_installmentAfter_0 rfl (lv_at hl 1 rfl) ?_
  refine lv_if_lt (tgt := 12) hx hcb dX5_installmentAfter_1 (by decide) (fun c_1 => ?_) (fun c_1 => ?_)
  · skip
    have hq_ := c_1
    refine lv_iconst (v := (-1)) hx hcb dX5_installmentAfter_12 (by decide) ?_
    exact hret (-1) z _ _ _ _ dX5_installmentAfter_13 rfl hR hS (⟨by rw [if_pos (by first | exact Or.inl hq_ | exact Or.inr hq_)], rfl⟩)
  · skip
    have hg_ := c_1
    refine lv_iload_n hx hcb dX5_installmentAfter_4 rfl (lv_at hl 1 rfl) ?_
    refine lv_aload_n hx hcb dX5_installmentAfter_5 rfl (lv_at hl 0 rfl) ?_
    refine x_getI hx hcb hts hown hK xc5 hR (hoM hw hb hm) (hsM hw hm) 3 (by decide) rfl q_187 dX5_installmentAfter_6 ?_
    refine lv_icmp_lt (tgt := 14) hx hcb dX5_installmentAfter_9 (by decide) (fun c_2 => ?_) (fun c_2 => ?_)
    · skip
      have hg_ := And.intro hg_ c_2
      obtain ⟨kn_, hkn_, rfl⟩ := nI_of hg_.1
      refine lv_aload_n hx hcb dX5_installmentAfter_14 rfl (lv_at hl 0 rfl) ?_
      refine x_ci0 rfl rfl (x_runV hx hcb hml hown hts (c_X5_equity l G w K hw z _ b m hb hm) mv_X5_equity q_625 hK hZ hR hS (hoM hw hb hm) xc5 (hsM hw hm) rfl hl.1 rfl (Nat.le_of_ble_eq_true rfl) dX5_installmentAfter_15 ⟨by decide, by decide⟩ ⟨by decide, by decide⟩) hS (fun r_3 z_4 H locs hp_5 hR hS => ?_)
      rw [hp_5.2] at hR; rw [hp_5.1]
      refine lv_istore_n (lv' := [(2, .int (bx_sum (z.1 (oLf b m)) 25)), (0, .ref (w.2.2 (oM b m))), (1, .int (nI kn_))]) hx hcb dX5_installmentAfter_18 rfl hl (by decide) rfl (fun ls hl => ?_)
      refine lv_iconst (v := (nI 0)) hx hcb dX5_installmentAfter_19 (by decide) ?_
      refine lv_istore_n (lv' := [(3, .int (nI 0)), (2, .int (bx_sum (z.1 (oLf b m)) 25)), (0, .ref (w.2.2 (oM b m))), (1, .int (nI kn_))]) hx hcb dX5_installmentAfter_20 rfl hl (by decide) rfl (fun ls hl => ?_)
      suffices LP_21 : ∀ (nn : Nat) (i_ : Nat) (_ : kn_ - i_ < nn) (hi_ : i_ ≤ kn_) (H : Heap) (locs : List Loc) (ls : Array Slot), Rh G w z H → va_S (xA w s.heap.size) s.heap H locs → lv_has ls 4 [(0, .ref (w.2.2 (oM b m))), (1, .int (nI kn_)), (2, .int (insA (bx_sum (z.1 (oLf b m)) 25) (z.1 (oM b m) 3) i_)), (3, .int (nI i_))] → W p l e rm_X5_installmentAfter s mt args below meth c H locs 0 0 Q (F0 mt 21 ls []) from LP_21 ((_) + 1) 0 (Nat.lt_succ_self _) (by omega) _ _ _ hR hS (lv_sub hl [2, 3, 1, 0] rfl)
      intro nn
      induction nn with
      | zero => intro i_ hm_ ; exact absurd hm_ (Nat.not_lt_zero _)
      | succ nn ih_21 =>
        intro i_ hm_21 hi_ H locs ls hR hS hl
        refine lv_iload_n hx hcb dX5_installmentAfter_21 rfl (lv_at hl 3 rfl) ?_
        refine lv_iload_n hx hcb dX5_installmentAfter_22 rfl (lv_at hl 1 rfl) ?_
        refine lv_icmp_ge (tgt := 45) hx hcb dX5_installmentAfter_23 (by decide) (fun c_6 => ?_) (fun c_6 => ?_)
        · skip
          have c_6 : kn_ ≤ i_ := (nI_leI (by omega) (by omega)).mp c_6
          obtain rfl : kn_ = i_ := by omega
          refine lv_iload_n hx hcb dX5_installmentAfter_45 rfl (lv_at hl 2 rfl) ?_
          refine lv_aload_n hx hcb dX5_installmentAfter_46 rfl (lv_at hl 0 rfl) ?_
          refine x_getI hx hcb hts hown hK xc5 hR (hoM hw hb hm) (hsM hw hm) 3 (by decide) rfl q_187 dX5_installmentAfter_47 ?_
          refine lv_iload_n hx hcb dX5_installmentAfter_50 rfl (lv_at hl 1 rfl) ?_
          refine lv_isub hx hcb dX5_installmentAfter_51 ?_
          refine x_ci0 rfl rfl (x_runS hx hcb hml hown hts (c_X5_roundedUp l G w K hw z _ (insA (bx_sum (z.1 (oLf b m)) 25) (z.1 (oM b m) 3) kn_) ((z.1 (oM b m) 3) - (nI kn_))) ms_X5_roundedUp q_629 hK hZ hR hS rfl hl.1 rfl (Nat.le_of_ble_eq_true rfl) dX5_installmentAfter_52 ⟨by decide, by decide⟩ ⟨by decide, by decide⟩) hS (fun r_7 z_8 H locs hp_9 hR hS => ?_)
          rw [hp_9.2] at hR; rw [hp_9.1]
          exact hret (rup (insA (bx_sum (z.1 (oLf b m)) 25) (z.1 (oM b m) 3) kn_) ((z.1 (oM b m) 3) - (nI kn_))) z _ _ _ _ dX5_installmentAfter_55 rfl hR hS (⟨by rw [if_neg (fun h_ => h_.elim hg_.1 (fun h_ => h_ hg_.2)), nI_clamp hkn_], rfl⟩)
        · skip
          have c_6 : ¬ kn_ ≤ i_ := fun h_ => c_6 ((nI_leI (by omega) (by omega)).mpr h_)
          refine lv_iload_n hx hcb dX5_installmentAfter_26 rfl (lv_at hl 2 rfl) ?_
          refine lv_iload_n hx hcb dX5_installmentAfter_27 rfl (lv_at hl 2 rfl) ?_
          refine lv_aload_n hx hcb dX5_installmentAfter_28 rfl (lv_at hl 0 rfl) ?_
          refine x_getI hx hcb hts hown hK xc5 hR (hoM hw hb hm) (hsM hw hm) 3 (by decide) rfl q_187 dX5_installmentAfter_29 ?_
          refine lv_iload_n hx hcb dX5_installmentAfter_32 rfl (lv_at hl 3 rfl) ?_
          refine lv_isub hx hcb dX5_installmentAfter_33 ?_
          refine x_ci0 rfl rfl (x_runS hx hcb hml hown hts (c_X5_roundedUp l G w K hw z _ (insA (bx_sum (z.1 (oLf b m)) 25) (z.1 (oM b m) 3) i_) ((z.1 (oM b m) 3) - (nI i_))) ms_X5_roundedUp q_629 hK hZ hR hS rfl hl.1 rfl (Nat.le_of_ble_eq_true rfl) dX5_installmentAfter_34 ⟨by decide, by decide⟩ ⟨by decide, by decide⟩) hS (fun r_10 z_11 H locs hp_12 hR hS => ?_)
          rw [hp_12.2] at hR; rw [hp_12.1]
          refine lv_isub hx hcb dX5_installmentAfter_37 ?_
          refine lv_istore_n (lv' := [(2, .int ((insA (bx_sum (z.1 (oLf b m)) 25) (z.1 (oM b m) 3) i_) - (rup (insA (bx_sum (z.1 (oLf b m)) 25) (z.1 (oM b m) 3) i_) ((z.1 (oM b m) 3) - (nI i_))))), (0, .ref (w.2.2 (oM b m))), (1, .int (nI kn_)), (3, .int (nI i_))]) hx hcb dX5_installmentAfter_38 rfl hl (by decide) rfl (fun ls hl => ?_)
          refine lv_iinc (v := (nI (i_ + 1))) (lv' := [(3, .int (nI (i_ + 1))), (2, .int ((insA (bx_sum (z.1 (oLf b m)) 25) (z.1 (oM b m) 3) i_) - (rup (insA (bx_sum (z.1 (oLf b m)) 25) (z.1 (oM b m) 3) i_) ((z.1 (oM b m) 3) - (nI i_))))), (0, .ref (w.2.2 (oM b m))), (1, .int (nI kn_))]) hx hcb dX5_installmentAfter_39 hl (k := 3) rfl (x_iinc1 _) (by decide) rfl (fun ls hl => ?_)
          refine lv_goto (tgt := 21) hx hcb dX5_installmentAfter_42 (by decide) ?_
          exact ih_21 (i_ + 1) (by omega) (by omega) _ _ _ hR hS (lv_sub hl [2, 3, 1, 0] rfl)
    · skip
      have hq_ := c_2
      refine lv_iconst (v := (-1)) hx hcb dX5_installmentAfter_12 (by decide) ?_
      exact hret (-1) z _ _ _ _ dX5_installmentAfter_13 rfl hR hS (⟨by rw [if_pos (by first | exact Or.inl hq_ | exact Or.inr hq_)], rfl⟩)
