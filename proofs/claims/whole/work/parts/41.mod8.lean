/-! THE REFERENCE: questions about what would be -/
def unQ (z : xSt) (u : Nat) : xSt := ur (u1 (u1 z 0 0 0) 0 8 (nI (u - 1))) 4 (fun j => z.1 6 (497 * (u - 1) + j))
theorem mxI_k (f : Nat → Int32) : ∀ n : Nat, (mxI f n).1 = (-1) ∨ ∃ j : Nat, j < n ∧ (mxI f n).1 = nI j ∧ (mxI f n).2 = f j
  | 0 => Or.inl rfl
  | n + 1 => by
    by_cases h : (mxI f n).1 = (-1) ∨ (mxI f n).2 < f n
    · rw [mxI_y h]; exact Or.inr ⟨n, Nat.lt_succ_self n, rfl, rfl⟩
    · rw [mxI_n h]
      rcases mxI_k f n with h1 | ⟨j, h1, h2, h3⟩
      · exact Or.inl h1
      · exact Or.inr ⟨j, by omega, h2, h3⟩
theorem sub_nz {i j : Nat} {n : Int32} (hij : i ≤ j) (hj : j < 2 ^ 31) (h : nI j < n) : n - nI i ≠ 0 := by
  intro q
  have t := Int32.sub_add_cancel n (nI i)
  rw [q, Int32.zero_add] at t
  rw [← t] at h
  exact absurd ((nI_ltI hj (by omega)).mp h) (by omega)
def isQ (e n : Int32) : Nat → Int32
  | 0 => e
  | i + 1 => isQ e n i - (isQ e n i + n - nI i - nI 1) / (n - nI i)
def amI (f : Nat → Int32) : Nat → Nat
  | 0 => 0
  | j + 1 => if f (amI f j) < f (j + 1) then j + 1 else amI f j
theorem amI_s (f : Nat → Int32) (j : Nat) : amI f (j + 1) = if f (amI f j) < f (j + 1) then j + 1 else amI f j := rfl
theorem amI_le (f : Nat → Int32) : ∀ j, amI f j ≤ j
  | 0 => Nat.le_refl _
  | j + 1 => by
    have h := amI_le f j
    rw [amI_s]
    split <;> omega
def wrQ (y : xSt) : Nat → Int32
  | 0 => y.1 4 493 + y.1 0 15
  | m + 1 => wrQ y m - (if nI 0 < -(y.1 11 m) - eqQ y m then -(y.1 11 m) - eqQ y m else nI 0)
def chQ (y : xSt) : Nat → Int32
  | 0 => nI 0
  | m + 1 => chQ y m + (if 0 < y.1 11 m ∧ y.1 4 (13 + m) = nI 1 then y.1 11 m * y.1 4 0 / nI 100 else nI 0) + (if y.1 4 (5 + m) = nI 1 then (eqQ y m + y.1 4 (21 + m) - nI 1) / y.1 4 (21 + m) else nI 0)
theorem chQ_s (y : xSt) (m : Nat) : chQ y (m + 1) = chQ y m + (if 0 < y.1 11 m ∧ y.1 4 (13 + m) = nI 1 then y.1 11 m * y.1 4 0 / nI 100 else nI 0) + (if y.1 4 (5 + m) = nI 1 then (eqQ y m + y.1 4 (21 + m) - nI 1) / y.1 4 (21 + m) else nI 0) := rfl
/-- who is leaving has installments left -/
def lvO (z : xSt) : Prop := ∀ m, m < 8 → z.1 4 (5 + m) = nI 1 → z.1 4 (21 + m) ≠ 0
def rm_X10_undo : Room := { frames := 0, cells := 0, slots := 0, locals := 0 }
set_option maxRecDepth 100000 in
set_option maxHeartbeats 4000000 in
theorem c_X10_undo (l : Launch) (G : xGl) (w : xWd) (hw : isM w) (z : xSt) (sz : Nat)  (u : Nat) (hu : z.1 0 8 = nI u) (hu10 : u ≤ 10) : xMi l yX10_undo cX10_undo 2 (some FieldType.int) rm_X10_undo G w z sz [.ref (w.2.2 0)] (fun r z1 => (r, z1) = if u = 0 then ((-1), u1 z 0 0 0) else (nI (u - 1), unQ z u)) := by
  refine x_mi (by decide) (Nat.le_of_ble_eq_true rfl) ?_
  intro p e s mt args below meth c ls Q hsz X hR hS hl hret
  obtain ⟨hx, hcb, hml, hown, hts, hlk, hK, hZ⟩ := X
  have hl : lv_has ls 2 [(0, .ref (w.2.2 0))] := hl
  refine lv_aload_n hx hcb dX10_undo_0 rfl (lv_at hl 0 rfl) ?_
  refine lv_iconst (v := (nI 0)) hx hcb dX10_undo_1 (by decide) ?_
  refine x_putI hx hcb hts hown hK xc10 hR hS (hw.lo (by decide)) (hw.s0 rfl) 0 (by decide) rfl q_1166 rfl (v := 0) rfl rfl dX10_undo_2 (fun H locs hR hS => ?_)
  refine lv_aload_n hx hcb dX10_undo_5 rfl (lv_at hl 0 rfl) ?_
  refine x_getI hx hcb hts hown hK xc10 hR (hw.lo (by decide)) (hw.s0 rfl) 8 (by decide) rfl q_1174 dX10_undo_6 ?_
  refine x_top (show ((u1 z 0 0 0).1 0 8) = (nI u) from hu) ?_
  refine lv_if_ne (tgt := 14) hx hcb dX10_undo_9 (by decide) (fun c_1 => ?_) (fun c_1 => ?_)
  · skip
    have c_1 : ¬ u = 0 := fun h_ => c_1 ((nI_eq (a := u) (b := 0) (by omega) (by omega)).mpr h_)
    have h_ : ¬ u = 0 := c_1
    refine lv_aload_n hx hcb dX10_undo_14 rfl (lv_at hl 0 rfl) ?_
    refine lv_dup hx hcb dX10_undo_15 rfl ?_
    refine x_getI hx hcb hts hown hK xc10 hR (hw.lo (by decide)) (hw.s0 rfl) 8 (by decide) rfl q_1174 dX10_undo_16 ?_
    refine x_top (show ((u1 z 0 0 0).1 0 8) = (nI u) from hu) ?_
    refine lv_iconst (v := (nI 1)) hx hcb dX10_undo_19 (by decide) ?_
    refine x_isubN hx hcb (by omega) dX10_undo_20 ?_
    refine x_putI hx hcb hts hown hK xc10 hR hS (hw.lo (by decide)) (hw.s0 rfl) 8 (by decide) rfl q_1174 rfl (v := (nI (u - 1))) rfl rfl dX10_undo_21 (fun H locs hR hS => ?_)
    refine lv_iconst (v := (nI 0)) hx hcb dX10_undo_24 (by decide) ?_
    refine lv_istore_n (lv' := [(1, .int (nI 0)), (0, .ref (w.2.2 0))]) hx hcb dX10_undo_25 rfl hl (by decide) rfl (fun ls hl => ?_)
    rw [show (u1 (u1 z 0 0 0) 0 8 (nI (u - 1))) = ur (u1 (u1 z 0 0 0) 0 8 (nI (u - 1))) 4 (pre 0 (fun j => z.1 6 (497 * (u - 1) + j)) (z.1 4)) from by rw [pre_0]; exact (ur_id ..).symm] at hR
    suffices LP_26 : ∀ (nn : Nat) (i_ : Nat) (_ : 497 - i_ < nn) (hi_ : i_ ≤ 497) (H : Heap) (locs : List Loc) (ls : Array Slot), Rh G w (ur (u1 (u1 z 0 0 0) 0 8 (nI (u - 1))) 4 (pre i_ (fun j => z.1 6 (497 * (u - 1) + j)) (z.1 4))) H → va_S (xA w s.heap.size) s.heap H locs → lv_has ls 2 [(0, .ref (w.2.2 0)), (1, .int (nI i_))] → W p l e rm_X10_undo s mt args below meth c H locs 0 0 Q (F0 mt 26 ls []) from LP_26 ((_) + 1) 0 (Nat.lt_succ_self _) (by omega) _ _ _ hR hS (lv_sub hl [1, 0] rfl)
    intro nn
    induction nn with
    | zero => intro i_ hm_ ; exact absurd hm_ (Nat.not_lt_zero _)
    | succ nn ih_26 =>
      intro i_ hm_26 hi_ H locs ls hR hS hl
      refine lv_iload_n hx hcb dX10_undo_26 rfl (lv_at hl 1 rfl) ?_
      refine lv_sipush (v := (nI 497)) hx hcb dX10_undo_27 (by decide) ?_
      refine lv_icmp_ge (tgt := 60) hx hcb dX10_undo_30 (by decide) (fun c_2 => ?_) (fun c_2 => ?_)
      · skip
        have c_2 : 497 ≤ i_ := (nI_leI (by omega) (by omega)).mp c_2
        obtain rfl : 497 = i_ := by omega
        have hR := hR.row (hw.s0 rfl) (g := (fun j => z.1 6 (497 * (u - 1) + j))) (fun k hk => pre_lt hk)
        refine lv_aload_n hx hcb dX10_undo_60 rfl (lv_at hl 0 rfl) ?_
        refine x_getI hx hcb hts hown hK xc10 hR (hw.lo (by decide)) (hw.s0 rfl) 8 (by decide) rfl q_1174 dX10_undo_61 ?_
        refine x_top (show ((ur (u1 (u1 z 0 0 0) 0 8 (nI (u - 1))) 4 (fun j => z.1 6 (497 * (u - 1) + j))).1 0 8) = (nI (u - 1)) from rfl) ?_
        exact hret (nI (u - 1)) (ur (u1 (u1 z 0 0 0) 0 8 (nI (u - 1))) 4 (fun j => z.1 6 (497 * (u - 1) + j))) _ _ _ _ dX10_undo_64 rfl hR hS (by rw [if_neg h_]; first | done | rfl)
      · skip
        have c_2 : ¬ 497 ≤ i_ := fun h_ => c_2 ((nI_leI (by omega) (by omega)).mpr h_)
        refine lv_aload_n hx hcb dX10_undo_33 rfl (lv_at hl 0 rfl) ?_
        refine x_getR hx hcb hts hown hK xc10 hR (hw.lo (by decide)) (hw.s0 rfl) 5 (by decide) rfl q_1171 dX10_undo_34 ?_
        refine lv_iload_n hx hcb dX10_undo_37 rfl (lv_at hl 1 rfl) ?_
        refine lv_aload_n hx hcb dX10_undo_38 rfl (lv_at hl 0 rfl) ?_
        refine x_getR hx hcb hts hown hK xc10 hR (hw.lo (by decide)) (hw.s0 rfl) 7 (by decide) rfl q_1173 dX10_undo_39 ?_
        refine lv_sipush (v := (nI 497)) hx hcb dX10_undo_42 (by decide) ?_
        refine lv_aload_n hx hcb dX10_undo_45 rfl (lv_at hl 0 rfl) ?_
        refine x_getI hx hcb hts hown hK xc10 hR (hw.lo (by decide)) (hw.s0 rfl) 8 (by decide) rfl q_1174 dX10_undo_46 ?_
        refine x_top (show ((ur (u1 (u1 z 0 0 0) 0 8 (nI (u - 1))) 4 (pre i_ (fun j => z.1 6 (497 * (u - 1) + j)) (z.1 4))).1 0 8) = (nI (u - 1)) from rfl) ?_
        refine x_imulN hx hcb dX10_undo_49 ?_
        refine lv_iload_n hx hcb dX10_undo_50 rfl (lv_at hl 1 rfl) ?_
        refine x_iaddN hx hcb dX10_undo_51 ?_
        refine x_iald hx hcb hK hR (hw.lo (by decide)) (hw.s0 rfl) (k := ((497 * (u - 1)) + i_)) (by omega) (by decide) dX10_undo_52 ?_
        refine x_top (show ((ur (u1 (u1 z 0 0 0) 0 8 (nI (u - 1))) 4 (pre i_ (fun j => z.1 6 (497 * (u - 1) + j)) (z.1 4))).1 6 ((497 * (u - 1)) + i_)) = ((fun j => z.1 6 (497 * (u - 1) + j)) i_) from rfl) ?_
        refine x_iast hx hcb hK hR hS (hw.lo (by decide)) (hw.s0 rfl) (k := i_) (v := ((fun j => z.1 6 (497 * (u - 1) + j)) i_)) (by omega) (by decide) dX10_undo_53 (fun H locs hR hS => ?_)
        refine lv_iinc (v := (nI (i_ + 1))) (lv' := [(1, .int (nI (i_ + 1))), (0, .ref (w.2.2 0))]) hx hcb dX10_undo_54 hl (k := 1) rfl (x_iinc1 _) (by decide) rfl (fun ls hl => ?_)
        refine lv_goto (tgt := 26) hx hcb dX10_undo_57 (by decide) ?_
        rw [show (u1 (ur (u1 (u1 z 0 0 0) 0 8 (nI (u - 1))) 4 (pre i_ (fun j => z.1 6 (497 * (u - 1) + j)) (z.1 4))) 4 i_ ((fun j => z.1 6 (497 * (u - 1) + j)) i_)) = (ur (u1 (u1 z 0 0 0) 0 8 (nI (u - 1))) 4 (pre (i_ + 1) (fun j => z.1 6 (497 * (u - 1) + j)) (z.1 4))) from by rw [u1_ur]; exact congrArg (ur (u1 (u1 z 0 0 0) 0 8 (nI (u - 1))) 4) (pre_s i_ (fun j => z.1 6 (497 * (u - 1) + j)) (z.1 4))] at hR
        exact ih_26 (i_ + 1) (by omega) (by omega) _ _ _ hR hS (lv_sub hl [1, 0] rfl)
  · skip
    have c_1 : u = 0 := (nI_eq (a := u) (b := 0) (by omega) (by omega)).mp c_1
    have h_ : u = 0 := c_1
    refine lv_iconst (v := (-1)) hx hcb dX10_undo_12 (by decide) ?_
    exact hret (-1) (u1 z 0 0 0) _ _ _ _ dX10_undo_13 rfl hR hS (by rw [if_pos h_]; first | done | rfl)
def rm_X10_richest : Room := { frames := 2, cells := 0, slots := 0, locals := 45 }
set_option maxRecDepth 100000 in
set_option maxHeartbeats 4000000 in
theorem c_X10_richest (l : Launch) (G : xGl) (w : xWd) (hw : isM w) (z : xSt) (sz : Nat)  (hO : rOk z) : xMi l yX10_richest cX10_richest 3 (some FieldType.int) rm_X10_richest G w z sz [.ref (w.2.2 0)] (fun r z1 => r = (mxI (eqQ z) (mQ z 12)).1 ∧ z1 = u1 z 0 0 0) := by
  refine x_mi (by decide) (Nat.le_of_ble_eq_true rfl) ?_
  intro p e s mt args below meth c ls Q hsz X hR hS hl hret
  obtain ⟨hx, hcb, hml, hown, hts, hlk, hK, hZ⟩ := X
  have hl : lv_has ls 3 [(0, .ref (w.2.2 0))] := hl
  have hm8_ := hO.2.1
  have hd4_ := hO.2.2.2.1
  have hy24_ := hO.2.2.2.2.2
  refine lv_aload_n hx hcb dX10_richest_0 rfl (lv_at hl 0 rfl) ?_
  refine lv_iconst (v := (nI 0)) hx hcb dX10_richest_1 (by decide) ?_
  refine x_putI hx hcb hts hown hK xc10 hR hS (hw.lo (by decide)) (hw.s0 rfl) 0 (by decide) rfl q_1166 rfl (v := 0) rfl rfl dX10_richest_2 (fun H locs hR hS => ?_)
  refine lv_iconst (v := (-1)) hx hcb dX10_richest_5 (by decide) ?_
  refine lv_istore_n (lv' := [(1, .int (-1)), (0, .ref (w.2.2 0))]) hx hcb dX10_richest_6 rfl hl (by decide) rfl (fun ls hl => ?_)
  refine lv_iconst (v := (nI 0)) hx hcb dX10_richest_7 (by decide) ?_
  refine lv_istore_n (lv' := [(2, .int (nI 0)), (1, .int (-1)), (0, .ref (w.2.2 0))]) hx hcb dX10_richest_8 rfl hl (by decide) rfl (fun ls hl => ?_)
  rw [show (-1) = ((mxI (eqQ z) 0).1) from rfl] at hl
  suffices LP_9 : ∀ (nn : Nat) (i_ : Nat) (_ : mQ z 12 - i_ < nn) (hi_ : i_ ≤ mQ z 12) (H : Heap) (locs : List Loc) (ls : Array Slot), Rh G w (u1 z 0 0 0) H → va_S (xA w s.heap.size) s.heap H locs → lv_has ls 3 [(0, .ref (w.2.2 0)), (1, .int ((mxI (eqQ z) i_).1)), (2, .int (nI i_))] → W p l e rm_X10_richest s mt args below meth c H locs 0 0 Q (F0 mt 9 ls []) from LP_9 ((_) + 1) 0 (Nat.lt_succ_self _) (Nat.zero_le _) _ _ _ hR hS (lv_sub hl [2, 1, 0] rfl)
  intro nn
  induction nn with
  | zero => intro i_ hm_ ; exact absurd hm_ (Nat.not_lt_zero _)
  | succ nn ih_9 =>
    intro i_ hm_9 hi_ H locs ls hR hS hl
    refine lv_iload_n hx hcb dX10_richest_9 rfl (lv_at hl 2 rfl) ?_
    refine lv_aload_n hx hcb dX10_richest_10 rfl (lv_at hl 0 rfl) ?_
    refine x_getR hx hcb hts hown hK xc10 hR (hw.lo (by decide)) (hw.s0 rfl) 3 (by decide) rfl q_1169 dX10_richest_11 ?_
    refine lv_bipush (v := (nI 12)) hx hcb dX10_richest_14 (by decide) ?_
    refine x_iald hx hcb hK hR (hw.lo (by decide)) (hw.s0 rfl) (k := 12) (by omega) (by decide) dX10_richest_16 ?_
    refine x_top (show ((u1 z 0 0 0).1 2 12) = (nI (mQ z 12)) from hO.1) ?_
    refine lv_icmp_ge (tgt := 46) hx hcb dX10_richest_17 (by decide) (fun c_1 => ?_) (fun c_1 => ?_)
    · skip
      have c_1 : (mQ z 12) ≤ i_ := (nI_leI (by omega) (by omega)).mp c_1
      obtain rfl : mQ z 12 = i_ := by omega
      refine lv_iload_n hx hcb dX10_richest_46 rfl (lv_at hl 1 rfl) ?_
      exact hret ((mxI (eqQ z) (mQ z 12)).1) (u1 z 0 0 0) _ _ _ _ dX10_richest_47 rfl hR hS (⟨rfl, rfl⟩)
    · skip
      have c_1 : ¬ (mQ z 12) ≤ i_ := fun h_ => c_1 ((nI_leI (by omega) (by omega)).mpr h_)
      refine lv_iload_n hx hcb dX10_richest_20 rfl (lv_at hl 1 rfl) ?_
      refine lv_iconst (v := (-1)) hx hcb dX10_richest_21 (by decide) ?_
      refine lv_icmp_eq (tgt := 38) hx hcb dX10_richest_22 (by decide) (fun c_2 => ?_) (fun c_2 => ?_)
      · skip
        have hC_ : ((mxI (eqQ z) i_).1 = (-1) ∨ (mxI (eqQ z) i_).2 < eqQ z i_) := Or.inl c_2
        refine lv_iload_n hx hcb dX10_richest_38 rfl (lv_at hl 2 rfl) ?_
        refine lv_istore_n (lv' := [(1, .int (nI i_)), (0, .ref (w.2.2 0)), (2, .int (nI i_))]) hx hcb dX10_richest_39 rfl hl (by decide) rfl (fun ls hl => ?_)
        refine lv_iinc (v := (nI (i_ + 1))) (lv' := [(2, .int (nI (i_ + 1))), (1, .int (nI i_)), (0, .ref (w.2.2 0))]) hx hcb dX10_richest_40 hl (k := 2) rfl (x_iinc1 _) (by decide) rfl (fun ls hl => ?_)
        refine lv_goto (tgt := 9) hx hcb dX10_richest_43 (by decide) ?_
        rw [show (nI i_) = ((mxI (eqQ z) (i_ + 1)).1) from by first | rw [mxI_y hC_] | (rw [mxI_n hC_]; exact ek_.symm)] at hl
        exact ih_9 (i_ + 1) (by omega) (by omega) _ _ _ hR hS (lv_sub hl [2, 1, 0] rfl)
      · skip
        have hN_ := c_2
        obtain ⟨k_, hk_, ek_, ev_⟩ := (mxI_k (eqQ z) i_).resolve_left c_2
        rw [ek_] at hl
        refine lv_aload_n hx hcb dX10_richest_25 rfl (lv_at hl 0 rfl) ?_
        refine lv_iload_n hx hcb dX10_richest_26 rfl (lv_at hl 2 rfl) ?_
        refine x_ci0 rfl rfl (x_runV hx hcb hml hown hts (c_X10_equity l G w hw (u1 z 0 0 0) _ i_ (by omega)) mv_X10_equity q_1403 hK hZ hR hS (hw.lo (by decide)) xc10 (hw.s0 rfl) rfl hl.1 rfl (Nat.le_of_ble_eq_true rfl) dX10_richest_27 ⟨by decide, by decide⟩ ⟨by decide, by decide⟩) hS (fun r_3 z_4 H locs hp_5 hR hS => ?_)
        rw [hp_5.2] at hR; rw [hp_5.1]
        refine x_top (show (eqQ (u1 z 0 0 0) i_) = (eqQ z i_) from rfl) ?_
        refine lv_aload_n hx hcb dX10_richest_30 rfl (lv_at hl 0 rfl) ?_
        refine lv_iload_n hx hcb dX10_richest_31 rfl (lv_at hl 1 rfl) ?_
        refine x_ci0 rfl rfl (x_runV hx hcb hml hown hts (c_X10_equity l G w hw (u1 z 0 0 0) _ k_ (by omega)) mv_X10_equity q_1403 hK hZ hR hS (hw.lo (by decide)) xc10 (hw.s0 rfl) rfl hl.1 rfl (Nat.le_of_ble_eq_true rfl) dX10_richest_32 ⟨by decide, by decide⟩ ⟨by decide, by decide⟩) hS (fun r_6 z_7 H locs hp_8 hR hS => ?_)
        rw [hp_8.2] at hR; rw [hp_8.1]
        refine x_top (show (eqQ (u1 z 0 0 0) k_) = (eqQ z k_) from rfl) ?_
        refine lv_icmp_le (tgt := 40) hx hcb dX10_richest_35 (by decide) (fun c_9 => ?_) (fun c_9 => ?_)
        · skip
          have hC_ : ¬ ((mxI (eqQ z) i_).1 = (-1) ∨ (mxI (eqQ z) i_).2 < eqQ z i_) := fun q_ => q_.elim hN_ (fun h_ => absurd c_9 (Int32.not_le.mpr (by rw [ev_] at h_; exact h_)))
          refine lv_iinc (v := (nI (i_ + 1))) (lv' := [(2, .int (nI (i_ + 1))), (0, .ref (w.2.2 0)), (1, .int (nI k_))]) hx hcb dX10_richest_40 hl (k := 2) rfl (x_iinc1 _) (by decide) rfl (fun ls hl => ?_)
          refine lv_goto (tgt := 9) hx hcb dX10_richest_43 (by decide) ?_
          rw [show (nI k_) = ((mxI (eqQ z) (i_ + 1)).1) from by first | rw [mxI_y hC_] | (rw [mxI_n hC_]; exact ek_.symm)] at hl
          exact ih_9 (i_ + 1) (by omega) (by omega) _ _ _ hR hS (lv_sub hl [1, 2, 0] rfl)
        · skip
          have hC_ : ((mxI (eqQ z) i_).1 = (-1) ∨ (mxI (eqQ z) i_).2 < eqQ z i_) := Or.inr (by rw [ev_]; exact Int32.not_le.mp c_9)
          refine lv_iload_n hx hcb dX10_richest_38 rfl (lv_at hl 2 rfl) ?_
          refine lv_istore_n (lv' := [(1, .int (nI i_)), (0, .ref (w.2.2 0)), (2, .int (nI i_))]) hx hcb dX10_richest_39 rfl hl (by decide) rfl (fun ls hl => ?_)
          refine lv_iinc (v := (nI (i_ + 1))) (lv' := [(2, .int (nI (i_ + 1))), (1, .int (nI i_)), (0, .ref (w.2.2 0))]) hx hcb dX10_richest_40 hl (k := 2) rfl (x_iinc1 _) (by decide) rfl (fun ls hl => ?_)
          refine lv_goto (tgt := 9) hx hcb dX10_richest_43 (by decide) ?_
          rw [show (nI i_) = ((mxI (eqQ z) (i_ + 1)).1) from by first | rw [mxI_y hC_] | (rw [mxI_n hC_]; exact ek_.symm)] at hl
          exact ih_9 (i_ + 1) (by omega) (by omega) _ _ _ hR hS (lv_sub hl [2, 1, 0] rfl)
def rm_X10_installment : Room := { frames := 2, cells := 0, slots := 0, locals := 45 }
set_option maxRecDepth 100000 in
set_option maxHeartbeats 4000000 in
theorem c_X10_installment (l : Launch) (G : xGl) (w : xWd) (hw : isM w) (z : xSt) (sz : Nat) (x : Int32) (y : Int32) (hO : rOk z) : xMi l yX10_installment cX10_installment 6 (some FieldType.int) rm_X10_installment G w z sz [.ref (w.2.2 0), .int x, .int y] (fun r z1 => r = (if inR x (mQ z 12) then (if y < 0 ∨ ¬ y < z.1 4 (21 + x.toNatClampNeg) then (-1) else (isQ (eqQ z x.toNatClampNeg) (z.1 4 (21 + x.toNatClampNeg)) y.toNatClampNeg + z.1 4 (21 + x.toNatClampNeg) - y - nI 1) / (z.1 4 (21 + x.toNatClampNeg) - y)) else 0) ∧ z1 = ck z (inR x (mQ z 12))) := by
  refine x_mi (by decide) (Nat.le_of_ble_eq_true rfl) ?_
  intro p e s mt args below meth c ls Q hsz X hR hS hl hret
  obtain ⟨hx, hcb, hml, hown, hts, hlk, hK, hZ⟩ := X
  have hl : lv_has ls 6 [(0, .ref (w.2.2 0)), (1, .int x), (2, .int y)] := hl
  have hm8_ := hO.2.1
  have hd4_ := hO.2.2.2.1
  have hy24_ := hO.2.2.2.2.2
  refine lv_aload_n hx hcb dX10_installment_0 rfl (lv_at hl 0 rfl) ?_
  refine lv_aload_n hx hcb dX10_installment_1 rfl (lv_at hl 0 rfl) ?_
  refine lv_iload_n hx hcb dX10_installment_2 rfl (lv_at hl 1 rfl) ?_
  refine x_ci0 rfl rfl (x_runV hx hcb hml hown hts (c_X10_isMember l G w hw z _ x hO) mv_X10_isMember q_1456 hK hZ hR hS (hw.lo (by decide)) xc10 (hw.s0 rfl) rfl hl.1 rfl (Nat.le_of_ble_eq_true rfl) dX10_installment_3 ⟨by decide, by decide⟩ ⟨by decide, by decide⟩) hS (fun r_1 z_2 H locs hp_3 hR hS => ?_)
  rw [hp_3.2] at hR; rw [hp_3.1]
  refine x_ci0 rfl rfl (x_runV hx hcb hml hown hts (c_X10_checks l G w hw z _ (if inR x (mQ z 12) then 1 else 0) (inR x (mQ z 12)) rfl) mv_X10_checks q_1460 hK hZ hR hS (hw.lo (by decide)) xc10 (hw.s0 rfl) rfl hl.1 rfl (Nat.le_of_ble_eq_true rfl) dX10_installment_6 ⟨by decide, by decide⟩ ⟨by decide, by decide⟩) hS (fun r_4 z_5 H locs hp_6 hR hS => ?_)
  rw [hp_6.2] at hR; rw [hp_6.1]
  refine lv_if_ne (tgt := 14) hx hcb dX10_installment_9 (by decide) (fun c_7 => ?_) (fun c_7 => ?_)
  · skip
    have h_ : inR x (mQ z 12) := Classical.byContradiction (fun q_ => c_7 (if_neg q_))
    have hxk_ := inR_k (n := mQ z 12) (by omega) h_
    obtain ⟨k_, ek_⟩ : ∃ q_, q_ = x.toNatClampNeg := ⟨_, rfl⟩
    rw [← ek_] at hxk_
    have hltk_ := hxk_.2
    rw [hxk_.1] at hl
    refine lv_aload_n hx hcb dX10_installment_14 rfl (lv_at hl 0 rfl) ?_
    refine x_getR hx hcb hts hown hK xc10 hR (hw.lo (by decide)) (hw.s0 rfl) 5 (by decide) rfl q_1171 dX10_installment_15 ?_
    refine lv_bipush (v := (nI 21)) hx hcb dX10_installment_18 (by decide) ?_
    refine lv_iload_n hx hcb dX10_installment_20 rfl (lv_at hl 1 rfl) ?_
    refine x_iaddN hx hcb dX10_installment_21 ?_
    refine x_iald hx hcb hK hR (hw.lo (by decide)) (hw.s0 rfl) (k := (21 + k_)) (by omega) (by decide) dX10_installment_22 ?_
    refine x_top (show ((ck z (inR x (mQ z 12))).1 4 (21 + k_)) = (z.1 4 (21 + k_)) from rfl) ?_
    refine lv_istore_n (lv' := [(3, .int (z.1 4 (21 + k_))), (0, .ref (w.2.2 0)), (1, .int (nI k_)), (2, .int y)]) hx hcb dX10_installment_23 rfl hl (by decide) rfl (fun ls hl => ?_)
    refine lv_iload_n hx hcb dX10_installment_24 rfl (lv_at hl 3 rfl) ?_
    refine lv_if_lt (tgt := 33) hx hcb dX10_installment_25 (by decide) (fun c_8 => ?_) (fun c_8 => ?_)
    · skip
      have hq_ : y < 0 ∨ ¬ y < z.1 4 (21 + k_) := Or.inl c_8
      refine lv_iconst (v := (-1)) hx hcb dX10_installment_33 (by decide) ?_
      exact hret (-1) (ck z (inR x (mQ z 12))) _ _ _ _ dX10_installment_34 rfl hR hS (⟨by rw [if_pos h_, ← ek_, if_pos hq_], rfl⟩)
    · skip
      have hy0_ := c_8
      obtain ⟨j_, hj_, ey_⟩ := nI_of hy0_
      rw [ey_] at hl
      refine lv_iload_n hx hcb dX10_installment_28 rfl (lv_at hl 3 rfl) ?_
      refine lv_iload_n hx hcb dX10_installment_29 rfl (lv_at hl 0 rfl) ?_
      refine lv_icmp_lt (tgt := 35) hx hcb dX10_installment_30 (by decide) (fun c_9 => ?_) (fun c_9 => ?_)
      · skip
        have hjn_ := c_9
        have hq_ : ¬ (y < 0 ∨ ¬ y < z.1 4 (21 + k_)) := fun q_ => q_.elim hy0_ (fun t_ => t_ (by rw [ey_]; exact hjn_))
        refine lv_aload_n hx hcb dX10_installment_35 rfl (lv_at hl 1 rfl) ?_
        refine lv_iload_n hx hcb dX10_installment_36 rfl (lv_at hl 2 rfl) ?_
        refine x_ci0 rfl rfl (x_runV hx hcb hml hown hts (c_X10_equity l G w hw (ck z (inR x (mQ z 12))) _ k_ (by omega)) mv_X10_equity q_1403 hK hZ hR hS (hw.lo (by decide)) xc10 (hw.s0 rfl) rfl hl.1 rfl (Nat.le_of_ble_eq_true rfl) dX10_installment_37 ⟨by decide, by decide⟩ ⟨by decide, by decide⟩) hS (fun r_10 z_11 H locs hp_12 hR hS => ?_)
        rw [hp_12.2] at hR; rw [hp_12.1]
        refine x_top (show (eqQ (ck z (inR x (mQ z 12))) k_) = (eqQ z k_) from rfl) ?_
        refine lv_istore (lv' := [(4, .int (eqQ z k_)), (3, .int (z.1 4 (21 + k_))), (0, .ref (w.2.2 0)), (1, .int (nI k_)), (2, .int (nI j_))]) hx hcb dX10_installment_40 hl (by decide) rfl (fun ls hl => ?_)
        refine lv_iconst (v := (nI 0)) hx hcb dX10_installment_42 (by decide) ?_
        refine lv_istore (lv' := [(5, .int (nI 0)), (4, .int (eqQ z k_)), (3, .int (z.1 4 (21 + k_))), (0, .ref (w.2.2 0)), (1, .int (nI k_)), (2, .int (nI j_))]) hx hcb dX10_installment_43 hl (by decide) rfl (fun ls hl => ?_)
        rw [show (eqQ z k_) = (isQ (eqQ z k_) (z.1 4 (21 + k_)) 0) from rfl] at hl
        suffices LP_45 : ∀ (nn : Nat) (i_ : Nat) (_ : j_ - i_ < nn) (hi_ : i_ ≤ j_) (H : Heap) (locs : List Loc) (ls : Array Slot), Rh G w (ck z (inR x (mQ z 12))) H → va_S (xA w s.heap.size) s.heap H locs → lv_has ls 6 [(0, .ref (w.2.2 0)), (2, .int (nI j_)), (3, .int (z.1 4 (21 + k_))), (4, .int (isQ (eqQ z k_) (z.1 4 (21 + k_)) i_)), (5, .int (nI i_))] → W p l e rm_X10_installment s mt args below meth c H locs 0 0 Q (F0 mt 45 ls []) from LP_45 ((_) + 1) 0 (Nat.lt_succ_self _) (Nat.zero_le _) _ _ _ hR hS (lv_sub hl [3, 5, 2, 1, 0] rfl)
        intro nn
        induction nn with
        | zero => intro i_ hm_ ; exact absurd hm_ (Nat.not_lt_zero _)
        | succ nn ih_45 =>
          intro i_ hm_45 hi_ H locs ls hR hS hl
          refine lv_iload hx hcb dX10_installment_45 (lv_at hl 4 rfl) ?_
          refine lv_iload_n hx hcb dX10_installment_47 rfl (lv_at hl 1 rfl) ?_
          refine lv_icmp_ge (tgt := 76) hx hcb dX10_installment_48 (by decide) (fun c_13 => ?_) (fun c_13 => ?_)
          · skip
            have c_13 : j_ ≤ i_ := (nI_leI (by omega) (by omega)).mp c_13
            obtain rfl : j_ = i_ := by omega
            refine lv_iload hx hcb dX10_installment_76 (lv_at hl 3 rfl) ?_
            refine lv_iload_n hx hcb dX10_installment_78 rfl (lv_at hl 2 rfl) ?_
            refine lv_iadd hx hcb dX10_installment_79 ?_
            refine lv_iload_n hx hcb dX10_installment_80 rfl (lv_at hl 1 rfl) ?_
            refine lv_isub hx hcb dX10_installment_81 ?_
            refine lv_iconst (v := (nI 1)) hx hcb dX10_installment_82 (by decide) ?_
            refine lv_isub hx hcb dX10_installment_83 ?_
            refine lv_iload_n hx hcb dX10_installment_84 rfl (lv_at hl 2 rfl) ?_
            refine lv_iload_n hx hcb dX10_installment_85 rfl (lv_at hl 1 rfl) ?_
            refine lv_isub hx hcb dX10_installment_86 ?_
            refine lv_idiv hx hcb dX10_installment_87 (sub_nz (Nat.le_refl _) hj_ hjn_) ?_
            exact hret (((((isQ (eqQ z k_) (z.1 4 (21 + k_)) j_) + (z.1 4 (21 + k_))) - (nI j_)) - (nI 1)) / ((z.1 4 (21 + k_)) - (nI j_))) (ck z (inR x (mQ z 12))) _ _ _ _ dX10_installment_88 rfl hR hS (⟨by rw [if_pos h_, ← ek_, if_neg hq_, ey_, nI_clamp hj_], rfl⟩)
          · skip
            have c_13 : ¬ j_ ≤ i_ := fun h_ => c_13 ((nI_leI (by omega) (by omega)).mpr h_)
            refine lv_iload hx hcb dX10_installment_51 (lv_at hl 3 rfl) ?_
            refine lv_iload hx hcb dX10_installment_53 (lv_at hl 3 rfl) ?_
            refine lv_iload_n hx hcb dX10_installment_55 rfl (lv_at hl 2 rfl) ?_
            refine lv_iadd hx hcb dX10_installment_56 ?_
            refine lv_iload hx hcb dX10_installment_57 (lv_at hl 4 rfl) ?_
            refine lv_isub hx hcb dX10_installment_59 ?_
            refine lv_iconst (v := (nI 1)) hx hcb dX10_installment_60 (by decide) ?_
            refine lv_isub hx hcb dX10_installment_61 ?_
            refine lv_iload_n hx hcb dX10_installment_62 rfl (lv_at hl 2 rfl) ?_
            refine lv_iload hx hcb dX10_installment_63 (lv_at hl 4 rfl) ?_
            refine lv_isub hx hcb dX10_installment_65 ?_
            refine lv_idiv hx hcb dX10_installment_66 (sub_nz (by omega) hj_ hjn_) ?_
            refine lv_isub hx hcb dX10_installment_67 ?_
            refine lv_istore (lv' := [(4, .int ((isQ (eqQ z k_) (z.1 4 (21 + k_)) i_) - (((((isQ (eqQ z k_) (z.1 4 (21 + k_)) i_) + (z.1 4 (21 + k_))) - (nI i_)) - (nI 1)) / ((z.1 4 (21 + k_)) - (nI i_))))), (0, .ref (w.2.2 0)), (2, .int (nI j_)), (3, .int (z.1 4 (21 + k_))), (5, .int (nI i_))]) hx hcb dX10_installment_68 hl (by decide) rfl (fun ls hl => ?_)
            refine lv_iinc (v := (nI (i_ + 1))) (lv' := [(5, .int (nI (i_ + 1))), (4, .int ((isQ (eqQ z k_) (z.1 4 (21 + k_)) i_) - (((((isQ (eqQ z k_) (z.1 4 (21 + k_)) i_) + (z.1 4 (21 + k_))) - (nI i_)) - (nI 1)) / ((z.1 4 (21 + k_)) - (nI i_))))), (0, .ref (w.2.2 0)), (2, .int (nI j_)), (3, .int (z.1 4 (21 + k_)))]) hx hcb dX10_installment_70 hl (k := 4) rfl (x_iinc1 _) (by decide) rfl (fun ls hl => ?_)
            refine lv_goto (tgt := 45) hx hcb dX10_installment_73 (by decide) ?_
            rw [show ((isQ (eqQ z k_) (z.1 4 (21 + k_)) i_) - (((((isQ (eqQ z k_) (z.1 4 (21 + k_)) i_) + (z.1 4 (21 + k_))) - (nI i_)) - (nI 1)) / ((z.1 4 (21 + k_)) - (nI i_)))) = (isQ (eqQ z k_) (z.1 4 (21 + k_)) (i_ + 1)) from rfl] at hl
            exact ih_45 (i_ + 1) (by omega) (by omega) _ _ _ hR hS (lv_sub hl [2, 3, 4, 1, 0] rfl)
      · skip
        have hq_ : y < 0 ∨ ¬ y < z.1 4 (21 + k_) := Or.inr (by rw [ey_]; exact c_9)
        refine lv_iconst (v := (-1)) hx hcb dX10_installment_33 (by decide) ?_
        exact hret (-1) (ck z (inR x (mQ z 12))) _ _ _ _ dX10_installment_34 rfl hR hS (⟨by rw [if_pos h_, ← ek_, if_pos hq_], rfl⟩)
  · skip
    have h_ : ¬ (inR x (mQ z 12)) := fun q_ => absurd c_7 (by rw [if_pos q_]; decide)
    refine lv_iconst (v := (nI 0)) hx hcb dX10_installment_12 (by decide) ?_
    exact hret (nI 0) (ck z (inR x (mQ z 12))) _ _ _ _ dX10_installment_13 rfl hR hS (⟨by rw [if_neg h_]; rfl, rfl⟩)
def rm_X10_topMember : Room := { frames := 3, cells := 0, slots := 0, locals := 75 }
set_option maxRecDepth 100000 in
set_option maxHeartbeats 4000000 in
theorem c_X10_topMember (l : Launch) (G : xGl) (w : xWd) (hw : isM w) (z : xSt) (sz : Nat) (a : Int32) (b : Int32) (c_ : Int32) (d : Int32) (hO : rOk z) (hsh : okR (mQ z 13) ((zQ (u1 z 0 0 0) a b c_ d).1 10) → ∀ e, e < mQ z 13 → shD (daL (zQ (u1 z 0 0 0) a b c_ d) e) e) : xMi l yX10_topMember cX10_topMember 7 (some FieldType.int) rm_X10_topMember G w z sz [.ref (w.2.2 0), .int a, .int b, .int c_, .int d] (fun r z1 => (r, z1) = if okR (mQ z 13) ((zQ (u1 z 0 0 0) a b c_ d).1 10) then (if mQ z 12 = 0 then ((-1), (zQ (u1 z 0 0 0) a b c_ d)) else (nI (amI ((daL (zQ (u1 z 0 0 0) a b c_ d) (mQ z 13)).1 11) (mQ z 12 - 1)), (daL (zQ (u1 z 0 0 0) a b c_ d) (mQ z 13)))) else ((-2), (zQ (u1 z 0 0 0) a b c_ d))) := by
  refine x_mi (by decide) (Nat.le_of_ble_eq_true rfl) ?_
  intro p e s mt args below meth c ls Q hsz X hR hS hl hret
  obtain ⟨hx, hcb, hml, hown, hts, hlk, hK, hZ⟩ := X
  have hl : lv_has ls 7 [(0, .ref (w.2.2 0)), (1, .int a), (2, .int b), (3, .int c_), (4, .int d)] := hl
  have hm8_ := hO.2.1
  have hd4_ := hO.2.2.2.1
  have hy24_ := hO.2.2.2.2.2
  refine lv_aload_n hx hcb dX10_topMember_0 rfl (lv_at hl 0 rfl) ?_
  refine lv_iconst (v := (nI 0)) hx hcb dX10_topMember_1 (by decide) ?_
  refine x_putI hx hcb hts hown hK xc10 hR hS (hw.lo (by decide)) (hw.s0 rfl) 0 (by decide) rfl q_1166 rfl (v := 0) rfl rfl dX10_topMember_2 (fun H locs hR hS => ?_)
  refine lv_aload_n hx hcb dX10_topMember_5 rfl (lv_at hl 0 rfl) ?_
  refine lv_iload_n hx hcb dX10_topMember_6 rfl (lv_at hl 1 rfl) ?_
  refine lv_iload_n hx hcb dX10_topMember_7 rfl (lv_at hl 2 rfl) ?_
  refine lv_iload_n hx hcb dX10_topMember_8 rfl (lv_at hl 3 rfl) ?_
  refine lv_iload hx hcb dX10_topMember_9 (lv_at hl 4 rfl) ?_
  refine x_cv0 rfl rfl (x_runV hx hcb hml hown hts (c_X10_laysResults l G w hw (u1 z 0 0 0) _ a b c_ d) mv_X10_laysResults q_1350 hK hZ hR hS (hw.lo (by decide)) xc10 (hw.s0 rfl) rfl hl.1 rfl (Nat.le_of_ble_eq_true rfl) dX10_topMember_11 ⟨by decide, by decide⟩ ⟨by decide, by decide⟩) hS (fun z_2 H locs hp_3 hR hS => ?_)
  rw [hp_3] at hR
  refine lv_aload_n hx hcb dX10_topMember_14 rfl (lv_at hl 0 rfl) ?_
  refine x_ci0 rfl rfl (x_runV hx hcb hml hown hts (c_X10_areResults l G w hw (zQ (u1 z 0 0 0) a b c_ d) _ hO) mv_X10_areResults q_1554 hK hZ hR hS (hw.lo (by decide)) xc10 (hw.s0 rfl) rfl hl.1 rfl (Nat.le_of_ble_eq_true rfl) dX10_topMember_15 ⟨by decide, by decide⟩ ⟨by decide, by decide⟩) hS (fun r_4 z_5 H locs hp_6 hR hS => ?_)
  rw [hp_6.2] at hR; rw [hp_6.1]
  refine x_top (show (if okR (mQ (zQ (u1 z 0 0 0) a b c_ d) 13) ((zQ (u1 z 0 0 0) a b c_ d).1 10) then 1 else 0) = (if okR (mQ z 13) ((zQ (u1 z 0 0 0) a b c_ d).1 10) then 1 else 0) from rfl) ?_
  refine lv_if_ne (tgt := 24) hx hcb dX10_topMember_18 (by decide) (fun c_7 => ?_) (fun c_7 => ?_)
  · skip
    have h_ : okR (mQ z 13) ((zQ (u1 z 0 0 0) a b c_ d).1 10) := Classical.byContradiction (fun q_ => c_7 (if_neg q_))
    refine lv_aload_n hx hcb dX10_topMember_24 rfl (lv_at hl 0 rfl) ?_
    refine x_getR hx hcb hts hown hK xc10 hR (hw.lo (by decide)) (hw.s0 rfl) 3 (by decide) rfl q_1169 dX10_topMember_25 ?_
    refine lv_bipush (v := (nI 12)) hx hcb dX10_topMember_28 (by decide) ?_
    refine x_iald hx hcb hK hR (hw.lo (by decide)) (hw.s0 rfl) (k := 12) (by omega) (by decide) dX10_topMember_30 ?_
    refine x_top (show ((zQ (u1 z 0 0 0) a b c_ d).1 2 12) = (nI (mQ z 12)) from hO.1) ?_
    refine lv_if_ne (tgt := 36) hx hcb dX10_topMember_31 (by decide) (fun c_8 => ?_) (fun c_8 => ?_)
    · skip
      have c_8 : ¬ (mQ z 12) = 0 := fun h_ => c_8 ((nI_eq (a := (mQ z 12)) (b := 0) (by omega) (by omega)).mpr h_)
      have h0_ : ¬ mQ z 12 = 0 := c_8
      refine lv_aload_n hx hcb dX10_topMember_36 rfl (lv_at hl 0 rfl) ?_
      refine x_cv0 rfl rfl (x_runV hx hcb hml hown hts (c_X10_dealsAll l G w hw (zQ (u1 z 0 0 0) a b c_ d) _ hO (hsh h_)) mv_X10_dealsAll q_1358 hK hZ hR hS (hw.lo (by decide)) xc10 (hw.s0 rfl) rfl hl.1 rfl (Nat.le_of_ble_eq_true rfl) dX10_topMember_37 ⟨by decide, by decide⟩ ⟨by decide, by decide⟩) hS (fun z_10 H locs hp_11 hR hS => ?_)
      rw [hp_11] at hR
      rw [show daL (zQ (u1 z 0 0 0) a b c_ d) (mQ (zQ (u1 z 0 0 0) a b c_ d) 13) = (daL (zQ (u1 z 0 0 0) a b c_ d) (mQ z 13)) from rfl] at hR
      refine lv_iconst (v := (nI 0)) hx hcb dX10_topMember_40 (by decide) ?_
      refine lv_istore (lv' := [(5, .int (nI 0)), (0, .ref (w.2.2 0)), (1, .int a), (2, .int b), (3, .int c_), (4, .int d)]) hx hcb dX10_topMember_41 hl (by decide) rfl (fun ls hl => ?_)
      refine lv_iconst (v := (nI 1)) hx hcb dX10_topMember_43 (by decide) ?_
      refine lv_istore (lv' := [(6, .int (nI 1)), (5, .int (nI 0)), (0, .ref (w.2.2 0)), (1, .int a), (2, .int b), (3, .int c_), (4, .int d)]) hx hcb dX10_topMember_44 hl (by decide) rfl (fun ls hl => ?_)
      suffices LP_46 : ∀ (nn : Nat) (j_ : Nat) (_ : mQ z 12 - j_ < nn) (hj_ : j_ + 1 ≤ mQ z 12) (H : Heap) (locs : List Loc) (ls : Array Slot), Rh G w (daL (zQ (u1 z 0 0 0) a b c_ d) (mQ z 13)) H → va_S (xA w s.heap.size) s.heap H locs → lv_has ls 7 [(0, .ref (w.2.2 0)), (5, .int (nI (amI ((daL (zQ (u1 z 0 0 0) a b c_ d) (mQ z 13)).1 11) j_))), (6, .int (nI (j_ + 1)))] → W p l e rm_X10_topMember s mt args below meth c H locs 0 0 Q (F0 mt 46 ls []) from LP_46 ((_) + 1) 0 (Nat.lt_succ_self _) (by omega) _ _ _ hR hS (lv_sub hl [2, 1, 0] rfl)
      intro nn
      induction nn with
      | zero => intro j_ hm_ ; exact absurd hm_ (Nat.not_lt_zero _)
      | succ nn ih_46 =>
        intro j_ hm_46 hj_ H locs ls hR hS hl
        refine lv_iload hx hcb dX10_topMember_46 (lv_at hl 2 rfl) ?_
        refine lv_aload_n hx hcb dX10_topMember_48 rfl (lv_at hl 0 rfl) ?_
        refine x_getR hx hcb hts hown hK xc10 hR (hw.lo (by decide)) (hw.s0 rfl) 3 (by decide) rfl q_1169 dX10_topMember_49 ?_
        refine lv_bipush (v := (nI 12)) hx hcb dX10_topMember_52 (by decide) ?_
        refine x_iald hx hcb hK hR (hw.lo (by decide)) (hw.s0 rfl) (k := 12) (by omega) (by decide) dX10_topMember_54 ?_
        refine x_top (show ((daL (zQ (u1 z 0 0 0) a b c_ d) (mQ z 13)).1 2 12) = (nI (mQ z 12)) from by rw [daL_2]; exact hO.1) ?_
        refine lv_icmp_ge (tgt := 85) hx hcb dX10_topMember_55 (by decide) (fun c_12 => ?_) (fun c_12 => ?_)
        · skip
          have c_12 : (mQ z 12) ≤ (j_ + 1) := (nI_leI (by omega) (by omega)).mp c_12
          have hje_ : j_ = mQ z 12 - 1 := by omega
          refine lv_iload hx hcb dX10_topMember_85 (lv_at hl 1 rfl) ?_
          exact hret (nI (amI ((daL (zQ (u1 z 0 0 0) a b c_ d) (mQ z 13)).1 11) j_)) (daL (zQ (u1 z 0 0 0) a b c_ d) (mQ z 13)) _ _ _ _ dX10_topMember_87 rfl hR hS (by rw [if_pos h_, if_neg h0_, hje_])
        · skip
          have c_12 : ¬ (mQ z 12) ≤ (j_ + 1) := fun h_ => c_12 ((nI_leI (by omega) (by omega)).mpr h_)
          refine lv_aload_n hx hcb dX10_topMember_58 rfl (lv_at hl 0 rfl) ?_
          refine x_getR hx hcb hts hown hK xc10 hR (hw.lo (by decide)) (hw.s0 rfl) 13 (by decide) rfl q_1179 dX10_topMember_59 ?_
          refine lv_iload hx hcb dX10_topMember_62 (lv_at hl 2 rfl) ?_
          refine x_iald hx hcb hK hR (hw.lo (by decide)) (hw.s0 rfl) (k := (j_ + 1)) (by omega) (by decide) dX10_topMember_64 ?_
          refine lv_aload_n hx hcb dX10_topMember_65 rfl (lv_at hl 0 rfl) ?_
          refine x_getR hx hcb hts hown hK xc10 hR (hw.lo (by decide)) (hw.s0 rfl) 13 (by decide) rfl q_1179 dX10_topMember_66 ?_
          refine lv_iload hx hcb dX10_topMember_69 (lv_at hl 1 rfl) ?_
          refine x_iald hx hcb hK hR (hw.lo (by decide)) (hw.s0 rfl) (k := (amI ((daL (zQ (u1 z 0 0 0) a b c_ d) (mQ z 13)).1 11) j_)) (by have := amI_le ((daL (zQ (u1 z 0 0 0) a b c_ d) (mQ z 13)).1 11) j_; omega) (by decide) dX10_topMember_71 ?_
          refine lv_icmp_le (tgt := 79) hx hcb dX10_topMember_72 (by decide) (fun c_13 => ?_) (fun c_13 => ?_)
          · skip
            have hq_ : ¬ (daL (zQ (u1 z 0 0 0) a b c_ d) (mQ z 13)).1 11 (amI ((daL (zQ (u1 z 0 0 0) a b c_ d) (mQ z 13)).1 11) j_) < (daL (zQ (u1 z 0 0 0) a b c_ d) (mQ z 13)).1 11 (j_ + 1) := Int32.not_lt.mpr c_13
            refine lv_iinc (v := (nI ((j_ + 1) + 1))) (lv' := [(6, .int (nI ((j_ + 1) + 1))), (0, .ref (w.2.2 0)), (5, .int (nI (amI ((daL (zQ (u1 z 0 0 0) a b c_ d) (mQ z 13)).1 11) j_)))]) hx hcb dX10_topMember_79 hl (k := 2) rfl (x_iinc1 _) (by decide) rfl (fun ls hl => ?_)
            refine lv_goto (tgt := 46) hx hcb dX10_topMember_82 (by decide) ?_
            rw [show (nI (amI ((daL (zQ (u1 z 0 0 0) a b c_ d) (mQ z 13)).1 11) j_)) = (nI (amI ((daL (zQ (u1 z 0 0 0) a b c_ d) (mQ z 13)).1 11) (j_ + 1))) from by rw [amI_s]; first | rw [if_pos hq_] | rw [if_neg hq_]] at hl
            exact ih_46 (j_ + 1) (by omega) (by omega) _ _ _ hR hS (lv_sub hl [1, 2, 0] rfl)
          · skip
            have hq_ : (daL (zQ (u1 z 0 0 0) a b c_ d) (mQ z 13)).1 11 (amI ((daL (zQ (u1 z 0 0 0) a b c_ d) (mQ z 13)).1 11) j_) < (daL (zQ (u1 z 0 0 0) a b c_ d) (mQ z 13)).1 11 (j_ + 1) := Int32.not_le.mp c_13
            refine lv_iload hx hcb dX10_topMember_75 (lv_at hl 2 rfl) ?_
            refine lv_istore (lv' := [(5, .int (nI (j_ + 1))), (0, .ref (w.2.2 0)), (6, .int (nI (j_ + 1)))]) hx hcb dX10_topMember_77 hl (by decide) rfl (fun ls hl => ?_)
            refine lv_iinc (v := (nI ((j_ + 1) + 1))) (lv' := [(6, .int (nI ((j_ + 1) + 1))), (5, .int (nI (j_ + 1))), (0, .ref (w.2.2 0))]) hx hcb dX10_topMember_79 hl (k := 2) rfl (x_iinc1 _) (by decide) rfl (fun ls hl => ?_)
            refine lv_goto (tgt := 46) hx hcb dX10_topMember_82 (by decide) ?_
            rw [show (nI (j_ + 1)) = (nI (amI ((daL (zQ (u1 z 0 0 0) a b c_ d) (mQ z 13)).1 11) (j_ + 1))) from by rw [amI_s]; first | rw [if_pos hq_] | rw [if_neg hq_]] at hl
            exact ih_46 (j_ + 1) (by omega) (by omega) _ _ _ hR hS (lv_sub hl [2, 1, 0] rfl)
    · skip
      have c_8 : (mQ z 12) = 0 := (nI_eq (a := (mQ z 12)) (b := 0) (by omega) (by omega)).mp c_8
      have h0_ : mQ z 12 = 0 := c_8
      refine lv_iconst (v := (-1)) hx hcb dX10_topMember_34 (by decide) ?_
      exact hret (-1) (zQ (u1 z 0 0 0) a b c_ d) _ _ _ _ dX10_topMember_35 rfl hR hS (by rw [if_pos h_, if_pos h0_])
  · skip
    have h_ : ¬ (okR (mQ z 13) ((zQ (u1 z 0 0 0) a b c_ d).1 10)) := fun q_ => absurd c_7 (by rw [if_pos q_]; decide)
    refine lv_bipush (v := (-2)) hx hcb dX10_topMember_21 (by decide) ?_
    exact hret (-2) (zQ (u1 z 0 0 0) a b c_ d) _ _ _ _ dX10_topMember_23 rfl hR hS (by rw [if_neg h_])
def rm_X10_wouldReserve : Room := { frames := 3, cells := 0, slots := 0, locals := 75 }
set_option maxRecDepth 100000 in
set_option maxHeartbeats 4000000 in
theorem c_X10_wouldReserve (l : Launch) (G : xGl) (w : xWd) (hw : isM w) (z : xSt) (sz : Nat) (a : Int32) (b : Int32) (c_ : Int32) (d : Int32) (hO : rOk z) (hsh : okR (mQ z 13) ((zQ (u1 z 0 0 0) a b c_ d).1 10) → ∀ e, e < mQ z 13 → shD (daL (zQ (u1 z 0 0 0) a b c_ d) e) e) : xMi l yX10_wouldReserve cX10_wouldReserve 7 (some FieldType.int) rm_X10_wouldReserve G w z sz [.ref (w.2.2 0), .int a, .int b, .int c_, .int d] (fun r z1 => (r, z1) = if okR (mQ z 13) ((zQ (u1 z 0 0 0) a b c_ d).1 10) then (wrQ (daL (zQ (u1 z 0 0 0) a b c_ d) (mQ z 13)) (mQ z 12), (daL (zQ (u1 z 0 0 0) a b c_ d) (mQ z 13))) else ((-100000000), (zQ (u1 z 0 0 0) a b c_ d))) := by
  refine x_mi (by decide) (Nat.le_of_ble_eq_true rfl) ?_
  intro p e s mt args below meth c ls Q hsz X hR hS hl hret
  obtain ⟨hx, hcb, hml, hown, hts, hlk, hK, hZ⟩ := X
  have hl : lv_has ls 7 [(0, .ref (w.2.2 0)), (1, .int a), (2, .int b), (3, .int c_), (4, .int d)] := hl
  have hm8_ := hO.2.1
  have hd4_ := hO.2.2.2.1
  have hy24_ := hO.2.2.2.2.2
  refine lv_aload_n hx hcb dX10_wouldReserve_0 rfl (lv_at hl 0 rfl) ?_
  refine lv_iconst (v := (nI 0)) hx hcb dX10_wouldReserve_1 (by decide) ?_
  refine x_putI hx hcb hts hown hK xc10 hR hS (hw.lo (by decide)) (hw.s0 rfl) 0 (by decide) rfl q_1166 rfl (v := 0) rfl rfl dX10_wouldReserve_2 (fun H locs hR hS => ?_)
  refine lv_aload_n hx hcb dX10_wouldReserve_5 rfl (lv_at hl 0 rfl) ?_
  refine lv_iload_n hx hcb dX10_wouldReserve_6 rfl (lv_at hl 1 rfl) ?_
  refine lv_iload_n hx hcb dX10_wouldReserve_7 rfl (lv_at hl 2 rfl) ?_
  refine lv_iload_n hx hcb dX10_wouldReserve_8 rfl (lv_at hl 3 rfl) ?_
  refine lv_iload hx hcb dX10_wouldReserve_9 (lv_at hl 4 rfl) ?_
  refine x_cv0 rfl rfl (x_runV hx hcb hml hown hts (c_X10_laysResults l G w hw (u1 z 0 0 0) _ a b c_ d) mv_X10_laysResults q_1350 hK hZ hR hS (hw.lo (by decide)) xc10 (hw.s0 rfl) rfl hl.1 rfl (Nat.le_of_ble_eq_true rfl) dX10_wouldReserve_11 ⟨by decide, by decide⟩ ⟨by decide, by decide⟩) hS (fun z_2 H locs hp_3 hR hS => ?_)
  rw [hp_3] at hR
  refine lv_aload_n hx hcb dX10_wouldReserve_14 rfl (lv_at hl 0 rfl) ?_
  refine x_ci0 rfl rfl (x_runV hx hcb hml hown hts (c_X10_areResults l G w hw (zQ (u1 z 0 0 0) a b c_ d) _ hO) mv_X10_areResults q_1554 hK hZ hR hS (hw.lo (by decide)) xc10 (hw.s0 rfl) rfl hl.1 rfl (Nat.le_of_ble_eq_true rfl) dX10_wouldReserve_15 ⟨by decide, by decide⟩ ⟨by decide, by decide⟩) hS (fun r_4 z_5 H locs hp_6 hR hS => ?_)
  rw [hp_6.2] at hR; rw [hp_6.1]
  refine x_top (show (if okR (mQ (zQ (u1 z 0 0 0) a b c_ d) 13) ((zQ (u1 z 0 0 0) a b c_ d).1 10) then 1 else 0) = (if okR (mQ z 13) ((zQ (u1 z 0 0 0) a b c_ d).1 10) then 1 else 0) from rfl) ?_
  refine lv_if_ne (tgt := 25) hx hcb dX10_wouldReserve_18 (by decide) (fun c_7 => ?_) (fun c_7 => ?_)
  · skip
    have h_ : okR (mQ z 13) ((zQ (u1 z 0 0 0) a b c_ d).1 10) := Classical.byContradiction (fun q_ => c_7 (if_neg q_))
    refine lv_aload_n hx hcb dX10_wouldReserve_25 rfl (lv_at hl 0 rfl) ?_
    refine x_cv0 rfl rfl (x_runV hx hcb hml hown hts (c_X10_dealsAll l G w hw (zQ (u1 z 0 0 0) a b c_ d) _ hO (hsh h_)) mv_X10_dealsAll q_1358 hK hZ hR hS (hw.lo (by decide)) xc10 (hw.s0 rfl) rfl hl.1 rfl (Nat.le_of_ble_eq_true rfl) dX10_wouldReserve_26 ⟨by decide, by decide⟩ ⟨by decide, by decide⟩) hS (fun z_9 H locs hp_10 hR hS => ?_)
    rw [hp_10] at hR
    rw [show daL (zQ (u1 z 0 0 0) a b c_ d) (mQ (zQ (u1 z 0 0 0) a b c_ d) 13) = (daL (zQ (u1 z 0 0 0) a b c_ d) (mQ z 13)) from rfl] at hR
    refine lv_aload_n hx hcb dX10_wouldReserve_29 rfl (lv_at hl 0 rfl) ?_
    refine x_getR hx hcb hts hown hK xc10 hR (hw.lo (by decide)) (hw.s0 rfl) 5 (by decide) rfl q_1171 dX10_wouldReserve_30 ?_
    refine lv_sipush (v := (nI 493)) hx hcb dX10_wouldReserve_33 (by decide) ?_
    refine x_iald hx hcb hK hR (hw.lo (by decide)) (hw.s0 rfl) (k := 493) (by omega) (by decide) dX10_wouldReserve_36 ?_
    refine lv_aload_n hx hcb dX10_wouldReserve_37 rfl (lv_at hl 0 rfl) ?_
    refine x_getI hx hcb hts hown hK xc10 hR (hw.lo (by decide)) (hw.s0 rfl) 15 (by decide) rfl q_1181 dX10_wouldReserve_38 ?_
    refine lv_iadd hx hcb dX10_wouldReserve_41 ?_
    refine lv_istore (lv' := [(5, .int (((daL (zQ (u1 z 0 0 0) a b c_ d) (mQ z 13)).1 4 493) + ((daL (zQ (u1 z 0 0 0) a b c_ d) (mQ z 13)).1 0 15))), (0, .ref (w.2.2 0)), (1, .int a), (2, .int b), (3, .int c_), (4, .int d)]) hx hcb dX10_wouldReserve_42 hl (by decide) rfl (fun ls hl => ?_)
    refine lv_iconst (v := (nI 0)) hx hcb dX10_wouldReserve_44 (by decide) ?_
    refine lv_istore (lv' := [(6, .int (nI 0)), (5, .int (((daL (zQ (u1 z 0 0 0) a b c_ d) (mQ z 13)).1 4 493) + ((daL (zQ (u1 z 0 0 0) a b c_ d) (mQ z 13)).1 0 15))), (0, .ref (w.2.2 0)), (1, .int a), (2, .int b), (3, .int c_), (4, .int d)]) hx hcb dX10_wouldReserve_45 hl (by decide) rfl (fun ls hl => ?_)
    rw [show (((daL (zQ (u1 z 0 0 0) a b c_ d) (mQ z 13)).1 4 493) + ((daL (zQ (u1 z 0 0 0) a b c_ d) (mQ z 13)).1 0 15)) = (wrQ (daL (zQ (u1 z 0 0 0) a b c_ d) (mQ z 13)) 0) from rfl] at hl
    suffices LP_47 : ∀ (nn : Nat) (i_ : Nat) (_ : mQ z 12 - i_ < nn) (hi_ : i_ ≤ mQ z 12) (H : Heap) (locs : List Loc) (ls : Array Slot), Rh G w (daL (zQ (u1 z 0 0 0) a b c_ d) (mQ z 13)) H → va_S (xA w s.heap.size) s.heap H locs → lv_has ls 7 [(0, .ref (w.2.2 0)), (5, .int (wrQ (daL (zQ (u1 z 0 0 0) a b c_ d) (mQ z 13)) i_)), (6, .int (nI i_))] → W p l e rm_X10_wouldReserve s mt args below meth c H locs 0 0 Q (F0 mt 47 ls []) from LP_47 ((_) + 1) 0 (Nat.lt_succ_self _) (Nat.zero_le _) _ _ _ hR hS (lv_sub hl [2, 1, 0] rfl)
    intro nn
    induction nn with
    | zero => intro i_ hm_ ; exact absurd hm_ (Nat.not_lt_zero _)
    | succ nn ih_47 =>
      intro i_ hm_47 hi_ H locs ls hR hS hl
      refine lv_iload hx hcb dX10_wouldReserve_47 (lv_at hl 2 rfl) ?_
      refine lv_aload_n hx hcb dX10_wouldReserve_49 rfl (lv_at hl 0 rfl) ?_
      refine x_getR hx hcb hts hown hK xc10 hR (hw.lo (by decide)) (hw.s0 rfl) 3 (by decide) rfl q_1169 dX10_wouldReserve_50 ?_
      refine lv_bipush (v := (nI 12)) hx hcb dX10_wouldReserve_53 (by decide) ?_
      refine x_iald hx hcb hK hR (hw.lo (by decide)) (hw.s0 rfl) (k := 12) (by omega) (by decide) dX10_wouldReserve_55 ?_
      refine x_top (show ((daL (zQ (u1 z 0 0 0) a b c_ d) (mQ z 13)).1 2 12) = (nI (mQ z 12)) from by rw [daL_2]; exact hO.1) ?_
      refine lv_icmp_ge (tgt := 89) hx hcb dX10_wouldReserve_56 (by decide) (fun c_11 => ?_) (fun c_11 => ?_)
      · skip
        have c_11 : (mQ z 12) ≤ i_ := (nI_leI (by omega) (by omega)).mp c_11
        obtain rfl : mQ z 12 = i_ := by omega
        refine lv_iload hx hcb dX10_wouldReserve_89 (lv_at hl 1 rfl) ?_
        exact hret (wrQ (daL (zQ (u1 z 0 0 0) a b c_ d) (mQ z 13)) (mQ z 12)) (daL (zQ (u1 z 0 0 0) a b c_ d) (mQ z 13)) _ _ _ _ dX10_wouldReserve_91 rfl hR hS (by rw [if_pos h_])
      · skip
        have c_11 : ¬ (mQ z 12) ≤ i_ := fun h_ => c_11 ((nI_leI (by omega) (by omega)).mpr h_)
        refine lv_iload hx hcb dX10_wouldReserve_59 (lv_at hl 1 rfl) ?_
        refine lv_iconst (v := (nI 0)) hx hcb dX10_wouldReserve_61 (by decide) ?_
        refine lv_aload_n hx hcb dX10_wouldReserve_62 rfl (lv_at hl 0 rfl) ?_
        refine x_getR hx hcb hts hown hK xc10 hR (hw.lo (by decide)) (hw.s0 rfl) 13 (by decide) rfl q_1179 dX10_wouldReserve_63 ?_
        refine lv_iload hx hcb dX10_wouldReserve_66 (lv_at hl 2 rfl) ?_
        refine x_iald hx hcb hK hR (hw.lo (by decide)) (hw.s0 rfl) (k := i_) (by omega) (by decide) dX10_wouldReserve_68 ?_
        refine lv_ineg hx hcb dX10_wouldReserve_69 ?_
        refine lv_aload_n hx hcb dX10_wouldReserve_70 rfl (lv_at hl 0 rfl) ?_
        refine lv_iload hx hcb dX10_wouldReserve_71 (lv_at hl 2 rfl) ?_
        refine x_ci0 rfl rfl (x_runV hx hcb hml hown hts (c_X10_equity l G w hw (daL (zQ (u1 z 0 0 0) a b c_ d) (mQ z 13)) _ i_ (by omega)) mv_X10_equity q_1403 hK hZ hR hS (hw.lo (by decide)) xc10 (hw.s0 rfl) rfl hl.1 rfl (Nat.le_of_ble_eq_true rfl) dX10_wouldReserve_73 ⟨by decide, by decide⟩ ⟨by decide, by decide⟩) hS (fun r_12 z_13 H locs hp_14 hR hS => ?_)
        rw [hp_14.2] at hR; rw [hp_14.1]
        refine lv_isub hx hcb dX10_wouldReserve_76 ?_
        refine x_max hx hcb hml hown hts hl.1 q_1623 (by decide) (Nat.le_of_ble_eq_true rfl) (by decide) (by decide) dX10_wouldReserve_77 ?_
        refine lv_isub hx hcb dX10_wouldReserve_80 ?_
        refine lv_istore (lv' := [(5, .int ((wrQ (daL (zQ (u1 z 0 0 0) a b c_ d) (mQ z 13)) i_) - (if (nI 0) < ((-((daL (zQ (u1 z 0 0 0) a b c_ d) (mQ z 13)).1 11 i_)) - (eqQ (daL (zQ (u1 z 0 0 0) a b c_ d) (mQ z 13)) i_)) then ((-((daL (zQ (u1 z 0 0 0) a b c_ d) (mQ z 13)).1 11 i_)) - (eqQ (daL (zQ (u1 z 0 0 0) a b c_ d) (mQ z 13)) i_)) else (nI 0)))), (0, .ref (w.2.2 0)), (6, .int (nI i_))]) hx hcb dX10_wouldReserve_81 hl (by decide) rfl (fun ls hl => ?_)
        refine lv_iinc (v := (nI (i_ + 1))) (lv' := [(6, .int (nI (i_ + 1))), (5, .int ((wrQ (daL (zQ (u1 z 0 0 0) a b c_ d) (mQ z 13)) i_) - (if (nI 0) < ((-((daL (zQ (u1 z 0 0 0) a b c_ d) (mQ z 13)).1 11 i_)) - (eqQ (daL (zQ (u1 z 0 0 0) a b c_ d) (mQ z 13)) i_)) then ((-((daL (zQ (u1 z 0 0 0) a b c_ d) (mQ z 13)).1 11 i_)) - (eqQ (daL (zQ (u1 z 0 0 0) a b c_ d) (mQ z 13)) i_)) else (nI 0)))), (0, .ref (w.2.2 0))]) hx hcb dX10_wouldReserve_83 hl (k := 2) rfl (x_iinc1 _) (by decide) rfl (fun ls hl => ?_)
        refine lv_goto (tgt := 47) hx hcb dX10_wouldReserve_86 (by decide) ?_
        rw [show ((wrQ (daL (zQ (u1 z 0 0 0) a b c_ d) (mQ z 13)) i_) - (if (nI 0) < ((-((daL (zQ (u1 z 0 0 0) a b c_ d) (mQ z 13)).1 11 i_)) - (eqQ (daL (zQ (u1 z 0 0 0) a b c_ d) (mQ z 13)) i_)) then ((-((daL (zQ (u1 z 0 0 0) a b c_ d) (mQ z 13)).1 11 i_)) - (eqQ (daL (zQ (u1 z 0 0 0) a b c_ d) (mQ z 13)) i_)) else (nI 0))) = (wrQ (daL (zQ (u1 z 0 0 0) a b c_ d) (mQ z 13)) (i_ + 1)) from rfl] at hl
        exact ih_47 (i_ + 1) (by omega) (by omega) _ _ _ hR hS (lv_sub hl [2, 1, 0] rfl)
  · skip
    have h_ : ¬ (okR (mQ z 13) ((zQ (u1 z 0 0 0) a b c_ d).1 10)) := fun q_ => absurd c_7 (by rw [if_pos q_]; decide)
    refine lv_ldcw (v := (-100000000)) hx hcb hown (hts _ q_1558) dX10_wouldReserve_21 ?_
    exact hret (-100000000) (zQ (u1 z 0 0 0) a b c_ d) _ _ _ _ dX10_wouldReserve_24 rfl hR hS (by rw [if_neg h_])
def rm_X10_cashNeeded : Room := { frames := 3, cells := 0, slots := 0, locals := 75 }
set_option maxRecDepth 100000 in
set_option maxHeartbeats 4000000 in
theorem c_X10_cashNeeded (l : Launch) (G : xGl) (w : xWd) (hw : isM w) (z : xSt) (sz : Nat) (a : Int32) (b : Int32) (c_ : Int32) (d : Int32) (hO : rOk z) (hsh : okR (mQ z 13) ((zQ (u1 z 0 0 0) a b c_ d).1 10) → ∀ e, e < mQ z 13 → shD (daL (zQ (u1 z 0 0 0) a b c_ d) e) e) (hLv : lvO z) : xMi l yX10_cashNeeded cX10_cashNeeded 9 (some FieldType.int) rm_X10_cashNeeded G w z sz [.ref (w.2.2 0), .int a, .int b, .int c_, .int d] (fun r z1 => (r, z1) = if okR (mQ z 13) ((zQ (u1 z 0 0 0) a b c_ d).1 10) then (chQ (daL (zQ (u1 z 0 0 0) a b c_ d) (mQ z 13)) (mQ z 12), (daL (zQ (u1 z 0 0 0) a b c_ d) (mQ z 13))) else ((-2), (zQ (u1 z 0 0 0) a b c_ d))) := by
  refine x_mi (by decide) (Nat.le_of_ble_eq_true rfl) ?_
  intro p e s mt args below meth c ls Q hsz X hR hS hl hret
  obtain ⟨hx, hcb, hml, hown, hts, hlk, hK, hZ⟩ := X
  have hl : lv_has ls 9 [(0, .ref (w.2.2 0)), (1, .int a), (2, .int b), (3, .int c_), (4, .int d)] := hl
  have hm8_ := hO.2.1
  have hd4_ := hO.2.2.2.1
  have hy24_ := hO.2.2.2.2.2
  refine lv_aload_n hx hcb dX10_cashNeeded_0 rfl (lv_at hl 0 rfl) ?_
  refine lv_iconst (v := (nI 0)) hx hcb dX10_cashNeeded_1 (by decide) ?_
  refine x_putI hx hcb hts hown hK xc10 hR hS (hw.lo (by decide)) (hw.s0 rfl) 0 (by decide) rfl q_1166 rfl (v := 0) rfl rfl dX10_cashNeeded_2 (fun H locs hR hS => ?_)
  refine lv_aload_n hx hcb dX10_cashNeeded_5 rfl (lv_at hl 0 rfl) ?_
  refine lv_iload_n hx hcb dX10_cashNeeded_6 rfl (lv_at hl 1 rfl) ?_
  refine lv_iload_n hx hcb dX10_cashNeeded_7 rfl (lv_at hl 2 rfl) ?_
  refine lv_iload_n hx hcb dX10_cashNeeded_8 rfl (lv_at hl 3 rfl) ?_
  refine lv_iload hx hcb dX10_cashNeeded_9 (lv_at hl 4 rfl) ?_
  refine x_cv0 rfl rfl (x_runV hx hcb hml hown hts (c_X10_laysResults l G w hw (u1 z 0 0 0) _ a b c_ d) mv_X10_laysResults q_1350 hK hZ hR hS (hw.lo (by decide)) xc10 (hw.s0 rfl) rfl hl.1 rfl (Nat.le_of_ble_eq_true rfl) dX10_cashNeeded_11 ⟨by decide, by decide⟩ ⟨by decide, by decide⟩) hS (fun z_2 H locs hp_3 hR hS => ?_)
  rw [hp_3] at hR
  refine lv_aload_n hx hcb dX10_cashNeeded_14 rfl (lv_at hl 0 rfl) ?_
  refine x_ci0 rfl rfl (x_runV hx hcb hml hown hts (c_X10_areResults l G w hw (zQ (u1 z 0 0 0) a b c_ d) _ hO) mv_X10_areResults q_1554 hK hZ hR hS (hw.lo (by decide)) xc10 (hw.s0 rfl) rfl hl.1 rfl (Nat.le_of_ble_eq_true rfl) dX10_cashNeeded_15 ⟨by decide, by decide⟩ ⟨by decide, by decide⟩) hS (fun r_4 z_5 H locs hp_6 hR hS => ?_)
  rw [hp_6.2] at hR; rw [hp_6.1]
  refine x_top (show (if okR (mQ (zQ (u1 z 0 0 0) a b c_ d) 13) ((zQ (u1 z 0 0 0) a b c_ d).1 10) then 1 else 0) = (if okR (mQ z 13) ((zQ (u1 z 0 0 0) a b c_ d).1 10) then 1 else 0) from rfl) ?_
  refine lv_if_ne (tgt := 24) hx hcb dX10_cashNeeded_18 (by decide) (fun c_7 => ?_) (fun c_7 => ?_)
  · skip
    have h_ : okR (mQ z 13) ((zQ (u1 z 0 0 0) a b c_ d).1 10) := Classical.byContradiction (fun q_ => c_7 (if_neg q_))
    refine lv_aload_n hx hcb dX10_cashNeeded_24 rfl (lv_at hl 0 rfl) ?_
    refine x_cv0 rfl rfl (x_runV hx hcb hml hown hts (c_X10_dealsAll l G w hw (zQ (u1 z 0 0 0) a b c_ d) _ hO (hsh h_)) mv_X10_dealsAll q_1358 hK hZ hR hS (hw.lo (by decide)) xc10 (hw.s0 rfl) rfl hl.1 rfl (Nat.le_of_ble_eq_true rfl) dX10_cashNeeded_25 ⟨by decide, by decide⟩ ⟨by decide, by decide⟩) hS (fun z_9 H locs hp_10 hR hS => ?_)
    rw [hp_10] at hR
    rw [show daL (zQ (u1 z 0 0 0) a b c_ d) (mQ (zQ (u1 z 0 0 0) a b c_ d) 13) = (daL (zQ (u1 z 0 0 0) a b c_ d) (mQ z 13)) from rfl] at hR
    refine lv_iconst (v := (nI 0)) hx hcb dX10_cashNeeded_28 (by decide) ?_
    refine lv_istore (lv' := [(5, .int (nI 0)), (0, .ref (w.2.2 0)), (1, .int a), (2, .int b), (3, .int c_), (4, .int d)]) hx hcb dX10_cashNeeded_29 hl (by decide) rfl (fun ls hl => ?_)
    refine lv_iconst (v := (nI 0)) hx hcb dX10_cashNeeded_31 (by decide) ?_
    refine lv_istore (lv' := [(6, .int (nI 0)), (5, .int (nI 0)), (0, .ref (w.2.2 0)), (1, .int a), (2, .int b), (3, .int c_), (4, .int d)]) hx hcb dX10_cashNeeded_32 hl (by decide) rfl (fun ls hl => ?_)
    rw [show (nI 0) = (chQ (daL (zQ (u1 z 0 0 0) a b c_ d) (mQ z 13)) 0) from rfl] at hl
    suffices LP_34 : ∀ (nn : Nat) (i_ : Nat) (_ : mQ z 12 - i_ < nn) (hi_ : i_ ≤ mQ z 12) (H : Heap) (locs : List Loc) (ls : Array Slot), Rh G w (daL (zQ (u1 z 0 0 0) a b c_ d) (mQ z 13)) H → va_S (xA w s.heap.size) s.heap H locs → lv_has ls 9 [(0, .ref (w.2.2 0)), (5, .int (chQ (daL (zQ (u1 z 0 0 0) a b c_ d) (mQ z 13)) i_)), (6, .int (nI i_))] → W p l e rm_X10_cashNeeded s mt args below meth c H locs 0 0 Q (F0 mt 34 ls []) from LP_34 ((_) + 1) 0 (Nat.lt_succ_self _) (Nat.zero_le _) _ _ _ hR hS (lv_sub hl [2, 1, 0] rfl)
    intro nn
    induction nn with
    | zero => intro i_ hm_ ; exact absurd hm_ (Nat.not_lt_zero _)
    | succ nn ih_34 =>
      intro i_ hm_34 hi_ H locs ls hR hS hl
      refine lv_iload hx hcb dX10_cashNeeded_34 (lv_at hl 2 rfl) ?_
      refine lv_aload_n hx hcb dX10_cashNeeded_36 rfl (lv_at hl 0 rfl) ?_
      refine x_getR hx hcb hts hown hK xc10 hR (hw.lo (by decide)) (hw.s0 rfl) 3 (by decide) rfl q_1169 dX10_cashNeeded_37 ?_
      refine lv_bipush (v := (nI 12)) hx hcb dX10_cashNeeded_40 (by decide) ?_
      refine x_iald hx hcb hK hR (hw.lo (by decide)) (hw.s0 rfl) (k := 12) (by omega) (by decide) dX10_cashNeeded_42 ?_
      refine x_top (show ((daL (zQ (u1 z 0 0 0) a b c_ d) (mQ z 13)).1 2 12) = (nI (mQ z 12)) from by rw [daL_2]; exact hO.1) ?_
      refine lv_icmp_ge (tgt := 162) hx hcb dX10_cashNeeded_43 (by decide) (fun c_11 => ?_) (fun c_11 => ?_)
      · skip
        have c_11 : (mQ z 12) ≤ i_ := (nI_leI (by omega) (by omega)).mp c_11
        obtain rfl : mQ z 12 = i_ := by omega
        refine lv_iload hx hcb dX10_cashNeeded_162 (lv_at hl 1 rfl) ?_
        exact hret (chQ (daL (zQ (u1 z 0 0 0) a b c_ d) (mQ z 13)) (mQ z 12)) (daL (zQ (u1 z 0 0 0) a b c_ d) (mQ z 13)) _ _ _ _ dX10_cashNeeded_164 rfl hR hS (by rw [if_pos h_])
      · skip
        have c_11 : ¬ (mQ z 12) ≤ i_ := fun h_ => c_11 ((nI_leI (by omega) (by omega)).mpr h_)
        refine lv_aload_n hx hcb dX10_cashNeeded_46 rfl (lv_at hl 0 rfl) ?_
        refine x_getR hx hcb hts hown hK xc10 hR (hw.lo (by decide)) (hw.s0 rfl) 13 (by decide) rfl q_1179 dX10_cashNeeded_47 ?_
        refine lv_iload hx hcb dX10_cashNeeded_50 (lv_at hl 2 rfl) ?_
        refine x_iald hx hcb hK hR (hw.lo (by decide)) (hw.s0 rfl) (k := i_) (by omega) (by decide) dX10_cashNeeded_52 ?_
        refine lv_if_le (tgt := 74) hx hcb dX10_cashNeeded_53 (by decide) (fun c_12 => ?_) (fun c_12 => ?_)
        · skip
          have hA_ : ¬ (0 < (daL (zQ (u1 z 0 0 0) a b c_ d) (mQ z 13)).1 11 i_ ∧ (daL (zQ (u1 z 0 0 0) a b c_ d) (mQ z 13)).1 4 (13 + i_) = nI 1) := fun q_ => absurd c_12 (Int32.not_le.mpr q_.1)
          refine lv_iconst (v := (nI 0)) hx hcb dX10_cashNeeded_74 (by decide) ?_
          refine lv_istore (lv' := [(7, .int (nI 0)), (0, .ref (w.2.2 0)), (5, .int (chQ (daL (zQ (u1 z 0 0 0) a b c_ d) (mQ z 13)) i_)), (6, .int (nI i_))]) hx hcb dX10_cashNeeded_75 hl (by decide) rfl (fun ls hl => ?_)
          refine lv_aload_n hx hcb dX10_cashNeeded_77 rfl (lv_at hl 1 rfl) ?_
          refine x_getR hx hcb hts hown hK xc10 hR (hw.lo (by decide)) (hw.s0 rfl) 5 (by decide) rfl q_1171 dX10_cashNeeded_78 ?_
          refine lv_bipush (v := (nI 21)) hx hcb dX10_cashNeeded_81 (by decide) ?_
          refine lv_iload hx hcb dX10_cashNeeded_83 (lv_at hl 3 rfl) ?_
          refine x_iaddN hx hcb dX10_cashNeeded_85 ?_
          refine x_iald hx hcb hK hR (hw.lo (by decide)) (hw.s0 rfl) (k := (21 + i_)) (by omega) (by decide) dX10_cashNeeded_86 ?_
          refine lv_istore (lv' := [(8, .int ((daL (zQ (u1 z 0 0 0) a b c_ d) (mQ z 13)).1 4 (21 + i_))), (7, .int (nI 0)), (0, .ref (w.2.2 0)), (5, .int (chQ (daL (zQ (u1 z 0 0 0) a b c_ d) (mQ z 13)) i_)), (6, .int (nI i_))]) hx hcb dX10_cashNeeded_87 hl (by decide) rfl (fun ls hl => ?_)
          refine lv_iload hx hcb dX10_cashNeeded_89 (lv_at hl 3 rfl) ?_
          refine lv_iload hx hcb dX10_cashNeeded_91 (lv_at hl 1 rfl) ?_
          refine lv_if_eq (tgt := 116) hx hcb dX10_cashNeeded_93 (by decide) (fun c_13 => ?_) (fun c_13 => ?_)
          · skip
            refine lv_iconst (v := (nI 0)) hx hcb dX10_cashNeeded_116 (by decide) ?_
            refine lv_iadd hx hcb dX10_cashNeeded_117 ?_
            refine lv_istore (lv' := [(5, .int ((chQ (daL (zQ (u1 z 0 0 0) a b c_ d) (mQ z 13)) i_) + (nI 0))), (8, .int ((daL (zQ (u1 z 0 0 0) a b c_ d) (mQ z 13)).1 4 (21 + i_))), (7, .int (nI 0)), (0, .ref (w.2.2 0)), (6, .int (nI i_))]) hx hcb dX10_cashNeeded_118 hl (by decide) rfl (fun ls hl => ?_)
            refine lv_iload hx hcb dX10_cashNeeded_120 (lv_at hl 0 rfl) ?_
            refine lv_aload_n hx hcb dX10_cashNeeded_122 rfl (lv_at hl 3 rfl) ?_
            refine x_getR hx hcb hts hown hK xc10 hR (hw.lo (by decide)) (hw.s0 rfl) 5 (by decide) rfl q_1171 dX10_cashNeeded_123 ?_
            refine lv_iconst (v := (nI 5)) hx hcb dX10_cashNeeded_126 (by decide) ?_
            refine lv_iload hx hcb dX10_cashNeeded_127 (lv_at hl 4 rfl) ?_
            refine x_iaddN hx hcb dX10_cashNeeded_129 ?_
            refine x_iald hx hcb hK hR (hw.lo (by decide)) (hw.s0 rfl) (k := (5 + i_)) (by omega) (by decide) dX10_cashNeeded_130 ?_
            refine lv_iconst (v := (nI 1)) hx hcb dX10_cashNeeded_131 (by decide) ?_
            refine lv_icmp_ne (tgt := 152) hx hcb dX10_cashNeeded_132 (by decide) (fun c_14 => ?_) (fun c_14 => ?_)
            · skip
              have hB_ : ¬ (daL (zQ (u1 z 0 0 0) a b c_ d) (mQ z 13)).1 4 (5 + i_) = nI 1 := c_14
              refine lv_iconst (v := (nI 0)) hx hcb dX10_cashNeeded_152 (by decide) ?_
              refine lv_iadd hx hcb dX10_cashNeeded_153 ?_
              refine lv_istore (lv' := [(5, .int (((chQ (daL (zQ (u1 z 0 0 0) a b c_ d) (mQ z 13)) i_) + (nI 0)) + (nI 0))), (8, .int ((daL (zQ (u1 z 0 0 0) a b c_ d) (mQ z 13)).1 4 (21 + i_))), (7, .int (nI 0)), (0, .ref (w.2.2 0)), (6, .int (nI i_))]) hx hcb dX10_cashNeeded_154 hl (by decide) rfl (fun ls hl => ?_)
              refine lv_iinc (v := (nI (i_ + 1))) (lv' := [(6, .int (nI (i_ + 1))), (5, .int (((chQ (daL (zQ (u1 z 0 0 0) a b c_ d) (mQ z 13)) i_) + (nI 0)) + (nI 0))), (8, .int ((daL (zQ (u1 z 0 0 0) a b c_ d) (mQ z 13)).1 4 (21 + i_))), (7, .int (nI 0)), (0, .ref (w.2.2 0))]) hx hcb dX10_cashNeeded_156 hl (k := 4) rfl (x_iinc1 _) (by decide) rfl (fun ls hl => ?_)
              refine lv_goto (tgt := 34) hx hcb dX10_cashNeeded_159 (by decide) ?_
              rw [show (((chQ (daL (zQ (u1 z 0 0 0) a b c_ d) (mQ z 13)) i_) + (nI 0)) + (nI 0)) = (chQ (daL (zQ (u1 z 0 0 0) a b c_ d) (mQ z 13)) (i_ + 1)) from by rw [chQ_s]; first | rw [if_pos hA_, if_pos hB_] | rw [if_pos hA_, if_neg hB_] | rw [if_neg hA_, if_pos hB_] | rw [if_neg hA_, if_neg hB_]] at hl
              exact ih_34 (i_ + 1) (by omega) (by omega) _ _ _ hR hS (lv_sub hl [4, 1, 0] rfl)
            · skip
              have hB_ : (daL (zQ (u1 z 0 0 0) a b c_ d) (mQ z 13)).1 4 (5 + i_) = nI 1 := c_14
              refine lv_aload_n hx hcb dX10_cashNeeded_135 rfl (lv_at hl 3 rfl) ?_
              refine lv_iload hx hcb dX10_cashNeeded_136 (lv_at hl 4 rfl) ?_
              refine x_ci0 rfl rfl (x_runV hx hcb hml hown hts (c_X10_equity l G w hw (daL (zQ (u1 z 0 0 0) a b c_ d) (mQ z 13)) _ i_ (by omega)) mv_X10_equity q_1403 hK hZ hR hS (hw.lo (by decide)) xc10 (hw.s0 rfl) rfl hl.1 rfl (Nat.le_of_ble_eq_true rfl) dX10_cashNeeded_138 ⟨by decide, by decide⟩ ⟨by decide, by decide⟩) hS (fun r_15 z_16 H locs hp_17 hR hS => ?_)
              rw [hp_17.2] at hR; rw [hp_17.1]
              refine lv_iload hx hcb dX10_cashNeeded_141 (lv_at hl 1 rfl) ?_
              refine lv_iadd hx hcb dX10_cashNeeded_143 ?_
              refine lv_iconst (v := (nI 1)) hx hcb dX10_cashNeeded_144 (by decide) ?_
              refine lv_isub hx hcb dX10_cashNeeded_145 ?_
              refine lv_iload hx hcb dX10_cashNeeded_146 (lv_at hl 1 rfl) ?_
              refine lv_idiv hx hcb dX10_cashNeeded_148 (by rw [daL_4]; exact hLv i_ (by omega) (by have t_ := hB_; rw [daL_4] at t_; exact t_)) ?_
              refine lv_goto (tgt := 153) hx hcb dX10_cashNeeded_149 (by decide) ?_
              refine lv_iadd hx hcb dX10_cashNeeded_153 ?_
              refine lv_istore (lv' := [(5, .int (((chQ (daL (zQ (u1 z 0 0 0) a b c_ d) (mQ z 13)) i_) + (nI 0)) + ((((eqQ (daL (zQ (u1 z 0 0 0) a b c_ d) (mQ z 13)) i_) + ((daL (zQ (u1 z 0 0 0) a b c_ d) (mQ z 13)).1 4 (21 + i_))) - (nI 1)) / ((daL (zQ (u1 z 0 0 0) a b c_ d) (mQ z 13)).1 4 (21 + i_))))), (8, .int ((daL (zQ (u1 z 0 0 0) a b c_ d) (mQ z 13)).1 4 (21 + i_))), (7, .int (nI 0)), (0, .ref (w.2.2 0)), (6, .int (nI i_))]) hx hcb dX10_cashNeeded_154 hl (by decide) rfl (fun ls hl => ?_)
              refine lv_iinc (v := (nI (i_ + 1))) (lv' := [(6, .int (nI (i_ + 1))), (5, .int (((chQ (daL (zQ (u1 z 0 0 0) a b c_ d) (mQ z 13)) i_) + (nI 0)) + ((((eqQ (daL (zQ (u1 z 0 0 0) a b c_ d) (mQ z 13)) i_) + ((daL (zQ (u1 z 0 0 0) a b c_ d) (mQ z 13)).1 4 (21 + i_))) - (nI 1)) / ((daL (zQ (u1 z 0 0 0) a b c_ d) (mQ z 13)).1 4 (21 + i_))))), (8, .int ((daL (zQ (u1 z 0 0 0) a b c_ d) (mQ z 13)).1 4 (21 + i_))), (7, .int (nI 0)), (0, .ref (w.2.2 0))]) hx hcb dX10_cashNeeded_156 hl (k := 4) rfl (x_iinc1 _) (by decide) rfl (fun ls hl => ?_)
              refine lv_goto (tgt := 34) hx hcb dX10_cashNeeded_159 (by decide) ?_
              rw [show (((chQ (daL (zQ (u1 z 0 0 0) a b c_ d) (mQ z 13)) i_) + (nI 0)) + ((((eqQ (daL (zQ (u1 z 0 0 0) a b c_ d) (mQ z 13)) i_) + ((daL (zQ (u1 z 0 0 0) a b c_ d) (mQ z 13)).1 4 (21 + i_))) - (nI 1)) / ((daL (zQ (u1 z 0 0 0) a b c_ d) (mQ z 13)).1 4 (21 + i_)))) = (chQ (daL (zQ (u1 z 0 0 0) a b c_ d) (mQ z 13)) (i_ + 1)) from by rw [chQ_s]; first | rw [if_pos hA_, if_pos hB_] | rw [if_pos hA_, if_neg hB_] | rw [if_neg hA_, if_pos hB_] | rw [if_neg hA_, if_neg hB_]] at hl
              exact ih_34 (i_ + 1) (by omega) (by omega) _ _ _ hR hS (lv_sub hl [4, 1, 0] rfl)
          · skip
            first | exact absurd c_13 (by decide) | exact absurd (by decide) c_13
        · skip
          have h0_ := c_12
          refine lv_aload_n hx hcb dX10_cashNeeded_56 rfl (lv_at hl 0 rfl) ?_
          refine x_getR hx hcb hts hown hK xc10 hR (hw.lo (by decide)) (hw.s0 rfl) 5 (by decide) rfl q_1171 dX10_cashNeeded_57 ?_
          refine lv_bipush (v := (nI 13)) hx hcb dX10_cashNeeded_60 (by decide) ?_
          refine lv_iload hx hcb dX10_cashNeeded_62 (lv_at hl 2 rfl) ?_
          refine x_iaddN hx hcb dX10_cashNeeded_64 ?_
          refine x_iald hx hcb hK hR (hw.lo (by decide)) (hw.s0 rfl) (k := (13 + i_)) (by omega) (by decide) dX10_cashNeeded_65 ?_
          refine lv_iconst (v := (nI 1)) hx hcb dX10_cashNeeded_66 (by decide) ?_
          refine lv_icmp_ne (tgt := 74) hx hcb dX10_cashNeeded_67 (by decide) (fun c_18 => ?_) (fun c_18 => ?_)
          · skip
            have hA_ : ¬ (0 < (daL (zQ (u1 z 0 0 0) a b c_ d) (mQ z 13)).1 11 i_ ∧ (daL (zQ (u1 z 0 0 0) a b c_ d) (mQ z 13)).1 4 (13 + i_) = nI 1) := fun q_ => c_18 q_.2
            refine lv_iconst (v := (nI 0)) hx hcb dX10_cashNeeded_74 (by decide) ?_
            refine lv_istore (lv' := [(7, .int (nI 0)), (0, .ref (w.2.2 0)), (5, .int (chQ (daL (zQ (u1 z 0 0 0) a b c_ d) (mQ z 13)) i_)), (6, .int (nI i_))]) hx hcb dX10_cashNeeded_75 hl (by decide) rfl (fun ls hl => ?_)
            refine lv_aload_n hx hcb dX10_cashNeeded_77 rfl (lv_at hl 1 rfl) ?_
            refine x_getR hx hcb hts hown hK xc10 hR (hw.lo (by decide)) (hw.s0 rfl) 5 (by decide) rfl q_1171 dX10_cashNeeded_78 ?_
            refine lv_bipush (v := (nI 21)) hx hcb dX10_cashNeeded_81 (by decide) ?_
            refine lv_iload hx hcb dX10_cashNeeded_83 (lv_at hl 3 rfl) ?_
            refine x_iaddN hx hcb dX10_cashNeeded_85 ?_
            refine x_iald hx hcb hK hR (hw.lo (by decide)) (hw.s0 rfl) (k := (21 + i_)) (by omega) (by decide) dX10_cashNeeded_86 ?_
            refine lv_istore (lv' := [(8, .int ((daL (zQ (u1 z 0 0 0) a b c_ d) (mQ z 13)).1 4 (21 + i_))), (7, .int (nI 0)), (0, .ref (w.2.2 0)), (5, .int (chQ (daL (zQ (u1 z 0 0 0) a b c_ d) (mQ z 13)) i_)), (6, .int (nI i_))]) hx hcb dX10_cashNeeded_87 hl (by decide) rfl (fun ls hl => ?_)
            refine lv_iload hx hcb dX10_cashNeeded_89 (lv_at hl 3 rfl) ?_
            refine lv_iload hx hcb dX10_cashNeeded_91 (lv_at hl 1 rfl) ?_
            refine lv_if_eq (tgt := 116) hx hcb dX10_cashNeeded_93 (by decide) (fun c_19 => ?_) (fun c_19 => ?_)
            · skip
              refine lv_iconst (v := (nI 0)) hx hcb dX10_cashNeeded_116 (by decide) ?_
              refine lv_iadd hx hcb dX10_cashNeeded_117 ?_
              refine lv_istore (lv' := [(5, .int ((chQ (daL (zQ (u1 z 0 0 0) a b c_ d) (mQ z 13)) i_) + (nI 0))), (8, .int ((daL (zQ (u1 z 0 0 0) a b c_ d) (mQ z 13)).1 4 (21 + i_))), (7, .int (nI 0)), (0, .ref (w.2.2 0)), (6, .int (nI i_))]) hx hcb dX10_cashNeeded_118 hl (by decide) rfl (fun ls hl => ?_)
              refine lv_iload hx hcb dX10_cashNeeded_120 (lv_at hl 0 rfl) ?_
              refine lv_aload_n hx hcb dX10_cashNeeded_122 rfl (lv_at hl 3 rfl) ?_
              refine x_getR hx hcb hts hown hK xc10 hR (hw.lo (by decide)) (hw.s0 rfl) 5 (by decide) rfl q_1171 dX10_cashNeeded_123 ?_
              refine lv_iconst (v := (nI 5)) hx hcb dX10_cashNeeded_126 (by decide) ?_
              refine lv_iload hx hcb dX10_cashNeeded_127 (lv_at hl 4 rfl) ?_
              refine x_iaddN hx hcb dX10_cashNeeded_129 ?_
              refine x_iald hx hcb hK hR (hw.lo (by decide)) (hw.s0 rfl) (k := (5 + i_)) (by omega) (by decide) dX10_cashNeeded_130 ?_
              refine lv_iconst (v := (nI 1)) hx hcb dX10_cashNeeded_131 (by decide) ?_
              refine lv_icmp_ne (tgt := 152) hx hcb dX10_cashNeeded_132 (by decide) (fun c_20 => ?_) (fun c_20 => ?_)
              · skip
                have hB_ : ¬ (daL (zQ (u1 z 0 0 0) a b c_ d) (mQ z 13)).1 4 (5 + i_) = nI 1 := c_20
                refine lv_iconst (v := (nI 0)) hx hcb dX10_cashNeeded_152 (by decide) ?_
                refine lv_iadd hx hcb dX10_cashNeeded_153 ?_
                refine lv_istore (lv' := [(5, .int (((chQ (daL (zQ (u1 z 0 0 0) a b c_ d) (mQ z 13)) i_) + (nI 0)) + (nI 0))), (8, .int ((daL (zQ (u1 z 0 0 0) a b c_ d) (mQ z 13)).1 4 (21 + i_))), (7, .int (nI 0)), (0, .ref (w.2.2 0)), (6, .int (nI i_))]) hx hcb dX10_cashNeeded_154 hl (by decide) rfl (fun ls hl => ?_)
                refine lv_iinc (v := (nI (i_ + 1))) (lv' := [(6, .int (nI (i_ + 1))), (5, .int (((chQ (daL (zQ (u1 z 0 0 0) a b c_ d) (mQ z 13)) i_) + (nI 0)) + (nI 0))), (8, .int ((daL (zQ (u1 z 0 0 0) a b c_ d) (mQ z 13)).1 4 (21 + i_))), (7, .int (nI 0)), (0, .ref (w.2.2 0))]) hx hcb dX10_cashNeeded_156 hl (k := 4) rfl (x_iinc1 _) (by decide) rfl (fun ls hl => ?_)
                refine lv_goto (tgt := 34) hx hcb dX10_cashNeeded_159 (by decide) ?_
                rw [show (((chQ (daL (zQ (u1 z 0 0 0) a b c_ d) (mQ z 13)) i_) + (nI 0)) + (nI 0)) = (chQ (daL (zQ (u1 z 0 0 0) a b c_ d) (mQ z 13)) (i_ + 1)) from by rw [chQ_s]; first | rw [if_pos hA_, if_pos hB_] | rw [if_pos hA_, if_neg hB_] | rw [if_neg hA_, if_pos hB_] | rw [if_neg hA_, if_neg hB_]] at hl
                exact ih_34 (i_ + 1) (by omega) (by omega) _ _ _ hR hS (lv_sub hl [4, 1, 0] rfl)
              · skip
                have hB_ : (daL (zQ (u1 z 0 0 0) a b c_ d) (mQ z 13)).1 4 (5 + i_) = nI 1 := c_20
                refine lv_aload_n hx hcb dX10_cashNeeded_135 rfl (lv_at hl 3 rfl) ?_
                refine lv_iload hx hcb dX10_cashNeeded_136 (lv_at hl 4 rfl) ?_
                refine x_ci0 rfl rfl (x_runV hx hcb hml hown hts (c_X10_equity l G w hw (daL (zQ (u1 z 0 0 0) a b c_ d) (mQ z 13)) _ i_ (by omega)) mv_X10_equity q_1403 hK hZ hR hS (hw.lo (by decide)) xc10 (hw.s0 rfl) rfl hl.1 rfl (Nat.le_of_ble_eq_true rfl) dX10_cashNeeded_138 ⟨by decide, by decide⟩ ⟨by decide, by decide⟩) hS (fun r_21 z_22 H locs hp_23 hR hS => ?_)
                rw [hp_23.2] at hR; rw [hp_23.1]
                refine lv_iload hx hcb dX10_cashNeeded_141 (lv_at hl 1 rfl) ?_
                refine lv_iadd hx hcb dX10_cashNeeded_143 ?_
                refine lv_iconst (v := (nI 1)) hx hcb dX10_cashNeeded_144 (by decide) ?_
                refine lv_isub hx hcb dX10_cashNeeded_145 ?_
                refine lv_iload hx hcb dX10_cashNeeded_146 (lv_at hl 1 rfl) ?_
                refine lv_idiv hx hcb dX10_cashNeeded_148 (by rw [daL_4]; exact hLv i_ (by omega) (by have t_ := hB_; rw [daL_4] at t_; exact t_)) ?_
                refine lv_goto (tgt := 153) hx hcb dX10_cashNeeded_149 (by decide) ?_
                refine lv_iadd hx hcb dX10_cashNeeded_153 ?_
                refine lv_istore (lv' := [(5, .int (((chQ (daL (zQ (u1 z 0 0 0) a b c_ d) (mQ z 13)) i_) + (nI 0)) + ((((eqQ (daL (zQ (u1 z 0 0 0) a b c_ d) (mQ z 13)) i_) + ((daL (zQ (u1 z 0 0 0) a b c_ d) (mQ z 13)).1 4 (21 + i_))) - (nI 1)) / ((daL (zQ (u1 z 0 0 0) a b c_ d) (mQ z 13)).1 4 (21 + i_))))), (8, .int ((daL (zQ (u1 z 0 0 0) a b c_ d) (mQ z 13)).1 4 (21 + i_))), (7, .int (nI 0)), (0, .ref (w.2.2 0)), (6, .int (nI i_))]) hx hcb dX10_cashNeeded_154 hl (by decide) rfl (fun ls hl => ?_)
                refine lv_iinc (v := (nI (i_ + 1))) (lv' := [(6, .int (nI (i_ + 1))), (5, .int (((chQ (daL (zQ (u1 z 0 0 0) a b c_ d) (mQ z 13)) i_) + (nI 0)) + ((((eqQ (daL (zQ (u1 z 0 0 0) a b c_ d) (mQ z 13)) i_) + ((daL (zQ (u1 z 0 0 0) a b c_ d) (mQ z 13)).1 4 (21 + i_))) - (nI 1)) / ((daL (zQ (u1 z 0 0 0) a b c_ d) (mQ z 13)).1 4 (21 + i_))))), (8, .int ((daL (zQ (u1 z 0 0 0) a b c_ d) (mQ z 13)).1 4 (21 + i_))), (7, .int (nI 0)), (0, .ref (w.2.2 0))]) hx hcb dX10_cashNeeded_156 hl (k := 4) rfl (x_iinc1 _) (by decide) rfl (fun ls hl => ?_)
                refine lv_goto (tgt := 34) hx hcb dX10_cashNeeded_159 (by decide) ?_
                rw [show (((chQ (daL (zQ (u1 z 0 0 0) a b c_ d) (mQ z 13)) i_) + (nI 0)) + ((((eqQ (daL (zQ (u1 z 0 0 0) a b c_ d) (mQ z 13)) i_) + ((daL (zQ (u1 z 0 0 0) a b c_ d) (mQ z 13)).1 4 (21 + i_))) - (nI 1)) / ((daL (zQ (u1 z 0 0 0) a b c_ d) (mQ z 13)).1 4 (21 + i_)))) = (chQ (daL (zQ (u1 z 0 0 0) a b c_ d) (mQ z 13)) (i_ + 1)) from by rw [chQ_s]; first | rw [if_pos hA_, if_pos hB_] | rw [if_pos hA_, if_neg hB_] | rw [if_neg hA_, if_pos hB_] | rw [if_neg hA_, if_neg hB_]] at hl
                exact ih_34 (i_ + 1) (by omega) (by omega) _ _ _ hR hS (lv_sub hl [4, 1, 0] rfl)
            · skip
              first | exact absurd c_19 (by decide) | exact absurd (by decide) c_19
          · skip
            have hA_ : (0 < (daL (zQ (u1 z 0 0 0) a b c_ d) (mQ z 13)).1 11 i_ ∧ (daL (zQ (u1 z 0 0 0) a b c_ d) (mQ z 13)).1 4 (13 + i_) = nI 1) := ⟨Int32.not_le.mp h0_, c_18⟩
            refine lv_iconst (v := (nI 1)) hx hcb dX10_cashNeeded_70 (by decide) ?_
            refine lv_goto (tgt := 75) hx hcb dX10_cashNeeded_71 (by decide) ?_
            refine lv_istore (lv' := [(7, .int (nI 1)), (0, .ref (w.2.2 0)), (5, .int (chQ (daL (zQ (u1 z 0 0 0) a b c_ d) (mQ z 13)) i_)), (6, .int (nI i_))]) hx hcb dX10_cashNeeded_75 hl (by decide) rfl (fun ls hl => ?_)
            refine lv_aload_n hx hcb dX10_cashNeeded_77 rfl (lv_at hl 1 rfl) ?_
            refine x_getR hx hcb hts hown hK xc10 hR (hw.lo (by decide)) (hw.s0 rfl) 5 (by decide) rfl q_1171 dX10_cashNeeded_78 ?_
            refine lv_bipush (v := (nI 21)) hx hcb dX10_cashNeeded_81 (by decide) ?_
            refine lv_iload hx hcb dX10_cashNeeded_83 (lv_at hl 3 rfl) ?_
            refine x_iaddN hx hcb dX10_cashNeeded_85 ?_
            refine x_iald hx hcb hK hR (hw.lo (by decide)) (hw.s0 rfl) (k := (21 + i_)) (by omega) (by decide) dX10_cashNeeded_86 ?_
            refine lv_istore (lv' := [(8, .int ((daL (zQ (u1 z 0 0 0) a b c_ d) (mQ z 13)).1 4 (21 + i_))), (7, .int (nI 1)), (0, .ref (w.2.2 0)), (5, .int (chQ (daL (zQ (u1 z 0 0 0) a b c_ d) (mQ z 13)) i_)), (6, .int (nI i_))]) hx hcb dX10_cashNeeded_87 hl (by decide) rfl (fun ls hl => ?_)
            refine lv_iload hx hcb dX10_cashNeeded_89 (lv_at hl 3 rfl) ?_
            refine lv_iload hx hcb dX10_cashNeeded_91 (lv_at hl 1 rfl) ?_
            refine lv_if_eq (tgt := 116) hx hcb dX10_cashNeeded_93 (by decide) (fun c_24 => ?_) (fun c_24 => ?_)
            · skip
              first | exact absurd c_24 (by decide) | exact absurd (by decide) c_24
            · skip
              refine lv_aload_n hx hcb dX10_cashNeeded_96 rfl (lv_at hl 2 rfl) ?_
              refine x_getR hx hcb hts hown hK xc10 hR (hw.lo (by decide)) (hw.s0 rfl) 13 (by decide) rfl q_1179 dX10_cashNeeded_97 ?_
              refine lv_iload hx hcb dX10_cashNeeded_100 (lv_at hl 4 rfl) ?_
              refine x_iald hx hcb hK hR (hw.lo (by decide)) (hw.s0 rfl) (k := i_) (by omega) (by decide) dX10_cashNeeded_102 ?_
              refine lv_aload_n hx hcb dX10_cashNeeded_103 rfl (lv_at hl 2 rfl) ?_
              refine x_getR hx hcb hts hown hK xc10 hR (hw.lo (by decide)) (hw.s0 rfl) 5 (by decide) rfl q_1171 dX10_cashNeeded_104 ?_
              refine lv_iconst (v := (nI 0)) hx hcb dX10_cashNeeded_107 (by decide) ?_
              refine x_iald hx hcb hK hR (hw.lo (by decide)) (hw.s0 rfl) (k := 0) (by omega) (by decide) dX10_cashNeeded_108 ?_
              refine lv_imul hx hcb dX10_cashNeeded_109 ?_
              refine lv_bipush (v := (nI 100)) hx hcb dX10_cashNeeded_110 (by decide) ?_
              refine lv_idiv hx hcb dX10_cashNeeded_112 (by decide) ?_
              refine lv_goto (tgt := 117) hx hcb dX10_cashNeeded_113 (by decide) ?_
              refine lv_iadd hx hcb dX10_cashNeeded_117 ?_
              refine lv_istore (lv' := [(5, .int ((chQ (daL (zQ (u1 z 0 0 0) a b c_ d) (mQ z 13)) i_) + ((((daL (zQ (u1 z 0 0 0) a b c_ d) (mQ z 13)).1 11 i_) * ((daL (zQ (u1 z 0 0 0) a b c_ d) (mQ z 13)).1 4 0)) / (nI 100)))), (8, .int ((daL (zQ (u1 z 0 0 0) a b c_ d) (mQ z 13)).1 4 (21 + i_))), (7, .int (nI 1)), (0, .ref (w.2.2 0)), (6, .int (nI i_))]) hx hcb dX10_cashNeeded_118 hl (by decide) rfl (fun ls hl => ?_)
              refine lv_iload hx hcb dX10_cashNeeded_120 (lv_at hl 0 rfl) ?_
              refine lv_aload_n hx hcb dX10_cashNeeded_122 rfl (lv_at hl 3 rfl) ?_
              refine x_getR hx hcb hts hown hK xc10 hR (hw.lo (by decide)) (hw.s0 rfl) 5 (by decide) rfl q_1171 dX10_cashNeeded_123 ?_
              refine lv_iconst (v := (nI 5)) hx hcb dX10_cashNeeded_126 (by decide) ?_
              refine lv_iload hx hcb dX10_cashNeeded_127 (lv_at hl 4 rfl) ?_
              refine x_iaddN hx hcb dX10_cashNeeded_129 ?_
              refine x_iald hx hcb hK hR (hw.lo (by decide)) (hw.s0 rfl) (k := (5 + i_)) (by omega) (by decide) dX10_cashNeeded_130 ?_
              refine lv_iconst (v := (nI 1)) hx hcb dX10_cashNeeded_131 (by decide) ?_
              refine lv_icmp_ne (tgt := 152) hx hcb dX10_cashNeeded_132 (by decide) (fun c_25 => ?_) (fun c_25 => ?_)
              · skip
                have hB_ : ¬ (daL (zQ (u1 z 0 0 0) a b c_ d) (mQ z 13)).1 4 (5 + i_) = nI 1 := c_25
                refine lv_iconst (v := (nI 0)) hx hcb dX10_cashNeeded_152 (by decide) ?_
                refine lv_iadd hx hcb dX10_cashNeeded_153 ?_
                refine lv_istore (lv' := [(5, .int (((chQ (daL (zQ (u1 z 0 0 0) a b c_ d) (mQ z 13)) i_) + ((((daL (zQ (u1 z 0 0 0) a b c_ d) (mQ z 13)).1 11 i_) * ((daL (zQ (u1 z 0 0 0) a b c_ d) (mQ z 13)).1 4 0)) / (nI 100))) + (nI 0))), (8, .int ((daL (zQ (u1 z 0 0 0) a b c_ d) (mQ z 13)).1 4 (21 + i_))), (7, .int (nI 1)), (0, .ref (w.2.2 0)), (6, .int (nI i_))]) hx hcb dX10_cashNeeded_154 hl (by decide) rfl (fun ls hl => ?_)
                refine lv_iinc (v := (nI (i_ + 1))) (lv' := [(6, .int (nI (i_ + 1))), (5, .int (((chQ (daL (zQ (u1 z 0 0 0) a b c_ d) (mQ z 13)) i_) + ((((daL (zQ (u1 z 0 0 0) a b c_ d) (mQ z 13)).1 11 i_) * ((daL (zQ (u1 z 0 0 0) a b c_ d) (mQ z 13)).1 4 0)) / (nI 100))) + (nI 0))), (8, .int ((daL (zQ (u1 z 0 0 0) a b c_ d) (mQ z 13)).1 4 (21 + i_))), (7, .int (nI 1)), (0, .ref (w.2.2 0))]) hx hcb dX10_cashNeeded_156 hl (k := 4) rfl (x_iinc1 _) (by decide) rfl (fun ls hl => ?_)
                refine lv_goto (tgt := 34) hx hcb dX10_cashNeeded_159 (by decide) ?_
                rw [show (((chQ (daL (zQ (u1 z 0 0 0) a b c_ d) (mQ z 13)) i_) + ((((daL (zQ (u1 z 0 0 0) a b c_ d) (mQ z 13)).1 11 i_) * ((daL (zQ (u1 z 0 0 0) a b c_ d) (mQ z 13)).1 4 0)) / (nI 100))) + (nI 0)) = (chQ (daL (zQ (u1 z 0 0 0) a b c_ d) (mQ z 13)) (i_ + 1)) from by rw [chQ_s]; first | rw [if_pos hA_, if_pos hB_] | rw [if_pos hA_, if_neg hB_] | rw [if_neg hA_, if_pos hB_] | rw [if_neg hA_, if_neg hB_]] at hl
                exact ih_34 (i_ + 1) (by omega) (by omega) _ _ _ hR hS (lv_sub hl [4, 1, 0] rfl)
              · skip
                have hB_ : (daL (zQ (u1 z 0 0 0) a b c_ d) (mQ z 13)).1 4 (5 + i_) = nI 1 := c_25
                refine lv_aload_n hx hcb dX10_cashNeeded_135 rfl (lv_at hl 3 rfl) ?_
                refine lv_iload hx hcb dX10_cashNeeded_136 (lv_at hl 4 rfl) ?_
                refine x_ci0 rfl rfl (x_runV hx hcb hml hown hts (c_X10_equity l G w hw (daL (zQ (u1 z 0 0 0) a b c_ d) (mQ z 13)) _ i_ (by omega)) mv_X10_equity q_1403 hK hZ hR hS (hw.lo (by decide)) xc10 (hw.s0 rfl) rfl hl.1 rfl (Nat.le_of_ble_eq_true rfl) dX10_cashNeeded_138 ⟨by decide, by decide⟩ ⟨by decide, by decide⟩) hS (fun r_26 z_27 H locs hp_28 hR hS => ?_)
                rw [hp_28.2] at hR; rw [hp_28.1]
                refine lv_iload hx hcb dX10_cashNeeded_141 (lv_at hl 1 rfl) ?_
                refine lv_iadd hx hcb dX10_cashNeeded_143 ?_
                refine lv_iconst (v := (nI 1)) hx hcb dX10_cashNeeded_144 (by decide) ?_
                refine lv_isub hx hcb dX10_cashNeeded_145 ?_
                refine lv_iload hx hcb dX10_cashNeeded_146 (lv_at hl 1 rfl) ?_
                refine lv_idiv hx hcb dX10_cashNeeded_148 (by rw [daL_4]; exact hLv i_ (by omega) (by have t_ := hB_; rw [daL_4] at t_; exact t_)) ?_
                refine lv_goto (tgt := 153) hx hcb dX10_cashNeeded_149 (by decide) ?_
                refine lv_iadd hx hcb dX10_cashNeeded_153 ?_
                refine lv_istore (lv' := [(5, .int (((chQ (daL (zQ (u1 z 0 0 0) a b c_ d) (mQ z 13)) i_) + ((((daL (zQ (u1 z 0 0 0) a b c_ d) (mQ z 13)).1 11 i_) * ((daL (zQ (u1 z 0 0 0) a b c_ d) (mQ z 13)).1 4 0)) / (nI 100))) + ((((eqQ (daL (zQ (u1 z 0 0 0) a b c_ d) (mQ z 13)) i_) + ((daL (zQ (u1 z 0 0 0) a b c_ d) (mQ z 13)).1 4 (21 + i_))) - (nI 1)) / ((daL (zQ (u1 z 0 0 0) a b c_ d) (mQ z 13)).1 4 (21 + i_))))), (8, .int ((daL (zQ (u1 z 0 0 0) a b c_ d) (mQ z 13)).1 4 (21 + i_))), (7, .int (nI 1)), (0, .ref (w.2.2 0)), (6, .int (nI i_))]) hx hcb dX10_cashNeeded_154 hl (by decide) rfl (fun ls hl => ?_)
                refine lv_iinc (v := (nI (i_ + 1))) (lv' := [(6, .int (nI (i_ + 1))), (5, .int (((chQ (daL (zQ (u1 z 0 0 0) a b c_ d) (mQ z 13)) i_) + ((((daL (zQ (u1 z 0 0 0) a b c_ d) (mQ z 13)).1 11 i_) * ((daL (zQ (u1 z 0 0 0) a b c_ d) (mQ z 13)).1 4 0)) / (nI 100))) + ((((eqQ (daL (zQ (u1 z 0 0 0) a b c_ d) (mQ z 13)) i_) + ((daL (zQ (u1 z 0 0 0) a b c_ d) (mQ z 13)).1 4 (21 + i_))) - (nI 1)) / ((daL (zQ (u1 z 0 0 0) a b c_ d) (mQ z 13)).1 4 (21 + i_))))), (8, .int ((daL (zQ (u1 z 0 0 0) a b c_ d) (mQ z 13)).1 4 (21 + i_))), (7, .int (nI 1)), (0, .ref (w.2.2 0))]) hx hcb dX10_cashNeeded_156 hl (k := 4) rfl (x_iinc1 _) (by decide) rfl (fun ls hl => ?_)
                refine lv_goto (tgt := 34) hx hcb dX10_cashNeeded_159 (by decide) ?_
                rw [show (((chQ (daL (zQ (u1 z 0 0 0) a b c_ d) (mQ z 13)) i_) + ((((daL (zQ (u1 z 0 0 0) a b c_ d) (mQ z 13)).1 11 i_) * ((daL (zQ (u1 z 0 0 0) a b c_ d) (mQ z 13)).1 4 0)) / (nI 100))) + ((((eqQ (daL (zQ (u1 z 0 0 0) a b c_ d) (mQ z 13)) i_) + ((daL (zQ (u1 z 0 0 0) a b c_ d) (mQ z 13)).1 4 (21 + i_))) - (nI 1)) / ((daL (zQ (u1 z 0 0 0) a b c_ d) (mQ z 13)).1 4 (21 + i_)))) = (chQ (daL (zQ (u1 z 0 0 0) a b c_ d) (mQ z 13)) (i_ + 1)) from by rw [chQ_s]; first | rw [if_pos hA_, if_pos hB_] | rw [if_pos hA_, if_neg hB_] | rw [if_neg hA_, if_pos hB_] | rw [if_neg hA_, if_neg hB_]] at hl
                exact ih_34 (i_ + 1) (by omega) (by omega) _ _ _ hR hS (lv_sub hl [4, 1, 0] rfl)
  · skip
    have h_ : ¬ (okR (mQ z 13) ((zQ (u1 z 0 0 0) a b c_ d).1 10)) := fun q_ => absurd c_7 (by rw [if_pos q_]; decide)
    refine lv_bipush (v := (-2)) hx hcb dX10_cashNeeded_21 (by decide) ?_
    exact hret (-2) (zQ (u1 z 0 0 0) a b c_ d) _ _ _ _ dX10_cashNeeded_23 rfl hR hS (by rw [if_neg h_])
