/-! THE REFERENCE: what was kept -/
def shf (z : xSt) : xSt := ur z 6 (fun j => if j + 497 < 4970 then z.1 6 (j + 497) else z.1 6 j)
theorem shf_0 (z : xSt) : z = ur z 6 (fun j => if j + 497 < 497 then z.1 6 (j + 497) else z.1 6 j) := by
  rw [show (fun j => if j + 497 < 497 then z.1 6 (j + 497) else z.1 6 j) = z.1 6 from funext (fun j => if_neg (by omega)), ur_id]
theorem shf_s (z : xSt) {i : Nat} (h : 497 ≤ i) : u1 (ur z 6 (fun j => if j + 497 < i then z.1 6 (j + 497) else z.1 6 j)) 6 (i - 497) (z.1 6 i) = ur z 6 (fun j => if j + 497 < i + 1 then z.1 6 (j + 497) else z.1 6 j) := by
  rw [u1_ur]
  refine congrArg (ur z 6) (funext fun j => ?_)
  by_cases hj : j = i - 497
  · rw [hj, va_up_self, if_pos (by omega), Nat.sub_add_cancel h]
  · rw [va_up_ne _ _ hj]
    by_cases h2 : j + 497 < i
    · rw [if_pos h2, if_pos (by omega)]
    · rw [if_neg h2, if_neg (by omega)]
def pIn (z : xSt) (v : Nat) : xSt := ur z 6 (fun j => if 497 * v ≤ j ∧ j < 497 * v + 497 then z.1 4 (j - 497 * v) else z.1 6 j)
theorem pin_0 (z : xSt) (v : Nat) : z = ur z 6 (fun j => if 497 * v ≤ j ∧ j < 497 * v + 0 then z.1 4 (j - 497 * v) else z.1 6 j) := by
  rw [show (fun j => if 497 * v ≤ j ∧ j < 497 * v + 0 then z.1 4 (j - 497 * v) else z.1 6 j) = z.1 6 from funext (fun j => if_neg (by omega)), ur_id]
theorem pin_s (z : xSt) (v : Nat) {i : Nat} : u1 (ur z 6 (fun j => if 497 * v ≤ j ∧ j < 497 * v + i then z.1 4 (j - 497 * v) else z.1 6 j)) 6 (497 * v + i) (z.1 4 i) = ur z 6 (fun j => if 497 * v ≤ j ∧ j < 497 * v + (i + 1) then z.1 4 (j - 497 * v) else z.1 6 j) := by
  rw [u1_ur]
  refine congrArg (ur z 6) (funext fun j => ?_)
  by_cases hj : j = 497 * v + i
  · rw [hj, va_up_self, if_pos (by omega), Nat.add_sub_cancel_left]
  · rw [va_up_ne _ _ hj]
    by_cases h2 : 497 * v ≤ j ∧ j < 497 * v + i
    · rw [if_pos h2, if_pos (by omega)]
    · rw [if_neg h2, if_neg (by omega)]
def kpS (z : xSt) (u : Nat) : xSt := if u = 10 then u1 (pIn (u1 (shf z) 0 8 (nI 9)) 9) 0 8 (nI (9 + 1)) else u1 (pIn z u) 0 8 (nI (u + 1))
def rm_X10_keeps : Room := { frames := 0, cells := 0, slots := 0, locals := 0 }
set_option maxRecDepth 100000 in
set_option maxHeartbeats 4000000 in
theorem c_X10_keeps (l : Launch) (G : xGl) (w : xWd) (hw : isM w) (z : xSt) (sz : Nat)  (u : Nat) (hu : z.1 0 8 = nI u) (hu10 : u ≤ 10) : xMv l yX10_keeps cX10_keeps 2 rm_X10_keeps G w z sz [.ref (w.2.2 0)] (fun z1 => z1 = kpS z u) := by
  refine x_mv (by decide) (Nat.le_of_ble_eq_true rfl) ?_
  intro p e s mt args below meth c ls Q hsz X hR hS hl hret
  obtain ⟨hx, hcb, hml, hown, hts, hlk, hK, hZ⟩ := X
  have hl : lv_has ls 2 [(0, .ref (w.2.2 0))] := hl
  refine lv_aload_n hx hcb dX10_keeps_0 rfl (lv_at hl 0 rfl) ?_
  refine x_getI hx hcb hts hown hK xc10 hR (hw.lo (by decide)) (hw.s0 rfl) 8 (by decide) rfl q_1174 dX10_keeps_1 ?_
  refine x_top (show (z.1 0 8) = (nI u) from hu) ?_
  refine lv_bipush (v := (nI 10)) hx hcb dX10_keeps_4 (by decide) ?_
  refine lv_icmp_ne (tgt := 52) hx hcb dX10_keeps_6 (by decide) (fun c_1 => ?_) (fun c_1 => ?_)
  · skip
    have c_1 : ¬ u = 10 := fun h_ => c_1 ((nI_eq (by omega) (by omega)).mpr h_)
    have hu_ : ¬ u = 10 := c_1
    refine lv_iconst (v := (nI 0)) hx hcb dX10_keeps_52 (by decide) ?_
    refine lv_istore_n (lv' := [(1, .int (nI 0)), (0, .ref (w.2.2 0))]) hx hcb dX10_keeps_53 rfl hl (by decide) rfl (fun ls hl => ?_)
    rw [pin_0 (z) u] at hR
    suffices LP_54 : ∀ (nn : Nat) (i_ : Nat) (y_ : xSt) (v_ : Nat) (_ : 497 - i_ < nn) (hi_ : i_ ≤ 497) (hv_ : y_.1 0 8 = nI v_) (hv9_ : v_ ≤ 9) (hr_ : kpS z u = u1 (pIn y_ v_) 0 8 (nI (v_ + 1))) (H : Heap) (locs : List Loc) (ls : Array Slot), Rh G w (ur y_ 6 (fun j => if 497 * v_ ≤ j ∧ j < 497 * v_ + i_ then y_.1 4 (j - 497 * v_) else y_.1 6 j)) H → va_S (xA w s.heap.size) s.heap H locs → lv_has ls 2 [(0, .ref (w.2.2 0)), (1, .int (nI i_))] → W p l e rm_X10_keeps s mt args below meth c H locs 0 0 Q (F0 mt 54 ls []) from LP_54 ((_) + 1) 0 z u (Nat.lt_succ_self _) (by omega) (by first | exact hu | rfl) (by omega) (by unfold kpS; first | (rw [if_pos hu_]; rfl) | rw [if_neg hu_]) _ _ _ hR hS (lv_sub hl [1, 0] rfl)
    intro nn
    induction nn with
    | zero => intro i_ y_ v_ hm_ ; exact absurd hm_ (Nat.not_lt_zero _)
    | succ nn ih_54 =>
      intro i_ y_ v_ hm_54 hi_ hv_ hv9_ hr_ H locs ls hR hS hl
      refine lv_iload_n hx hcb dX10_keeps_54 rfl (lv_at hl 1 rfl) ?_
      refine lv_sipush (v := (nI 497)) hx hcb dX10_keeps_55 (by decide) ?_
      refine lv_icmp_ge (tgt := 88) hx hcb dX10_keeps_58 (by decide) (fun c_2 => ?_) (fun c_2 => ?_)
      · skip
        have c_2 : 497 ≤ i_ := (nI_leI (by omega) (by omega)).mp c_2
        obtain rfl : 497 = i_ := by omega
        refine lv_aload_n hx hcb dX10_keeps_88 rfl (lv_at hl 0 rfl) ?_
        refine lv_dup hx hcb dX10_keeps_89 rfl ?_
        refine x_getI hx hcb hts hown hK xc10 hR (hw.lo (by decide)) (hw.s0 rfl) 8 (by decide) rfl q_1174 dX10_keeps_90 ?_
        refine x_top (show ((ur y_ 6 (fun j => if 497 * v_ ≤ j ∧ j < 497 * v_ + 497 then y_.1 4 (j - 497 * v_) else y_.1 6 j)).1 0 8) = (nI v_) from hv_) ?_
        refine lv_iconst (v := (nI 1)) hx hcb dX10_keeps_93 (by decide) ?_
        refine x_iaddN hx hcb dX10_keeps_94 ?_
        refine x_putI hx hcb hts hown hK xc10 hR hS (hw.lo (by decide)) (hw.s0 rfl) 8 (by decide) rfl q_1174 rfl (v := (nI (v_ + 1))) rfl rfl dX10_keeps_95 (fun H locs hR hS => ?_)
        exact hret (u1 (ur y_ 6 (fun j => if 497 * v_ ≤ j ∧ j < 497 * v_ + 497 then y_.1 4 (j - 497 * v_) else y_.1 6 j)) 0 8 (nI (v_ + 1))) _ _ _ _ dX10_keeps_98 hR hS hr_.symm
      · skip
        have c_2 : ¬ 497 ≤ i_ := fun h_ => c_2 ((nI_leI (by omega) (by omega)).mpr h_)
        refine lv_aload_n hx hcb dX10_keeps_61 rfl (lv_at hl 0 rfl) ?_
        refine x_getR hx hcb hts hown hK xc10 hR (hw.lo (by decide)) (hw.s0 rfl) 7 (by decide) rfl q_1173 dX10_keeps_62 ?_
        refine lv_sipush (v := (nI 497)) hx hcb dX10_keeps_65 (by decide) ?_
        refine lv_aload_n hx hcb dX10_keeps_68 rfl (lv_at hl 0 rfl) ?_
        refine x_getI hx hcb hts hown hK xc10 hR (hw.lo (by decide)) (hw.s0 rfl) 8 (by decide) rfl q_1174 dX10_keeps_69 ?_
        refine x_top (show ((ur y_ 6 (fun j => if 497 * v_ ≤ j ∧ j < 497 * v_ + i_ then y_.1 4 (j - 497 * v_) else y_.1 6 j)).1 0 8) = (nI v_) from hv_) ?_
        refine x_imulN hx hcb dX10_keeps_72 ?_
        refine lv_iload_n hx hcb dX10_keeps_73 rfl (lv_at hl 1 rfl) ?_
        refine x_iaddN hx hcb dX10_keeps_74 ?_
        refine lv_aload_n hx hcb dX10_keeps_75 rfl (lv_at hl 0 rfl) ?_
        refine x_getR hx hcb hts hown hK xc10 hR (hw.lo (by decide)) (hw.s0 rfl) 5 (by decide) rfl q_1171 dX10_keeps_76 ?_
        refine lv_iload_n hx hcb dX10_keeps_79 rfl (lv_at hl 1 rfl) ?_
        refine x_iald hx hcb hK hR (hw.lo (by decide)) (hw.s0 rfl) (k := i_) (by omega) (by decide) dX10_keeps_80 ?_
        refine x_top (show ((ur y_ 6 (fun j => if 497 * v_ ≤ j ∧ j < 497 * v_ + i_ then y_.1 4 (j - 497 * v_) else y_.1 6 j)).1 4 i_) = (y_.1 4 i_) from rfl) ?_
        refine x_iast hx hcb hK hR hS (hw.lo (by decide)) (hw.s0 rfl) (k := ((497 * v_) + i_)) (v := (y_.1 4 i_)) (by omega) (by decide) dX10_keeps_81 (fun H locs hR hS => ?_)
        refine lv_iinc (v := (nI (i_ + 1))) (lv' := [(1, .int (nI (i_ + 1))), (0, .ref (w.2.2 0))]) hx hcb dX10_keeps_82 hl (k := 1) rfl (x_iinc1 _) (by decide) rfl (fun ls hl => ?_)
        refine lv_goto (tgt := 54) hx hcb dX10_keeps_85 (by decide) ?_
        rw [show (u1 (ur y_ 6 (fun j => if 497 * v_ ≤ j ∧ j < 497 * v_ + i_ then y_.1 4 (j - 497 * v_) else y_.1 6 j)) 6 ((497 * v_) + i_) (y_.1 4 i_)) = (ur y_ 6 (fun j => if 497 * v_ ≤ j ∧ j < 497 * v_ + (i_ + 1) then y_.1 4 (j - 497 * v_) else y_.1 6 j)) from pin_s _ _] at hR
        exact ih_54 (i_ + 1) y_ v_ (by omega) (by omega) hv_ hv9_ hr_ _ _ _ hR hS (lv_sub hl [1, 0] rfl)
  · skip
    have c_1 : u = 10 := (nI_eq (by omega) (by omega)).mp c_1
    have hu_ : u = 10 := by omega
    refine lv_sipush (v := (nI 497)) hx hcb dX10_keeps_9 (by decide) ?_
    refine lv_istore_n (lv' := [(1, .int (nI 497)), (0, .ref (w.2.2 0))]) hx hcb dX10_keeps_12 rfl hl (by decide) rfl (fun ls hl => ?_)
    rw [shf_0 z] at hR
    suffices LP_13 : ∀ (nn : Nat) (i_ : Nat) (_ : 4970 - i_ < nn) (hi1_ : 497 ≤ i_) (hi_ : i_ ≤ 4970) (H : Heap) (locs : List Loc) (ls : Array Slot), Rh G w (ur z 6 (fun j => if j + 497 < i_ then z.1 6 (j + 497) else z.1 6 j)) H → va_S (xA w s.heap.size) s.heap H locs → lv_has ls 2 [(0, .ref (w.2.2 0)), (1, .int (nI i_))] → W p l e rm_X10_keeps s mt args below meth c H locs 0 0 Q (F0 mt 13 ls []) from LP_13 ((_) + 1) 497 (Nat.lt_succ_self _) (by omega) (by omega) _ _ _ hR hS (lv_sub hl [1, 0] rfl)
    intro nn
    induction nn with
    | zero => intro i_ hm_ ; exact absurd hm_ (Nat.not_lt_zero _)
    | succ nn ih_13 =>
      intro i_ hm_13 hi1_ hi_ H locs ls hR hS hl
      refine lv_iload_n hx hcb dX10_keeps_13 rfl (lv_at hl 1 rfl) ?_
      refine lv_sipush (v := (nI 4970)) hx hcb dX10_keeps_14 (by decide) ?_
      refine lv_icmp_ge (tgt := 42) hx hcb dX10_keeps_17 (by decide) (fun c_3 => ?_) (fun c_3 => ?_)
      · skip
        have c_3 : 4970 ≤ i_ := (nI_leI (by omega) (by omega)).mp c_3
        obtain rfl : 4970 = i_ := by omega
        rw [show ur z 6 (fun j => if j + 497 < 4970 then z.1 6 (j + 497) else z.1 6 j) = shf z from rfl] at hR
        refine lv_aload_n hx hcb dX10_keeps_42 rfl (lv_at hl 0 rfl) ?_
        refine lv_dup hx hcb dX10_keeps_43 rfl ?_
        refine x_getI hx hcb hts hown hK xc10 hR (hw.lo (by decide)) (hw.s0 rfl) 8 (by decide) rfl q_1174 dX10_keeps_44 ?_
        refine x_top (show ((shf z).1 0 8) = (nI 10) from hu.trans (congrArg nI hu_)) ?_
        refine lv_iconst (v := (nI 1)) hx hcb dX10_keeps_47 (by decide) ?_
        refine lv_isub hx hcb dX10_keeps_48 ?_
        refine x_top (show ((nI 10) - (nI 1)) = (nI 9) from by decide) ?_
        refine x_putI hx hcb hts hown hK xc10 hR hS (hw.lo (by decide)) (hw.s0 rfl) 8 (by decide) rfl q_1174 rfl (v := 9) rfl rfl dX10_keeps_49 (fun H locs hR hS => ?_)
        refine lv_iconst (v := (nI 0)) hx hcb dX10_keeps_52 (by decide) ?_
        refine lv_istore_n (lv' := [(1, .int (nI 0)), (0, .ref (w.2.2 0))]) hx hcb dX10_keeps_53 rfl hl (by decide) rfl (fun ls hl => ?_)
        rw [pin_0 (u1 (shf z) 0 8 9) 9] at hR
        suffices LP_54 : ∀ (nn : Nat) (i_ : Nat) (y_ : xSt) (v_ : Nat) (_ : 497 - i_ < nn) (hi_ : i_ ≤ 497) (hv_ : y_.1 0 8 = nI v_) (hv9_ : v_ ≤ 9) (hr_ : kpS z u = u1 (pIn y_ v_) 0 8 (nI (v_ + 1))) (H : Heap) (locs : List Loc) (ls : Array Slot), Rh G w (ur y_ 6 (fun j => if 497 * v_ ≤ j ∧ j < 497 * v_ + i_ then y_.1 4 (j - 497 * v_) else y_.1 6 j)) H → va_S (xA w s.heap.size) s.heap H locs → lv_has ls 2 [(0, .ref (w.2.2 0)), (1, .int (nI i_))] → W p l e rm_X10_keeps s mt args below meth c H locs 0 0 Q (F0 mt 54 ls []) from LP_54 ((_) + 1) 0 (u1 (shf z) 0 8 9) 9 (Nat.lt_succ_self _) (by omega) (by first | exact hu | rfl) (by omega) (by unfold kpS; first | (rw [if_pos hu_]; rfl) | rw [if_neg hu_]) _ _ _ hR hS (lv_sub hl [1, 0] rfl)
        intro nn
        induction nn with
        | zero => intro i_ y_ v_ hm_ ; exact absurd hm_ (Nat.not_lt_zero _)
        | succ nn ih_54 =>
          intro i_ y_ v_ hm_54 hi_ hv_ hv9_ hr_ H locs ls hR hS hl
          refine lv_iload_n hx hcb dX10_keeps_54 rfl (lv_at hl 1 rfl) ?_
          refine lv_sipush (v := (nI 497)) hx hcb dX10_keeps_55 (by decide) ?_
          refine lv_icmp_ge (tgt := 88) hx hcb dX10_keeps_58 (by decide) (fun c_4 => ?_) (fun c_4 => ?_)
          · skip
            have c_4 : 497 ≤ i_ := (nI_leI (by omega) (by omega)).mp c_4
            obtain rfl : 497 = i_ := by omega
            refine lv_aload_n hx hcb dX10_keeps_88 rfl (lv_at hl 0 rfl) ?_
            refine lv_dup hx hcb dX10_keeps_89 rfl ?_
            refine x_getI hx hcb hts hown hK xc10 hR (hw.lo (by decide)) (hw.s0 rfl) 8 (by decide) rfl q_1174 dX10_keeps_90 ?_
            refine x_top (show ((ur y_ 6 (fun j => if 497 * v_ ≤ j ∧ j < 497 * v_ + 497 then y_.1 4 (j - 497 * v_) else y_.1 6 j)).1 0 8) = (nI v_) from hv_) ?_
            refine lv_iconst (v := (nI 1)) hx hcb dX10_keeps_93 (by decide) ?_
            refine x_iaddN hx hcb dX10_keeps_94 ?_
            refine x_putI hx hcb hts hown hK xc10 hR hS (hw.lo (by decide)) (hw.s0 rfl) 8 (by decide) rfl q_1174 rfl (v := (nI (v_ + 1))) rfl rfl dX10_keeps_95 (fun H locs hR hS => ?_)
            exact hret (u1 (ur y_ 6 (fun j => if 497 * v_ ≤ j ∧ j < 497 * v_ + 497 then y_.1 4 (j - 497 * v_) else y_.1 6 j)) 0 8 (nI (v_ + 1))) _ _ _ _ dX10_keeps_98 hR hS hr_.symm
          · skip
            have c_4 : ¬ 497 ≤ i_ := fun h_ => c_4 ((nI_leI (by omega) (by omega)).mpr h_)
            refine lv_aload_n hx hcb dX10_keeps_61 rfl (lv_at hl 0 rfl) ?_
            refine x_getR hx hcb hts hown hK xc10 hR (hw.lo (by decide)) (hw.s0 rfl) 7 (by decide) rfl q_1173 dX10_keeps_62 ?_
            refine lv_sipush (v := (nI 497)) hx hcb dX10_keeps_65 (by decide) ?_
            refine lv_aload_n hx hcb dX10_keeps_68 rfl (lv_at hl 0 rfl) ?_
            refine x_getI hx hcb hts hown hK xc10 hR (hw.lo (by decide)) (hw.s0 rfl) 8 (by decide) rfl q_1174 dX10_keeps_69 ?_
            refine x_top (show ((ur y_ 6 (fun j => if 497 * v_ ≤ j ∧ j < 497 * v_ + i_ then y_.1 4 (j - 497 * v_) else y_.1 6 j)).1 0 8) = (nI v_) from hv_) ?_
            refine x_imulN hx hcb dX10_keeps_72 ?_
            refine lv_iload_n hx hcb dX10_keeps_73 rfl (lv_at hl 1 rfl) ?_
            refine x_iaddN hx hcb dX10_keeps_74 ?_
            refine lv_aload_n hx hcb dX10_keeps_75 rfl (lv_at hl 0 rfl) ?_
            refine x_getR hx hcb hts hown hK xc10 hR (hw.lo (by decide)) (hw.s0 rfl) 5 (by decide) rfl q_1171 dX10_keeps_76 ?_
            refine lv_iload_n hx hcb dX10_keeps_79 rfl (lv_at hl 1 rfl) ?_
            refine x_iald hx hcb hK hR (hw.lo (by decide)) (hw.s0 rfl) (k := i_) (by omega) (by decide) dX10_keeps_80 ?_
            refine x_top (show ((ur y_ 6 (fun j => if 497 * v_ ≤ j ∧ j < 497 * v_ + i_ then y_.1 4 (j - 497 * v_) else y_.1 6 j)).1 4 i_) = (y_.1 4 i_) from rfl) ?_
            refine x_iast hx hcb hK hR hS (hw.lo (by decide)) (hw.s0 rfl) (k := ((497 * v_) + i_)) (v := (y_.1 4 i_)) (by omega) (by decide) dX10_keeps_81 (fun H locs hR hS => ?_)
            refine lv_iinc (v := (nI (i_ + 1))) (lv' := [(1, .int (nI (i_ + 1))), (0, .ref (w.2.2 0))]) hx hcb dX10_keeps_82 hl (k := 1) rfl (x_iinc1 _) (by decide) rfl (fun ls hl => ?_)
            refine lv_goto (tgt := 54) hx hcb dX10_keeps_85 (by decide) ?_
            rw [show (u1 (ur y_ 6 (fun j => if 497 * v_ ≤ j ∧ j < 497 * v_ + i_ then y_.1 4 (j - 497 * v_) else y_.1 6 j)) 6 ((497 * v_) + i_) (y_.1 4 i_)) = (ur y_ 6 (fun j => if 497 * v_ ≤ j ∧ j < 497 * v_ + (i_ + 1) then y_.1 4 (j - 497 * v_) else y_.1 6 j)) from pin_s _ _] at hR
            exact ih_54 (i_ + 1) y_ v_ (by omega) (by omega) hv_ hv9_ hr_ _ _ _ hR hS (lv_sub hl [1, 0] rfl)
      · skip
        have c_3 : ¬ 4970 ≤ i_ := fun h_ => c_3 ((nI_leI (by omega) (by omega)).mpr h_)
        refine lv_aload_n hx hcb dX10_keeps_20 rfl (lv_at hl 0 rfl) ?_
        refine x_getR hx hcb hts hown hK xc10 hR (hw.lo (by decide)) (hw.s0 rfl) 7 (by decide) rfl q_1173 dX10_keeps_21 ?_
        refine lv_iload_n hx hcb dX10_keeps_24 rfl (lv_at hl 1 rfl) ?_
        refine lv_sipush (v := (nI 497)) hx hcb dX10_keeps_25 (by decide) ?_
        refine x_isubN hx hcb (by omega) dX10_keeps_28 ?_
        refine lv_aload_n hx hcb dX10_keeps_29 rfl (lv_at hl 0 rfl) ?_
        refine x_getR hx hcb hts hown hK xc10 hR (hw.lo (by decide)) (hw.s0 rfl) 7 (by decide) rfl q_1173 dX10_keeps_30 ?_
        refine lv_iload_n hx hcb dX10_keeps_33 rfl (lv_at hl 1 rfl) ?_
        refine x_iald hx hcb hK hR (hw.lo (by decide)) (hw.s0 rfl) (k := i_) (by omega) (by decide) dX10_keeps_34 ?_
        refine x_top (show ((ur z 6 (fun j => if j + 497 < i_ then z.1 6 (j + 497) else z.1 6 j)).1 6 i_) = (z.1 6 i_) from by rw [ur_at, if_neg (by omega)]) ?_
        refine x_iast hx hcb hK hR hS (hw.lo (by decide)) (hw.s0 rfl) (k := (i_ - 497)) (v := (z.1 6 i_)) (by omega) (by decide) dX10_keeps_35 (fun H locs hR hS => ?_)
        refine lv_iinc (v := (nI (i_ + 1))) (lv' := [(1, .int (nI (i_ + 1))), (0, .ref (w.2.2 0))]) hx hcb dX10_keeps_36 hl (k := 1) rfl (x_iinc1 _) (by decide) rfl (fun ls hl => ?_)
        refine lv_goto (tgt := 13) hx hcb dX10_keeps_39 (by decide) ?_
        rw [show (u1 (ur z 6 (fun j => if j + 497 < i_ then z.1 6 (j + 497) else z.1 6 j)) 6 (i_ - 497) (z.1 6 i_)) = (ur z 6 (fun j => if j + 497 < (i_ + 1) then z.1 6 (j + 497) else z.1 6 j)) from shf_s z (by omega)] at hR
        exact ih_13 (i_ + 1) (by omega) (by omega) (by omega) _ _ _ hR hS (lv_sub hl [1, 0] rfl)
