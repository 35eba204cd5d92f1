/-! THE REFERENCE: all results dealt -/
def shD (z : xSt) (d : Nat) : Prop := shOk ((w7 (u1 z 0 15 (z.1 0 15 + kpQ z d)) d (mQ z 12)).2 7) (mQ z 12) ((abQ z d).toInt64)
def daL (z : xSt) : Nat → xSt
  | 0 => ur (ur (u1 z 0 15 0) 11 (fun _ => 0)) 12 (fun _ => 0)
  | d + 1 => dlQ (daL z d) d
theorem dlQ_2 (z : xSt) (d : Nat) : (dlQ z d).1 2 = z.1 2 := by unfold dlQ; split <;> rfl
theorem dlQ_4 (z : xSt) (d : Nat) : (dlQ z d).1 4 = z.1 4 := by unfold dlQ; split <;> rfl
theorem dlQ_10 (z : xSt) (d : Nat) : (dlQ z d).1 10 = z.1 10 := by unfold dlQ; split <;> rfl
theorem daL_2 (z : xSt) : ∀ d, (daL z d).1 2 = z.1 2
  | 0 => rfl
  | d + 1 => (dlQ_2 _ d).trans (daL_2 z d)
theorem daL_4 (z : xSt) : ∀ d, (daL z d).1 4 = z.1 4
  | 0 => rfl
  | d + 1 => (dlQ_4 _ d).trans (daL_4 z d)
theorem daL_10 (z : xSt) : ∀ d, (daL z d).1 10 = z.1 10
  | 0 => rfl
  | d + 1 => (dlQ_10 _ d).trans (daL_10 z d)
theorem rOk.of {z z2 : xSt} (h : rOk z) (e2 : z2.1 2 = z.1 2) (e4 : z2.1 4 = z.1 4) : rOk z2 := by
  unfold rOk mQ yQ at h ⊢
  rw [e2, e4]; exact h
theorem daL_ok {z : xSt} {d : Nat} (h : rOk z) : rOk (daL z d) := h.of (daL_2 z d) (daL_4 z d)
def rm_X10_dealsAll : Room := { frames := 2, cells := 0, slots := 0, locals := 54 }
set_option maxRecDepth 100000 in
set_option maxHeartbeats 4000000 in
theorem c_X10_dealsAll (l : Launch) (G : xGl) (w : xWd) (hw : isM w) (z : xSt) (sz : Nat)  (hO : rOk z) (hsh : ∀ d, d < mQ z 13 → shD (daL z d) d) : xMv l yX10_dealsAll cX10_dealsAll 2 rm_X10_dealsAll G w z sz [.ref (w.2.2 0)] (fun z1 => z1 = daL z (mQ z 13)) := by
  refine x_mv (by decide) (Nat.le_of_ble_eq_true rfl) ?_
  intro p e s mt args below meth c ls Q hsz X hR hS hl hret
  obtain ⟨hx, hcb, hml, hown, hts, hlk, hK, hZ⟩ := X
  have hl : lv_has ls 2 [(0, .ref (w.2.2 0))] := hl
  have hm8_ := hO.2.1
  have hd4_ := hO.2.2.2.1
  have hy24_ := hO.2.2.2.2.2
  refine lv_aload_n hx hcb dX10_dealsAll_0 rfl (lv_at hl 0 rfl) ?_
  refine lv_iconst (v := (nI 0)) hx hcb dX10_dealsAll_1 (by decide) ?_
  refine x_putI hx hcb hts hown hK xc10 hR hS (hw.lo (by decide)) (hw.s0 rfl) 15 (by decide) rfl q_1181 rfl (v := 0) rfl rfl dX10_dealsAll_2 (fun H locs hR hS => ?_)
  refine lv_iconst (v := (nI 0)) hx hcb dX10_dealsAll_5 (by decide) ?_
  refine lv_istore_n (lv' := [(1, .int (nI 0)), (0, .ref (w.2.2 0))]) hx hcb dX10_dealsAll_6 rfl hl (by decide) rfl (fun ls hl => ?_)
  rw [fill_0 (u1 z 0 15 0) 11 0] at hR
  suffices LP_7 : ∀ (nn : Nat) (i_ : Nat) (_ : 8 - i_ < nn) (hi_ : i_ ≤ 8) (H : Heap) (locs : List Loc) (ls : Array Slot), Rh G w (ur (u1 z 0 15 0) 11 (fun j => if j < i_ then 0 else (u1 z 0 15 0).1 11 j)) H → va_S (xA w s.heap.size) s.heap H locs → lv_has ls 2 [(0, .ref (w.2.2 0)), (1, .int (nI i_))] → W p l e rm_X10_dealsAll s mt args below meth c H locs 0 0 Q (F0 mt 7 ls []) from LP_7 ((_) + 1) 0 (Nat.lt_succ_self _) (Nat.zero_le _) _ _ _ hR hS (lv_sub hl [1, 0] rfl)
  intro nn
  induction nn with
  | zero => intro i_ hm_ ; exact absurd hm_ (Nat.not_lt_zero _)
  | succ nn ih_7 =>
    intro i_ hm_7 hi_ H locs ls hR hS hl
    refine lv_iload_n hx hcb dX10_dealsAll_7 rfl (lv_at hl 1 rfl) ?_
    refine lv_bipush (v := (nI 8)) hx hcb dX10_dealsAll_8 (by decide) ?_
    refine lv_icmp_ge (tgt := 26) hx hcb dX10_dealsAll_10 (by decide) (fun c_1 => ?_) (fun c_1 => ?_)
    · skip
      have c_1 : 8 ≤ i_ := (nI_leI (by omega) (by omega)).mp c_1
      obtain rfl : 8 = i_ := by omega
      have hR := hR.row (hw.s0 rfl) (g := fun _ => 0) (fun k hk => if_pos hk)
      refine lv_iconst (v := (nI 0)) hx hcb dX10_dealsAll_26 (by decide) ?_
      refine lv_istore_n (lv' := [(1, .int (nI 0)), (0, .ref (w.2.2 0))]) hx hcb dX10_dealsAll_27 rfl hl (by decide) rfl (fun ls hl => ?_)
      rw [fill_0 (ur (u1 z 0 15 0) 11 (fun _ => 0)) 12 0] at hR
      suffices LP_28 : ∀ (nn : Nat) (i_ : Nat) (_ : 4 - i_ < nn) (hi_ : i_ ≤ 4) (H : Heap) (locs : List Loc) (ls : Array Slot), Rh G w (ur (ur (u1 z 0 15 0) 11 (fun _ => 0)) 12 (fun j => if j < i_ then 0 else (ur (u1 z 0 15 0) 11 (fun _ => 0)).1 12 j)) H → va_S (xA w s.heap.size) s.heap H locs → lv_has ls 2 [(0, .ref (w.2.2 0)), (1, .int (nI i_))] → W p l e rm_X10_dealsAll s mt args below meth c H locs 0 0 Q (F0 mt 28 ls []) from LP_28 ((_) + 1) 0 (Nat.lt_succ_self _) (Nat.zero_le _) _ _ _ hR hS (lv_sub hl [1, 0] rfl)
      intro nn
      induction nn with
      | zero => intro i_ hm_ ; exact absurd hm_ (Nat.not_lt_zero _)
      | succ nn ih_28 =>
        intro i_ hm_28 hi_ H locs ls hR hS hl
        refine lv_iload_n hx hcb dX10_dealsAll_28 rfl (lv_at hl 1 rfl) ?_
        refine lv_iconst (v := (nI 4)) hx hcb dX10_dealsAll_29 (by decide) ?_
        refine lv_icmp_ge (tgt := 46) hx hcb dX10_dealsAll_30 (by decide) (fun c_2 => ?_) (fun c_2 => ?_)
        · skip
          have c_2 : 4 ≤ i_ := (nI_leI (by omega) (by omega)).mp c_2
          obtain rfl : 4 = i_ := by omega
          have hR := hR.row (hw.s0 rfl) (g := fun _ => 0) (fun k hk => if_pos hk)
          refine lv_iconst (v := (nI 0)) hx hcb dX10_dealsAll_46 (by decide) ?_
          refine lv_istore_n (lv' := [(1, .int (nI 0)), (0, .ref (w.2.2 0))]) hx hcb dX10_dealsAll_47 rfl hl (by decide) rfl (fun ls hl => ?_)
          rw [show ur (ur (u1 z 0 15 0) 11 (fun _ => 0)) 12 (fun _ => 0) = daL z 0 from rfl] at hR
          suffices LP_48 : ∀ (nn : Nat) (i_ : Nat) (_ : mQ z 13 - i_ < nn) (hi_ : i_ ≤ mQ z 13) (H : Heap) (locs : List Loc) (ls : Array Slot), Rh G w (daL z i_) H → va_S (xA w s.heap.size) s.heap H locs → lv_has ls 2 [(0, .ref (w.2.2 0)), (1, .int (nI i_))] → W p l e rm_X10_dealsAll s mt args below meth c H locs 0 0 Q (F0 mt 48 ls []) from LP_48 ((_) + 1) 0 (Nat.lt_succ_self _) (Nat.zero_le _) _ _ _ hR hS (lv_sub hl [1, 0] rfl)
          intro nn
          induction nn with
          | zero => intro i_ hm_ ; exact absurd hm_ (Nat.not_lt_zero _)
          | succ nn ih_48 =>
            intro i_ hm_48 hi_ H locs ls hR hS hl
            refine lv_iload_n hx hcb dX10_dealsAll_48 rfl (lv_at hl 1 rfl) ?_
            refine lv_aload_n hx hcb dX10_dealsAll_49 rfl (lv_at hl 0 rfl) ?_
            refine x_getR hx hcb hts hown hK xc10 hR (hw.lo (by decide)) (hw.s0 rfl) 3 (by decide) rfl q_1169 dX10_dealsAll_50 ?_
            refine lv_bipush (v := (nI 13)) hx hcb dX10_dealsAll_53 (by decide) ?_
            refine x_iald hx hcb hK hR (hw.lo (by decide)) (hw.s0 rfl) (k := 13) (by omega) (by decide) dX10_dealsAll_55 ?_
            refine x_top (show ((daL z i_).1 2 13) = (nI (mQ z 13)) from by rw [daL_2]; exact hO.2.2.1) ?_
            refine lv_icmp_ge (tgt := 70) hx hcb dX10_dealsAll_56 (by decide) (fun c_3 => ?_) (fun c_3 => ?_)
            · skip
              have c_3 : (mQ z 13) ≤ i_ := (nI_leI (by omega) (by omega)).mp c_3
              obtain rfl : mQ z 13 = i_ := by omega
              exact hret (daL z (mQ z 13)) _ _ _ _ dX10_dealsAll_70 hR hS rfl
            · skip
              have c_3 : ¬ (mQ z 13) ≤ i_ := fun h_ => c_3 ((nI_leI (by omega) (by omega)).mpr h_)
              refine lv_aload_n hx hcb dX10_dealsAll_59 rfl (lv_at hl 0 rfl) ?_
              refine lv_iload_n hx hcb dX10_dealsAll_60 rfl (lv_at hl 1 rfl) ?_
              refine x_cv0 rfl rfl (x_runV hx hcb hml hown hts (c_X10_deals l G w hw (daL z i_) _ i_ (daL_ok hO) (by omega) (hsh i_ (by omega))) mv_X10_deals q_1362 hK hZ hR hS (hw.lo (by decide)) xc10 (hw.s0 rfl) rfl hl.1 rfl (Nat.le_of_ble_eq_true rfl) dX10_dealsAll_61 ⟨by decide, by decide⟩ ⟨by decide, by decide⟩) hS (fun z_5 H locs hp_6 hR hS => ?_)
              rw [hp_6] at hR
              refine lv_iinc (v := (nI (i_ + 1))) (lv' := [(1, .int (nI (i_ + 1))), (0, .ref (w.2.2 0))]) hx hcb dX10_dealsAll_64 hl (k := 1) rfl (x_iinc1 _) (by decide) rfl (fun ls hl => ?_)
              refine lv_goto (tgt := 48) hx hcb dX10_dealsAll_67 (by decide) ?_
              rw [show (dlQ (daL z i_) i_) = (daL z (i_ + 1)) from rfl] at hR
              exact ih_48 (i_ + 1) (by omega) (by omega) _ _ _ hR hS (lv_sub hl [1, 0] rfl)
        · skip
          have c_2 : ¬ 4 ≤ i_ := fun h_ => c_2 ((nI_leI (by omega) (by omega)).mpr h_)
          refine lv_aload_n hx hcb dX10_dealsAll_33 rfl (lv_at hl 0 rfl) ?_
          refine x_getR hx hcb hts hown hK xc10 hR (hw.lo (by decide)) (hw.s0 rfl) 14 (by decide) rfl q_1180 dX10_dealsAll_34 ?_
          refine lv_iload_n hx hcb dX10_dealsAll_37 rfl (lv_at hl 1 rfl) ?_
          refine lv_iconst (v := (nI 0)) hx hcb dX10_dealsAll_38 (by decide) ?_
          refine x_iast hx hcb hK hR hS (hw.lo (by decide)) (hw.s0 rfl) (k := i_) (v := 0) (by omega) (by decide) dX10_dealsAll_39 (fun H locs hR hS => ?_)
          refine lv_iinc (v := (nI (i_ + 1))) (lv' := [(1, .int (nI (i_ + 1))), (0, .ref (w.2.2 0))]) hx hcb dX10_dealsAll_40 hl (k := 1) rfl (x_iinc1 _) (by decide) rfl (fun ls hl => ?_)
          refine lv_goto (tgt := 28) hx hcb dX10_dealsAll_43 (by decide) ?_
          rw [show (u1 (ur (ur (u1 z 0 15 0) 11 (fun _ => 0)) 12 (fun j => if j < i_ then 0 else (ur (u1 z 0 15 0) 11 (fun _ => 0)).1 12 j)) 12 i_ 0) = (ur (ur (u1 z 0 15 0) 11 (fun _ => 0)) 12 (fun j => if j < (i_ + 1) then 0 else (ur (u1 z 0 15 0) 11 (fun _ => 0)).1 12 j)) from by rw [u1_ur, fill_s]] at hR
          exact ih_28 (i_ + 1) (by omega) (by omega) _ _ _ hR hS (lv_sub hl [1, 0] rfl)
    · skip
      have c_1 : ¬ 8 ≤ i_ := fun h_ => c_1 ((nI_leI (by omega) (by omega)).mpr h_)
      refine lv_aload_n hx hcb dX10_dealsAll_13 rfl (lv_at hl 0 rfl) ?_
      refine x_getR hx hcb hts hown hK xc10 hR (hw.lo (by decide)) (hw.s0 rfl) 13 (by decide) rfl q_1179 dX10_dealsAll_14 ?_
      refine lv_iload_n hx hcb dX10_dealsAll_17 rfl (lv_at hl 1 rfl) ?_
      refine lv_iconst (v := (nI 0)) hx hcb dX10_dealsAll_18 (by decide) ?_
      refine x_iast hx hcb hK hR hS (hw.lo (by decide)) (hw.s0 rfl) (k := i_) (v := 0) (by omega) (by decide) dX10_dealsAll_19 (fun H locs hR hS => ?_)
      refine lv_iinc (v := (nI (i_ + 1))) (lv' := [(1, .int (nI (i_ + 1))), (0, .ref (w.2.2 0))]) hx hcb dX10_dealsAll_20 hl (k := 1) rfl (x_iinc1 _) (by decide) rfl (fun ls hl => ?_)
      refine lv_goto (tgt := 7) hx hcb dX10_dealsAll_23 (by decide) ?_
      rw [show (u1 (ur (u1 z 0 15 0) 11 (fun j => if j < i_ then 0 else (u1 z 0 15 0).1 11 j)) 11 i_ 0) = (ur (u1 z 0 15 0) 11 (fun j => if j < (i_ + 1) then 0 else (u1 z 0 15 0).1 11 j)) from by rw [u1_ur, fill_s]] at hR
      exact ih_7 (i_ + 1) (by omega) (by omega) _ _ _ hR hS (lv_sub hl [1, 0] rfl)
def rm_X10_lastYear : Room := { frames := 1, cells := 0, slots := 0, locals := 13 }
set_option maxRecDepth 100000 in
set_option maxHeartbeats 4000000 in
theorem c_X10_lastYear (l : Launch) (G : xGl) (w : xWd) (hw : isM w) (z : xSt) (sz : Nat)   : xMi l yX10_lastYear cX10_lastYear 1 (some FieldType.int) rm_X10_lastYear G w z sz [.ref (w.2.2 0)] (fun r z1 => r = imin (z.1 4 494) (nI 24) - nI 1 ∧ z1 = z) := by
  refine x_mi (by decide) (Nat.le_of_ble_eq_true rfl) ?_
  intro p e s mt args below meth c ls Q hsz X hR hS hl hret
  obtain ⟨hx, hcb, hml, hown, hts, hlk, hK, hZ⟩ := X
  have hl : lv_has ls 1 [(0, .ref (w.2.2 0))] := hl
  refine lv_aload_n hx hcb dX10_lastYear_0 rfl (lv_at hl 0 rfl) ?_
  refine x_getR hx hcb hts hown hK xc10 hR (hw.lo (by decide)) (hw.s0 rfl) 5 (by decide) rfl q_1171 dX10_lastYear_1 ?_
  refine lv_sipush (v := (nI 494)) hx hcb dX10_lastYear_4 (by decide) ?_
  refine x_iald hx hcb hK hR (hw.lo (by decide)) (hw.s0 rfl) (k := 494) (by omega) (by decide) dX10_lastYear_7 ?_
  refine lv_bipush (v := (nI 24)) hx hcb dX10_lastYear_8 (by decide) ?_
  refine x_min hx hcb hml hown hts hl.1 q_1394 (by decide) (Nat.le_of_ble_eq_true rfl) (by decide) (by decide) dX10_lastYear_10 ?_
  refine lv_iconst (v := (nI 1)) hx hcb dX10_lastYear_13 (by decide) ?_
  refine lv_isub hx hcb dX10_lastYear_14 ?_
  exact hret ((if (nI 24) < (z.1 4 494) then (nI 24) else (z.1 4 494)) - (nI 1)) z _ _ _ _ dX10_lastYear_15 rfl hR hS (⟨rfl, rfl⟩)
def rm_X10_amountOf : Room := { frames := 1, cells := 0, slots := 0, locals := 22 }
set_option maxRecDepth 100000 in
set_option maxHeartbeats 4000000 in
theorem c_X10_amountOf (l : Launch) (G : xGl) (w : xWd) (hw : isM w) (z : xSt) (sz : Nat) (k : Nat) (m y : Nat) (hk : k < 192) (hcm : z.1 14 k = nI m) (hcy : z.1 15 k = nI y) (hm : m < 8) (hy : y < 24) : xMi l yX10_amountOf cX10_amountOf 2 (some FieldType.int) rm_X10_amountOf G w z sz [.ref (w.2.2 0), .int (nI k)] (fun r z1 => r = lfQ z m y ∧ z1 = z) := by
  refine x_mi (by decide) (Nat.le_of_ble_eq_true rfl) ?_
  intro p e s mt args below meth c ls Q hsz X hR hS hl hret
  obtain ⟨hx, hcb, hml, hown, hts, hlk, hK, hZ⟩ := X
  have hl : lv_has ls 2 [(0, .ref (w.2.2 0)), (1, .int (nI k))] := hl
  refine lv_aload_n hx hcb dX10_amountOf_0 rfl (lv_at hl 0 rfl) ?_
  refine lv_aload_n hx hcb dX10_amountOf_1 rfl (lv_at hl 0 rfl) ?_
  refine x_getR hx hcb hts hown hK xc10 hR (hw.lo (by decide)) (hw.s0 rfl) 18 (by decide) rfl q_1184 dX10_amountOf_2 ?_
  refine lv_iload_n hx hcb dX10_amountOf_5 rfl (lv_at hl 1 rfl) ?_
  refine x_iald hx hcb hK hR (hw.lo (by decide)) (hw.s0 rfl) (k := k) (by omega) (by decide) dX10_amountOf_6 ?_
  refine x_top (show (z.1 14 k) = (nI m) from hcm) ?_
  refine lv_aload_n hx hcb dX10_amountOf_7 rfl (lv_at hl 0 rfl) ?_
  refine x_getR hx hcb hts hown hK xc10 hR (hw.lo (by decide)) (hw.s0 rfl) 19 (by decide) rfl q_1185 dX10_amountOf_8 ?_
  refine lv_iload_n hx hcb dX10_amountOf_11 rfl (lv_at hl 1 rfl) ?_
  refine x_iald hx hcb hK hR (hw.lo (by decide)) (hw.s0 rfl) (k := k) (by omega) (by decide) dX10_amountOf_12 ?_
  refine x_top (show (z.1 15 k) = (nI y) from hcy) ?_
  refine x_ci0 rfl rfl (x_runV hx hcb hml hown hts (c_X10_left l G w hw z _ m y (by omega) (by omega)) mv_X10_left q_1390 hK hZ hR hS (hw.lo (by decide)) xc10 (hw.s0 rfl) rfl hl.1 rfl (Nat.le_of_ble_eq_true rfl) dX10_amountOf_13 ⟨by decide, by decide⟩ ⟨by decide, by decide⟩) hS (fun r_1 z_2 H locs hp_3 hR hS => ?_)
  rw [hp_3.2] at hR; rw [hp_3.1]
  exact hret (lfQ z m y) z _ _ _ _ dX10_amountOf_16 rfl hR hS (⟨rfl, rfl⟩)
def rm_X10_wouldGet : Room := { frames := 3, cells := 0, slots := 0, locals := 75 }
set_option maxRecDepth 100000 in
set_option maxHeartbeats 4000000 in
theorem c_X10_wouldGet (l : Launch) (G : xGl) (w : xWd) (hw : isM w) (z : xSt) (sz : Nat) (x : Int32) (a : Int32) (b : Int32) (c_ : Int32) (d : Int32) (hO : rOk z) (hsh : inR x (mQ z 12) → okR (mQ z 13) ((zQ (ck z (inR x (mQ z 12))) a b c_ d).1 10) → ∀ e, e < mQ z 13 → shD (daL (zQ (ck z (inR x (mQ z 12))) a b c_ d) e) e) : xMi l yX10_wouldGet cX10_wouldGet 6 (some FieldType.int) rm_X10_wouldGet G w z sz [.ref (w.2.2 0), .int x, .int a, .int b, .int c_, .int d] (fun r z1 => (r, z1) = if inR x (mQ z 12) then (if okR (mQ z 13) ((zQ (ck z (inR x (mQ z 12))) a b c_ d).1 10) then ((daL (zQ (ck z (inR x (mQ z 12))) a b c_ d) (mQ z 13)).1 11 x.toNatClampNeg, daL (zQ (ck z (inR x (mQ z 12))) a b c_ d) (mQ z 13)) else ((-100000000), (zQ (ck z (inR x (mQ z 12))) a b c_ d))) else (0, ck z (inR x (mQ z 12)))) := by
  refine x_mi (by decide) (Nat.le_of_ble_eq_true rfl) ?_
  intro p e s mt args below meth c ls Q hsz X hR hS hl hret
  obtain ⟨hx, hcb, hml, hown, hts, hlk, hK, hZ⟩ := X
  have hl : lv_has ls 6 [(0, .ref (w.2.2 0)), (1, .int x), (2, .int a), (3, .int b), (4, .int c_), (5, .int d)] := hl
  have hm8_ := hO.2.1
  have hd4_ := hO.2.2.2.1
  have hy24_ := hO.2.2.2.2.2
  refine lv_aload_n hx hcb dX10_wouldGet_0 rfl (lv_at hl 0 rfl) ?_
  refine lv_aload_n hx hcb dX10_wouldGet_1 rfl (lv_at hl 0 rfl) ?_
  refine lv_iload_n hx hcb dX10_wouldGet_2 rfl (lv_at hl 1 rfl) ?_
  refine x_ci0 rfl rfl (x_runV hx hcb hml hown hts (c_X10_isMember l G w hw z _ x hO) mv_X10_isMember q_1456 hK hZ hR hS (hw.lo (by decide)) xc10 (hw.s0 rfl) rfl hl.1 rfl (Nat.le_of_ble_eq_true rfl) dX10_wouldGet_3 ⟨by decide, by decide⟩ ⟨by decide, by decide⟩) hS (fun r_1 z_2 H locs hp_3 hR hS => ?_)
  rw [hp_3.2] at hR; rw [hp_3.1]
  refine x_ci0 rfl rfl (x_runV hx hcb hml hown hts (c_X10_checks l G w hw z _ (if inR x (mQ z 12) then 1 else 0) (inR x (mQ z 12)) rfl) mv_X10_checks q_1460 hK hZ hR hS (hw.lo (by decide)) xc10 (hw.s0 rfl) rfl hl.1 rfl (Nat.le_of_ble_eq_true rfl) dX10_wouldGet_6 ⟨by decide, by decide⟩ ⟨by decide, by decide⟩) hS (fun r_4 z_5 H locs hp_6 hR hS => ?_)
  rw [hp_6.2] at hR; rw [hp_6.1]
  refine lv_if_ne (tgt := 14) hx hcb dX10_wouldGet_9 (by decide) (fun c_7 => ?_) (fun c_7 => ?_)
  · skip
    have h_ : inR x (mQ z 12) := Classical.byContradiction (fun q_ => c_7 (if_neg q_))
    have hxk_ := inR_k (n := mQ z 12) (by omega) h_
    obtain ⟨k_, ek_⟩ : ∃ q_, q_ = x.toNatClampNeg := ⟨_, rfl⟩
    rw [← ek_] at hxk_
    have hltk_ := hxk_.2
    rw [hxk_.1] at hl
    refine lv_aload_n hx hcb dX10_wouldGet_14 rfl (lv_at hl 0 rfl) ?_
    refine lv_iload_n hx hcb dX10_wouldGet_15 rfl (lv_at hl 2 rfl) ?_
    refine lv_iload_n hx hcb dX10_wouldGet_16 rfl (lv_at hl 3 rfl) ?_
    refine lv_iload hx hcb dX10_wouldGet_17 (lv_at hl 4 rfl) ?_
    refine lv_iload hx hcb dX10_wouldGet_19 (lv_at hl 5 rfl) ?_
    refine x_cv0 rfl rfl (x_runV hx hcb hml hown hts (c_X10_laysResults l G w hw (ck z (inR x (mQ z 12))) _ a b c_ d) mv_X10_laysResults q_1350 hK hZ hR hS (hw.lo (by decide)) xc10 (hw.s0 rfl) rfl hl.1 rfl (Nat.le_of_ble_eq_true rfl) dX10_wouldGet_21 ⟨by decide, by decide⟩ ⟨by decide, by decide⟩) hS (fun z_9 H locs hp_10 hR hS => ?_)
    rw [hp_10] at hR
    refine lv_aload_n hx hcb dX10_wouldGet_24 rfl (lv_at hl 0 rfl) ?_
    refine x_ci0 rfl rfl (x_runV hx hcb hml hown hts (c_X10_areResults l G w hw (zQ (ck z (inR x (mQ z 12))) a b c_ d) _ hO) mv_X10_areResults q_1554 hK hZ hR hS (hw.lo (by decide)) xc10 (hw.s0 rfl) rfl hl.1 rfl (Nat.le_of_ble_eq_true rfl) dX10_wouldGet_25 ⟨by decide, by decide⟩ ⟨by decide, by decide⟩) hS (fun r_11 z_12 H locs hp_13 hR hS => ?_)
    rw [hp_13.2] at hR; rw [hp_13.1]
    refine x_top (show (if okR (mQ (zQ (ck z (inR x (mQ z 12))) a b c_ d) 13) ((zQ (ck z (inR x (mQ z 12))) a b c_ d).1 10) then 1 else 0) = (if okR (mQ z 13) ((zQ (ck z (inR x (mQ z 12))) a b c_ d).1 10) then 1 else 0) from rfl) ?_
    refine lv_if_ne (tgt := 35) hx hcb dX10_wouldGet_28 (by decide) (fun c_14 => ?_) (fun c_14 => ?_)
    · skip
      have h2_ : okR (mQ z 13) ((zQ (ck z (inR x (mQ z 12))) a b c_ d).1 10) := Classical.byContradiction (fun q_ => c_14 (if_neg q_))
      refine lv_aload_n hx hcb dX10_wouldGet_35 rfl (lv_at hl 0 rfl) ?_
      refine x_cv0 rfl rfl (x_runV hx hcb hml hown hts (c_X10_dealsAll l G w hw (zQ (ck z (inR x (mQ z 12))) a b c_ d) _ hO (hsh h_ h2_)) mv_X10_dealsAll q_1358 hK hZ hR hS (hw.lo (by decide)) xc10 (hw.s0 rfl) rfl hl.1 rfl (Nat.le_of_ble_eq_true rfl) dX10_wouldGet_36 ⟨by decide, by decide⟩ ⟨by decide, by decide⟩) hS (fun z_16 H locs hp_17 hR hS => ?_)
      rw [hp_17] at hR
      rw [show daL (zQ (ck z (inR x (mQ z 12))) a b c_ d) (mQ (zQ (ck z (inR x (mQ z 12))) a b c_ d) 13) = daL (zQ (ck z (inR x (mQ z 12))) a b c_ d) (mQ z 13) from rfl] at hR
      refine lv_aload_n hx hcb dX10_wouldGet_39 rfl (lv_at hl 0 rfl) ?_
      refine x_getR hx hcb hts hown hK xc10 hR (hw.lo (by decide)) (hw.s0 rfl) 13 (by decide) rfl q_1179 dX10_wouldGet_40 ?_
      refine lv_iload_n hx hcb dX10_wouldGet_43 rfl (lv_at hl 1 rfl) ?_
      refine x_iald hx hcb hK hR (hw.lo (by decide)) (hw.s0 rfl) (k := k_) (by omega) (by decide) dX10_wouldGet_44 ?_
      exact hret ((daL (zQ (ck z (inR x (mQ z 12))) a b c_ d) (mQ z 13)).1 11 k_) (daL (zQ (ck z (inR x (mQ z 12))) a b c_ d) (mQ z 13)) _ _ _ _ dX10_wouldGet_45 rfl hR hS (by rw [if_pos h_, if_pos h2_, ← ek_])
    · skip
      have h2_ : ¬ (okR (mQ z 13) ((zQ (ck z (inR x (mQ z 12))) a b c_ d).1 10)) := fun q_ => absurd c_14 (by rw [if_pos q_]; decide)
      refine lv_ldcw (v := (-100000000)) hx hcb hown (hts _ q_1558) dX10_wouldGet_31 ?_
      exact hret (-100000000) (zQ (ck z (inR x (mQ z 12))) a b c_ d) _ _ _ _ dX10_wouldGet_34 rfl hR hS (by rw [if_pos h_, if_neg h2_])
  · skip
    have h_ : ¬ (inR x (mQ z 12)) := fun q_ => absurd c_7 (by rw [if_pos q_]; decide)
    refine lv_iconst (v := (nI 0)) hx hcb dX10_wouldGet_12 (by decide) ?_
    exact hret (nI 0) (ck z (inR x (mQ z 12))) _ _ _ _ dX10_wouldGet_13 rfl hR hS (by rw [if_neg h_]; rfl)
