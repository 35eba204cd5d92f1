/-! THE REFERENCE: redemptions needed -/
def aeQ (z : xSt) : Int32 := bx_sum (fun m => if z.1 4 (5 + m) = 0 then eqQ z m else 0) (mQ z 12)
def rnT (z : xSt) (Y : Nat) (bu : Int32) : xSt := u1 (paQ (lpZ z Y bu) (lpL z Y) (lpL z Y).length) 4 494 ((paQ (lpZ z Y bu) (lpL z Y) (lpL z Y).length).1 4 494 + nI 1)
def rnE (bu : Int32) (Y : Nat) : Nat → Nat → xSt → Nat × xSt
  | 0, i, y => (i, y)
  | k + 1, i, y => if 0 < aeQ y then rnE bu Y k (i + 1) (rnT y (Y + i) bu) else (i, y)
theorem rnE_s {bu : Int32} {Y n k i : Nat} {y : xSt} (h : n = k + 1) : rnE bu Y n i y = if 0 < aeQ y then rnE bu Y k (i + 1) (rnT y (Y + i) bu) else (i, y) := by rw [h]; rfl
def rnO (bu : Int32) (Y : Nat) : Nat → Nat → xSt → Prop
  | 0, _, _ => True
  | k + 1, i, y => 0 < aeQ y → lpOk y (Y + i) bu ∧ rnO bu Y k (i + 1) (rnT y (Y + i) bu)
theorem rnO_s {bu : Int32} {Y n k i : Nat} {y : xSt} (h : n = k + 1) (g : rnO bu Y n i y) (ha : 0 < aeQ y) : lpOk y (Y + i) bu ∧ rnO bu Y k (i + 1) (rnT y (Y + i) bu) := by
  rw [h] at g; exact g ha
theorem rnT_2 (z : xSt) (Y : Nat) (bu : Int32) : (rnT z Y bu).1 2 = z.1 2 := by
  unfold rnT
  rw [u1_ne _ (by decide), paQ_1 (by decide), lpZ_2]
theorem paQ_4 {z : xSt} {L : List (Nat × Nat)} (hL : laid z L) {k : Nat} (hk : k < 61 ∨ 253 ≤ k ∧ k < 445 ∨ 469 ≤ k) : ∀ i, i ≤ L.length → (paQ z L i).1 4 k = z.1 4 k
  | 0, _ => rfl
  | i + 1, h => by
    have h1 := hL.2.2 i h
    unfold paQ
    rw [u1_sne _ _ _ (by omega), u1_sne _ _ _ (by omega)]
    exact paQ_4 hL hk i (by omega)
theorem rnT_y {z : xSt} {Y Z : Nat} {bu : Int32} (hm : mQ z 12 ≤ 8) (h : z.1 4 494 = nI Z) : (rnT z Y bu).1 4 494 = nI (Z + 1) := by
  unfold rnT
  rw [u1_at, va_up_self, paQ_4 (lpZ_laid hm) (by omega) _ (Nat.le_refl _), lpZ_4, h]
  exact nI_1 Z
def rm_X10_redemptionsNeeded : Room := { frames := 5, cells := 0, slots := 0, locals := 116 }
set_option maxRecDepth 100000 in
set_option maxHeartbeats 4000000 in
theorem c_X10_redemptionsNeeded (l : Launch) (G : xGl) (w : xWd) (hw : isM w) (z : xSt) (sz : Nat) (bu : Int32) (hO : rOk z) (hok : ¬ (bu < 0 ∨ ¬ bu ≤ nI 10000000) → rnO bu (yQ z) 60 0 (ur (u1 z 0 0 0) 16 (z.1 4))) : xMi l yX10_redemptionsNeeded cX10_redemptionsNeeded 4 (some FieldType.int) rm_X10_redemptionsNeeded G w z sz [.ref (w.2.2 0), .int bu] (fun r z1 => (r, z1) = if (bu < 0 ∨ ¬ bu ≤ nI 10000000) then ((-2), u1 z 0 0 0) else (if aeQ (rnE bu (yQ z) 60 0 (ur (u1 z 0 0 0) 16 (z.1 4))).2 = 0 then nI (rnE bu (yQ z) 60 0 (ur (u1 z 0 0 0) 16 (z.1 4))).1 else (-1), ur (rnE bu (yQ z) 60 0 (ur (u1 z 0 0 0) 16 (z.1 4))).2 4 ((rnE bu (yQ z) 60 0 (ur (u1 z 0 0 0) 16 (z.1 4))).2.1 16))) := by
  refine x_mi (by decide) (Nat.le_of_ble_eq_true rfl) ?_
  intro p e s mt args below meth c ls Q hsz X hR hS hl hret
  obtain ⟨hx, hcb, hml, hown, hts, hlk, hK, hZ⟩ := X
  have hl : lv_has ls 4 [(0, .ref (w.2.2 0)), (1, .int bu)] := hl
  have hm8_ := hO.2.1
  have hd4_ := hO.2.2.2.1
  have hy24_ := hO.2.2.2.2.2
  refine lv_aload_n hx hcb dX10_redemptionsNeeded_0 rfl (lv_at hl 0 rfl) ?_
  refine lv_iconst (v := (nI 0)) hx hcb dX10_redemptionsNeeded_1 (by decide) ?_
  refine x_putI hx hcb hts hown hK xc10 hR hS (hw.lo (by decide)) (hw.s0 rfl) 0 (by decide) rfl q_1166 rfl (v := 0) rfl rfl dX10_redemptionsNeeded_2 (fun H locs hR hS => ?_)
  refine lv_iload_n hx hcb dX10_redemptionsNeeded_5 rfl (lv_at hl 1 rfl) ?_
  refine lv_if_lt (tgt := 15) hx hcb dX10_redemptionsNeeded_6 (by decide) (fun c_1 => ?_) (fun c_1 => ?_)
  · skip
    have hb_ : (bu < 0 ∨ ¬ bu ≤ nI 10000000) := Or.inl c_1
    refine lv_bipush (v := (-2)) hx hcb dX10_redemptionsNeeded_15 (by decide) ?_
    exact hret (-2) (u1 z 0 0 0) _ _ _ _ dX10_redemptionsNeeded_17 rfl hR hS (by rw [if_pos hb_])
  · skip
    have hb0_ := c_1
    refine lv_iload_n hx hcb dX10_redemptionsNeeded_9 rfl (lv_at hl 1 rfl) ?_
    refine lv_ldc (v := (nI 10000000)) hx hcb hown (hts _ q_1299) dX10_redemptionsNeeded_10 ?_
    refine lv_icmp_le (tgt := 18) hx hcb dX10_redemptionsNeeded_12 (by decide) (fun c_2 => ?_) (fun c_2 => ?_)
    · skip
      have hb_ : ¬ (bu < 0 ∨ ¬ bu ≤ nI 10000000) := fun q_ => q_.elim hb0_ (fun t_ => t_ c_2)
      refine lv_aload_n hx hcb dX10_redemptionsNeeded_18 rfl (lv_at hl 0 rfl) ?_
      refine x_getR hx hcb hts hown hK xc10 hR (hw.lo (by decide)) (hw.s0 rfl) 5 (by decide) rfl q_1171 dX10_redemptionsNeeded_19 ?_
      refine lv_aload_n hx hcb dX10_redemptionsNeeded_22 rfl (lv_at hl 0 rfl) ?_
      refine x_getR hx hcb hts hown hK xc10 hR (hw.lo (by decide)) (hw.s0 rfl) 31 (by decide) rfl q_1197 dX10_redemptionsNeeded_23 ?_
      refine x_cv0 rfl rfl (x_runS hx hcb hml hown hts (c_X10_copies l G w hw (u1 z 0 0 0) _ 4 497 (hw.lo (by decide)) (hw.s0 rfl) (by decide) 16 497 (hw.lo (by decide)) (hw.s0 rfl) (by decide) rfl (by decide)) ms_X10_copies q_1275 hK hZ hR hS rfl hl.1 rfl (Nat.le_of_ble_eq_true rfl) dX10_redemptionsNeeded_26 ⟨by decide, by decide⟩ ⟨by decide, by decide⟩) hS (fun z_4 H locs hp_5 hR hS => ?_)
      rw [hp_5] at hR
      refine lv_iconst (v := (nI 0)) hx hcb dX10_redemptionsNeeded_29 (by decide) ?_
      refine lv_istore_n (lv' := [(2, .int (nI 0)), (0, .ref (w.2.2 0)), (1, .int bu)]) hx hcb dX10_redemptionsNeeded_30 rfl hl (by decide) rfl (fun ls hl => ?_)
      suffices LP_31 : ∀ (nn : Nat) (i_ : Nat) (y_ : xSt) (_ : 60 - i_ < nn) (hi_ : i_ ≤ 60) (h2_ : y_.1 2 = z.1 2) (hY_ : y_.1 4 494 = nI (yQ z + i_)) (hok_ : rnO bu (yQ z) (60 - i_) i_ y_) (hf_ : rnE bu (yQ z) 60 0 (ur (u1 z 0 0 0) 16 (z.1 4)) = rnE bu (yQ z) (60 - i_) i_ y_) (H : Heap) (locs : List Loc) (ls : Array Slot), Rh G w y_ H → va_S (xA w s.heap.size) s.heap H locs → lv_has ls 4 [(0, .ref (w.2.2 0)), (1, .int bu), (2, .int (nI i_))] → W p l e rm_X10_redemptionsNeeded s mt args below meth c H locs 0 0 Q (F0 mt 31 ls []) from LP_31 ((_) + 1) 0 (ur (u1 z 0 0 0) 16 (z.1 4)) (Nat.lt_succ_self _) (by omega) rfl hO.2.2.2.2.1 (hok hb_) rfl _ _ _ hR hS (lv_sub hl [1, 2, 0] rfl)
      intro nn
      induction nn with
      | zero => intro i_ y_ hm_ ; exact absurd hm_ (Nat.not_lt_zero _)
      | succ nn ih_31 =>
        intro i_ y_ hm_31 hi_ h2_ hY_ hok_ hf_ H locs ls hR hS hl
        refine lv_iload_n hx hcb dX10_redemptionsNeeded_31 rfl (lv_at hl 2 rfl) ?_
        refine lv_bipush (v := (nI 60)) hx hcb dX10_redemptionsNeeded_32 (by decide) ?_
        refine lv_icmp_ge (tgt := 72) hx hcb dX10_redemptionsNeeded_34 (by decide) (fun c_6 => ?_) (fun c_6 => ?_)
        · skip
          have c_6 : 60 ≤ i_ := (nI_leI (by omega) (by omega)).mp c_6
          have he_ : rnE bu (yQ z) 60 0 (ur (u1 z 0 0 0) 16 (z.1 4)) = (i_, y_) := by rw [hf_, show 60 - i_ = 0 by omega]; rfl
          refine lv_aload_n hx hcb dX10_redemptionsNeeded_72 rfl (lv_at hl 0 rfl) ?_
          refine x_ci0 rfl rfl (x_runV hx hcb hml hown hts (c_X10_activeEquity l G w hw y_ _ (by unfold mQ; rw [h2_]; exact hO.1) (by unfold mQ; rw [h2_]; exact hm8_)) mv_X10_activeEquity q_1653 hK hZ hR hS (hw.lo (by decide)) xc10 (hw.s0 rfl) rfl hl.1 rfl (Nat.le_of_ble_eq_true rfl) dX10_redemptionsNeeded_73 ⟨by decide, by decide⟩ ⟨by decide, by decide⟩) hS (fun r_7 z_8 H locs hp_9 hR hS => ?_)
          rw [hp_9.2] at hR; rw [hp_9.1]
          refine x_top (show (bx_sum (fun m => if y_.1 4 (5 + m) = 0 then eqQ y_ m else 0) (mQ y_ 12)) = (aeQ y_) from rfl) ?_
          refine lv_if_ne (tgt := 83) hx hcb dX10_redemptionsNeeded_76 (by decide) (fun c_10 => ?_) (fun c_10 => ?_)
          · skip
            have h0_ : ¬ aeQ y_ = 0 := c_10
            refine lv_iconst (v := (nI 0)) hx hcb dX10_redemptionsNeeded_83 (by decide) ?_
            refine lv_istore_n (lv' := [(3, .int (nI 0)), (0, .ref (w.2.2 0)), (1, .int bu), (2, .int (nI i_))]) hx hcb dX10_redemptionsNeeded_84 rfl hl (by decide) rfl (fun ls hl => ?_)
            refine lv_aload_n hx hcb dX10_redemptionsNeeded_85 rfl (lv_at hl 1 rfl) ?_
            refine x_getR hx hcb hts hown hK xc10 hR (hw.lo (by decide)) (hw.s0 rfl) 31 (by decide) rfl q_1197 dX10_redemptionsNeeded_86 ?_
            refine lv_aload_n hx hcb dX10_redemptionsNeeded_89 rfl (lv_at hl 1 rfl) ?_
            refine x_getR hx hcb hts hown hK xc10 hR (hw.lo (by decide)) (hw.s0 rfl) 5 (by decide) rfl q_1171 dX10_redemptionsNeeded_90 ?_
            refine x_cv0 rfl rfl (x_runS hx hcb hml hown hts (c_X10_copies l G w hw y_ _ 16 497 (hw.lo (by decide)) (hw.s0 rfl) (by decide) 4 497 (hw.lo (by decide)) (hw.s0 rfl) (by decide) rfl (by decide)) ms_X10_copies q_1275 hK hZ hR hS rfl hl.1 rfl (Nat.le_of_ble_eq_true rfl) dX10_redemptionsNeeded_93 ⟨by decide, by decide⟩ ⟨by decide, by decide⟩) hS (fun z_12 H locs hp_13 hR hS => ?_)
            rw [hp_13] at hR
            refine lv_iload_n hx hcb dX10_redemptionsNeeded_96 rfl (lv_at hl 0 rfl) ?_
            refine lv_if_eq (tgt := 104) hx hcb dX10_redemptionsNeeded_97 (by decide) (fun c_14 => ?_) (fun c_14 => ?_)
            · skip
              refine lv_iconst (v := (-1)) hx hcb dX10_redemptionsNeeded_104 (by decide) ?_
              exact hret (-1) (ur y_ 4 (y_.1 16)) _ _ _ _ dX10_redemptionsNeeded_105 rfl hR hS (by rw [if_neg hb_, he_]; first | rw [if_pos h0_] | rw [if_neg h0_])
            · skip
              first | exact absurd c_14 (by decide) | exact absurd (by decide) c_14
          · skip
            have h0_ : aeQ y_ = 0 := c_10
            refine lv_iconst (v := (nI 1)) hx hcb dX10_redemptionsNeeded_79 (by decide) ?_
            refine lv_goto (tgt := 84) hx hcb dX10_redemptionsNeeded_80 (by decide) ?_
            refine lv_istore_n (lv' := [(3, .int (nI 1)), (0, .ref (w.2.2 0)), (1, .int bu), (2, .int (nI i_))]) hx hcb dX10_redemptionsNeeded_84 rfl hl (by decide) rfl (fun ls hl => ?_)
            refine lv_aload_n hx hcb dX10_redemptionsNeeded_85 rfl (lv_at hl 1 rfl) ?_
            refine x_getR hx hcb hts hown hK xc10 hR (hw.lo (by decide)) (hw.s0 rfl) 31 (by decide) rfl q_1197 dX10_redemptionsNeeded_86 ?_
            refine lv_aload_n hx hcb dX10_redemptionsNeeded_89 rfl (lv_at hl 1 rfl) ?_
            refine x_getR hx hcb hts hown hK xc10 hR (hw.lo (by decide)) (hw.s0 rfl) 5 (by decide) rfl q_1171 dX10_redemptionsNeeded_90 ?_
            refine x_cv0 rfl rfl (x_runS hx hcb hml hown hts (c_X10_copies l G w hw y_ _ 16 497 (hw.lo (by decide)) (hw.s0 rfl) (by decide) 4 497 (hw.lo (by decide)) (hw.s0 rfl) (by decide) rfl (by decide)) ms_X10_copies q_1275 hK hZ hR hS rfl hl.1 rfl (Nat.le_of_ble_eq_true rfl) dX10_redemptionsNeeded_93 ⟨by decide, by decide⟩ ⟨by decide, by decide⟩) hS (fun z_16 H locs hp_17 hR hS => ?_)
            rw [hp_17] at hR
            refine lv_iload_n hx hcb dX10_redemptionsNeeded_96 rfl (lv_at hl 0 rfl) ?_
            refine lv_if_eq (tgt := 104) hx hcb dX10_redemptionsNeeded_97 (by decide) (fun c_18 => ?_) (fun c_18 => ?_)
            · skip
              first | exact absurd c_18 (by decide) | exact absurd (by decide) c_18
            · skip
              refine lv_iload_n hx hcb dX10_redemptionsNeeded_100 rfl (lv_at hl 3 rfl) ?_
              refine lv_goto (tgt := 105) hx hcb dX10_redemptionsNeeded_101 (by decide) ?_
              exact hret (nI i_) (ur y_ 4 (y_.1 16)) _ _ _ _ dX10_redemptionsNeeded_105 rfl hR hS (by rw [if_neg hb_, he_]; first | rw [if_pos h0_] | rw [if_neg h0_])
        · skip
          have c_6 : ¬ 60 ≤ i_ := fun h_ => c_6 ((nI_leI (by omega) (by omega)).mpr h_)
          refine lv_aload_n hx hcb dX10_redemptionsNeeded_37 rfl (lv_at hl 0 rfl) ?_
          refine x_ci0 rfl rfl (x_runV hx hcb hml hown hts (c_X10_activeEquity l G w hw y_ _ (by unfold mQ; rw [h2_]; exact hO.1) (by unfold mQ; rw [h2_]; exact hm8_)) mv_X10_activeEquity q_1653 hK hZ hR hS (hw.lo (by decide)) xc10 (hw.s0 rfl) rfl hl.1 rfl (Nat.le_of_ble_eq_true rfl) dX10_redemptionsNeeded_38 ⟨by decide, by decide⟩ ⟨by decide, by decide⟩) hS (fun r_19 z_20 H locs hp_21 hR hS => ?_)
          rw [hp_21.2] at hR; rw [hp_21.1]
          refine x_top (show (bx_sum (fun m => if y_.1 4 (5 + m) = 0 then eqQ y_ m else 0) (mQ y_ 12)) = (aeQ y_) from rfl) ?_
          refine lv_if_le (tgt := 72) hx hcb dX10_redemptionsNeeded_41 (by decide) (fun c_22 => ?_) (fun c_22 => ?_)
          · skip
            have ha_ : ¬ 0 < aeQ y_ := Int32.not_lt.mpr c_22
            have he_ : rnE bu (yQ z) 60 0 (ur (u1 z 0 0 0) 16 (z.1 4)) = (i_, y_) := by rw [hf_, rnE_s (k := 60 - (i_ + 1)) (by omega), if_neg ha_]
            refine lv_aload_n hx hcb dX10_redemptionsNeeded_72 rfl (lv_at hl 0 rfl) ?_
            refine x_ci0 rfl rfl (x_runV hx hcb hml hown hts (c_X10_activeEquity l G w hw y_ _ (by unfold mQ; rw [h2_]; exact hO.1) (by unfold mQ; rw [h2_]; exact hm8_)) mv_X10_activeEquity q_1653 hK hZ hR hS (hw.lo (by decide)) xc10 (hw.s0 rfl) rfl hl.1 rfl (Nat.le_of_ble_eq_true rfl) dX10_redemptionsNeeded_73 ⟨by decide, by decide⟩ ⟨by decide, by decide⟩) hS (fun r_23 z_24 H locs hp_25 hR hS => ?_)
            rw [hp_25.2] at hR; rw [hp_25.1]
            refine x_top (show (bx_sum (fun m => if y_.1 4 (5 + m) = 0 then eqQ y_ m else 0) (mQ y_ 12)) = (aeQ y_) from rfl) ?_
            refine lv_if_ne (tgt := 83) hx hcb dX10_redemptionsNeeded_76 (by decide) (fun c_26 => ?_) (fun c_26 => ?_)
            · skip
              have h0_ : ¬ aeQ y_ = 0 := c_26
              refine lv_iconst (v := (nI 0)) hx hcb dX10_redemptionsNeeded_83 (by decide) ?_
              refine lv_istore_n (lv' := [(3, .int (nI 0)), (0, .ref (w.2.2 0)), (1, .int bu), (2, .int (nI i_))]) hx hcb dX10_redemptionsNeeded_84 rfl hl (by decide) rfl (fun ls hl => ?_)
              refine lv_aload_n hx hcb dX10_redemptionsNeeded_85 rfl (lv_at hl 1 rfl) ?_
              refine x_getR hx hcb hts hown hK xc10 hR (hw.lo (by decide)) (hw.s0 rfl) 31 (by decide) rfl q_1197 dX10_redemptionsNeeded_86 ?_
              refine lv_aload_n hx hcb dX10_redemptionsNeeded_89 rfl (lv_at hl 1 rfl) ?_
              refine x_getR hx hcb hts hown hK xc10 hR (hw.lo (by decide)) (hw.s0 rfl) 5 (by decide) rfl q_1171 dX10_redemptionsNeeded_90 ?_
              refine x_cv0 rfl rfl (x_runS hx hcb hml hown hts (c_X10_copies l G w hw y_ _ 16 497 (hw.lo (by decide)) (hw.s0 rfl) (by decide) 4 497 (hw.lo (by decide)) (hw.s0 rfl) (by decide) rfl (by decide)) ms_X10_copies q_1275 hK hZ hR hS rfl hl.1 rfl (Nat.le_of_ble_eq_true rfl) dX10_redemptionsNeeded_93 ⟨by decide, by decide⟩ ⟨by decide, by decide⟩) hS (fun z_28 H locs hp_29 hR hS => ?_)
              rw [hp_29] at hR
              refine lv_iload_n hx hcb dX10_redemptionsNeeded_96 rfl (lv_at hl 0 rfl) ?_
              refine lv_if_eq (tgt := 104) hx hcb dX10_redemptionsNeeded_97 (by decide) (fun c_30 => ?_) (fun c_30 => ?_)
              · skip
                refine lv_iconst (v := (-1)) hx hcb dX10_redemptionsNeeded_104 (by decide) ?_
                exact hret (-1) (ur y_ 4 (y_.1 16)) _ _ _ _ dX10_redemptionsNeeded_105 rfl hR hS (by rw [if_neg hb_, he_]; first | rw [if_pos h0_] | rw [if_neg h0_])
              · skip
                first | exact absurd c_30 (by decide) | exact absurd (by decide) c_30
            · skip
              have h0_ : aeQ y_ = 0 := c_26
              refine lv_iconst (v := (nI 1)) hx hcb dX10_redemptionsNeeded_79 (by decide) ?_
              refine lv_goto (tgt := 84) hx hcb dX10_redemptionsNeeded_80 (by decide) ?_
              refine lv_istore_n (lv' := [(3, .int (nI 1)), (0, .ref (w.2.2 0)), (1, .int bu), (2, .int (nI i_))]) hx hcb dX10_redemptionsNeeded_84 rfl hl (by decide) rfl (fun ls hl => ?_)
              refine lv_aload_n hx hcb dX10_redemptionsNeeded_85 rfl (lv_at hl 1 rfl) ?_
              refine x_getR hx hcb hts hown hK xc10 hR (hw.lo (by decide)) (hw.s0 rfl) 31 (by decide) rfl q_1197 dX10_redemptionsNeeded_86 ?_
              refine lv_aload_n hx hcb dX10_redemptionsNeeded_89 rfl (lv_at hl 1 rfl) ?_
              refine x_getR hx hcb hts hown hK xc10 hR (hw.lo (by decide)) (hw.s0 rfl) 5 (by decide) rfl q_1171 dX10_redemptionsNeeded_90 ?_
              refine x_cv0 rfl rfl (x_runS hx hcb hml hown hts (c_X10_copies l G w hw y_ _ 16 497 (hw.lo (by decide)) (hw.s0 rfl) (by decide) 4 497 (hw.lo (by decide)) (hw.s0 rfl) (by decide) rfl (by decide)) ms_X10_copies q_1275 hK hZ hR hS rfl hl.1 rfl (Nat.le_of_ble_eq_true rfl) dX10_redemptionsNeeded_93 ⟨by decide, by decide⟩ ⟨by decide, by decide⟩) hS (fun z_32 H locs hp_33 hR hS => ?_)
              rw [hp_33] at hR
              refine lv_iload_n hx hcb dX10_redemptionsNeeded_96 rfl (lv_at hl 0 rfl) ?_
              refine lv_if_eq (tgt := 104) hx hcb dX10_redemptionsNeeded_97 (by decide) (fun c_34 => ?_) (fun c_34 => ?_)
              · skip
                first | exact absurd c_34 (by decide) | exact absurd (by decide) c_34
              · skip
                refine lv_iload_n hx hcb dX10_redemptionsNeeded_100 rfl (lv_at hl 3 rfl) ?_
                refine lv_goto (tgt := 105) hx hcb dX10_redemptionsNeeded_101 (by decide) ?_
                exact hret (nI i_) (ur y_ 4 (y_.1 16)) _ _ _ _ dX10_redemptionsNeeded_105 rfl hR hS (by rw [if_neg hb_, he_]; first | rw [if_pos h0_] | rw [if_neg h0_])
          · skip
            have ha_ : 0 < aeQ y_ := Int32.not_le.mp c_22
            have hnx_ := rnO_s (k := 60 - (i_ + 1)) (by omega) hok_ ha_
            have hm_ : mQ y_ 12 ≤ 8 := by unfold mQ; rw [h2_]; exact hm8_
            refine lv_aload_n hx hcb dX10_redemptionsNeeded_44 rfl (lv_at hl 0 rfl) ?_
            refine lv_iload_n hx hcb dX10_redemptionsNeeded_45 rfl (lv_at hl 1 rfl) ?_
            refine x_ci0 rfl rfl (x_runV hx hcb hml hown hts (c_X10_laysPayments l G w hw y_ _ bu (yQ z + i_) (by unfold mQ; rw [h2_]; exact hO.1) (by unfold mQ; rw [h2_]; exact hm8_) hY_ (by omega) hnx_.1) mv_X10_laysPayments q_1575 hK hZ hR hS (hw.lo (by decide)) xc10 (hw.s0 rfl) rfl hl.1 rfl (Nat.le_of_ble_eq_true rfl) dX10_redemptionsNeeded_46 ⟨by decide, by decide⟩ ⟨by decide, by decide⟩) hS (fun r_35 z_36 H locs hp_37 hR hS => ?_)
            rw [hp_37.2] at hR; rw [hp_37.1]
            refine lv_istore_n (lv' := [(3, .int (imin (lSum y_ (lpL y_ (yQ z + i_))) bu)), (0, .ref (w.2.2 0)), (1, .int bu), (2, .int (nI i_))]) hx hcb dX10_redemptionsNeeded_49 rfl hl (by decide) rfl (fun ls hl => ?_)
            refine lv_aload_n hx hcb dX10_redemptionsNeeded_50 rfl (lv_at hl 1 rfl) ?_
            refine x_cv0 rfl rfl (x_runV hx hcb hml hown hts (c_X10_paysAll l G w hw (lpZ y_ (yQ z + i_) bu) _ (lpL y_ (yQ z + i_)) (lpZ_laid hm_)) mv_X10_paysAll q_1657 hK hZ hR hS (hw.lo (by decide)) xc10 (hw.s0 rfl) rfl hl.1 rfl (Nat.le_of_ble_eq_true rfl) dX10_redemptionsNeeded_51 ⟨by decide, by decide⟩ ⟨by decide, by decide⟩) hS (fun z_39 H locs hp_40 hR hS => ?_)
            rw [hp_40] at hR
            refine lv_aload_n hx hcb dX10_redemptionsNeeded_54 rfl (lv_at hl 1 rfl) ?_
            refine x_getR hx hcb hts hown hK xc10 hR (hw.lo (by decide)) (hw.s0 rfl) 5 (by decide) rfl q_1171 dX10_redemptionsNeeded_55 ?_
            refine lv_sipush (v := (nI 494)) hx hcb dX10_redemptionsNeeded_58 (by decide) ?_
            refine lv_dup2_11 hx hcb dX10_redemptionsNeeded_61 rfl rfl ?_
            refine x_iald hx hcb hK hR (hw.lo (by decide)) (hw.s0 rfl) (k := 494) (by omega) (by decide) dX10_redemptionsNeeded_62 ?_
            refine lv_iconst (v := (nI 1)) hx hcb dX10_redemptionsNeeded_63 (by decide) ?_
            refine lv_iadd hx hcb dX10_redemptionsNeeded_64 ?_
            refine x_iast hx hcb hK hR hS (hw.lo (by decide)) (hw.s0 rfl) (k := 494) (v := (((paQ (lpZ y_ (yQ z + i_) bu) (lpL y_ (yQ z + i_)) (lpL y_ (yQ z + i_)).length).1 4 494) + (nI 1))) (by omega) (by decide) dX10_redemptionsNeeded_65 (fun H locs hR hS => ?_)
            rw [show u1 (paQ (lpZ y_ (yQ z + i_) bu) (lpL y_ (yQ z + i_)) (lpL y_ (yQ z + i_)).length) 4 494 (((paQ (lpZ y_ (yQ z + i_) bu) (lpL y_ (yQ z + i_)) (lpL y_ (yQ z + i_)).length).1 4 494) + (nI 1)) = rnT y_ (yQ z + i_) bu from rfl] at hR
            refine lv_iinc (v := (nI (i_ + 1))) (lv' := [(2, .int (nI (i_ + 1))), (3, .int (imin (lSum y_ (lpL y_ (yQ z + i_))) bu)), (0, .ref (w.2.2 0)), (1, .int bu)]) hx hcb dX10_redemptionsNeeded_66 hl (k := 3) rfl (x_iinc1 _) (by decide) rfl (fun ls hl => ?_)
            refine lv_goto (tgt := 31) hx hcb dX10_redemptionsNeeded_69 (by decide) ?_
            exact ih_31 (i_ + 1) (rnT y_ (yQ z + i_) bu) (by omega) (by omega) (by rw [rnT_2]; exact h2_) (rnT_y hm_ hY_) hnx_.2 (by rw [hf_, rnE_s (k := 60 - (i_ + 1)) (by omega), if_pos ha_]) _ _ _ hR hS (lv_sub hl [2, 3, 0] rfl)
    · skip
      have hb_ : (bu < 0 ∨ ¬ bu ≤ nI 10000000) := Or.inr c_2
      refine lv_bipush (v := (-2)) hx hcb dX10_redemptionsNeeded_15 (by decide) ?_
      exact hret (-2) (u1 z 0 0 0) _ _ _ _ dX10_redemptionsNeeded_17 rfl hR hS (by rw [if_pos hb_])
