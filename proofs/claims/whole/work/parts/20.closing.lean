def rm_X1_allocate : Room := { frames := 1, cells := 0, slots := 0, locals := 27 }
set_option maxRecDepth 100000 in
set_option maxHeartbeats 4000000 in
theorem c_X1_allocate (l : Launch) (G : xGl) (w : xWd) (K : Nat) (hw : isC K w) (z : xSt) (sz : Nat) (b : Nat) (hb : b < 2 + K) (d : Nat) (am : Int32) (mc : Nat) (hd : d < 4) (hmc : z.1 (oB b) 3 = nI mc) (hmc8 : mc ≤ 8) : xMv l yX1_allocate cX1_allocate 7 rm_X1_allocate G w z sz [.ref (w.2.2 4), .ref (w.2.2 (oB b)), .int (nI d), .int am] (fun z1 => z1 = aloc z b d am mc) := by
  refine x_mv (by decide) (Nat.le_of_ble_eq_true rfl) ?_
  intro p e s mt args below meth c ls Q hsz X hR hS hl hret
  obtain ⟨hx, hcb, hml, hown, hts, hlk, hK, hZ⟩ := X
  have hl : lv_has ls 7 [(0, .ref (w.2.2 4)), (1, .ref (w.2.2 (oB b))), (2, .int (nI d)), (3, .int am)] := hl
  refine lv_aload_n hx hcb dX1_allocate_0 rfl (lv_at hl 1 rfl) ?_
  refine x_getR hx hcb hts hown hK xc0 hR (hoB hw hb) (hsB hw) 1 (by decide) rfl q_261 dX1_allocate_1 ?_
  refine lv_iload_n hx hcb dX1_allocate_4 rfl (lv_at hl 2 rfl) ?_
  have hk_5 : d < 4 := (by omega)
  refine x_aald hx hcb hK hR (hoDs hw hb) (hsDs hw) rfl (oDs_at hk_5) (Nat.lt_of_lt_of_le (Nat.lt_succ_self _) (Nat.le_of_ble_eq_true rfl)) dX1_allocate_5 ?_
  refine lv_astore (lv' := [(4, .ref (w.2.2 (oD b d))), (0, .ref (w.2.2 4)), (1, .ref (w.2.2 (oB b))), (2, .int (nI d)), (3, .int am)]) hx hcb dX1_allocate_6 hl (by decide) rfl (fun ls hl => ?_)
  refine lv_aload hx hcb dX1_allocate_8 (lv_at hl 0 rfl) ?_
  refine lv_aload_n hx hcb dX1_allocate_10 rfl (lv_at hl 2 rfl) ?_
  refine lv_iload_n hx hcb dX1_allocate_11 rfl (lv_at hl 3 rfl) ?_
  refine x_ci0 rfl rfl (x_runV hx hcb hml hown hts (c_X0_patronageIn l G w K hw z _ b hb d mc hmc (by omega) hd) mv_X0_patronageIn q_587 hK hZ hR hS (hoB hw hb) xc0 (hsB hw) rfl hl.1 rfl (Nat.le_of_ble_eq_true rfl) dX1_allocate_12 ⟨by decide, by decide⟩ ⟨by decide, by decide⟩) hS (fun r_1 z_2 H locs hp_3 hR hS => ?_)
  rw [hp_3.2] at hR; rw [hp_3.1]
  refine x_putI hx hcb hts hown hK xc2 hR hS (hoD hw hb hk_5) (hsD hw hk_5) 2 (by decide) rfl q_242 rfl (v := (bx_sum (fun m => z.1 (oPt b m) d) mc)) rfl rfl dX1_allocate_15 (fun H locs hR hS => ?_)
  refine lv_aload hx hcb dX1_allocate_18 (lv_at hl 0 rfl) ?_
  refine lv_iconst (v := (nI 0)) hx hcb dX1_allocate_20 (by decide) ?_
  refine x_putI hx hcb hts hown hK xc2 hR hS (hoD hw hb hk_5) (hsD hw hk_5) 1 (by decide) rfl q_240 rfl (v := 0) rfl rfl dX1_allocate_21 (fun H locs hR hS => ?_)
  refine lv_aload hx hcb dX1_allocate_24 (lv_at hl 0 rfl) ?_
  refine x_getI hx hcb hts hown hK xc2 hR (hoD hw hb hk_5) (hsD hw hk_5) 2 (by decide) rfl q_242 dX1_allocate_26 ?_
  refine x_top (show ((u1 (u1 z (oD b d) 2 (bx_sum (fun m => z.1 (oPt b m) d) mc)) (oD b d) 1 0).1 (oD b d) 2) = (bx_sum (fun m => z.1 (oPt b m) d) mc) from by repeat (first | rw [u1_rd, if_neg (by first | omega | (simp only [oB, oMs, oDs, oSt, oD, oM, oPt, oLf, oKd, oPd]; omega))] | rw [ur_rd, if_neg (by first | omega | (simp only [oB, oMs, oDs, oSt, oD, oM, oPt, oLf, oKd, oPd]; omega))] | rw [u1_rd, if_pos (by first | omega | (simp only [oB, oMs, oDs, oSt, oD, oM, oPt, oLf, oKd, oPd]; omega))] | rw [ur_rd, if_pos (by first | omega | (simp only [oB, oMs, oDs, oSt, oD, oM, oPt, oLf, oKd, oPd]; omega))])) ?_
  refine lv_if_ne (tgt := 43) hx hcb dX1_allocate_29 (by decide) (fun c_4 => ?_) (fun c_4 => ?_)
  · skip
    have hB_ := c_4
    refine lv_aload hx hcb dX1_allocate_43 (lv_at hl 0 rfl) ?_
    refine lv_iload_n hx hcb dX1_allocate_45 rfl (lv_at hl 4 rfl) ?_
    refine x_putI hx hcb hts hown hK xc2 hR hS (hoD hw hb hk_5) (hsD hw hk_5) 1 (by decide) rfl q_240 rfl (v := am) rfl rfl dX1_allocate_46 (fun H locs hR hS => ?_)
    refine lv_aload_n hx hcb dX1_allocate_49 rfl (lv_at hl 1 rfl) ?_
    refine x_getR hx hcb hts hown hK xc1 hR (hw.lo (by decide)) (hw.s0 (by decide) rfl) 0 (by decide) rfl q_129 dX1_allocate_50 ?_
    refine x_cv0 rfl rfl (x_runV hx hcb hml hown hts (c_X7_start l G w K hw (u1 (u1 (u1 z (oD b d) 2 (bx_sum (fun m => z.1 (oPt b m) d) mc)) (oD b d) 1 0) (oD b d) 1 am) _ ) mv_X7_start q_591 hK hZ hR hS (hw.lo (by decide)) xc7 (hw.s0 (by decide) rfl) rfl hl.1 rfl (Nat.le_of_ble_eq_true rfl) dX1_allocate_53 ⟨by decide, by decide⟩ ⟨by decide, by decide⟩) hS (fun z_6 H locs hp_7 hR hS => ?_)
    rw [hp_7] at hR
    refine lv_iconst (v := (nI 0)) hx hcb dX1_allocate_56 (by decide) ?_
    refine lv_istore (lv' := [(5, .int (nI 0)), (4, .ref (w.2.2 (oD b d))), (0, .ref (w.2.2 4)), (1, .ref (w.2.2 (oB b))), (2, .int (nI d)), (3, .int am)]) hx hcb dX1_allocate_57 hl (by decide) rfl (fun ls hl => ?_)
    rw [adW_0 (u1 (u1 (u1 z (oD b d) 2 (bx_sum (fun m => z.1 (oPt b m) d) mc)) (oD b d) 1 0) (oD b d) 1 am) b d] at hR
    suffices LP_59 : ∀ (nn : Nat) (i_ : Nat) (_ : mc - i_ < nn) (hi_ : i_ ≤ mc) (H : Heap) (locs : List Loc) (ls : Array Slot), Rh G w (adW (u1 (u1 (u1 z (oD b d) 2 (bx_sum (fun m => z.1 (oPt b m) d) mc)) (oD b d) 1 0) (oD b d) 1 am) b d i_) H → va_S (xA w s.heap.size) s.heap H locs → lv_has ls 7 [(0, .ref (w.2.2 4)), (1, .ref (w.2.2 (oB b))), (2, .int (nI d)), (3, .int am), (5, .int (nI i_))] → W p l e rm_X1_allocate s mt args below meth c H locs 0 0 Q (F0 mt 59 ls []) from LP_59 ((_) + 1) 0 (Nat.lt_succ_self _) (by omega) _ _ _ hR hS (lv_sub hl [2, 3, 4, 5, 0] rfl)
    intro nn
    induction nn with
    | zero => intro i_ hm_ ; exact absurd hm_ (Nat.not_lt_zero _)
    | succ nn ih_59 =>
      intro i_ hm_59 hi_ H locs ls hR hS hl
      refine lv_iload hx hcb dX1_allocate_59 (lv_at hl 4 rfl) ?_
      refine lv_aload_n hx hcb dX1_allocate_61 rfl (lv_at hl 1 rfl) ?_
      refine x_getI hx hcb hts hown hK xc0 hR (hoB hw hb) (hsB hw) 3 (by decide) rfl q_269 dX1_allocate_62 ?_
      refine x_top (show ((adW (u1 (u1 (u1 z (oD b d) 2 (bx_sum (fun m => z.1 (oPt b m) d) mc)) (oD b d) 1 0) (oD b d) 1 am) b d i_).1 (oB b) 3) = (nI mc) from by rw [adW_ne (by simp only [oB]; omega)]; (repeat (first | rw [u1_rd, if_neg (by first | omega | (simp only [oB, oMs, oDs, oSt, oD, oM, oPt, oLf, oKd, oPd]; omega))] | rw [ur_rd, if_neg (by first | omega | (simp only [oB, oMs, oDs, oSt, oD, oM, oPt, oLf, oKd, oPd]; omega))])); exact hmc) ?_
      refine lv_icmp_ge (tgt := 93) hx hcb dX1_allocate_65 (by decide) (fun c_8 => ?_) (fun c_8 => ?_)
      · skip
        have c_8 : mc ≤ i_ := (nI_leI (by omega) (by omega)).mp c_8
        obtain rfl : mc = i_ := by omega
        refine lv_aload_n hx hcb dX1_allocate_93 rfl (lv_at hl 0 rfl) ?_
        refine x_getR hx hcb hts hown hK xc1 hR (hw.lo (by decide)) (hw.s0 (by decide) rfl) 0 (by decide) rfl q_129 dX1_allocate_94 ?_
        refine lv_iload_n hx hcb dX1_allocate_97 rfl (lv_at hl 3 rfl) ?_
        refine lv_if_ge (tgt := 106) hx hcb dX1_allocate_98 (by decide) (fun c_9 => ?_) (fun c_9 => ?_)
        · skip
          have hp_ := c_9
          have hab_ : (if 0 ≤ am then am else -am) = am := if_pos hp_
          refine lv_iload_n hx hcb dX1_allocate_106 rfl (lv_at hl 3 rfl) ?_
          refine x_top (show am = (if 0 ≤ am then am else -am) from hab_.symm) ?_
          refine x_cv0 rfl rfl (x_runV hx hcb hml hown hts (c_X7_share l G w K hw (adW (u1 (u1 (u1 z (oD b d) 2 (bx_sum (fun m => z.1 (oPt b m) d) mc)) (oD b d) 1 0) (oD b d) 1 am) b d mc) _ (if 0 ≤ am then am else -am) mc adW_n (by omega)) mv_X7_share q_599 hK hZ hR hS (hw.lo (by decide)) xc7 (hw.s0 (by decide) rfl) rfl hl.1 rfl (Nat.le_of_ble_eq_true rfl) dX1_allocate_107 ⟨by decide, by decide⟩ ⟨by decide, by decide⟩) hS (fun z_11 H locs hp_12 hR hS => ?_)
          rw [hp_12] at hR
          refine lv_iconst (v := (nI 0)) hx hcb dX1_allocate_110 (by decide) ?_
          refine lv_istore (lv' := [(5, .int (nI 0)), (0, .ref (w.2.2 4)), (1, .ref (w.2.2 (oB b))), (2, .int (nI d)), (3, .int am)]) hx hcb dX1_allocate_111 hl (by decide) rfl (fun ls hl => ?_)
          rw [show (shZ (adW (u1 (u1 (u1 z (oD b d) 2 (bx_sum (fun m => z.1 (oPt b m) d) mc)) (oD b d) 1 0) (oD b d) 1 am) b d mc) (if 0 ≤ am then am else -am) mc) = mU (shZ (adW (u1 (u1 (u1 z (oD b d) 2 (bx_sum (fun m => z.1 (oPt b m) d) mc)) (oD b d) 1 0) (oD b d) 1 am) b d mc) (if 0 ≤ am then am else -am) mc) b 4 (fun m => (shZ (adW (u1 (u1 (u1 z (oD b d) 2 (bx_sum (fun m => z.1 (oPt b m) d) mc)) (oD b d) 1 0) (oD b d) 1 am) b d mc) (if 0 ≤ am then am else -am) mc).1 (oM b m) 4 + (if 0 ≤ am then (shZ (adW (u1 (u1 (u1 z (oD b d) 2 (bx_sum (fun m => z.1 (oPt b m) d) mc)) (oD b d) 1 0) (oD b d) 1 am) b d mc) (if 0 ≤ am then am else -am) mc).1 7 m else -(shZ (adW (u1 (u1 (u1 z (oD b d) 2 (bx_sum (fun m => z.1 (oPt b m) d) mc)) (oD b d) 1 0) (oD b d) 1 am) b d mc) (if 0 ≤ am then am else -am) mc).1 7 m)) 0 from (mU_0 ..).symm] at hR
          suffices LP_113 : ∀ (nn : Nat) (i_ : Nat) (_ : mc - i_ < nn) (hi_ : i_ ≤ mc) (H : Heap) (locs : List Loc) (ls : Array Slot), Rh G w (mU (shZ (adW (u1 (u1 (u1 z (oD b d) 2 (bx_sum (fun m => z.1 (oPt b m) d) mc)) (oD b d) 1 0) (oD b d) 1 am) b d mc) (if 0 ≤ am then am else -am) mc) b 4 (fun m => (shZ (adW (u1 (u1 (u1 z (oD b d) 2 (bx_sum (fun m => z.1 (oPt b m) d) mc)) (oD b d) 1 0) (oD b d) 1 am) b d mc) (if 0 ≤ am then am else -am) mc).1 (oM b m) 4 + (if 0 ≤ am then (shZ (adW (u1 (u1 (u1 z (oD b d) 2 (bx_sum (fun m => z.1 (oPt b m) d) mc)) (oD b d) 1 0) (oD b d) 1 am) b d mc) (if 0 ≤ am then am else -am) mc).1 7 m else -(shZ (adW (u1 (u1 (u1 z (oD b d) 2 (bx_sum (fun m => z.1 (oPt b m) d) mc)) (oD b d) 1 0) (oD b d) 1 am) b d mc) (if 0 ≤ am then am else -am) mc).1 7 m)) i_) H → va_S (xA w s.heap.size) s.heap H locs → lv_has ls 7 [(0, .ref (w.2.2 4)), (1, .ref (w.2.2 (oB b))), (2, .int (nI d)), (3, .int am), (5, .int (nI i_))] → W p l e rm_X1_allocate s mt args below meth c H locs 0 0 Q (F0 mt 113 ls []) from LP_113 ((_) + 1) 0 (Nat.lt_succ_self _) (by omega) _ _ _ hR hS (lv_sub hl [1, 2, 3, 4, 0] rfl)
          intro nn
          induction nn with
          | zero => intro i_ hm_ ; exact absurd hm_ (Nat.not_lt_zero _)
          | succ nn ih_113 =>
            intro i_ hm_113 hi_ H locs ls hR hS hl
            refine lv_iload hx hcb dX1_allocate_113 (lv_at hl 4 rfl) ?_
            refine lv_aload_n hx hcb dX1_allocate_115 rfl (lv_at hl 1 rfl) ?_
            refine x_getI hx hcb hts hown hK xc0 hR (hoB hw hb) (hsB hw) 3 (by decide) rfl q_269 dX1_allocate_116 ?_
            refine x_top (show ((mU (shZ (adW (u1 (u1 (u1 z (oD b d) 2 (bx_sum (fun m => z.1 (oPt b m) d) mc)) (oD b d) 1 0) (oD b d) 1 am) b d mc) (if 0 ≤ am then am else -am) mc) b 4 (fun m => (shZ (adW (u1 (u1 (u1 z (oD b d) 2 (bx_sum (fun m => z.1 (oPt b m) d) mc)) (oD b d) 1 0) (oD b d) 1 am) b d mc) (if 0 ≤ am then am else -am) mc).1 (oM b m) 4 + (if 0 ≤ am then (shZ (adW (u1 (u1 (u1 z (oD b d) 2 (bx_sum (fun m => z.1 (oPt b m) d) mc)) (oD b d) 1 0) (oD b d) 1 am) b d mc) (if 0 ≤ am then am else -am) mc).1 7 m else -(shZ (adW (u1 (u1 (u1 z (oD b d) 2 (bx_sum (fun m => z.1 (oPt b m) d) mc)) (oD b d) 1 0) (oD b d) 1 am) b d mc) (if 0 ≤ am then am else -am) mc).1 7 m)) i_).1 (oB b) 3) = (nI mc) from by rw [mU_out (by simp only [oB]; omega), shZ_ne (by simp only [oB]; omega), adW_ne (by simp only [oB]; omega)]; (repeat (first | rw [u1_rd, if_neg (by first | omega | (simp only [oB, oMs, oDs, oSt, oD, oM, oPt, oLf, oKd, oPd]; omega))] | rw [ur_rd, if_neg (by first | omega | (simp only [oB, oMs, oDs, oSt, oD, oM, oPt, oLf, oKd, oPd]; omega))])); exact hmc) ?_
            refine lv_icmp_ge (tgt := 166) hx hcb dX1_allocate_119 (by decide) (fun c_13 => ?_) (fun c_13 => ?_)
            · skip
              have c_13 : mc ≤ i_ := (nI_leI (by omega) (by omega)).mp c_13
              obtain rfl : mc = i_ := by omega
              exact hret (mU (shZ (adW (u1 (u1 (u1 z (oD b d) 2 (bx_sum (fun m => z.1 (oPt b m) d) mc)) (oD b d) 1 0) (oD b d) 1 am) b d mc) (if 0 ≤ am then am else -am) mc) b 4 (fun m => (shZ (adW (u1 (u1 (u1 z (oD b d) 2 (bx_sum (fun m => z.1 (oPt b m) d) mc)) (oD b d) 1 0) (oD b d) 1 am) b d mc) (if 0 ≤ am then am else -am) mc).1 (oM b m) 4 + (if 0 ≤ am then (shZ (adW (u1 (u1 (u1 z (oD b d) 2 (bx_sum (fun m => z.1 (oPt b m) d) mc)) (oD b d) 1 0) (oD b d) 1 am) b d mc) (if 0 ≤ am then am else -am) mc).1 7 m else -(shZ (adW (u1 (u1 (u1 z (oD b d) 2 (bx_sum (fun m => z.1 (oPt b m) d) mc)) (oD b d) 1 0) (oD b d) 1 am) b d mc) (if 0 ≤ am then am else -am) mc).1 7 m)) mc) _ _ _ _ dX1_allocate_166 hR hS (by unfold aloc; rw [if_neg hB_])
            · skip
              have c_13 : ¬ mc ≤ i_ := fun h_ => c_13 ((nI_leI (by omega) (by omega)).mpr h_)
              refine lv_aload_n hx hcb dX1_allocate_122 rfl (lv_at hl 0 rfl) ?_
              refine x_getR hx hcb hts hown hK xc1 hR (hw.lo (by decide)) (hw.s0 (by decide) rfl) 0 (by decide) rfl q_129 dX1_allocate_123 ?_
              refine lv_iload hx hcb dX1_allocate_126 (lv_at hl 4 rfl) ?_
              refine x_ci0 rfl rfl (x_runV hx hcb hml hown hts (c_X7_shareAt l G w K hw (mU (shZ (adW (u1 (u1 (u1 z (oD b d) 2 (bx_sum (fun m => z.1 (oPt b m) d) mc)) (oD b d) 1 0) (oD b d) 1 am) b d mc) (if 0 ≤ am then am else -am) mc) b 4 (fun m => (shZ (adW (u1 (u1 (u1 z (oD b d) 2 (bx_sum (fun m => z.1 (oPt b m) d) mc)) (oD b d) 1 0) (oD b d) 1 am) b d mc) (if 0 ≤ am then am else -am) mc).1 (oM b m) 4 + (if 0 ≤ am then (shZ (adW (u1 (u1 (u1 z (oD b d) 2 (bx_sum (fun m => z.1 (oPt b m) d) mc)) (oD b d) 1 0) (oD b d) 1 am) b d mc) (if 0 ≤ am then am else -am) mc).1 7 m else -(shZ (adW (u1 (u1 (u1 z (oD b d) 2 (bx_sum (fun m => z.1 (oPt b m) d) mc)) (oD b d) 1 0) (oD b d) 1 am) b d mc) (if 0 ≤ am then am else -am) mc).1 7 m)) i_) _ i_ mc (by rw [mU_out (by omega), shZ_ne (by omega)]; exact adW_n) (by omega) (by omega)) mv_X7_shareAt q_604 hK hZ hR hS (hw.lo (by decide)) xc7 (hw.s0 (by decide) rfl) rfl hl.1 rfl (Nat.le_of_ble_eq_true rfl) dX1_allocate_128 ⟨by decide, by decide⟩ ⟨by decide, by decide⟩) hS (fun r_14 z_15 H locs hp_16 hR hS => ?_)
              rw [hp_16.2] at hR; rw [hp_16.1]
              refine x_top (show (if i_ < mc then (mU (shZ (adW (u1 (u1 (u1 z (oD b d) 2 (bx_sum (fun m => z.1 (oPt b m) d) mc)) (oD b d) 1 0) (oD b d) 1 am) b d mc) (if 0 ≤ am then am else -am) mc) b 4 (fun m => (shZ (adW (u1 (u1 (u1 z (oD b d) 2 (bx_sum (fun m => z.1 (oPt b m) d) mc)) (oD b d) 1 0) (oD b d) 1 am) b d mc) (if 0 ≤ am then am else -am) mc).1 (oM b m) 4 + (if 0 ≤ am then (shZ (adW (u1 (u1 (u1 z (oD b d) 2 (bx_sum (fun m => z.1 (oPt b m) d) mc)) (oD b d) 1 0) (oD b d) 1 am) b d mc) (if 0 ≤ am then am else -am) mc).1 7 m else -(shZ (adW (u1 (u1 (u1 z (oD b d) 2 (bx_sum (fun m => z.1 (oPt b m) d) mc)) (oD b d) 1 0) (oD b d) 1 am) b d mc) (if 0 ≤ am then am else -am) mc).1 7 m)) i_).1 7 i_ else 0) = ((shZ (adW (u1 (u1 (u1 z (oD b d) 2 (bx_sum (fun m => z.1 (oPt b m) d) mc)) (oD b d) 1 0) (oD b d) 1 am) b d mc) (if 0 ≤ am then am else -am) mc).1 7 i_) from by rw [if_pos (show i_ < mc by omega), mU_out (by omega)]) ?_
              refine lv_istore (lv' := [(6, .int ((shZ (adW (u1 (u1 (u1 z (oD b d) 2 (bx_sum (fun m => z.1 (oPt b m) d) mc)) (oD b d) 1 0) (oD b d) 1 am) b d mc) (if 0 ≤ am then am else -am) mc).1 7 i_)), (0, .ref (w.2.2 4)), (1, .ref (w.2.2 (oB b))), (2, .int (nI d)), (3, .int am), (5, .int (nI i_))]) hx hcb dX1_allocate_131 hl (by decide) rfl (fun ls hl => ?_)
              refine lv_aload_n hx hcb dX1_allocate_133 rfl (lv_at hl 2 rfl) ?_
              refine x_getR hx hcb hts hown hK xc0 hR (hoB hw hb) (hsB hw) 0 (by decide) rfl q_256 dX1_allocate_134 ?_
              refine lv_iload hx hcb dX1_allocate_137 (lv_at hl 5 rfl) ?_
              have hk_139 : i_ < 8 := (by omega)
              refine x_aald hx hcb hK hR (hoMs hw hb) (hsMs hw) rfl (oMs_at hk_139) (Nat.lt_of_lt_of_le (Nat.lt_succ_self _) (Nat.le_of_ble_eq_true rfl)) dX1_allocate_139 ?_
              refine lv_dup hx hcb dX1_allocate_140 rfl ?_
              refine x_getI hx hcb hts hown hK xc5 hR (hoM hw hb hk_139) (hsM hw hk_139) 4 (by decide) rfl q_189 dX1_allocate_141 ?_
              refine x_top (show ((mU (shZ (adW (u1 (u1 (u1 z (oD b d) 2 (bx_sum (fun m => z.1 (oPt b m) d) mc)) (oD b d) 1 0) (oD b d) 1 am) b d mc) (if 0 ≤ am then am else -am) mc) b 4 (fun m => (shZ (adW (u1 (u1 (u1 z (oD b d) 2 (bx_sum (fun m => z.1 (oPt b m) d) mc)) (oD b d) 1 0) (oD b d) 1 am) b d mc) (if 0 ≤ am then am else -am) mc).1 (oM b m) 4 + (if 0 ≤ am then (shZ (adW (u1 (u1 (u1 z (oD b d) 2 (bx_sum (fun m => z.1 (oPt b m) d) mc)) (oD b d) 1 0) (oD b d) 1 am) b d mc) (if 0 ≤ am then am else -am) mc).1 7 m else -(shZ (adW (u1 (u1 (u1 z (oD b d) 2 (bx_sum (fun m => z.1 (oPt b m) d) mc)) (oD b d) 1 0) (oD b d) 1 am) b d mc) (if 0 ≤ am then am else -am) mc).1 7 m)) i_).1 (oM b i_) 4) = ((shZ (adW (u1 (u1 (u1 z (oD b d) 2 (bx_sum (fun m => z.1 (oPt b m) d) mc)) (oD b d) 1 0) (oD b d) 1 am) b d mc) (if 0 ≤ am then am else -am) mc).1 (oM b i_) 4) from by rw [mU_no (Nat.le_refl i_)]) ?_
              refine lv_iload_n hx hcb dX1_allocate_144 rfl (lv_at hl 4 rfl) ?_
              refine lv_if_ge (tgt := 154) hx hcb dX1_allocate_145 (by decide) (fun c_17 => ?_) (fun c_17 => ?_)
              · skip
                have hs_ : (if 0 ≤ am then (shZ (adW (u1 (u1 (u1 z (oD b d) 2 (bx_sum (fun m => z.1 (oPt b m) d) mc)) (oD b d) 1 0) (oD b d) 1 am) b d mc) (if 0 ≤ am then am else -am) mc).1 7 i_ else -(shZ (adW (u1 (u1 (u1 z (oD b d) 2 (bx_sum (fun m => z.1 (oPt b m) d) mc)) (oD b d) 1 0) (oD b d) 1 am) b d mc) (if 0 ≤ am then am else -am) mc).1 7 i_) = _ := if_pos c_17
                refine lv_iload hx hcb dX1_allocate_154 (lv_at hl 0 rfl) ?_
                refine x_top (show ((shZ (adW (u1 (u1 (u1 z (oD b d) 2 (bx_sum (fun m => z.1 (oPt b m) d) mc)) (oD b d) 1 0) (oD b d) 1 am) b d mc) (if 0 ≤ am then am else -am) mc).1 7 i_) = (if 0 ≤ am then (shZ (adW (u1 (u1 (u1 z (oD b d) 2 (bx_sum (fun m => z.1 (oPt b m) d) mc)) (oD b d) 1 0) (oD b d) 1 am) b d mc) (if 0 ≤ am then am else -am) mc).1 7 i_ else -(shZ (adW (u1 (u1 (u1 z (oD b d) 2 (bx_sum (fun m => z.1 (oPt b m) d) mc)) (oD b d) 1 0) (oD b d) 1 am) b d mc) (if 0 ≤ am then am else -am) mc).1 7 i_) from hs_.symm) ?_
                refine lv_iadd hx hcb dX1_allocate_156 ?_
                refine x_putI hx hcb hts hown hK xc5 hR hS (hoM hw hb hk_139) (hsM hw hk_139) 4 (by decide) rfl q_189 rfl (v := (((shZ (adW (u1 (u1 (u1 z (oD b d) 2 (bx_sum (fun m => z.1 (oPt b m) d) mc)) (oD b d) 1 0) (oD b d) 1 am) b d mc) (if 0 ≤ am then am else -am) mc).1 (oM b i_) 4) + (if 0 ≤ am then (shZ (adW (u1 (u1 (u1 z (oD b d) 2 (bx_sum (fun m => z.1 (oPt b m) d) mc)) (oD b d) 1 0) (oD b d) 1 am) b d mc) (if 0 ≤ am then am else -am) mc).1 7 i_ else -(shZ (adW (u1 (u1 (u1 z (oD b d) 2 (bx_sum (fun m => z.1 (oPt b m) d) mc)) (oD b d) 1 0) (oD b d) 1 am) b d mc) (if 0 ≤ am then am else -am) mc).1 7 i_))) rfl rfl dX1_allocate_157 (fun H locs hR hS => ?_)
                refine lv_iinc (v := (nI (i_ + 1))) (lv' := [(5, .int (nI (i_ + 1))), (6, .int ((shZ (adW (u1 (u1 (u1 z (oD b d) 2 (bx_sum (fun m => z.1 (oPt b m) d) mc)) (oD b d) 1 0) (oD b d) 1 am) b d mc) (if 0 ≤ am then am else -am) mc).1 7 i_)), (0, .ref (w.2.2 4)), (1, .ref (w.2.2 (oB b))), (2, .int (nI d)), (3, .int am)]) hx hcb dX1_allocate_160 hl (k := 5) rfl (x_iinc1 _) (by decide) rfl (fun ls hl => ?_)
                refine lv_goto (tgt := 113) hx hcb dX1_allocate_163 (by decide) ?_
                rw [show (u1 (mU (shZ (adW (u1 (u1 (u1 z (oD b d) 2 (bx_sum (fun m => z.1 (oPt b m) d) mc)) (oD b d) 1 0) (oD b d) 1 am) b d mc) (if 0 ≤ am then am else -am) mc) b 4 (fun m => (shZ (adW (u1 (u1 (u1 z (oD b d) 2 (bx_sum (fun m => z.1 (oPt b m) d) mc)) (oD b d) 1 0) (oD b d) 1 am) b d mc) (if 0 ≤ am then am else -am) mc).1 (oM b m) 4 + (if 0 ≤ am then (shZ (adW (u1 (u1 (u1 z (oD b d) 2 (bx_sum (fun m => z.1 (oPt b m) d) mc)) (oD b d) 1 0) (oD b d) 1 am) b d mc) (if 0 ≤ am then am else -am) mc).1 7 m else -(shZ (adW (u1 (u1 (u1 z (oD b d) 2 (bx_sum (fun m => z.1 (oPt b m) d) mc)) (oD b d) 1 0) (oD b d) 1 am) b d mc) (if 0 ≤ am then am else -am) mc).1 7 m)) i_) (oM b i_) 4 (((shZ (adW (u1 (u1 (u1 z (oD b d) 2 (bx_sum (fun m => z.1 (oPt b m) d) mc)) (oD b d) 1 0) (oD b d) 1 am) b d mc) (if 0 ≤ am then am else -am) mc).1 (oM b i_) 4) + (if 0 ≤ am then (shZ (adW (u1 (u1 (u1 z (oD b d) 2 (bx_sum (fun m => z.1 (oPt b m) d) mc)) (oD b d) 1 0) (oD b d) 1 am) b d mc) (if 0 ≤ am then am else -am) mc).1 7 i_ else -(shZ (adW (u1 (u1 (u1 z (oD b d) 2 (bx_sum (fun m => z.1 (oPt b m) d) mc)) (oD b d) 1 0) (oD b d) 1 am) b d mc) (if 0 ≤ am then am else -am) mc).1 7 i_))) = (mU (shZ (adW (u1 (u1 (u1 z (oD b d) 2 (bx_sum (fun m => z.1 (oPt b m) d) mc)) (oD b d) 1 0) (oD b d) 1 am) b d mc) (if 0 ≤ am then am else -am) mc) b 4 (fun m => (shZ (adW (u1 (u1 (u1 z (oD b d) 2 (bx_sum (fun m => z.1 (oPt b m) d) mc)) (oD b d) 1 0) (oD b d) 1 am) b d mc) (if 0 ≤ am then am else -am) mc).1 (oM b m) 4 + (if 0 ≤ am then (shZ (adW (u1 (u1 (u1 z (oD b d) 2 (bx_sum (fun m => z.1 (oPt b m) d) mc)) (oD b d) 1 0) (oD b d) 1 am) b d mc) (if 0 ≤ am then am else -am) mc).1 7 m else -(shZ (adW (u1 (u1 (u1 z (oD b d) 2 (bx_sum (fun m => z.1 (oPt b m) d) mc)) (oD b d) 1 0) (oD b d) 1 am) b d mc) (if 0 ≤ am then am else -am) mc).1 7 m)) (i_ + 1)) from mU_s] at hR
                exact ih_113 (i_ + 1) (by omega) (by omega) _ _ _ hR hS (lv_sub hl [2, 3, 4, 5, 0] rfl)
              · skip
                have hs_ : (if 0 ≤ am then (shZ (adW (u1 (u1 (u1 z (oD b d) 2 (bx_sum (fun m => z.1 (oPt b m) d) mc)) (oD b d) 1 0) (oD b d) 1 am) b d mc) (if 0 ≤ am then am else -am) mc).1 7 i_ else -(shZ (adW (u1 (u1 (u1 z (oD b d) 2 (bx_sum (fun m => z.1 (oPt b m) d) mc)) (oD b d) 1 0) (oD b d) 1 am) b d mc) (if 0 ≤ am then am else -am) mc).1 7 i_) = _ := if_neg c_17
                refine lv_iload hx hcb dX1_allocate_148 (lv_at hl 0 rfl) ?_
                refine lv_ineg hx hcb dX1_allocate_150 ?_
                refine lv_goto (tgt := 156) hx hcb dX1_allocate_151 (by decide) ?_
                refine x_top (show (-((shZ (adW (u1 (u1 (u1 z (oD b d) 2 (bx_sum (fun m => z.1 (oPt b m) d) mc)) (oD b d) 1 0) (oD b d) 1 am) b d mc) (if 0 ≤ am then am else -am) mc).1 7 i_)) = (if 0 ≤ am then (shZ (adW (u1 (u1 (u1 z (oD b d) 2 (bx_sum (fun m => z.1 (oPt b m) d) mc)) (oD b d) 1 0) (oD b d) 1 am) b d mc) (if 0 ≤ am then am else -am) mc).1 7 i_ else -(shZ (adW (u1 (u1 (u1 z (oD b d) 2 (bx_sum (fun m => z.1 (oPt b m) d) mc)) (oD b d) 1 0) (oD b d) 1 am) b d mc) (if 0 ≤ am then am else -am) mc).1 7 i_) from hs_.symm) ?_
                refine lv_iadd hx hcb dX1_allocate_156 ?_
                refine x_putI hx hcb hts hown hK xc5 hR hS (hoM hw hb hk_139) (hsM hw hk_139) 4 (by decide) rfl q_189 rfl (v := (((shZ (adW (u1 (u1 (u1 z (oD b d) 2 (bx_sum (fun m => z.1 (oPt b m) d) mc)) (oD b d) 1 0) (oD b d) 1 am) b d mc) (if 0 ≤ am then am else -am) mc).1 (oM b i_) 4) + (if 0 ≤ am then (shZ (adW (u1 (u1 (u1 z (oD b d) 2 (bx_sum (fun m => z.1 (oPt b m) d) mc)) (oD b d) 1 0) (oD b d) 1 am) b d mc) (if 0 ≤ am then am else -am) mc).1 7 i_ else -(shZ (adW (u1 (u1 (u1 z (oD b d) 2 (bx_sum (fun m => z.1 (oPt b m) d) mc)) (oD b d) 1 0) (oD b d) 1 am) b d mc) (if 0 ≤ am then am else -am) mc).1 7 i_))) rfl rfl dX1_allocate_157 (fun H locs hR hS => ?_)
                refine lv_iinc (v := (nI (i_ + 1))) (lv' := [(5, .int (nI (i_ + 1))), (6, .int ((shZ (adW (u1 (u1 (u1 z (oD b d) 2 (bx_sum (fun m => z.1 (oPt b m) d) mc)) (oD b d) 1 0) (oD b d) 1 am) b d mc) (if 0 ≤ am then am else -am) mc).1 7 i_)), (0, .ref (w.2.2 4)), (1, .ref (w.2.2 (oB b))), (2, .int (nI d)), (3, .int am)]) hx hcb dX1_allocate_160 hl (k := 5) rfl (x_iinc1 _) (by decide) rfl (fun ls hl => ?_)
                refine lv_goto (tgt := 113) hx hcb dX1_allocate_163 (by decide) ?_
                rw [show (u1 (mU (shZ (adW (u1 (u1 (u1 z (oD b d) 2 (bx_sum (fun m => z.1 (oPt b m) d) mc)) (oD b d) 1 0) (oD b d) 1 am) b d mc) (if 0 ≤ am then am else -am) mc) b 4 (fun m => (shZ (adW (u1 (u1 (u1 z (oD b d) 2 (bx_sum (fun m => z.1 (oPt b m) d) mc)) (oD b d) 1 0) (oD b d) 1 am) b d mc) (if 0 ≤ am then am else -am) mc).1 (oM b m) 4 + (if 0 ≤ am then (shZ (adW (u1 (u1 (u1 z (oD b d) 2 (bx_sum (fun m => z.1 (oPt b m) d) mc)) (oD b d) 1 0) (oD b d) 1 am) b d mc) (if 0 ≤ am then am else -am) mc).1 7 m else -(shZ (adW (u1 (u1 (u1 z (oD b d) 2 (bx_sum (fun m => z.1 (oPt b m) d) mc)) (oD b d) 1 0) (oD b d) 1 am) b d mc) (if 0 ≤ am then am else -am) mc).1 7 m)) i_) (oM b i_) 4 (((shZ (adW (u1 (u1 (u1 z (oD b d) 2 (bx_sum (fun m => z.1 (oPt b m) d) mc)) (oD b d) 1 0) (oD b d) 1 am) b d mc) (if 0 ≤ am then am else -am) mc).1 (oM b i_) 4) + (if 0 ≤ am then (shZ (adW (u1 (u1 (u1 z (oD b d) 2 (bx_sum (fun m => z.1 (oPt b m) d) mc)) (oD b d) 1 0) (oD b d) 1 am) b d mc) (if 0 ≤ am then am else -am) mc).1 7 i_ else -(shZ (adW (u1 (u1 (u1 z (oD b d) 2 (bx_sum (fun m => z.1 (oPt b m) d) mc)) (oD b d) 1 0) (oD b d) 1 am) b d mc) (if 0 ≤ am then am else -am) mc).1 7 i_))) = (mU (shZ (adW (u1 (u1 (u1 z (oD b d) 2 (bx_sum (fun m => z.1 (oPt b m) d) mc)) (oD b d) 1 0) (oD b d) 1 am) b d mc) (if 0 ≤ am then am else -am) mc) b 4 (fun m => (shZ (adW (u1 (u1 (u1 z (oD b d) 2 (bx_sum (fun m => z.1 (oPt b m) d) mc)) (oD b d) 1 0) (oD b d) 1 am) b d mc) (if 0 ≤ am then am else -am) mc).1 (oM b m) 4 + (if 0 ≤ am then (shZ (adW (u1 (u1 (u1 z (oD b d) 2 (bx_sum (fun m => z.1 (oPt b m) d) mc)) (oD b d) 1 0) (oD b d) 1 am) b d mc) (if 0 ≤ am then am else -am) mc).1 7 m else -(shZ (adW (u1 (u1 (u1 z (oD b d) 2 (bx_sum (fun m => z.1 (oPt b m) d) mc)) (oD b d) 1 0) (oD b d) 1 am) b d mc) (if 0 ≤ am then am else -am) mc).1 7 m)) (i_ + 1)) from mU_s] at hR
                exact ih_113 (i_ + 1) (by omega) (by omega) _ _ _ hR hS (lv_sub hl [2, 3, 4, 5, 0] rfl)
        · skip
          have hp_ := c_9
          have hab_ : (if 0 ≤ am then am else -am) = -am := if_neg hp_
          refine lv_iload_n hx hcb dX1_allocate_101 rfl (lv_at hl 3 rfl) ?_
          refine lv_ineg hx hcb dX1_allocate_102 ?_
          refine lv_goto (tgt := 107) hx hcb dX1_allocate_103 (by decide) ?_
          refine x_top (show (-am) = (if 0 ≤ am then am else -am) from hab_.symm) ?_
          refine x_cv0 rfl rfl (x_runV hx hcb hml hown hts (c_X7_share l G w K hw (adW (u1 (u1 (u1 z (oD b d) 2 (bx_sum (fun m => z.1 (oPt b m) d) mc)) (oD b d) 1 0) (oD b d) 1 am) b d mc) _ (if 0 ≤ am then am else -am) mc adW_n (by omega)) mv_X7_share q_599 hK hZ hR hS (hw.lo (by decide)) xc7 (hw.s0 (by decide) rfl) rfl hl.1 rfl (Nat.le_of_ble_eq_true rfl) dX1_allocate_107 ⟨by decide, by decide⟩ ⟨by decide, by decide⟩) hS (fun z_19 H locs hp_20 hR hS => ?_)
          rw [hp_20] at hR
          refine lv_iconst (v := (nI 0)) hx hcb dX1_allocate_110 (by decide) ?_
          refine lv_istore (lv' := [(5, .int (nI 0)), (0, .ref (w.2.2 4)), (1, .ref (w.2.2 (oB b))), (2, .int (nI d)), (3, .int am)]) hx hcb dX1_allocate_111 hl (by decide) rfl (fun ls hl => ?_)
          rw [show (shZ (adW (u1 (u1 (u1 z (oD b d) 2 (bx_sum (fun m => z.1 (oPt b m) d) mc)) (oD b d) 1 0) (oD b d) 1 am) b d mc) (if 0 ≤ am then am else -am) mc) = mU (shZ (adW (u1 (u1 (u1 z (oD b d) 2 (bx_sum (fun m => z.1 (oPt b m) d) mc)) (oD b d) 1 0) (oD b d) 1 am) b d mc) (if 0 ≤ am then am else -am) mc) b 4 (fun m => (shZ (adW (u1 (u1 (u1 z (oD b d) 2 (bx_sum (fun m => z.1 (oPt b m) d) mc)) (oD b d) 1 0) (oD b d) 1 am) b d mc) (if 0 ≤ am then am else -am) mc).1 (oM b m) 4 + (if 0 ≤ am then (shZ (adW (u1 (u1 (u1 z (oD b d) 2 (bx_sum (fun m => z.1 (oPt b m) d) mc)) (oD b d) 1 0) (oD b d) 1 am) b d mc) (if 0 ≤ am then am else -am) mc).1 7 m else -(shZ (adW (u1 (u1 (u1 z (oD b d) 2 (bx_sum (fun m => z.1 (oPt b m) d) mc)) (oD b d) 1 0) (oD b d) 1 am) b d mc) (if 0 ≤ am then am else -am) mc).1 7 m)) 0 from (mU_0 ..).symm] at hR
          suffices LP_113 : ∀ (nn : Nat) (i_ : Nat) (_ : mc - i_ < nn) (hi_ : i_ ≤ mc) (H : Heap) (locs : List Loc) (ls : Array Slot), Rh G w (mU (shZ (adW (u1 (u1 (u1 z (oD b d) 2 (bx_sum (fun m => z.1 (oPt b m) d) mc)) (oD b d) 1 0) (oD b d) 1 am) b d mc) (if 0 ≤ am then am else -am) mc) b 4 (fun m => (shZ (adW (u1 (u1 (u1 z (oD b d) 2 (bx_sum (fun m => z.1 (oPt b m) d) mc)) (oD b d) 1 0) (oD b d) 1 am) b d mc) (if 0 ≤ am then am else -am) mc).1 (oM b m) 4 + (if 0 ≤ am then (shZ (adW (u1 (u1 (u1 z (oD b d) 2 (bx_sum (fun m => z.1 (oPt b m) d) mc)) (oD b d) 1 0) (oD b d) 1 am) b d mc) (if 0 ≤ am then am else -am) mc).1 7 m else -(shZ (adW (u1 (u1 (u1 z (oD b d) 2 (bx_sum (fun m => z.1 (oPt b m) d) mc)) (oD b d) 1 0) (oD b d) 1 am) b d mc) (if 0 ≤ am then am else -am) mc).1 7 m)) i_) H → va_S (xA w s.heap.size) s.heap H locs → lv_has ls 7 [(0, .ref (w.2.2 4)), (1, .ref (w.2.2 (oB b))), (2, .int (nI d)), (3, .int am), (5, .int (nI i_))] → W p l e rm_X1_allocate s mt args below meth c H locs 0 0 Q (F0 mt 113 ls []) from LP_113 ((_) + 1) 0 (Nat.lt_succ_self _) (by omega) _ _ _ hR hS (lv_sub hl [1, 2, 3, 4, 0] rfl)
          intro nn
          induction nn with
          | zero => intro i_ hm_ ; exact absurd hm_ (Nat.not_lt_zero _)
          | succ nn ih_113 =>
            intro i_ hm_113 hi_ H locs ls hR hS hl
            refine lv_iload hx hcb dX1_allocate_113 (lv_at hl 4 rfl) ?_
            refine lv_aload_n hx hcb dX1_allocate_115 rfl (lv_at hl 1 rfl) ?_
            refine x_getI hx hcb hts hown hK xc0 hR (hoB hw hb) (hsB hw) 3 (by decide) rfl q_269 dX1_allocate_116 ?_
            refine x_top (show ((mU (shZ (adW (u1 (u1 (u1 z (oD b d) 2 (bx_sum (fun m => z.1 (oPt b m) d) mc)) (oD b d) 1 0) (oD b d) 1 am) b d mc) (if 0 ≤ am then am else -am) mc) b 4 (fun m => (shZ (adW (u1 (u1 (u1 z (oD b d) 2 (bx_sum (fun m => z.1 (oPt b m) d) mc)) (oD b d) 1 0) (oD b d) 1 am) b d mc) (if 0 ≤ am then am else -am) mc).1 (oM b m) 4 + (if 0 ≤ am then (shZ (adW (u1 (u1 (u1 z (oD b d) 2 (bx_sum (fun m => z.1 (oPt b m) d) mc)) (oD b d) 1 0) (oD b d) 1 am) b d mc) (if 0 ≤ am then am else -am) mc).1 7 m else -(shZ (adW (u1 (u1 (u1 z (oD b d) 2 (bx_sum (fun m => z.1 (oPt b m) d) mc)) (oD b d) 1 0) (oD b d) 1 am) b d mc) (if 0 ≤ am then am else -am) mc).1 7 m)) i_).1 (oB b) 3) = (nI mc) from by rw [mU_out (by simp only [oB]; omega), shZ_ne (by simp only [oB]; omega), adW_ne (by simp only [oB]; omega)]; (repeat (first | rw [u1_rd, if_neg (by first | omega | (simp only [oB, oMs, oDs, oSt, oD, oM, oPt, oLf, oKd, oPd]; omega))] | rw [ur_rd, if_neg (by first | omega | (simp only [oB, oMs, oDs, oSt, oD, oM, oPt, oLf, oKd, oPd]; omega))])); exact hmc) ?_
            refine lv_icmp_ge (tgt := 166) hx hcb dX1_allocate_119 (by decide) (fun c_21 => ?_) (fun c_21 => ?_)
            · skip
              have c_21 : mc ≤ i_ := (nI_leI (by omega) (by omega)).mp c_21
              obtain rfl : mc = i_ := by omega
              exact hret (mU (shZ (adW (u1 (u1 (u1 z (oD b d) 2 (bx_sum (fun m => z.1 (oPt b m) d) mc)) (oD b d) 1 0) (oD b d) 1 am) b d mc) (if 0 ≤ am then am else -am) mc) b 4 (fun m => (shZ (adW (u1 (u1 (u1 z (oD b d) 2 (bx_sum (fun m => z.1 (oPt b m) d) mc)) (oD b d) 1 0) (oD b d) 1 am) b d mc) (if 0 ≤ am then am else -am) mc).1 (oM b m) 4 + (if 0 ≤ am then (shZ (adW (u1 (u1 (u1 z (oD b d) 2 (bx_sum (fun m => z.1 (oPt b m) d) mc)) (oD b d) 1 0) (oD b d) 1 am) b d mc) (if 0 ≤ am then am else -am) mc).1 7 m else -(shZ (adW (u1 (u1 (u1 z (oD b d) 2 (bx_sum (fun m => z.1 (oPt b m) d) mc)) (oD b d) 1 0) (oD b d) 1 am) b d mc) (if 0 ≤ am then am else -am) mc).1 7 m)) mc) _ _ _ _ dX1_allocate_166 hR hS (by unfold aloc; rw [if_neg hB_])
            · skip
              have c_21 : ¬ mc ≤ i_ := fun h_ => c_21 ((nI_leI (by omega) (by omega)).mpr h_)
              refine lv_aload_n hx hcb dX1_allocate_122 rfl (lv_at hl 0 rfl) ?_
              refine x_getR hx hcb hts hown hK xc1 hR (hw.lo (by decide)) (hw.s0 (by decide) rfl) 0 (by decide) rfl q_129 dX1_allocate_123 ?_
              refine lv_iload hx hcb dX1_allocate_126 (lv_at hl 4 rfl) ?_
              refine x_ci0 rfl rfl (x_runV hx hcb hml hown hts (c_X7_shareAt l G w K hw (mU (shZ (adW (u1 (u1 (u1 z (oD b d) 2 (bx_sum (fun m => z.1 (oPt b m) d) mc)) (oD b d) 1 0) (oD b d) 1 am) b d mc) (if 0 ≤ am then am else -am) mc) b 4 (fun m => (shZ (adW (u1 (u1 (u1 z (oD b d) 2 (bx_sum (fun m => z.1 (oPt b m) d) mc)) (oD b d) 1 0) (oD b d) 1 am) b d mc) (if 0 ≤ am then am else -am) mc).1 (oM b m) 4 + (if 0 ≤ am then (shZ (adW (u1 (u1 (u1 z (oD b d) 2 (bx_sum (fun m => z.1 (oPt b m) d) mc)) (oD b d) 1 0) (oD b d) 1 am) b d mc) (if 0 ≤ am then am else -am) mc).1 7 m else -(shZ (adW (u1 (u1 (u1 z (oD b d) 2 (bx_sum (fun m => z.1 (oPt b m) d) mc)) (oD b d) 1 0) (oD b d) 1 am) b d mc) (if 0 ≤ am then am else -am) mc).1 7 m)) i_) _ i_ mc (by rw [mU_out (by omega), shZ_ne (by omega)]; exact adW_n) (by omega) (by omega)) mv_X7_shareAt q_604 hK hZ hR hS (hw.lo (by decide)) xc7 (hw.s0 (by decide) rfl) rfl hl.1 rfl (Nat.le_of_ble_eq_true rfl) dX1_allocate_128 ⟨by decide, by decide⟩ ⟨by decide, by decide⟩) hS (fun r_22 z_23 H locs hp_24 hR hS => ?_)
              rw [hp_24.2] at hR; rw [hp_24.1]
              refine x_top (show (if i_ < mc then (mU (shZ (adW (u1 (u1 (u1 z (oD b d) 2 (bx_sum (fun m => z.1 (oPt b m) d) mc)) (oD b d) 1 0) (oD b d) 1 am) b d mc) (if 0 ≤ am then am else -am) mc) b 4 (fun m => (shZ (adW (u1 (u1 (u1 z (oD b d) 2 (bx_sum (fun m => z.1 (oPt b m) d) mc)) (oD b d) 1 0) (oD b d) 1 am) b d mc) (if 0 ≤ am then am else -am) mc).1 (oM b m) 4 + (if 0 ≤ am then (shZ (adW (u1 (u1 (u1 z (oD b d) 2 (bx_sum (fun m => z.1 (oPt b m) d) mc)) (oD b d) 1 0) (oD b d) 1 am) b d mc) (if 0 ≤ am then am else -am) mc).1 7 m else -(shZ (adW (u1 (u1 (u1 z (oD b d) 2 (bx_sum (fun m => z.1 (oPt b m) d) mc)) (oD b d) 1 0) (oD b d) 1 am) b d mc) (if 0 ≤ am then am else -am) mc).1 7 m)) i_).1 7 i_ else 0) = ((shZ (adW (u1 (u1 (u1 z (oD b d) 2 (bx_sum (fun m => z.1 (oPt b m) d) mc)) (oD b d) 1 0) (oD b d) 1 am) b d mc) (if 0 ≤ am then am else -am) mc).1 7 i_) from by rw [if_pos (show i_ < mc by omega), mU_out (by omega)]) ?_
              refine lv_istore (lv' := [(6, .int ((shZ (adW (u1 (u1 (u1 z (oD b d) 2 (bx_sum (fun m => z.1 (oPt b m) d) mc)) (oD b d) 1 0) (oD b d) 1 am) b d mc) (if 0 ≤ am then am else -am) mc).1 7 i_)), (0, .ref (w.2.2 4)), (1, .ref (w.2.2 (oB b))), (2, .int (nI d)), (3, .int am), (5, .int (nI i_))]) hx hcb dX1_allocate_131 hl (by decide) rfl (fun ls hl => ?_)
              refine lv_aload_n hx hcb dX1_allocate_133 rfl (lv_at hl 2 rfl) ?_
              refine x_getR hx hcb hts hown hK xc0 hR (hoB hw hb) (hsB hw) 0 (by decide) rfl q_256 dX1_allocate_134 ?_
              refine lv_iload hx hcb dX1_allocate_137 (lv_at hl 5 rfl) ?_
              have hk_139 : i_ < 8 := (by omega)
              refine x_aald hx hcb hK hR (hoMs hw hb) (hsMs hw) rfl (oMs_at hk_139) (Nat.lt_of_lt_of_le (Nat.lt_succ_self _) (Nat.le_of_ble_eq_true rfl)) dX1_allocate_139 ?_
              refine lv_dup hx hcb dX1_allocate_140 rfl ?_
              refine x_getI hx hcb hts hown hK xc5 hR (hoM hw hb hk_139) (hsM hw hk_139) 4 (by decide) rfl q_189 dX1_allocate_141 ?_
              refine x_top (show ((mU (shZ (adW (u1 (u1 (u1 z (oD b d) 2 (bx_sum (fun m => z.1 (oPt b m) d) mc)) (oD b d) 1 0) (oD b d) 1 am) b d mc) (if 0 ≤ am then am else -am) mc) b 4 (fun m => (shZ (adW (u1 (u1 (u1 z (oD b d) 2 (bx_sum (fun m => z.1 (oPt b m) d) mc)) (oD b d) 1 0) (oD b d) 1 am) b d mc) (if 0 ≤ am then am else -am) mc).1 (oM b m) 4 + (if 0 ≤ am then (shZ (adW (u1 (u1 (u1 z (oD b d) 2 (bx_sum (fun m => z.1 (oPt b m) d) mc)) (oD b d) 1 0) (oD b d) 1 am) b d mc) (if 0 ≤ am then am else -am) mc).1 7 m else -(shZ (adW (u1 (u1 (u1 z (oD b d) 2 (bx_sum (fun m => z.1 (oPt b m) d) mc)) (oD b d) 1 0) (oD b d) 1 am) b d mc) (if 0 ≤ am then am else -am) mc).1 7 m)) i_).1 (oM b i_) 4) = ((shZ (adW (u1 (u1 (u1 z (oD b d) 2 (bx_sum (fun m => z.1 (oPt b m) d) mc)) (oD b d) 1 0) (oD b d) 1 am) b d mc) (if 0 ≤ am then am else -am) mc).1 (oM b i_) 4) from by rw [mU_no (Nat.le_refl i_)]) ?_
              refine lv_iload_n hx hcb dX1_allocate_144 rfl (lv_at hl 4 rfl) ?_
              refine lv_if_ge (tgt := 154) hx hcb dX1_allocate_145 (by decide) (fun c_25 => ?_) (fun c_25 => ?_)
              · skip
                have hs_ : (if 0 ≤ am then (shZ (adW (u1 (u1 (u1 z (oD b d) 2 (bx_sum (fun m => z.1 (oPt b m) d) mc)) (oD b d) 1 0) (oD b d) 1 am) b d mc) (if 0 ≤ am then am else -am) mc).1 7 i_ else -(shZ (adW (u1 (u1 (u1 z (oD b d) 2 (bx_sum (fun m => z.1 (oPt b m) d) mc)) (oD b d) 1 0) (oD b d) 1 am) b d mc) (if 0 ≤ am then am else -am) mc).1 7 i_) = _ := if_pos c_25
                refine lv_iload hx hcb dX1_allocate_154 (lv_at hl 0 rfl) ?_
                refine x_top (show ((shZ (adW (u1 (u1 (u1 z (oD b d) 2 (bx_sum (fun m => z.1 (oPt b m) d) mc)) (oD b d) 1 0) (oD b d) 1 am) b d mc) (if 0 ≤ am then am else -am) mc).1 7 i_) = (if 0 ≤ am then (shZ (adW (u1 (u1 (u1 z (oD b d) 2 (bx_sum (fun m => z.1 (oPt b m) d) mc)) (oD b d) 1 0) (oD b d) 1 am) b d mc) (if 0 ≤ am then am else -am) mc).1 7 i_ else -(shZ (adW (u1 (u1 (u1 z (oD b d) 2 (bx_sum (fun m => z.1 (oPt b m) d) mc)) (oD b d) 1 0) (oD b d) 1 am) b d mc) (if 0 ≤ am then am else -am) mc).1 7 i_) from hs_.symm) ?_
                refine lv_iadd hx hcb dX1_allocate_156 ?_
                refine x_putI hx hcb hts hown hK xc5 hR hS (hoM hw hb hk_139) (hsM hw hk_139) 4 (by decide) rfl q_189 rfl (v := (((shZ (adW (u1 (u1 (u1 z (oD b d) 2 (bx_sum (fun m => z.1 (oPt b m) d) mc)) (oD b d) 1 0) (oD b d) 1 am) b d mc) (if 0 ≤ am then am else -am) mc).1 (oM b i_) 4) + (if 0 ≤ am then (shZ (adW (u1 (u1 (u1 z (oD b d) 2 (bx_sum (fun m => z.1 (oPt b m) d) mc)) (oD b d) 1 0) (oD b d) 1 am) b d mc) (if 0 ≤ am then am else -am) mc).1 7 i_ else -(shZ (adW (u1 (u1 (u1 z (oD b d) 2 (bx_sum (fun m => z.1 (oPt b m) d) mc)) (oD b d) 1 0) (oD b d) 1 am) b d mc) (if 0 ≤ am then am else -am) mc).1 7 i_))) rfl rfl dX1_allocate_157 (fun H locs hR hS => ?_)
                refine lv_iinc (v := (nI (i_ + 1))) (lv' := [(5, .int (nI (i_ + 1))), (6, .int ((shZ (adW (u1 (u1 (u1 z (oD b d) 2 (bx_sum (fun m => z.1 (oPt b m) d) mc)) (oD b d) 1 0) (oD b d) 1 am) b d mc) (if 0 ≤ am then am else -am) mc).1 7 i_)), (0, .ref (w.2.2 4)), (1, .ref (w.2.2 (oB b))), (2, .int (nI d)), (3, .int am)]) hx hcb dX1_allocate_160 hl (k := 5) rfl (x_iinc1 _) (by decide) rfl (fun ls hl => ?_)
                refine lv_goto (tgt := 113) hx hcb dX1_allocate_163 (by decide) ?_
                rw [show (u1 (mU (shZ (adW (u1 (u1 (u1 z (oD b d) 2 (bx_sum (fun m => z.1 (oPt b m) d) mc)) (oD b d) 1 0) (oD b d) 1 am) b d mc) (if 0 ≤ am then am else -am) mc) b 4 (fun m => (shZ (adW (u1 (u1 (u1 z (oD b d) 2 (bx_sum (fun m => z.1 (oPt b m) d) mc)) (oD b d) 1 0) (oD b d) 1 am) b d mc) (if 0 ≤ am then am else -am) mc).1 (oM b m) 4 + (if 0 ≤ am then (shZ (adW (u1 (u1 (u1 z (oD b d) 2 (bx_sum (fun m => z.1 (oPt b m) d) mc)) (oD b d) 1 0) (oD b d) 1 am) b d mc) (if 0 ≤ am then am else -am) mc).1 7 m else -(shZ (adW (u1 (u1 (u1 z (oD b d) 2 (bx_sum (fun m => z.1 (oPt b m) d) mc)) (oD b d) 1 0) (oD b d) 1 am) b d mc) (if 0 ≤ am then am else -am) mc).1 7 m)) i_) (oM b i_) 4 (((shZ (adW (u1 (u1 (u1 z (oD b d) 2 (bx_sum (fun m => z.1 (oPt b m) d) mc)) (oD b d) 1 0) (oD b d) 1 am) b d mc) (if 0 ≤ am then am else -am) mc).1 (oM b i_) 4) + (if 0 ≤ am then (shZ (adW (u1 (u1 (u1 z (oD b d) 2 (bx_sum (fun m => z.1 (oPt b m) d) mc)) (oD b d) 1 0) (oD b d) 1 am) b d mc) (if 0 ≤ am then am else -am) mc).1 7 i_ else -(shZ (adW (u1 (u1 (u1 z (oD b d) 2 (bx_sum (fun m => z.1 (oPt b m) d) mc)) (oD b d) 1 0) (oD b d) 1 am) b d mc) (if 0 ≤ am then am else -am) mc).1 7 i_))) = (mU (shZ (adW (u1 (u1 (u1 z (oD b d) 2 (bx_sum (fun m => z.1 (oPt b m) d) mc)) (oD b d) 1 0) (oD b d) 1 am) b d mc) (if 0 ≤ am then am else -am) mc) b 4 (fun m => (shZ (adW (u1 (u1 (u1 z (oD b d) 2 (bx_sum (fun m => z.1 (oPt b m) d) mc)) (oD b d) 1 0) (oD b d) 1 am) b d mc) (if 0 ≤ am then am else -am) mc).1 (oM b m) 4 + (if 0 ≤ am then (shZ (adW (u1 (u1 (u1 z (oD b d) 2 (bx_sum (fun m => z.1 (oPt b m) d) mc)) (oD b d) 1 0) (oD b d) 1 am) b d mc) (if 0 ≤ am then am else -am) mc).1 7 m else -(shZ (adW (u1 (u1 (u1 z (oD b d) 2 (bx_sum (fun m => z.1 (oPt b m) d) mc)) (oD b d) 1 0) (oD b d) 1 am) b d mc) (if 0 ≤ am then am else -am) mc).1 7 m)) (i_ + 1)) from mU_s] at hR
                exact ih_113 (i_ + 1) (by omega) (by omega) _ _ _ hR hS (lv_sub hl [2, 3, 4, 5, 0] rfl)
              · skip
                have hs_ : (if 0 ≤ am then (shZ (adW (u1 (u1 (u1 z (oD b d) 2 (bx_sum (fun m => z.1 (oPt b m) d) mc)) (oD b d) 1 0) (oD b d) 1 am) b d mc) (if 0 ≤ am then am else -am) mc).1 7 i_ else -(shZ (adW (u1 (u1 (u1 z (oD b d) 2 (bx_sum (fun m => z.1 (oPt b m) d) mc)) (oD b d) 1 0) (oD b d) 1 am) b d mc) (if 0 ≤ am then am else -am) mc).1 7 i_) = _ := if_neg c_25
                refine lv_iload hx hcb dX1_allocate_148 (lv_at hl 0 rfl) ?_
                refine lv_ineg hx hcb dX1_allocate_150 ?_
                refine lv_goto (tgt := 156) hx hcb dX1_allocate_151 (by decide) ?_
                refine x_top (show (-((shZ (adW (u1 (u1 (u1 z (oD b d) 2 (bx_sum (fun m => z.1 (oPt b m) d) mc)) (oD b d) 1 0) (oD b d) 1 am) b d mc) (if 0 ≤ am then am else -am) mc).1 7 i_)) = (if 0 ≤ am then (shZ (adW (u1 (u1 (u1 z (oD b d) 2 (bx_sum (fun m => z.1 (oPt b m) d) mc)) (oD b d) 1 0) (oD b d) 1 am) b d mc) (if 0 ≤ am then am else -am) mc).1 7 i_ else -(shZ (adW (u1 (u1 (u1 z (oD b d) 2 (bx_sum (fun m => z.1 (oPt b m) d) mc)) (oD b d) 1 0) (oD b d) 1 am) b d mc) (if 0 ≤ am then am else -am) mc).1 7 i_) from hs_.symm) ?_
                refine lv_iadd hx hcb dX1_allocate_156 ?_
                refine x_putI hx hcb hts hown hK xc5 hR hS (hoM hw hb hk_139) (hsM hw hk_139) 4 (by decide) rfl q_189 rfl (v := (((shZ (adW (u1 (u1 (u1 z (oD b d) 2 (bx_sum (fun m => z.1 (oPt b m) d) mc)) (oD b d) 1 0) (oD b d) 1 am) b d mc) (if 0 ≤ am then am else -am) mc).1 (oM b i_) 4) + (if 0 ≤ am then (shZ (adW (u1 (u1 (u1 z (oD b d) 2 (bx_sum (fun m => z.1 (oPt b m) d) mc)) (oD b d) 1 0) (oD b d) 1 am) b d mc) (if 0 ≤ am then am else -am) mc).1 7 i_ else -(shZ (adW (u1 (u1 (u1 z (oD b d) 2 (bx_sum (fun m => z.1 (oPt b m) d) mc)) (oD b d) 1 0) (oD b d) 1 am) b d mc) (if 0 ≤ am then am else -am) mc).1 7 i_))) rfl rfl dX1_allocate_157 (fun H locs hR hS => ?_)
                refine lv_iinc (v := (nI (i_ + 1))) (lv' := [(5, .int (nI (i_ + 1))), (6, .int ((shZ (adW (u1 (u1 (u1 z (oD b d) 2 (bx_sum (fun m => z.1 (oPt b m) d) mc)) (oD b d) 1 0) (oD b d) 1 am) b d mc) (if 0 ≤ am then am else -am) mc).1 7 i_)), (0, .ref (w.2.2 4)), (1, .ref (w.2.2 (oB b))), (2, .int (nI d)), (3, .int am)]) hx hcb dX1_allocate_160 hl (k := 5) rfl (x_iinc1 _) (by decide) rfl (fun ls hl => ?_)
                refine lv_goto (tgt := 113) hx hcb dX1_allocate_163 (by decide) ?_
                rw [show (u1 (mU (shZ (adW (u1 (u1 (u1 z (oD b d) 2 (bx_sum (fun m => z.1 (oPt b m) d) mc)) (oD b d) 1 0) (oD b d) 1 am) b d mc) (if 0 ≤ am then am else -am) mc) b 4 (fun m => (shZ (adW (u1 (u1 (u1 z (oD b d) 2 (bx_sum (fun m => z.1 (oPt b m) d) mc)) (oD b d) 1 0) (oD b d) 1 am) b d mc) (if 0 ≤ am then am else -am) mc).1 (oM b m) 4 + (if 0 ≤ am then (shZ (adW (u1 (u1 (u1 z (oD b d) 2 (bx_sum (fun m => z.1 (oPt b m) d) mc)) (oD b d) 1 0) (oD b d) 1 am) b d mc) (if 0 ≤ am then am else -am) mc).1 7 m else -(shZ (adW (u1 (u1 (u1 z (oD b d) 2 (bx_sum (fun m => z.1 (oPt b m) d) mc)) (oD b d) 1 0) (oD b d) 1 am) b d mc) (if 0 ≤ am then am else -am) mc).1 7 m)) i_) (oM b i_) 4 (((shZ (adW (u1 (u1 (u1 z (oD b d) 2 (bx_sum (fun m => z.1 (oPt b m) d) mc)) (oD b d) 1 0) (oD b d) 1 am) b d mc) (if 0 ≤ am then am else -am) mc).1 (oM b i_) 4) + (if 0 ≤ am then (shZ (adW (u1 (u1 (u1 z (oD b d) 2 (bx_sum (fun m => z.1 (oPt b m) d) mc)) (oD b d) 1 0) (oD b d) 1 am) b d mc) (if 0 ≤ am then am else -am) mc).1 7 i_ else -(shZ (adW (u1 (u1 (u1 z (oD b d) 2 (bx_sum (fun m => z.1 (oPt b m) d) mc)) (oD b d) 1 0) (oD b d) 1 am) b d mc) (if 0 ≤ am then am else -am) mc).1 7 i_))) = (mU (shZ (adW (u1 (u1 (u1 z (oD b d) 2 (bx_sum (fun m => z.1 (oPt b m) d) mc)) (oD b d) 1 0) (oD b d) 1 am) b d mc) (if 0 ≤ am then am else -am) mc) b 4 (fun m => (shZ (adW (u1 (u1 (u1 z (oD b d) 2 (bx_sum (fun m => z.1 (oPt b m) d) mc)) (oD b d) 1 0) (oD b d) 1 am) b d mc) (if 0 ≤ am then am else -am) mc).1 (oM b m) 4 + (if 0 ≤ am then (shZ (adW (u1 (u1 (u1 z (oD b d) 2 (bx_sum (fun m => z.1 (oPt b m) d) mc)) (oD b d) 1 0) (oD b d) 1 am) b d mc) (if 0 ≤ am then am else -am) mc).1 7 m else -(shZ (adW (u1 (u1 (u1 z (oD b d) 2 (bx_sum (fun m => z.1 (oPt b m) d) mc)) (oD b d) 1 0) (oD b d) 1 am) b d mc) (if 0 ≤ am then am else -am) mc).1 7 m)) (i_ + 1)) from mU_s] at hR
                exact ih_113 (i_ + 1) (by omega) (by omega) _ _ _ hR hS (lv_sub hl [2, 3, 4, 5, 0] rfl)
      · skip
        have c_8 : ¬ mc ≤ i_ := fun h_ => c_8 ((nI_leI (by omega) (by omega)).mpr h_)
        refine lv_aload_n hx hcb dX1_allocate_68 rfl (lv_at hl 0 rfl) ?_
        refine x_getR hx hcb hts hown hK xc1 hR (hw.lo (by decide)) (hw.s0 (by decide) rfl) 0 (by decide) rfl q_129 dX1_allocate_69 ?_
        refine lv_aload_n hx hcb dX1_allocate_72 rfl (lv_at hl 1 rfl) ?_
        refine x_getR hx hcb hts hown hK xc0 hR (hoB hw hb) (hsB hw) 0 (by decide) rfl q_256 dX1_allocate_73 ?_
        refine lv_iload hx hcb dX1_allocate_76 (lv_at hl 4 rfl) ?_
        have hk_78 : i_ < 8 := (by omega)
        refine x_aald hx hcb hK hR (hoMs hw hb) (hsMs hw) rfl (oMs_at hk_78) (Nat.lt_of_lt_of_le (Nat.lt_succ_self _) (Nat.le_of_ble_eq_true rfl)) dX1_allocate_78 ?_
        refine x_getR hx hcb hts hown hK xc5 hR (hoM hw hb hk_78) (hsM hw hk_78) 6 (by decide) rfl q_196 dX1_allocate_79 ?_
        refine lv_iload_n hx hcb dX1_allocate_82 rfl (lv_at hl 2 rfl) ?_
        refine x_iald hx hcb hK hR (hoPt hw hb hk_78) (hsPt hw hk_78) (k := d) (by omega) (by decide) dX1_allocate_83 ?_
        refine x_top (show ((adW (u1 (u1 (u1 z (oD b d) 2 (bx_sum (fun m => z.1 (oPt b m) d) mc)) (oD b d) 1 0) (oD b d) 1 am) b d i_).1 (oPt b i_) d) = ((u1 (u1 (u1 z (oD b d) 2 (bx_sum (fun m => z.1 (oPt b m) d) mc)) (oD b d) 1 0) (oD b d) 1 am).1 (oPt b i_) d) from by rw [adW_ne (by simp only [oPt]; omega)]) ?_
        refine x_cv0 rfl rfl (x_runV hx hcb hml hown hts (c_X7_add l G w K hw (adW (u1 (u1 (u1 z (oD b d) 2 (bx_sum (fun m => z.1 (oPt b m) d) mc)) (oD b d) 1 0) (oD b d) 1 am) b d i_) _ ((u1 (u1 (u1 z (oD b d) 2 (bx_sum (fun m => z.1 (oPt b m) d) mc)) (oD b d) 1 0) (oD b d) 1 am).1 (oPt b i_) d) i_ adW_n (by omega)) mv_X7_add q_595 hK hZ hR hS (hw.lo (by decide)) xc7 (hw.s0 (by decide) rfl) rfl hl.1 rfl (Nat.le_of_ble_eq_true rfl) dX1_allocate_84 ⟨by decide, by decide⟩ ⟨by decide, by decide⟩) hS (fun z_27 H locs hp_28 hR hS => ?_)
        rw [hp_28] at hR
        refine lv_iinc (v := (nI (i_ + 1))) (lv' := [(5, .int (nI (i_ + 1))), (0, .ref (w.2.2 4)), (1, .ref (w.2.2 (oB b))), (2, .int (nI d)), (3, .int am)]) hx hcb dX1_allocate_87 hl (k := 4) rfl (x_iinc1 _) (by decide) rfl (fun ls hl => ?_)
        refine lv_goto (tgt := 59) hx hcb dX1_allocate_90 (by decide) ?_
        rw [show (u1 (u1 (u1 (adW (u1 (u1 (u1 z (oD b d) 2 (bx_sum (fun m => z.1 (oPt b m) d) mc)) (oD b d) 1 0) (oD b d) 1 am) b d i_) 6 i_ ((u1 (u1 (u1 z (oD b d) 2 (bx_sum (fun m => z.1 (oPt b m) d) mc)) (oD b d) 1 0) (oD b d) 1 am).1 (oPt b i_) d)) 7 i_ 0) 5 3 (nI (i_ + 1))) = (adW (u1 (u1 (u1 z (oD b d) 2 (bx_sum (fun m => z.1 (oPt b m) d) mc)) (oD b d) 1 0) (oD b d) 1 am) b d (i_ + 1)) from adW_s ..] at hR
        exact ih_59 (i_ + 1) (by omega) (by omega) _ _ _ hR hS (lv_sub hl [1, 2, 3, 4, 0] rfl)
  · skip
    have hB_ := c_4
    refine lv_aload_n hx hcb dX1_allocate_32 rfl (lv_at hl 2 rfl) ?_
    refine lv_dup hx hcb dX1_allocate_33 rfl ?_
    refine x_getI hx hcb hts hown hK xc0 hR (hoB hw hb) (hsB hw) 6 (by decide) rfl q_282 dX1_allocate_34 ?_
    refine x_top (show ((u1 (u1 z (oD b d) 2 (bx_sum (fun m => z.1 (oPt b m) d) mc)) (oD b d) 1 0).1 (oB b) 6) = (z.1 (oB b) 6) from by repeat (first | rw [u1_rd, if_neg (by first | omega | (simp only [oB, oMs, oDs, oSt, oD, oM, oPt, oLf, oKd, oPd]; omega))] | rw [ur_rd, if_neg (by first | omega | (simp only [oB, oMs, oDs, oSt, oD, oM, oPt, oLf, oKd, oPd]; omega))] | rw [u1_rd, if_pos (by first | omega | (simp only [oB, oMs, oDs, oSt, oD, oM, oPt, oLf, oKd, oPd]; omega))] | rw [ur_rd, if_pos (by first | omega | (simp only [oB, oMs, oDs, oSt, oD, oM, oPt, oLf, oKd, oPd]; omega))])) ?_
    refine lv_iload_n hx hcb dX1_allocate_37 rfl (lv_at hl 4 rfl) ?_
    refine lv_iadd hx hcb dX1_allocate_38 ?_
    refine x_putI hx hcb hts hown hK xc0 hR hS (hoB hw hb) (hsB hw) 6 (by decide) rfl q_282 rfl (v := ((z.1 (oB b) 6) + am)) rfl rfl dX1_allocate_39 (fun H locs hR hS => ?_)
    exact hret (u1 (u1 (u1 z (oD b d) 2 (bx_sum (fun m => z.1 (oPt b m) d) mc)) (oD b d) 1 0) (oB b) 6 ((z.1 (oB b) 6) + am)) _ _ _ _ dX1_allocate_42 hR hS (by unfold aloc; rw [if_pos hB_])
def rm_X1_settle : Room := { frames := 2, cells := 0, slots := 0, locals := 37 }
set_option maxRecDepth 100000 in
set_option maxHeartbeats 4000000 in
theorem c_X1_settle (l : Launch) (G : xGl) (w : xWd) (K : Nat) (hw : isC K w) (z : xSt) (sz : Nat) (b : Nat) (hb : b < 2 + K) (m : Nat) (hm : m < 8) (yr : Nat) (hyr : z.1 (oB b) 5 = nI yr) (hy25 : yr < 25) : xMv l yX1_settle cX1_settle 5 rm_X1_settle G w z sz [.ref (w.2.2 4), .ref (w.2.2 (oB b)), .ref (w.2.2 (oM b m))] (fun z1 => z1 = setl z b m yr) := by
  refine x_mv (by decide) (Nat.le_of_ble_eq_true rfl) ?_
  intro p e s mt args below meth c ls Q hsz X hR hS hl hret
  obtain ⟨hx, hcb, hml, hown, hts, hlk, hK, hZ⟩ := X
  have hl : lv_has ls 5 [(0, .ref (w.2.2 4)), (1, .ref (w.2.2 (oB b))), (2, .ref (w.2.2 (oM b m)))] := hl
  refine lv_aload_n hx hcb dX1_settle_0 rfl (lv_at hl 2 rfl) ?_
  refine x_getI hx hcb hts hown hK xc5 hR (hoM hw hb hm) (hsM hw hm) 4 (by decide) rfl q_189 dX1_settle_1 ?_
  refine lv_istore_n (lv' := [(3, .int (z.1 (oM b m) 4)), (0, .ref (w.2.2 4)), (1, .ref (w.2.2 (oB b))), (2, .ref (w.2.2 (oM b m)))]) hx hcb dX1_settle_4 rfl hl (by decide) rfl (fun ls hl => ?_)
  refine lv_iload_n hx hcb dX1_settle_5 rfl (lv_at hl 0 rfl) ?_
  refine lv_if_le (tgt := 81) hx hcb dX1_settle_6 (by decide) (fun c_1 => ?_) (fun c_1 => ?_)
  · skip
    have hn0_ := Int32.not_lt.mpr c_1
    refine lv_iload_n hx hcb dX1_settle_81 rfl (lv_at hl 0 rfl) ?_
    refine lv_if_ge (tgt := 124) hx hcb dX1_settle_82 (by decide) (fun c_2 => ?_) (fun c_2 => ?_)
    · skip
      have hn1_ := Int32.not_lt.mpr c_2
      exact hret z _ _ _ _ dX1_settle_124 hR hS (by unfold setl; first | (rw [if_pos hn0_]; done) | (rw [if_neg hn0_, if_neg hn1_]; done) | rw [if_neg hn0_, if_pos hn1_])
    · skip
      have hn1_ := Int32.not_le.mp c_2
      refine lv_aload_n hx hcb dX1_settle_85 rfl (lv_at hl 3 rfl) ?_
      refine lv_aload_n hx hcb dX1_settle_86 rfl (lv_at hl 3 rfl) ?_
      refine lv_iload_n hx hcb dX1_settle_87 rfl (lv_at hl 0 rfl) ?_
      refine lv_ineg hx hcb dX1_settle_88 ?_
      refine x_ci0 rfl rfl (x_runV hx hcb hml hown hts (c_X5_recaptureFrom l G w K hw z _ b m hb hm (-(z.1 (oM b m) 4))) mv_X5_recaptureFrom q_616 hK hZ hR hS (hoM hw hb hm) xc5 (hsM hw hm) rfl hl.1 rfl (Nat.le_of_ble_eq_true rfl) dX1_settle_89 ⟨by decide, by decide⟩ ⟨by decide, by decide⟩) hS (fun r_3 z_4 H locs hp_5 hR hS => ?_)
      rw [hp_5.2] at hR; rw [hp_5.1]
      refine x_putI hx hcb hts hown hK xc5 hR hS (hoM hw hb hm) (hsM hw hm) 5 (by decide) rfl q_193 rfl (v := ((-(z.1 (oM b m) 4)) - (rcp 25 (z.1 (oLf b m)) (-(z.1 (oM b m) 4))).2)) rfl rfl dX1_settle_92 (fun H locs hR hS => ?_)
      refine lv_aload_n hx hcb dX1_settle_95 rfl (lv_at hl 2 rfl) ?_
      refine lv_dup hx hcb dX1_settle_96 rfl ?_
      refine x_getI hx hcb hts hown hK xc0 hR (hoB hw hb) (hsB hw) 8 (by decide) rfl q_288 dX1_settle_97 ?_
      refine x_top (show ((u1 (ur z (oLf b m) (rcp 25 (z.1 (oLf b m)) (-(z.1 (oM b m) 4))).1) (oM b m) 5 ((-(z.1 (oM b m) 4)) - (rcp 25 (z.1 (oLf b m)) (-(z.1 (oM b m) 4))).2)).1 (oB b) 8) = (z.1 (oB b) 8) from by repeat (first | rw [u1_rd, if_neg (by first | omega | (simp only [oB, oMs, oDs, oSt, oD, oM, oPt, oLf, oKd, oPd]; omega))] | rw [ur_rd, if_neg (by first | omega | (simp only [oB, oMs, oDs, oSt, oD, oM, oPt, oLf, oKd, oPd]; omega))])) ?_
      refine lv_aload_n hx hcb dX1_settle_100 rfl (lv_at hl 3 rfl) ?_
      refine x_getI hx hcb hts hown hK xc5 hR (hoM hw hb hm) (hsM hw hm) 5 (by decide) rfl q_193 dX1_settle_101 ?_
      refine x_top (show ((u1 (ur z (oLf b m) (rcp 25 (z.1 (oLf b m)) (-(z.1 (oM b m) 4))).1) (oM b m) 5 ((-(z.1 (oM b m) 4)) - (rcp 25 (z.1 (oLf b m)) (-(z.1 (oM b m) 4))).2)).1 (oM b m) 5) = (-z.1 (oM b m) 4 - (rcp 25 (z.1 (oLf b m)) (-z.1 (oM b m) 4)).2) from by repeat (first | rw [u1_rd, if_neg (by first | omega | (simp only [oB, oMs, oDs, oSt, oD, oM, oPt, oLf, oKd, oPd]; omega))] | rw [ur_rd, if_neg (by first | omega | (simp only [oB, oMs, oDs, oSt, oD, oM, oPt, oLf, oKd, oPd]; omega))] | rw [u1_rd, if_pos (by first | omega | (simp only [oB, oMs, oDs, oSt, oD, oM, oPt, oLf, oKd, oPd]; omega))] | rw [ur_rd, if_pos (by first | omega | (simp only [oB, oMs, oDs, oSt, oD, oM, oPt, oLf, oKd, oPd]; omega))])) ?_
      refine lv_iadd hx hcb dX1_settle_104 ?_
      refine x_putI hx hcb hts hown hK xc0 hR hS (hoB hw hb) (hsB hw) 8 (by decide) rfl q_288 rfl (v := ((z.1 (oB b) 8) + (-z.1 (oM b m) 4 - (rcp 25 (z.1 (oLf b m)) (-z.1 (oM b m) 4)).2))) rfl rfl dX1_settle_105 (fun H locs hR hS => ?_)
      refine lv_aload_n hx hcb dX1_settle_108 rfl (lv_at hl 2 rfl) ?_
      refine lv_dup hx hcb dX1_settle_109 rfl ?_
      refine x_getI hx hcb hts hown hK xc0 hR (hoB hw hb) (hsB hw) 6 (by decide) rfl q_282 dX1_settle_110 ?_
      refine x_top (show ((u1 (u1 (ur z (oLf b m) (rcp 25 (z.1 (oLf b m)) (-(z.1 (oM b m) 4))).1) (oM b m) 5 ((-(z.1 (oM b m) 4)) - (rcp 25 (z.1 (oLf b m)) (-(z.1 (oM b m) 4))).2)) (oB b) 8 ((z.1 (oB b) 8) + (-z.1 (oM b m) 4 - (rcp 25 (z.1 (oLf b m)) (-z.1 (oM b m) 4)).2))).1 (oB b) 6) = (z.1 (oB b) 6) from by repeat (first | rw [u1_rd, if_neg (by first | omega | (simp only [oB, oMs, oDs, oSt, oD, oM, oPt, oLf, oKd, oPd]; omega))] | rw [ur_rd, if_neg (by first | omega | (simp only [oB, oMs, oDs, oSt, oD, oM, oPt, oLf, oKd, oPd]; omega))])) ?_
      refine lv_iload_n hx hcb dX1_settle_113 rfl (lv_at hl 0 rfl) ?_
      refine lv_ineg hx hcb dX1_settle_114 ?_
      refine lv_aload_n hx hcb dX1_settle_115 rfl (lv_at hl 3 rfl) ?_
      refine x_getI hx hcb hts hown hK xc5 hR (hoM hw hb hm) (hsM hw hm) 5 (by decide) rfl q_193 dX1_settle_116 ?_
      refine x_top (show ((u1 (u1 (ur z (oLf b m) (rcp 25 (z.1 (oLf b m)) (-(z.1 (oM b m) 4))).1) (oM b m) 5 ((-(z.1 (oM b m) 4)) - (rcp 25 (z.1 (oLf b m)) (-(z.1 (oM b m) 4))).2)) (oB b) 8 ((z.1 (oB b) 8) + (-z.1 (oM b m) 4 - (rcp 25 (z.1 (oLf b m)) (-z.1 (oM b m) 4)).2))).1 (oM b m) 5) = (-z.1 (oM b m) 4 - (rcp 25 (z.1 (oLf b m)) (-z.1 (oM b m) 4)).2) from by repeat (first | rw [u1_rd, if_neg (by first | omega | (simp only [oB, oMs, oDs, oSt, oD, oM, oPt, oLf, oKd, oPd]; omega))] | rw [ur_rd, if_neg (by first | omega | (simp only [oB, oMs, oDs, oSt, oD, oM, oPt, oLf, oKd, oPd]; omega))] | rw [u1_rd, if_pos (by first | omega | (simp only [oB, oMs, oDs, oSt, oD, oM, oPt, oLf, oKd, oPd]; omega))] | rw [ur_rd, if_pos (by first | omega | (simp only [oB, oMs, oDs, oSt, oD, oM, oPt, oLf, oKd, oPd]; omega))])) ?_
      refine lv_isub hx hcb dX1_settle_119 ?_
      refine lv_isub hx hcb dX1_settle_120 ?_
      refine x_putI hx hcb hts hown hK xc0 hR hS (hoB hw hb) (hsB hw) 6 (by decide) rfl q_282 rfl (v := ((z.1 (oB b) 6) - ((-(z.1 (oM b m) 4)) - (-z.1 (oM b m) 4 - (rcp 25 (z.1 (oLf b m)) (-z.1 (oM b m) 4)).2)))) rfl rfl dX1_settle_121 (fun H locs hR hS => ?_)
      exact hret (u1 (u1 (u1 (ur z (oLf b m) (rcp 25 (z.1 (oLf b m)) (-(z.1 (oM b m) 4))).1) (oM b m) 5 ((-(z.1 (oM b m) 4)) - (rcp 25 (z.1 (oLf b m)) (-(z.1 (oM b m) 4))).2)) (oB b) 8 ((z.1 (oB b) 8) + (-z.1 (oM b m) 4 - (rcp 25 (z.1 (oLf b m)) (-z.1 (oM b m) 4)).2))) (oB b) 6 ((z.1 (oB b) 6) - ((-(z.1 (oM b m) 4)) - (-z.1 (oM b m) 4 - (rcp 25 (z.1 (oLf b m)) (-z.1 (oM b m) 4)).2)))) _ _ _ _ dX1_settle_124 hR hS (by unfold setl; first | (rw [if_pos hn0_]; done) | (rw [if_neg hn0_, if_neg hn1_]; done) | rw [if_neg hn0_, if_pos hn1_])
  · skip
    have hn0_ := Int32.not_le.mp c_1
    refine lv_aload_n hx hcb dX1_settle_9 rfl (lv_at hl 3 rfl) ?_
    refine x_getI hx hcb hts hown hK xc5 hR (hoM hw hb hm) (hsM hw hm) 1 (by decide) rfl q_180 dX1_settle_10 ?_
    refine lv_if_eq (tgt := 30) hx hcb dX1_settle_13 (by decide) (fun c_6 => ?_) (fun c_6 => ?_)
    · skip
      have hc_ := c_6
      refine lv_iconst (v := (nI 0)) hx hcb dX1_settle_30 (by decide) ?_
      refine x_top (show (nI 0) = cashOf z b m from by unfold cashOf; first | (rw [if_pos hc_]; rfl) | (rw [if_neg hc_]; rfl)) ?_
      refine lv_istore (lv' := [(4, .int (cashOf z b m)), (3, .int (z.1 (oM b m) 4)), (0, .ref (w.2.2 4)), (1, .ref (w.2.2 (oB b))), (2, .ref (w.2.2 (oM b m)))]) hx hcb dX1_settle_31 hl (by decide) rfl (fun ls hl => ?_)
      refine lv_aload_n hx hcb dX1_settle_33 rfl (lv_at hl 4 rfl) ?_
      refine x_getR hx hcb hts hown hK xc5 hR (hoM hw hb hm) (hsM hw hm) 9 (by decide) rfl q_207 dX1_settle_34 ?_
      refine lv_iconst (v := (nI 0)) hx hcb dX1_settle_37 (by decide) ?_
      refine lv_dup2_11 hx hcb dX1_settle_38 rfl rfl ?_
      refine x_iald hx hcb hK hR (hoPd hw hb hm) (hsPd hw hm) (k := 0) (by omega) (by decide) dX1_settle_39 ?_
      refine lv_iload hx hcb dX1_settle_40 (lv_at hl 0 rfl) ?_
      refine lv_iadd hx hcb dX1_settle_42 ?_
      refine x_iast hx hcb hK hR hS (hoPd hw hb hm) (hsPd hw hm) (k := 0) (v := ((z.1 (oPd b m) 0) + (cashOf z b m))) (by omega) (by decide) dX1_settle_43 (fun H locs hR hS => ?_)
      refine lv_aload_n hx hcb dX1_settle_44 rfl (lv_at hl 4 rfl) ?_
      refine lv_aload_n hx hcb dX1_settle_45 rfl (lv_at hl 3 rfl) ?_
      refine x_getI hx hcb hts hown hK xc0 hR (hoB hw hb) (hsB hw) 5 (by decide) rfl q_278 dX1_settle_46 ?_
      refine x_top (show ((u1 z (oPd b m) 0 ((z.1 (oPd b m) 0) + (cashOf z b m))).1 (oB b) 5) = (nI yr) from by (repeat (first | rw [u1_rd, if_neg (by first | omega | (simp only [oB, oMs, oDs, oSt, oD, oM, oPt, oLf, oKd, oPd]; omega))] | rw [ur_rd, if_neg (by first | omega | (simp only [oB, oMs, oDs, oSt, oD, oM, oPt, oLf, oKd, oPd]; omega))])); exact hyr) ?_
      refine lv_iload_n hx hcb dX1_settle_49 rfl (lv_at hl 1 rfl) ?_
      refine lv_iload hx hcb dX1_settle_50 (lv_at hl 0 rfl) ?_
      refine lv_isub hx hcb dX1_settle_52 ?_
      refine lv_aload_n hx hcb dX1_settle_53 rfl (lv_at hl 4 rfl) ?_
      refine x_getI hx hcb hts hown hK xc5 hR (hoM hw hb hm) (hsM hw hm) 1 (by decide) rfl q_180 dX1_settle_54 ?_
      refine x_top (show ((u1 z (oPd b m) 0 ((z.1 (oPd b m) 0) + (cashOf z b m))).1 (oM b m) 1) = (z.1 (oM b m) 1) from by repeat (first | rw [u1_rd, if_neg (by first | omega | (simp only [oB, oMs, oDs, oSt, oD, oM, oPt, oLf, oKd, oPd]; omega))] | rw [ur_rd, if_neg (by first | omega | (simp only [oB, oMs, oDs, oSt, oD, oM, oPt, oLf, oKd, oPd]; omega))])) ?_
      refine lv_if_eq (tgt := 64) hx hcb dX1_settle_57 (by decide) (fun c_7 => ?_) (fun c_7 => ?_)
      · skip
        refine lv_iconst (v := (nI 1)) hx hcb dX1_settle_64 (by decide) ?_
        refine x_top (show (nI 1) = (if z.1 (oM b m) 1 = 0 then 1 else 0) from by first | (rw [if_pos hc_]; rfl) | (rw [if_neg hc_]; rfl)) ?_
        refine x_cv0 rfl rfl (x_runV hx hcb hml hown hts (c_X5_certify l G w K hw (u1 z (oPd b m) 0 ((z.1 (oPd b m) 0) + (cashOf z b m))) _ b m hb hm yr ((z.1 (oM b m) 4) - (cashOf z b m)) (if z.1 (oM b m) 1 = 0 then 1 else 0) hy25) mv_X5_certify q_612 hK hZ hR hS (hoM hw hb hm) xc5 (hsM hw hm) rfl hl.1 rfl (Nat.le_of_ble_eq_true rfl) dX1_settle_65 ⟨by decide, by decide⟩ ⟨by decide, by decide⟩) hS (fun z_9 H locs hp_10 hR hS => ?_)
        rw [hp_10] at hR
        refine lv_aload_n hx hcb dX1_settle_68 rfl (lv_at hl 3 rfl) ?_
        refine lv_dup hx hcb dX1_settle_69 rfl ?_
        refine x_getI hx hcb hts hown hK xc0 hR (hoB hw hb) (hsB hw) 7 (by decide) rfl q_285 dX1_settle_70 ?_
        refine lv_iload_n hx hcb dX1_settle_73 rfl (lv_at hl 1 rfl) ?_
        refine lv_iadd hx hcb dX1_settle_74 ?_
        refine x_putI hx hcb hts hown hK xc0 hR hS (hoB hw hb) (hsB hw) 7 (by decide) rfl q_285 rfl (v := (((if 0 < ((z.1 (oM b m) 4) - (cashOf z b m)) then u1 (u1 (u1 z (oPd b m) 0 ((z.1 (oPd b m) 0) + (cashOf z b m))) (oLf b m) yr ((z.1 (oM b m) 4) - (cashOf z b m))) (oKd b m) yr (if z.1 (oM b m) 1 = 0 then 1 else 0) else (u1 z (oPd b m) 0 ((z.1 (oPd b m) 0) + (cashOf z b m)))).1 (oB b) 7) + (z.1 (oM b m) 4))) rfl rfl dX1_settle_75 (fun H locs hR hS => ?_)
        refine lv_goto (tgt := 124) hx hcb dX1_settle_78 (by decide) ?_
        exact hret (u1 (if 0 < ((z.1 (oM b m) 4) - (cashOf z b m)) then u1 (u1 (u1 z (oPd b m) 0 ((z.1 (oPd b m) 0) + (cashOf z b m))) (oLf b m) yr ((z.1 (oM b m) 4) - (cashOf z b m))) (oKd b m) yr (if z.1 (oM b m) 1 = 0 then 1 else 0) else (u1 z (oPd b m) 0 ((z.1 (oPd b m) 0) + (cashOf z b m)))) (oB b) 7 (((if 0 < ((z.1 (oM b m) 4) - (cashOf z b m)) then u1 (u1 (u1 z (oPd b m) 0 ((z.1 (oPd b m) 0) + (cashOf z b m))) (oLf b m) yr ((z.1 (oM b m) 4) - (cashOf z b m))) (oKd b m) yr (if z.1 (oM b m) 1 = 0 then 1 else 0) else (u1 z (oPd b m) 0 ((z.1 (oPd b m) 0) + (cashOf z b m)))).1 (oB b) 7) + (z.1 (oM b m) 4))) _ _ _ _ dX1_settle_124 hR hS (by unfold setl; first | (rw [if_pos hn0_]; done) | (rw [if_neg hn0_, if_neg hn1_]; done) | rw [if_neg hn0_, if_pos hn1_])
      · skip
        exact absurd hc_ c_7
    · skip
      have hc_ := c_6
      refine lv_iload_n hx hcb dX1_settle_16 rfl (lv_at hl 0 rfl) ?_
      refine lv_aload_n hx hcb dX1_settle_17 rfl (lv_at hl 2 rfl) ?_
      refine x_getR hx hcb hts hown hK xc0 hR (hoB hw hb) (hsB hw) 2 (by decide) rfl q_265 dX1_settle_18 ?_
      refine lv_iconst (v := (nI 0)) hx hcb dX1_settle_21 (by decide) ?_
      refine x_iald hx hcb hK hR (hoSt hw hb) (hsSt hw) (k := 0) (by omega) (by decide) dX1_settle_22 ?_
      refine lv_imul hx hcb dX1_settle_23 ?_
      refine lv_bipush (v := (nI 100)) hx hcb dX1_settle_24 (by decide) ?_
      refine lv_idiv hx hcb dX1_settle_26 (by decide) ?_
      refine lv_goto (tgt := 31) hx hcb dX1_settle_27 (by decide) ?_
      refine x_top (show (((z.1 (oM b m) 4) * (z.1 (oSt b) 0)) / (nI 100)) = cashOf z b m from by unfold cashOf; first | (rw [if_pos hc_]; rfl) | (rw [if_neg hc_]; rfl)) ?_
      refine lv_istore (lv' := [(4, .int (cashOf z b m)), (3, .int (z.1 (oM b m) 4)), (0, .ref (w.2.2 4)), (1, .ref (w.2.2 (oB b))), (2, .ref (w.2.2 (oM b m)))]) hx hcb dX1_settle_31 hl (by decide) rfl (fun ls hl => ?_)
      refine lv_aload_n hx hcb dX1_settle_33 rfl (lv_at hl 4 rfl) ?_
      refine x_getR hx hcb hts hown hK xc5 hR (hoM hw hb hm) (hsM hw hm) 9 (by decide) rfl q_207 dX1_settle_34 ?_
      refine lv_iconst (v := (nI 0)) hx hcb dX1_settle_37 (by decide) ?_
      refine lv_dup2_11 hx hcb dX1_settle_38 rfl rfl ?_
      refine x_iald hx hcb hK hR (hoPd hw hb hm) (hsPd hw hm) (k := 0) (by omega) (by decide) dX1_settle_39 ?_
      refine lv_iload hx hcb dX1_settle_40 (lv_at hl 0 rfl) ?_
      refine lv_iadd hx hcb dX1_settle_42 ?_
      refine x_iast hx hcb hK hR hS (hoPd hw hb hm) (hsPd hw hm) (k := 0) (v := ((z.1 (oPd b m) 0) + (cashOf z b m))) (by omega) (by decide) dX1_settle_43 (fun H locs hR hS => ?_)
      refine lv_aload_n hx hcb dX1_settle_44 rfl (lv_at hl 4 rfl) ?_
      refine lv_aload_n hx hcb dX1_settle_45 rfl (lv_at hl 3 rfl) ?_
      refine x_getI hx hcb hts hown hK xc0 hR (hoB hw hb) (hsB hw) 5 (by decide) rfl q_278 dX1_settle_46 ?_
      refine x_top (show ((u1 z (oPd b m) 0 ((z.1 (oPd b m) 0) + (cashOf z b m))).1 (oB b) 5) = (nI yr) from by (repeat (first | rw [u1_rd, if_neg (by first | omega | (simp only [oB, oMs, oDs, oSt, oD, oM, oPt, oLf, oKd, oPd]; omega))] | rw [ur_rd, if_neg (by first | omega | (simp only [oB, oMs, oDs, oSt, oD, oM, oPt, oLf, oKd, oPd]; omega))])); exact hyr) ?_
      refine lv_iload_n hx hcb dX1_settle_49 rfl (lv_at hl 1 rfl) ?_
      refine lv_iload hx hcb dX1_settle_50 (lv_at hl 0 rfl) ?_
      refine lv_isub hx hcb dX1_settle_52 ?_
      refine lv_aload_n hx hcb dX1_settle_53 rfl (lv_at hl 4 rfl) ?_
      refine x_getI hx hcb hts hown hK xc5 hR (hoM hw hb hm) (hsM hw hm) 1 (by decide) rfl q_180 dX1_settle_54 ?_
      refine x_top (show ((u1 z (oPd b m) 0 ((z.1 (oPd b m) 0) + (cashOf z b m))).1 (oM b m) 1) = (z.1 (oM b m) 1) from by repeat (first | rw [u1_rd, if_neg (by first | omega | (simp only [oB, oMs, oDs, oSt, oD, oM, oPt, oLf, oKd, oPd]; omega))] | rw [ur_rd, if_neg (by first | omega | (simp only [oB, oMs, oDs, oSt, oD, oM, oPt, oLf, oKd, oPd]; omega))])) ?_
      refine lv_if_eq (tgt := 64) hx hcb dX1_settle_57 (by decide) (fun c_11 => ?_) (fun c_11 => ?_)
      · skip
        exact absurd c_11 hc_
      · skip
        refine lv_iconst (v := (nI 0)) hx hcb dX1_settle_60 (by decide) ?_
        refine lv_goto (tgt := 65) hx hcb dX1_settle_61 (by decide) ?_
        refine x_top (show (nI 0) = (if z.1 (oM b m) 1 = 0 then 1 else 0) from by first | (rw [if_pos hc_]; rfl) | (rw [if_neg hc_]; rfl)) ?_
        refine x_cv0 rfl rfl (x_runV hx hcb hml hown hts (c_X5_certify l G w K hw (u1 z (oPd b m) 0 ((z.1 (oPd b m) 0) + (cashOf z b m))) _ b m hb hm yr ((z.1 (oM b m) 4) - (cashOf z b m)) (if z.1 (oM b m) 1 = 0 then 1 else 0) hy25) mv_X5_certify q_612 hK hZ hR hS (hoM hw hb hm) xc5 (hsM hw hm) rfl hl.1 rfl (Nat.le_of_ble_eq_true rfl) dX1_settle_65 ⟨by decide, by decide⟩ ⟨by decide, by decide⟩) hS (fun z_13 H locs hp_14 hR hS => ?_)
        rw [hp_14] at hR
        refine lv_aload_n hx hcb dX1_settle_68 rfl (lv_at hl 3 rfl) ?_
        refine lv_dup hx hcb dX1_settle_69 rfl ?_
        refine x_getI hx hcb hts hown hK xc0 hR (hoB hw hb) (hsB hw) 7 (by decide) rfl q_285 dX1_settle_70 ?_
        refine lv_iload_n hx hcb dX1_settle_73 rfl (lv_at hl 1 rfl) ?_
        refine lv_iadd hx hcb dX1_settle_74 ?_
        refine x_putI hx hcb hts hown hK xc0 hR hS (hoB hw hb) (hsB hw) 7 (by decide) rfl q_285 rfl (v := (((if 0 < ((z.1 (oM b m) 4) - (cashOf z b m)) then u1 (u1 (u1 z (oPd b m) 0 ((z.1 (oPd b m) 0) + (cashOf z b m))) (oLf b m) yr ((z.1 (oM b m) 4) - (cashOf z b m))) (oKd b m) yr (if z.1 (oM b m) 1 = 0 then 1 else 0) else (u1 z (oPd b m) 0 ((z.1 (oPd b m) 0) + (cashOf z b m)))).1 (oB b) 7) + (z.1 (oM b m) 4))) rfl rfl dX1_settle_75 (fun H locs hR hS => ?_)
        refine lv_goto (tgt := 124) hx hcb dX1_settle_78 (by decide) ?_
        exact hret (u1 (if 0 < ((z.1 (oM b m) 4) - (cashOf z b m)) then u1 (u1 (u1 z (oPd b m) 0 ((z.1 (oPd b m) 0) + (cashOf z b m))) (oLf b m) yr ((z.1 (oM b m) 4) - (cashOf z b m))) (oKd b m) yr (if z.1 (oM b m) 1 = 0 then 1 else 0) else (u1 z (oPd b m) 0 ((z.1 (oPd b m) 0) + (cashOf z b m)))) (oB b) 7 (((if 0 < ((z.1 (oM b m) 4) - (cashOf z b m)) then u1 (u1 (u1 z (oPd b m) 0 ((z.1 (oPd b m) 0) + (cashOf z b m))) (oLf b m) yr ((z.1 (oM b m) 4) - (cashOf z b m))) (oKd b m) yr (if z.1 (oM b m) 1 = 0 then 1 else 0) else (u1 z (oPd b m) 0 ((z.1 (oPd b m) 0) + (cashOf z b m)))).1 (oB b) 7) + (z.1 (oM b m) 4))) _ _ _ _ dX1_settle_124 hR hS (by unfold setl; first | (rw [if_pos hn0_]; done) | (rw [if_neg hn0_, if_neg hn1_]; done) | rw [if_neg hn0_, if_pos hn1_])
def rm_X1_carryOut : Room := { frames := 3, cells := 0, slots := 0, locals := 61 }
set_option maxRecDepth 100000 in
set_option maxHeartbeats 4000000 in
theorem c_X1_carryOut (l : Launch) (G : xGl) (w : xWd) (K : Nat) (hw : isC K w) (z : xSt) (sz : Nat) (b : Nat) (hb : b < 2 + K) (oR NR : Nat) (hoR : oR < w.1) (hsR : w.2.1 oR = xai NR) (hNR : NR < 2147483648) (mc dc yr : Nat) (hR4 : NR = 4 ∧ (oR = 1 ∨ oR = 17)) (hmc : z.1 (oB b) 3 = nI mc) (hmc8 : mc ≤ 8) (hdc : z.1 (oB b) 4 = nI dc) (hdc4 : dc ≤ 4) (hyr : z.1 (oB b) 5 = nI yr) (hy25 : yr < 25) : xMv l yX1_carryOut cX1_carryOut 5 rm_X1_carryOut G w z sz [.ref (w.2.2 4), .ref (w.2.2 (oB b)), .ref (w.2.2 oR)] (fun z1 => z1 = clos z b oR mc dc yr) := by
  refine x_mv (by decide) (Nat.le_of_ble_eq_true rfl) ?_
  intro p e s mt args below meth c ls Q hsz X hR hS hl hret
  obtain ⟨hx, hcb, hml, hown, hts, hlk, hK, hZ⟩ := X
  have hl : lv_has ls 5 [(0, .ref (w.2.2 4)), (1, .ref (w.2.2 (oB b))), (2, .ref (w.2.2 oR))] := hl
  refine lv_iconst (v := (nI 0)) hx hcb dX1_carryOut_0 (by decide) ?_
  refine lv_istore_n (lv' := [(3, .int (nI 0)), (0, .ref (w.2.2 4)), (1, .ref (w.2.2 (oB b))), (2, .ref (w.2.2 oR))]) hx hcb dX1_carryOut_1 rfl hl (by decide) rfl (fun ls hl => ?_)
  rw [← clr_0 z b] at hR
  suffices LP_2 : ∀ (nn : Nat) (i_ : Nat) (_ : mc - i_ < nn) (hi_ : i_ ≤ mc) (H : Heap) (locs : List Loc) (ls : Array Slot), Rh G w (clr z b i_) H → va_S (xA w s.heap.size) s.heap H locs → lv_has ls 5 [(0, .ref (w.2.2 4)), (1, .ref (w.2.2 (oB b))), (2, .ref (w.2.2 oR)), (3, .int (nI i_))] → W p l e rm_X1_carryOut s mt args below meth c H locs 0 0 Q (F0 mt 2 ls []) from LP_2 ((_) + 1) 0 (Nat.lt_succ_self _) (by omega) _ _ _ hR hS (lv_sub hl [1, 2, 3, 0] rfl)
  intro nn
  induction nn with
  | zero => intro i_ hm_ ; exact absurd hm_ (Nat.not_lt_zero _)
  | succ nn ih_2 =>
    intro i_ hm_2 hi_ H locs ls hR hS hl
    refine lv_iload_n hx hcb dX1_carryOut_2 rfl (lv_at hl 3 rfl) ?_
    refine lv_aload_n hx hcb dX1_carryOut_3 rfl (lv_at hl 1 rfl) ?_
    refine x_getI hx hcb hts hown hK xc0 hR (hoB hw hb) (hsB hw) 3 (by decide) rfl q_269 dX1_carryOut_4 ?_
    refine x_top (show ((clr z b i_).1 (oB b) 3) = (nI mc) from (((sameB.mu.tr sameB.mu : sameB z (clr z b i_) b)).1 3 (by decide) (by decide) (by decide)).trans hmc) ?_
    refine lv_icmp_ge (tgt := 36) hx hcb dX1_carryOut_7 (by decide) (fun c_1 => ?_) (fun c_1 => ?_)
    · skip
      have c_1 : mc ≤ i_ := (nI_leI (by omega) (by omega)).mp c_1
      obtain rfl : mc = i_ := by omega
      refine lv_iconst (v := (nI 0)) hx hcb dX1_carryOut_36 (by decide) ?_
      refine lv_istore_n (lv' := [(3, .int (nI 0)), (0, .ref (w.2.2 4)), (1, .ref (w.2.2 (oB b))), (2, .ref (w.2.2 oR))]) hx hcb dX1_carryOut_37 rfl hl (by decide) rfl (fun ls hl => ?_)
      suffices LP_38 : ∀ (nn : Nat) (i_ : Nat) (_ : dc - i_ < nn) (hi_ : i_ ≤ dc) (H : Heap) (locs : List Loc) (ls : Array Slot), Rh G w (dpL (clr z b mc) b oR mc i_) H → va_S (xA w s.heap.size) s.heap H locs → lv_has ls 5 [(0, .ref (w.2.2 4)), (1, .ref (w.2.2 (oB b))), (2, .ref (w.2.2 oR)), (3, .int (nI i_))] → W p l e rm_X1_carryOut s mt args below meth c H locs 0 0 Q (F0 mt 38 ls []) from LP_38 ((_) + 1) 0 (Nat.lt_succ_self _) (by omega) _ _ _ hR hS (lv_sub hl [1, 2, 3, 0] rfl)
      intro nn
      induction nn with
      | zero => intro i_ hm_ ; exact absurd hm_ (Nat.not_lt_zero _)
      | succ nn ih_38 =>
        intro i_ hm_38 hi_ H locs ls hR hS hl
        refine lv_iload_n hx hcb dX1_carryOut_38 rfl (lv_at hl 3 rfl) ?_
        refine lv_aload_n hx hcb dX1_carryOut_39 rfl (lv_at hl 1 rfl) ?_
        refine x_getI hx hcb hts hown hK xc0 hR (hoB hw hb) (hsB hw) 4 (by decide) rfl q_274 dX1_carryOut_40 ?_
        refine x_top (show ((dpL (clr z b mc) b oR mc i_).1 (oB b) 4) = (nI dc) from ((((sameB.mu.tr sameB.mu : sameB z (clr z b mc) b)).tr (sameB.dpL (show i_ ≤ 4 by omega))).1 4 (by decide) (by decide) (by decide)).trans hdc) ?_
        refine lv_icmp_ge (tgt := 106) hx hcb dX1_carryOut_43 (by decide) (fun c_2 => ?_) (fun c_2 => ?_)
        · skip
          have c_2 : dc ≤ i_ := (nI_leI (by omega) (by omega)).mp c_2
          obtain rfl : dc = i_ := by omega
          refine lv_iconst (v := (nI 0)) hx hcb dX1_carryOut_106 (by decide) ?_
          refine lv_istore_n (lv' := [(3, .int (nI 0)), (0, .ref (w.2.2 4)), (1, .ref (w.2.2 (oB b))), (2, .ref (w.2.2 oR))]) hx hcb dX1_carryOut_107 rfl hl (by decide) rfl (fun ls hl => ?_)
          suffices LP_108 : ∀ (nn : Nat) (i_ : Nat) (_ : mc - i_ < nn) (hi_ : i_ ≤ mc) (H : Heap) (locs : List Loc) (ls : Array Slot), Rh G w (stL ((dpL (clr z b mc) b oR mc dc)) b yr i_) H → va_S (xA w s.heap.size) s.heap H locs → lv_has ls 5 [(0, .ref (w.2.2 4)), (1, .ref (w.2.2 (oB b))), (2, .ref (w.2.2 oR)), (3, .int (nI i_))] → W p l e rm_X1_carryOut s mt args below meth c H locs 0 0 Q (F0 mt 108 ls []) from LP_108 ((_) + 1) 0 (Nat.lt_succ_self _) (by omega) _ _ _ hR hS (lv_sub hl [1, 2, 3, 0] rfl)
          intro nn
          induction nn with
          | zero => intro i_ hm_ ; exact absurd hm_ (Nat.not_lt_zero _)
          | succ nn ih_108 =>
            intro i_ hm_108 hi_ H locs ls hR hS hl
            refine lv_iload_n hx hcb dX1_carryOut_108 rfl (lv_at hl 3 rfl) ?_
            refine lv_aload_n hx hcb dX1_carryOut_109 rfl (lv_at hl 1 rfl) ?_
            refine x_getI hx hcb hts hown hK xc0 hR (hoB hw hb) (hsB hw) 3 (by decide) rfl q_269 dX1_carryOut_110 ?_
            refine x_top (show ((stL ((dpL (clr z b mc) b oR mc dc)) b yr i_).1 (oB b) 3) = (nI mc) from (((((sameB.mu.tr sameB.mu : sameB z (clr z b mc) b)).tr (sameB.dpL (show dc ≤ 4 by omega))).tr (sameB.stL (show i_ ≤ 8 by omega))).1 3 (by decide) (by decide) (by decide)).trans hmc) ?_
            refine lv_icmp_ge (tgt := 133) hx hcb dX1_carryOut_113 (by decide) (fun c_3 => ?_) (fun c_3 => ?_)
            · skip
              have c_3 : mc ≤ i_ := (nI_leI (by omega) (by omega)).mp c_3
              obtain rfl : mc = i_ := by omega
              refine lv_iconst (v := (nI 0)) hx hcb dX1_carryOut_133 (by decide) ?_
              refine lv_istore_n (lv' := [(3, .int (nI 0)), (0, .ref (w.2.2 4)), (1, .ref (w.2.2 (oB b))), (2, .ref (w.2.2 oR))]) hx hcb dX1_carryOut_134 rfl hl (by decide) rfl (fun ls hl => ?_)
              suffices LP_135 : ∀ (nn : Nat) (i_ : Nat) (_ : mc - i_ < nn) (hi_ : i_ ≤ mc) (H : Heap) (locs : List Loc) (ls : Array Slot), Rh G w (inL (stL ((dpL (clr z b mc) b oR mc dc)) b yr mc) b i_) H → va_S (xA w s.heap.size) s.heap H locs → lv_has ls 5 [(0, .ref (w.2.2 4)), (1, .ref (w.2.2 (oB b))), (2, .ref (w.2.2 oR)), (3, .int (nI i_))] → W p l e rm_X1_carryOut s mt args below meth c H locs 0 0 Q (F0 mt 135 ls []) from LP_135 ((_) + 1) 0 (Nat.lt_succ_self _) (by omega) _ _ _ hR hS (lv_sub hl [1, 2, 3, 0] rfl)
              intro nn
              induction nn with
              | zero => intro i_ hm_ ; exact absurd hm_ (Nat.not_lt_zero _)
              | succ nn ih_135 =>
                intro i_ hm_135 hi_ H locs ls hR hS hl
                refine lv_iload_n hx hcb dX1_carryOut_135 rfl (lv_at hl 3 rfl) ?_
                refine lv_aload_n hx hcb dX1_carryOut_136 rfl (lv_at hl 1 rfl) ?_
                refine x_getI hx hcb hts hown hK xc0 hR (hoB hw hb) (hsB hw) 3 (by decide) rfl q_269 dX1_carryOut_137 ?_
                refine x_top (show ((inL (stL ((dpL (clr z b mc) b oR mc dc)) b yr mc) b i_).1 (oB b) 3) = (nI mc) from ((((((sameB.mu.tr sameB.mu : sameB z (clr z b mc) b)).tr (sameB.dpL (show dc ≤ 4 by omega))).tr (sameB.stL (show mc ≤ 8 by omega))).tr (sameB.inL (show i_ ≤ 8 by omega))).1 3 (by decide) (by decide) (by decide)).trans hmc) ?_
                refine lv_icmp_ge (tgt := 184) hx hcb dX1_carryOut_140 (by decide) (fun c_4 => ?_) (fun c_4 => ?_)
                · skip
                  have c_4 : mc ≤ i_ := (nI_leI (by omega) (by omega)).mp c_4
                  obtain rfl : mc = i_ := by omega
                  refine lv_aload_n hx hcb dX1_carryOut_184 rfl (lv_at hl 1 rfl) ?_
                  refine lv_dup hx hcb dX1_carryOut_185 rfl ?_
                  refine x_getI hx hcb hts hown hK xc0 hR (hoB hw hb) (hsB hw) 5 (by decide) rfl q_278 dX1_carryOut_186 ?_
                  refine x_top (show ((inL (stL ((dpL (clr z b mc) b oR mc dc)) b yr mc) b mc).1 (oB b) 5) = (nI yr) from ((((((sameB.mu.tr sameB.mu : sameB z (clr z b mc) b)).tr (sameB.dpL (show dc ≤ 4 by omega))).tr (sameB.stL (show mc ≤ 8 by omega))).tr (sameB.inL (show mc ≤ 8 by omega))).1 5 (by decide) (by decide) (by decide)).trans hyr) ?_
                  refine lv_iconst (v := (nI 1)) hx hcb dX1_carryOut_189 (by decide) ?_
                  refine x_iaddN hx hcb dX1_carryOut_190 ?_
                  refine x_putI hx hcb hts hown hK xc0 hR hS (hoB hw hb) (hsB hw) 5 (by decide) rfl q_278 rfl (v := (nI (yr + 1))) rfl rfl dX1_carryOut_191 (fun H locs hR hS => ?_)
                  exact hret (u1 (inL (stL ((dpL (clr z b mc) b oR mc dc)) b yr mc) b mc) (oB b) 5 (nI (yr + 1))) _ _ _ _ dX1_carryOut_194 hR hS rfl
                · skip
                  have c_4 : ¬ mc ≤ i_ := fun h_ => c_4 ((nI_leI (by omega) (by omega)).mpr h_)
                  refine lv_aload_n hx hcb dX1_carryOut_143 rfl (lv_at hl 1 rfl) ?_
                  refine x_getR hx hcb hts hown hK xc0 hR (hoB hw hb) (hsB hw) 0 (by decide) rfl q_256 dX1_carryOut_144 ?_
                  refine lv_iload_n hx hcb dX1_carryOut_147 rfl (lv_at hl 3 rfl) ?_
                  have hk_148 : i_ < 8 := (by omega)
                  refine x_aald hx hcb hK hR (hoMs hw hb) (hsMs hw) rfl (oMs_at hk_148) (Nat.lt_of_lt_of_le (Nat.lt_succ_self _) (Nat.le_of_ble_eq_true rfl)) dX1_carryOut_148 ?_
                  refine x_getI hx hcb hts hown hK xc5 hR (hoM hw hb hk_148) (hsM hw hk_148) 2 (by decide) rfl q_184 dX1_carryOut_149 ?_
                  refine lv_iconst (v := (nI 1)) hx hcb dX1_carryOut_152 (by decide) ?_
                  refine lv_icmp_ne (tgt := 165) hx hcb dX1_carryOut_153 (by decide) (fun c_5 => ?_) (fun c_5 => ?_)
                  · skip
                    have hst_ : ¬ (inL (stL ((dpL (clr z b mc) b oR mc dc)) b yr mc) b i_).1 (oM b i_) 2 = 1 := c_5
                    refine lv_aload_n hx hcb dX1_carryOut_165 rfl (lv_at hl 1 rfl) ?_
                    refine x_getR hx hcb hts hown hK xc0 hR (hoB hw hb) (hsB hw) 0 (by decide) rfl q_256 dX1_carryOut_166 ?_
                    refine lv_iload_n hx hcb dX1_carryOut_169 rfl (lv_at hl 3 rfl) ?_
                    have hk_170 : i_ < 8 := (by omega)
                    refine x_aald hx hcb hK hR (hoMs hw hb) (hsMs hw) rfl (oMs_at hk_170) (Nat.lt_of_lt_of_le (Nat.lt_succ_self _) (Nat.le_of_ble_eq_true rfl)) dX1_carryOut_170 ?_
                    refine x_getR hx hcb hts hown hK xc5 hR (hoM hw hb hk_170) (hsM hw hk_170) 6 (by decide) rfl q_196 dX1_carryOut_171 ?_
                    refine lv_iconst (v := (nI 0)) hx hcb dX1_carryOut_174 (by decide) ?_
                    refine x_cv0 rfl rfl (x_runS hx hcb hml hown hts (c_J7_fill_53178 l G w K hw (inL (stL ((dpL (clr z b mc) b oR mc dc)) b yr mc) b i_) _ (oPt b i_) 4 (hoPt hw hb hk_170) (hsPt hw hk_170) (by decide) 0) ms_J7_fill_53178 q_632 hK hZ hR hS rfl hl.1 rfl (Nat.le_of_ble_eq_true rfl) dX1_carryOut_175 ⟨by decide, by decide⟩ ⟨by decide, by decide⟩) hS (fun z_7 H locs hp_8 hR hS => ?_)
                    rw [hp_8] at hR
                    refine lv_iinc (v := (nI (i_ + 1))) (lv' := [(3, .int (nI (i_ + 1))), (0, .ref (w.2.2 4)), (1, .ref (w.2.2 (oB b))), (2, .ref (w.2.2 oR))]) hx hcb dX1_carryOut_178 hl (k := 3) rfl (x_iinc1 _) (by decide) rfl (fun ls hl => ?_)
                    refine lv_goto (tgt := 135) hx hcb dX1_carryOut_181 (by decide) ?_
                    rw [show (ur (inL (stL ((dpL (clr z b mc) b oR mc dc)) b yr mc) b i_) (oPt b i_) (fun _ => 0)) = (inL (stL ((dpL (clr z b mc) b oR mc dc)) b yr mc) b (i_ + 1)) from by first | exact congrArg (fun x => ur x _ _) (if_pos hst_).symm | exact congrArg (fun x => ur x _ _) (if_neg hst_).symm] at hR
                    exact ih_135 (i_ + 1) (by omega) (by omega) _ _ _ hR hS (lv_sub hl [1, 2, 3, 0] rfl)
                  · skip
                    have hst_ : (inL (stL ((dpL (clr z b mc) b oR mc dc)) b yr mc) b i_).1 (oM b i_) 2 = 1 := c_5
                    refine lv_aload_n hx hcb dX1_carryOut_156 rfl (lv_at hl 1 rfl) ?_
                    refine x_getR hx hcb hts hown hK xc0 hR (hoB hw hb) (hsB hw) 0 (by decide) rfl q_256 dX1_carryOut_157 ?_
                    refine lv_iload_n hx hcb dX1_carryOut_160 rfl (lv_at hl 3 rfl) ?_
                    have hk_161 : i_ < 8 := (by omega)
                    refine x_aald hx hcb hK hR (hoMs hw hb) (hsMs hw) rfl (oMs_at hk_161) (Nat.lt_of_lt_of_le (Nat.lt_succ_self _) (Nat.le_of_ble_eq_true rfl)) dX1_carryOut_161 ?_
                    refine x_cv0 rfl rfl (x_runV hx hcb hml hown hts (c_X5_payInstallment l G w K hw (inL (stL ((dpL (clr z b mc) b oR mc dc)) b yr mc) b i_) _ b i_ hb hk_161) mv_X5_payInstallment q_621 hK hZ hR hS (hoM hw hb hk_161) xc5 (hsM hw hk_161) rfl hl.1 rfl (Nat.le_of_ble_eq_true rfl) dX1_carryOut_162 ⟨by decide, by decide⟩ ⟨by decide, by decide⟩) hS (fun z_10 H locs hp_11 hR hS => ?_)
                    rw [hp_11] at hR
                    refine lv_aload_n hx hcb dX1_carryOut_165 rfl (lv_at hl 1 rfl) ?_
                    refine x_getR hx hcb hts hown hK xc0 hR (hoB hw hb) (hsB hw) 0 (by decide) rfl q_256 dX1_carryOut_166 ?_
                    refine lv_iload_n hx hcb dX1_carryOut_169 rfl (lv_at hl 3 rfl) ?_
                    have hk_170 : i_ < 8 := (by omega)
                    refine x_aald hx hcb hK hR (hoMs hw hb) (hsMs hw) rfl (oMs_at hk_170) (Nat.lt_of_lt_of_le (Nat.lt_succ_self _) (Nat.le_of_ble_eq_true rfl)) dX1_carryOut_170 ?_
                    refine x_getR hx hcb hts hown hK xc5 hR (hoM hw hb hk_170) (hsM hw hk_170) 6 (by decide) rfl q_196 dX1_carryOut_171 ?_
                    refine lv_iconst (v := (nI 0)) hx hcb dX1_carryOut_174 (by decide) ?_
                    refine x_cv0 rfl rfl (x_runS hx hcb hml hown hts (c_J7_fill_53178 l G w K hw (pIns (inL (stL ((dpL (clr z b mc) b oR mc dc)) b yr mc) b i_) b i_) _ (oPt b i_) 4 (hoPt hw hb hk_170) (hsPt hw hk_170) (by decide) 0) ms_J7_fill_53178 q_632 hK hZ hR hS rfl hl.1 rfl (Nat.le_of_ble_eq_true rfl) dX1_carryOut_175 ⟨by decide, by decide⟩ ⟨by decide, by decide⟩) hS (fun z_13 H locs hp_14 hR hS => ?_)
                    rw [hp_14] at hR
                    refine lv_iinc (v := (nI (i_ + 1))) (lv' := [(3, .int (nI (i_ + 1))), (0, .ref (w.2.2 4)), (1, .ref (w.2.2 (oB b))), (2, .ref (w.2.2 oR))]) hx hcb dX1_carryOut_178 hl (k := 3) rfl (x_iinc1 _) (by decide) rfl (fun ls hl => ?_)
                    refine lv_goto (tgt := 135) hx hcb dX1_carryOut_181 (by decide) ?_
                    rw [show (ur (pIns (inL (stL ((dpL (clr z b mc) b oR mc dc)) b yr mc) b i_) b i_) (oPt b i_) (fun _ => 0)) = (inL (stL ((dpL (clr z b mc) b oR mc dc)) b yr mc) b (i_ + 1)) from by first | exact congrArg (fun x => ur x _ _) (if_pos hst_).symm | exact congrArg (fun x => ur x _ _) (if_neg hst_).symm] at hR
                    exact ih_135 (i_ + 1) (by omega) (by omega) _ _ _ hR hS (lv_sub hl [1, 2, 3, 0] rfl)
            · skip
              have c_3 : ¬ mc ≤ i_ := fun h_ => c_3 ((nI_leI (by omega) (by omega)).mpr h_)
              refine lv_aload_n hx hcb dX1_carryOut_116 rfl (lv_at hl 0 rfl) ?_
              refine lv_aload_n hx hcb dX1_carryOut_117 rfl (lv_at hl 1 rfl) ?_
              refine lv_aload_n hx hcb dX1_carryOut_118 rfl (lv_at hl 1 rfl) ?_
              refine x_getR hx hcb hts hown hK xc0 hR (hoB hw hb) (hsB hw) 0 (by decide) rfl q_256 dX1_carryOut_119 ?_
              refine lv_iload_n hx hcb dX1_carryOut_122 rfl (lv_at hl 3 rfl) ?_
              have hk_123 : i_ < 8 := (by omega)
              refine x_aald hx hcb hK hR (hoMs hw hb) (hsMs hw) rfl (oMs_at hk_123) (Nat.lt_of_lt_of_le (Nat.lt_succ_self _) (Nat.le_of_ble_eq_true rfl)) dX1_carryOut_123 ?_
              refine x_cv0 rfl rfl (x_runV hx hcb hml hown hts (c_X1_settle l G w K hw (stL ((dpL (clr z b mc) b oR mc dc)) b yr i_) _ b hb i_ hk_123 yr ((((((sameB.mu.tr sameB.mu : sameB z (clr z b mc) b)).tr (sameB.dpL (show dc ≤ 4 by omega))).tr (sameB.stL (show i_ ≤ 8 by omega))).1 5 (by decide) (by decide) (by decide)).trans hyr) (by omega)) mv_X1_settle q_608 hK hZ hR hS (hw.lo (by decide)) xc1 (hw.s0 (by decide) rfl) rfl hl.1 rfl (Nat.le_of_ble_eq_true rfl) dX1_carryOut_124 ⟨by decide, by decide⟩ ⟨by decide, by decide⟩) hS (fun z_16 H locs hp_17 hR hS => ?_)
              rw [hp_17] at hR
              refine lv_iinc (v := (nI (i_ + 1))) (lv' := [(3, .int (nI (i_ + 1))), (0, .ref (w.2.2 4)), (1, .ref (w.2.2 (oB b))), (2, .ref (w.2.2 oR))]) hx hcb dX1_carryOut_127 hl (k := 3) rfl (x_iinc1 _) (by decide) rfl (fun ls hl => ?_)
              refine lv_goto (tgt := 108) hx hcb dX1_carryOut_130 (by decide) ?_
              rw [show (setl (stL ((dpL (clr z b mc) b oR mc dc)) b yr i_) b i_ yr) = (stL ((dpL (clr z b mc) b oR mc dc)) b yr (i_ + 1)) from rfl] at hR
              exact ih_108 (i_ + 1) (by omega) (by omega) _ _ _ hR hS (lv_sub hl [1, 2, 3, 0] rfl)
        · skip
          have c_2 : ¬ dc ≤ i_ := fun h_ => c_2 ((nI_leI (by omega) (by omega)).mpr h_)
          refine lv_iload_n hx hcb dX1_carryOut_46 rfl (lv_at hl 3 rfl) ?_
          refine lv_aload_n hx hcb dX1_carryOut_47 rfl (lv_at hl 2 rfl) ?_
          refine x_alen hx hcb hK hR hoR hsR dX1_carryOut_48 ?_
          refine lv_icmp_ge (tgt := 106) hx hcb dX1_carryOut_49 (by decide) (fun c_18 => ?_) (fun c_18 => ?_)
          · skip
            have c_18 : NR ≤ i_ := (nI_leI (by omega) (by omega)).mp c_18
            omega
          · skip
            have c_18 : ¬ NR ≤ i_ := fun h_ => c_18 ((nI_leI (by omega) (by omega)).mpr h_)
            refine lv_aload_n hx hcb dX1_carryOut_52 rfl (lv_at hl 2 rfl) ?_
            refine lv_iload_n hx hcb dX1_carryOut_53 rfl (lv_at hl 3 rfl) ?_
            refine x_iald hx hcb hK hR hoR hsR (k := i_) (by omega) hNR dX1_carryOut_54 ?_
            refine lv_if_le (tgt := 74) hx hcb dX1_carryOut_55 (by decide) (fun c_19 => ?_) (fun c_19 => ?_)
            · skip
              have hk_ := Int32.not_lt.mpr c_19
              refine lv_iconst (v := (nI 0)) hx hcb dX1_carryOut_74 (by decide) ?_
              refine x_top (show (nI 0) = keptOf (dpL (clr z b mc) b oR mc i_) b ((dpL (clr z b mc) b oR mc i_).1 oR i_) from by unfold keptOf; first | (rw [if_pos hk_]; rfl) | (rw [if_neg hk_]; rfl)) ?_
              refine lv_istore (lv' := [(4, .int (keptOf (dpL (clr z b mc) b oR mc i_) b ((dpL (clr z b mc) b oR mc i_).1 oR i_))), (0, .ref (w.2.2 4)), (1, .ref (w.2.2 (oB b))), (2, .ref (w.2.2 oR)), (3, .int (nI i_))]) hx hcb dX1_carryOut_75 hl (by decide) rfl (fun ls hl => ?_)
              refine lv_aload_n hx hcb dX1_carryOut_77 rfl (lv_at hl 2 rfl) ?_
              refine lv_dup hx hcb dX1_carryOut_78 rfl ?_
              refine x_getI hx hcb hts hown hK xc0 hR (hoB hw hb) (hsB hw) 6 (by decide) rfl q_282 dX1_carryOut_79 ?_
              refine lv_iload hx hcb dX1_carryOut_82 (lv_at hl 0 rfl) ?_
              refine lv_iadd hx hcb dX1_carryOut_84 ?_
              refine x_putI hx hcb hts hown hK xc0 hR hS (hoB hw hb) (hsB hw) 6 (by decide) rfl q_282 rfl (v := (((dpL (clr z b mc) b oR mc i_).1 (oB b) 6) + (keptOf (dpL (clr z b mc) b oR mc i_) b ((dpL (clr z b mc) b oR mc i_).1 oR i_)))) rfl rfl dX1_carryOut_85 (fun H locs hR hS => ?_)
              refine lv_aload_n hx hcb dX1_carryOut_88 rfl (lv_at hl 1 rfl) ?_
              refine lv_aload_n hx hcb dX1_carryOut_89 rfl (lv_at hl 2 rfl) ?_
              refine lv_iload_n hx hcb dX1_carryOut_90 rfl (lv_at hl 4 rfl) ?_
              refine lv_aload_n hx hcb dX1_carryOut_91 rfl (lv_at hl 3 rfl) ?_
              refine lv_iload_n hx hcb dX1_carryOut_92 rfl (lv_at hl 4 rfl) ?_
              refine x_iald hx hcb hK hR hoR hsR (k := i_) (by omega) hNR dX1_carryOut_93 ?_
              refine x_top (show ((u1 (dpL (clr z b mc) b oR mc i_) (oB b) 6 (((dpL (clr z b mc) b oR mc i_).1 (oB b) 6) + (keptOf (dpL (clr z b mc) b oR mc i_) b ((dpL (clr z b mc) b oR mc i_).1 oR i_)))).1 oR i_) = ((dpL (clr z b mc) b oR mc i_).1 oR i_) from by rw [u1_ne _ (by simp only [oB]; omega)]) ?_
              refine lv_iload hx hcb dX1_carryOut_94 (lv_at hl 0 rfl) ?_
              refine lv_isub hx hcb dX1_carryOut_96 ?_
              refine x_cv0 rfl rfl (x_runV hx hcb hml hown hts (c_X1_allocate l G w K hw (u1 (dpL (clr z b mc) b oR mc i_) (oB b) 6 (((dpL (clr z b mc) b oR mc i_).1 (oB b) 6) + (keptOf (dpL (clr z b mc) b oR mc i_) b ((dpL (clr z b mc) b oR mc i_).1 oR i_)))) _ b hb i_ (((dpL (clr z b mc) b oR mc i_).1 oR i_) - (keptOf (dpL (clr z b mc) b oR mc i_) b ((dpL (clr z b mc) b oR mc i_).1 oR i_))) mc (by omega) ((sameB.u (Or.inl ⟨rfl, Or.inl rfl⟩) : sameB (dpL (clr z b mc) b oR mc i_) _ b).1 3 (by decide) (by decide) (by decide) |>.trans (((((sameB.mu.tr sameB.mu : sameB z (clr z b mc) b)).tr (sameB.dpL (show i_ ≤ 4 by omega))).1 3 (by decide) (by decide) (by decide)).trans hmc)) (by omega)) mv_X1_allocate q_583 hK hZ hR hS (hw.lo (by decide)) xc1 (hw.s0 (by decide) rfl) rfl hl.1 rfl (Nat.le_of_ble_eq_true rfl) dX1_carryOut_97 ⟨by decide, by decide⟩ ⟨by decide, by decide⟩) hS (fun z_21 H locs hp_22 hR hS => ?_)
              rw [hp_22] at hR
              refine lv_iinc (v := (nI (i_ + 1))) (lv' := [(3, .int (nI (i_ + 1))), (4, .int (keptOf (dpL (clr z b mc) b oR mc i_) b ((dpL (clr z b mc) b oR mc i_).1 oR i_))), (0, .ref (w.2.2 4)), (1, .ref (w.2.2 (oB b))), (2, .ref (w.2.2 oR))]) hx hcb dX1_carryOut_100 hl (k := 4) rfl (x_iinc1 _) (by decide) rfl (fun ls hl => ?_)
              refine lv_goto (tgt := 38) hx hcb dX1_carryOut_103 (by decide) ?_
              rw [show (aloc (u1 (dpL (clr z b mc) b oR mc i_) (oB b) 6 (((dpL (clr z b mc) b oR mc i_).1 (oB b) 6) + (keptOf (dpL (clr z b mc) b oR mc i_) b ((dpL (clr z b mc) b oR mc i_).1 oR i_)))) b i_ (((dpL (clr z b mc) b oR mc i_).1 oR i_) - (keptOf (dpL (clr z b mc) b oR mc i_) b ((dpL (clr z b mc) b oR mc i_).1 oR i_))) mc) = (dpL (clr z b mc) b oR mc (i_ + 1)) from rfl] at hR
              exact ih_38 (i_ + 1) (by omega) (by omega) _ _ _ hR hS (lv_sub hl [2, 3, 4, 0] rfl)
            · skip
              have hk_ := Int32.not_le.mp c_19
              refine lv_aload_n hx hcb dX1_carryOut_58 rfl (lv_at hl 2 rfl) ?_
              refine lv_iload_n hx hcb dX1_carryOut_59 rfl (lv_at hl 3 rfl) ?_
              refine x_iald hx hcb hK hR hoR hsR (k := i_) (by omega) hNR dX1_carryOut_60 ?_
              refine lv_aload_n hx hcb dX1_carryOut_61 rfl (lv_at hl 1 rfl) ?_
              refine x_getR hx hcb hts hown hK xc0 hR (hoB hw hb) (hsB hw) 2 (by decide) rfl q_265 dX1_carryOut_62 ?_
              refine lv_iconst (v := (nI 1)) hx hcb dX1_carryOut_65 (by decide) ?_
              refine x_iald hx hcb hK hR (hoSt hw hb) (hsSt hw) (k := 1) (by omega) (by decide) dX1_carryOut_66 ?_
              refine lv_imul hx hcb dX1_carryOut_67 ?_
              refine lv_bipush (v := (nI 100)) hx hcb dX1_carryOut_68 (by decide) ?_
              refine lv_idiv hx hcb dX1_carryOut_70 (by decide) ?_
              refine lv_goto (tgt := 75) hx hcb dX1_carryOut_71 (by decide) ?_
              refine x_top (show ((((dpL (clr z b mc) b oR mc i_).1 oR i_) * ((dpL (clr z b mc) b oR mc i_).1 (oSt b) 1)) / (nI 100)) = keptOf (dpL (clr z b mc) b oR mc i_) b ((dpL (clr z b mc) b oR mc i_).1 oR i_) from by unfold keptOf; first | (rw [if_pos hk_]; rfl) | (rw [if_neg hk_]; rfl)) ?_
              refine lv_istore (lv' := [(4, .int (keptOf (dpL (clr z b mc) b oR mc i_) b ((dpL (clr z b mc) b oR mc i_).1 oR i_))), (0, .ref (w.2.2 4)), (1, .ref (w.2.2 (oB b))), (2, .ref (w.2.2 oR)), (3, .int (nI i_))]) hx hcb dX1_carryOut_75 hl (by decide) rfl (fun ls hl => ?_)
              refine lv_aload_n hx hcb dX1_carryOut_77 rfl (lv_at hl 2 rfl) ?_
              refine lv_dup hx hcb dX1_carryOut_78 rfl ?_
              refine x_getI hx hcb hts hown hK xc0 hR (hoB hw hb) (hsB hw) 6 (by decide) rfl q_282 dX1_carryOut_79 ?_
              refine lv_iload hx hcb dX1_carryOut_82 (lv_at hl 0 rfl) ?_
              refine lv_iadd hx hcb dX1_carryOut_84 ?_
              refine x_putI hx hcb hts hown hK xc0 hR hS (hoB hw hb) (hsB hw) 6 (by decide) rfl q_282 rfl (v := (((dpL (clr z b mc) b oR mc i_).1 (oB b) 6) + (keptOf (dpL (clr z b mc) b oR mc i_) b ((dpL (clr z b mc) b oR mc i_).1 oR i_)))) rfl rfl dX1_carryOut_85 (fun H locs hR hS => ?_)
              refine lv_aload_n hx hcb dX1_carryOut_88 rfl (lv_at hl 1 rfl) ?_
              refine lv_aload_n hx hcb dX1_carryOut_89 rfl (lv_at hl 2 rfl) ?_
              refine lv_iload_n hx hcb dX1_carryOut_90 rfl (lv_at hl 4 rfl) ?_
              refine lv_aload_n hx hcb dX1_carryOut_91 rfl (lv_at hl 3 rfl) ?_
              refine lv_iload_n hx hcb dX1_carryOut_92 rfl (lv_at hl 4 rfl) ?_
              refine x_iald hx hcb hK hR hoR hsR (k := i_) (by omega) hNR dX1_carryOut_93 ?_
              refine x_top (show ((u1 (dpL (clr z b mc) b oR mc i_) (oB b) 6 (((dpL (clr z b mc) b oR mc i_).1 (oB b) 6) + (keptOf (dpL (clr z b mc) b oR mc i_) b ((dpL (clr z b mc) b oR mc i_).1 oR i_)))).1 oR i_) = ((dpL (clr z b mc) b oR mc i_).1 oR i_) from by rw [u1_ne _ (by simp only [oB]; omega)]) ?_
              refine lv_iload hx hcb dX1_carryOut_94 (lv_at hl 0 rfl) ?_
              refine lv_isub hx hcb dX1_carryOut_96 ?_
              refine x_cv0 rfl rfl (x_runV hx hcb hml hown hts (c_X1_allocate l G w K hw (u1 (dpL (clr z b mc) b oR mc i_) (oB b) 6 (((dpL (clr z b mc) b oR mc i_).1 (oB b) 6) + (keptOf (dpL (clr z b mc) b oR mc i_) b ((dpL (clr z b mc) b oR mc i_).1 oR i_)))) _ b hb i_ (((dpL (clr z b mc) b oR mc i_).1 oR i_) - (keptOf (dpL (clr z b mc) b oR mc i_) b ((dpL (clr z b mc) b oR mc i_).1 oR i_))) mc (by omega) ((sameB.u (Or.inl ⟨rfl, Or.inl rfl⟩) : sameB (dpL (clr z b mc) b oR mc i_) _ b).1 3 (by decide) (by decide) (by decide) |>.trans (((((sameB.mu.tr sameB.mu : sameB z (clr z b mc) b)).tr (sameB.dpL (show i_ ≤ 4 by omega))).1 3 (by decide) (by decide) (by decide)).trans hmc)) (by omega)) mv_X1_allocate q_583 hK hZ hR hS (hw.lo (by decide)) xc1 (hw.s0 (by decide) rfl) rfl hl.1 rfl (Nat.le_of_ble_eq_true rfl) dX1_carryOut_97 ⟨by decide, by decide⟩ ⟨by decide, by decide⟩) hS (fun z_24 H locs hp_25 hR hS => ?_)
              rw [hp_25] at hR
              refine lv_iinc (v := (nI (i_ + 1))) (lv' := [(3, .int (nI (i_ + 1))), (4, .int (keptOf (dpL (clr z b mc) b oR mc i_) b ((dpL (clr z b mc) b oR mc i_).1 oR i_))), (0, .ref (w.2.2 4)), (1, .ref (w.2.2 (oB b))), (2, .ref (w.2.2 oR))]) hx hcb dX1_carryOut_100 hl (k := 4) rfl (x_iinc1 _) (by decide) rfl (fun ls hl => ?_)
              refine lv_goto (tgt := 38) hx hcb dX1_carryOut_103 (by decide) ?_
              rw [show (aloc (u1 (dpL (clr z b mc) b oR mc i_) (oB b) 6 (((dpL (clr z b mc) b oR mc i_).1 (oB b) 6) + (keptOf (dpL (clr z b mc) b oR mc i_) b ((dpL (clr z b mc) b oR mc i_).1 oR i_)))) b i_ (((dpL (clr z b mc) b oR mc i_).1 oR i_) - (keptOf (dpL (clr z b mc) b oR mc i_) b ((dpL (clr z b mc) b oR mc i_).1 oR i_))) mc) = (dpL (clr z b mc) b oR mc (i_ + 1)) from rfl] at hR
              exact ih_38 (i_ + 1) (by omega) (by omega) _ _ _ hR hS (lv_sub hl [2, 3, 4, 0] rfl)
    · skip
      have c_1 : ¬ mc ≤ i_ := fun h_ => c_1 ((nI_leI (by omega) (by omega)).mpr h_)
      refine lv_aload_n hx hcb dX1_carryOut_10 rfl (lv_at hl 1 rfl) ?_
      refine x_getR hx hcb hts hown hK xc0 hR (hoB hw hb) (hsB hw) 0 (by decide) rfl q_256 dX1_carryOut_11 ?_
      refine lv_iload_n hx hcb dX1_carryOut_14 rfl (lv_at hl 3 rfl) ?_
      have hk_15 : i_ < 8 := (by omega)
      refine x_aald hx hcb hK hR (hoMs hw hb) (hsMs hw) rfl (oMs_at hk_15) (Nat.lt_of_lt_of_le (Nat.lt_succ_self _) (Nat.le_of_ble_eq_true rfl)) dX1_carryOut_15 ?_
      refine lv_iconst (v := (nI 0)) hx hcb dX1_carryOut_16 (by decide) ?_
      refine x_putI hx hcb hts hown hK xc5 hR hS (hoM hw hb hk_15) (hsM hw hk_15) 4 (by decide) rfl q_189 rfl (v := 0) rfl rfl dX1_carryOut_17 (fun H locs hR hS => ?_)
      refine lv_aload_n hx hcb dX1_carryOut_20 rfl (lv_at hl 1 rfl) ?_
      refine x_getR hx hcb hts hown hK xc0 hR (hoB hw hb) (hsB hw) 0 (by decide) rfl q_256 dX1_carryOut_21 ?_
      refine lv_iload_n hx hcb dX1_carryOut_24 rfl (lv_at hl 3 rfl) ?_
      have hk_25 : i_ < 8 := (by omega)
      refine x_aald hx hcb hK hR (hoMs hw hb) (hsMs hw) rfl (oMs_at hk_25) (Nat.lt_of_lt_of_le (Nat.lt_succ_self _) (Nat.le_of_ble_eq_true rfl)) dX1_carryOut_25 ?_
      refine lv_iconst (v := (nI 0)) hx hcb dX1_carryOut_26 (by decide) ?_
      refine x_putI hx hcb hts hown hK xc5 hR hS (hoM hw hb hk_25) (hsM hw hk_25) 5 (by decide) rfl q_193 rfl (v := 0) rfl rfl dX1_carryOut_27 (fun H locs hR hS => ?_)
      refine lv_iinc (v := (nI (i_ + 1))) (lv' := [(3, .int (nI (i_ + 1))), (0, .ref (w.2.2 4)), (1, .ref (w.2.2 (oB b))), (2, .ref (w.2.2 oR))]) hx hcb dX1_carryOut_30 hl (k := 3) rfl (x_iinc1 _) (by decide) rfl (fun ls hl => ?_)
      refine lv_goto (tgt := 2) hx hcb dX1_carryOut_33 (by decide) ?_
      rw [show (u1 (u1 (clr z b i_) (oM b i_) 4 0) (oM b i_) 5 0) = (clr z b (i_ + 1)) from clr_s] at hR
      exact ih_2 (i_ + 1) (by omega) (by omega) _ _ _ hR hS (lv_sub hl [1, 2, 3, 0] rfl)
