def rm_X0_startAnew : Room := { frames := 1, cells := 0, slots := 0, locals := 40 }
set_option maxRecDepth 100000 in
set_option maxHeartbeats 4000000 in
theorem c_X0_startAnew (l : Launch) (G : xGl) (w : xWd) (K : Nat) (hw : isC K w) (z : xSt) (sz : Nat) (b : Nat) (hb : b < 2 + K)  : xMv l yX0_startAnew cX0_startAnew 1 rm_X0_startAnew G w z sz [.ref (w.2.2 (oB b))] (fun z1 => z1 = ur (ur z (oB b) (fun _ => 0)) (oSt b) xIni) := by
  refine x_mv (by decide) (Nat.le_of_ble_eq_true rfl) ?_
  intro p e s mt args below meth c ls Q hsz X hR hS hl hret
  obtain ⟨hx, hcb, hml, hown, hts, hlk, hK, hZ⟩ := X
  have hl : lv_has ls 1 [(0, .ref (w.2.2 (oB b)))] := hl
  refine lv_aload_n hx hcb dX0_startAnew_0 rfl (lv_at hl 0 rfl) ?_
  refine lv_iconst (v := (nI 0)) hx hcb dX0_startAnew_1 (by decide) ?_
  refine x_putI hx hcb hts hown hK xc0 hR hS (hoB hw hb) (hsB hw) 3 (by decide) rfl q_268 rfl (v := (nI 0)) rfl rfl dX0_startAnew_2 (fun H locs hR hS => ?_)
  refine lv_aload_n hx hcb dX0_startAnew_5 rfl (lv_at hl 0 rfl) ?_
  refine lv_iconst (v := (nI 0)) hx hcb dX0_startAnew_6 (by decide) ?_
  refine x_putI hx hcb hts hown hK xc0 hR hS (hoB hw hb) (hsB hw) 4 (by decide) rfl q_273 rfl (v := (nI 0)) rfl rfl dX0_startAnew_7 (fun H locs hR hS => ?_)
  refine lv_aload_n hx hcb dX0_startAnew_10 rfl (lv_at hl 0 rfl) ?_
  refine lv_iconst (v := (nI 0)) hx hcb dX0_startAnew_11 (by decide) ?_
  refine x_putI hx hcb hts hown hK xc0 hR hS (hoB hw hb) (hsB hw) 5 (by decide) rfl q_277 rfl (v := (nI 0)) rfl rfl dX0_startAnew_12 (fun H locs hR hS => ?_)
  refine lv_aload_n hx hcb dX0_startAnew_15 rfl (lv_at hl 0 rfl) ?_
  refine lv_iconst (v := (nI 0)) hx hcb dX0_startAnew_16 (by decide) ?_
  refine x_putI hx hcb hts hown hK xc0 hR hS (hoB hw hb) (hsB hw) 6 (by decide) rfl q_281 rfl (v := (nI 0)) rfl rfl dX0_startAnew_17 (fun H locs hR hS => ?_)
  refine lv_aload_n hx hcb dX0_startAnew_20 rfl (lv_at hl 0 rfl) ?_
  refine lv_iconst (v := (nI 0)) hx hcb dX0_startAnew_21 (by decide) ?_
  refine x_putI hx hcb hts hown hK xc0 hR hS (hoB hw hb) (hsB hw) 7 (by decide) rfl q_284 rfl (v := (nI 0)) rfl rfl dX0_startAnew_22 (fun H locs hR hS => ?_)
  refine lv_aload_n hx hcb dX0_startAnew_25 rfl (lv_at hl 0 rfl) ?_
  refine lv_iconst (v := (nI 0)) hx hcb dX0_startAnew_26 (by decide) ?_
  refine x_putI hx hcb hts hown hK xc0 hR hS (hoB hw hb) (hsB hw) 8 (by decide) rfl q_287 rfl (v := (nI 0)) rfl rfl dX0_startAnew_27 (fun H locs hR hS => ?_)
  rw [u1_is z (oB b) 3 (nI 0), u1_ur, u1_ur, u1_ur, u1_ur, u1_ur] at hR
  have hR := hR.row (hsB hw) (g := fun _ => 0) (fun k hk => upB (g := fun _ => 0) rfl rfl rfl rfl rfl rfl (relB hk))
  obtain ⟨tIni_, hzIni_, htIni_⟩ := hZ.2.1.1
  refine x_getsN hx hcb hzIni_ hS hown (hZ.1.1 _ (List.mem_of_getElem? (i := 7) rfl)) dX0_startAnew_30 ?_
  refine lv_iconst (v := (nI 0)) hx hcb dX0_startAnew_33 (by decide) ?_
  refine lv_aload_n hx hcb dX0_startAnew_34 rfl (lv_at hl 0 rfl) ?_
  refine x_getR hx hcb hts hown hK xc0 hR (hoB hw hb) (hsB hw) 2 (by decide) rfl q_263 dX0_startAnew_35 ?_
  refine lv_iconst (v := (nI 0)) hx hcb dX0_startAnew_38 (by decide) ?_
  refine lv_iconst (v := (nI 5)) hx hcb dX0_startAnew_39 (by decide) ?_
  refine x_copyT hx hcb hml hown hts hl.1 q_252 hK hR hS htIni_ (hoSt hw hb) (hsSt hw) (n := 5) (by omega) (by omega) (by decide) (by decide) (Nat.le_of_ble_eq_true rfl) dX0_startAnew_40 (fun H locs hR hS => ?_)
  have hR := hR.row (hsSt hw) (g := xIni) (fun k hk => cpy0 hk)
  exact hret (ur (ur z (oB b) (fun _ => 0)) (oSt b) xIni) _ _ _ _ dX0_startAnew_43 hR hS rfl
def rm_X0_copyFrom : Room := { frames := 2, cells := 0, slots := 0, locals := 61 }
set_option maxRecDepth 100000 in
set_option maxHeartbeats 4000000 in
theorem c_X0_copyFrom (l : Launch) (G : xGl) (w : xWd) (K : Nat) (hw : isC K w) (z : xSt) (sz : Nat) (b : Nat) (hb : b < 2 + K) (bx : Nat) (hbx : bx < 2 + K) (mc dc : Nat) (hne : bx ≠ b) (hmc : z.1 (oB bx) 3 = nI mc) (hmc8 : mc ≤ 8) (hdc : z.1 (oB bx) 4 = nI dc) (hdc4 : dc ≤ 4) (hcn : ∀ m, m < mc → z.1 (oM bx m) 1 = 0 ∨ z.1 (oM bx m) 1 = 1) : xMv l yX0_copyFrom cX0_copyFrom 3 rm_X0_copyFrom G w z sz [.ref (w.2.2 (oB b)), .ref (w.2.2 (oB bx))] (fun z1 => z1 = cpA z b bx mc dc) := by
  refine x_mv (by decide) (Nat.le_of_ble_eq_true rfl) ?_
  intro p e s mt args below meth c ls Q hsz X hR hS hl hret
  obtain ⟨hx, hcb, hml, hown, hts, hlk, hK, hZ⟩ := X
  have hl : lv_has ls 3 [(0, .ref (w.2.2 (oB b))), (1, .ref (w.2.2 (oB bx)))] := hl
  refine lv_aload_n hx hcb dX0_copyFrom_0 rfl (lv_at hl 0 rfl) ?_
  refine lv_aload_n hx hcb dX0_copyFrom_1 rfl (lv_at hl 1 rfl) ?_
  refine x_getI hx hcb hts hown hK xc0 hR (hoB hw hbx) (hsB hw) 3 (by decide) rfl q_268 dX0_copyFrom_2 ?_
  refine x_putI hx hcb hts hown hK xc0 hR hS (hoB hw hb) (hsB hw) 3 (by decide) rfl q_268 rfl (v := (z.1 (oB bx) 3)) rfl rfl dX0_copyFrom_5 (fun H locs hR hS => ?_)
  refine lv_aload_n hx hcb dX0_copyFrom_8 rfl (lv_at hl 0 rfl) ?_
  refine lv_aload_n hx hcb dX0_copyFrom_9 rfl (lv_at hl 1 rfl) ?_
  refine x_getI hx hcb hts hown hK xc0 hR (hoB hw hbx) (hsB hw) 4 (by decide) rfl q_273 dX0_copyFrom_10 ?_
  refine x_top (show ((u1 z (oB b) 3 (z.1 (oB bx) 3)).1 (oB bx) 4) = (z.1 (oB bx) 4) from by repeat (first | rw [u1_rd, if_neg (by first | omega | (simp only [oB, oMs, oDs, oSt, oD, oM, oPt, oLf, oKd, oPd]; omega))] | rw [ur_rd, if_neg (by first | omega | (simp only [oB, oMs, oDs, oSt, oD, oM, oPt, oLf, oKd, oPd]; omega))])) ?_
  refine x_putI hx hcb hts hown hK xc0 hR hS (hoB hw hb) (hsB hw) 4 (by decide) rfl q_273 rfl (v := (z.1 (oB bx) 4)) rfl rfl dX0_copyFrom_13 (fun H locs hR hS => ?_)
  refine lv_aload_n hx hcb dX0_copyFrom_16 rfl (lv_at hl 0 rfl) ?_
  refine lv_aload_n hx hcb dX0_copyFrom_17 rfl (lv_at hl 1 rfl) ?_
  refine x_getI hx hcb hts hown hK xc0 hR (hoB hw hbx) (hsB hw) 5 (by decide) rfl q_277 dX0_copyFrom_18 ?_
  refine x_top (show ((u1 (u1 z (oB b) 3 (z.1 (oB bx) 3)) (oB b) 4 (z.1 (oB bx) 4)).1 (oB bx) 5) = (z.1 (oB bx) 5) from by repeat (first | rw [u1_rd, if_neg (by first | omega | (simp only [oB, oMs, oDs, oSt, oD, oM, oPt, oLf, oKd, oPd]; omega))] | rw [ur_rd, if_neg (by first | omega | (simp only [oB, oMs, oDs, oSt, oD, oM, oPt, oLf, oKd, oPd]; omega))])) ?_
  refine x_putI hx hcb hts hown hK xc0 hR hS (hoB hw hb) (hsB hw) 5 (by decide) rfl q_277 rfl (v := (z.1 (oB bx) 5)) rfl rfl dX0_copyFrom_21 (fun H locs hR hS => ?_)
  refine lv_aload_n hx hcb dX0_copyFrom_24 rfl (lv_at hl 0 rfl) ?_
  refine lv_aload_n hx hcb dX0_copyFrom_25 rfl (lv_at hl 1 rfl) ?_
  refine x_getI hx hcb hts hown hK xc0 hR (hoB hw hbx) (hsB hw) 6 (by decide) rfl q_281 dX0_copyFrom_26 ?_
  refine x_top (show ((u1 (u1 (u1 z (oB b) 3 (z.1 (oB bx) 3)) (oB b) 4 (z.1 (oB bx) 4)) (oB b) 5 (z.1 (oB bx) 5)).1 (oB bx) 6) = (z.1 (oB bx) 6) from by repeat (first | rw [u1_rd, if_neg (by first | omega | (simp only [oB, oMs, oDs, oSt, oD, oM, oPt, oLf, oKd, oPd]; omega))] | rw [ur_rd, if_neg (by first | omega | (simp only [oB, oMs, oDs, oSt, oD, oM, oPt, oLf, oKd, oPd]; omega))])) ?_
  refine x_putI hx hcb hts hown hK xc0 hR hS (hoB hw hb) (hsB hw) 6 (by decide) rfl q_281 rfl (v := (z.1 (oB bx) 6)) rfl rfl dX0_copyFrom_29 (fun H locs hR hS => ?_)
  refine lv_aload_n hx hcb dX0_copyFrom_32 rfl (lv_at hl 0 rfl) ?_
  refine lv_aload_n hx hcb dX0_copyFrom_33 rfl (lv_at hl 1 rfl) ?_
  refine x_getI hx hcb hts hown hK xc0 hR (hoB hw hbx) (hsB hw) 7 (by decide) rfl q_284 dX0_copyFrom_34 ?_
  refine x_top (show ((u1 (u1 (u1 (u1 z (oB b) 3 (z.1 (oB bx) 3)) (oB b) 4 (z.1 (oB bx) 4)) (oB b) 5 (z.1 (oB bx) 5)) (oB b) 6 (z.1 (oB bx) 6)).1 (oB bx) 7) = (z.1 (oB bx) 7) from by repeat (first | rw [u1_rd, if_neg (by first | omega | (simp only [oB, oMs, oDs, oSt, oD, oM, oPt, oLf, oKd, oPd]; omega))] | rw [ur_rd, if_neg (by first | omega | (simp only [oB, oMs, oDs, oSt, oD, oM, oPt, oLf, oKd, oPd]; omega))])) ?_
  refine x_putI hx hcb hts hown hK xc0 hR hS (hoB hw hb) (hsB hw) 7 (by decide) rfl q_284 rfl (v := (z.1 (oB bx) 7)) rfl rfl dX0_copyFrom_37 (fun H locs hR hS => ?_)
  refine lv_aload_n hx hcb dX0_copyFrom_40 rfl (lv_at hl 0 rfl) ?_
  refine lv_aload_n hx hcb dX0_copyFrom_41 rfl (lv_at hl 1 rfl) ?_
  refine x_getI hx hcb hts hown hK xc0 hR (hoB hw hbx) (hsB hw) 8 (by decide) rfl q_287 dX0_copyFrom_42 ?_
  refine x_top (show ((u1 (u1 (u1 (u1 (u1 z (oB b) 3 (z.1 (oB bx) 3)) (oB b) 4 (z.1 (oB bx) 4)) (oB b) 5 (z.1 (oB bx) 5)) (oB b) 6 (z.1 (oB bx) 6)) (oB b) 7 (z.1 (oB bx) 7)).1 (oB bx) 8) = (z.1 (oB bx) 8) from by repeat (first | rw [u1_rd, if_neg (by first | omega | (simp only [oB, oMs, oDs, oSt, oD, oM, oPt, oLf, oKd, oPd]; omega))] | rw [ur_rd, if_neg (by first | omega | (simp only [oB, oMs, oDs, oSt, oD, oM, oPt, oLf, oKd, oPd]; omega))])) ?_
  refine x_putI hx hcb hts hown hK xc0 hR hS (hoB hw hb) (hsB hw) 8 (by decide) rfl q_287 rfl (v := (z.1 (oB bx) 8)) rfl rfl dX0_copyFrom_45 (fun H locs hR hS => ?_)
  rw [u1_is z (oB b) 3 (z.1 (oB bx) 3), u1_ur, u1_ur, u1_ur, u1_ur, u1_ur] at hR
  have hR := hR.row (hsB hw) (g := z.1 (oB bx)) (fun k hk => upB (g := z.1 (oB bx)) rfl rfl rfl rfl rfl rfl (relB hk))
  refine lv_aload_n hx hcb dX0_copyFrom_48 rfl (lv_at hl 1 rfl) ?_
  refine x_getR hx hcb hts hown hK xc0 hR (hoB hw hbx) (hsB hw) 2 (by decide) rfl q_263 dX0_copyFrom_49 ?_
  refine lv_iconst (v := (nI 0)) hx hcb dX0_copyFrom_52 (by decide) ?_
  refine lv_aload_n hx hcb dX0_copyFrom_53 rfl (lv_at hl 0 rfl) ?_
  refine x_getR hx hcb hts hown hK xc0 hR (hoB hw hb) (hsB hw) 2 (by decide) rfl q_263 dX0_copyFrom_54 ?_
  refine lv_iconst (v := (nI 0)) hx hcb dX0_copyFrom_57 (by decide) ?_
  refine lv_iconst (v := (nI 5)) hx hcb dX0_copyFrom_58 (by decide) ?_
  refine x_copy hx hcb hml hown hts hl.1 q_252 hK hR hS (hoSt hw hbx) (hsSt hw) (hoSt hw hb) (hsSt hw) (sp := 0) (dp := 0) (n := 5) (by omega) (by omega) (by decide) (by decide) (by decide) (Nat.le_of_ble_eq_true rfl) dX0_copyFrom_59 (fun H locs hR hS => ?_)
  have hR := hR.row (hsSt hw) (g := (ur z (oB b) (z.1 (oB bx))).1 (oSt bx)) (fun k hk => cpy0 hk)
  rw [cp_0 hne] at hR
  refine lv_iconst (v := (nI 0)) hx hcb dX0_copyFrom_62 (by decide) ?_
  refine lv_istore_n (lv' := [(2, .int (nI 0)), (0, .ref (w.2.2 (oB b))), (1, .ref (w.2.2 (oB bx)))]) hx hcb dX0_copyFrom_63 rfl hl (by decide) rfl (fun ls hl => ?_)
  suffices LP_64 : ∀ (nn : Nat) (i_ : Nat) (_ : mc - i_ < nn) (hi_ : i_ ≤ mc) (H : Heap) (locs : List Loc) (ls : Array Slot), Rh G w (cpA z b bx i_ 0) H → va_S (xA w s.heap.size) s.heap H locs → lv_has ls 3 [(0, .ref (w.2.2 (oB b))), (1, .ref (w.2.2 (oB bx))), (2, .int (nI i_))] → W p l e rm_X0_copyFrom s mt args below meth c H locs 0 0 Q (F0 mt 64 ls []) from LP_64 ((_) + 1) 0 (Nat.lt_succ_self _) (by omega) _ _ _ hR hS (lv_sub hl [1, 2, 0] rfl)
  intro nn
  induction nn with
  | zero => intro i_ hm_ ; exact absurd hm_ (Nat.not_lt_zero _)
  | succ nn ih_64 =>
    intro i_ hm_64 hi_ H locs ls hR hS hl
    refine lv_iload_n hx hcb dX0_copyFrom_64 rfl (lv_at hl 2 rfl) ?_
    refine lv_aload_n hx hcb dX0_copyFrom_65 rfl (lv_at hl 0 rfl) ?_
    refine x_getI hx hcb hts hown hK xc0 hR (hoB hw hb) (hsB hw) 3 (by decide) rfl q_268 dX0_copyFrom_66 ?_
    refine x_top (show ((cpA z b bx i_ 0).1 (oB b) 3) = (nI mc) from by rw [cpA_in (by simp only [oB]; omega)]; exact (congrFun (congrArg z.1 (show oB b - 48 * b + 48 * bx = oB bx by simp only [oB]; omega)) 3).trans hmc) ?_
    refine lv_icmp_ge (tgt := 93) hx hcb dX0_copyFrom_69 (by decide) (fun c_1 => ?_) (fun c_1 => ?_)
    · skip
      have c_1 : mc ≤ i_ := (nI_leI (by omega) (by omega)).mp c_1
      obtain rfl : mc = i_ := by omega
      refine lv_iconst (v := (nI 0)) hx hcb dX0_copyFrom_93 (by decide) ?_
      refine lv_istore_n (lv' := [(2, .int (nI 0)), (0, .ref (w.2.2 (oB b))), (1, .ref (w.2.2 (oB bx)))]) hx hcb dX0_copyFrom_94 rfl hl (by decide) rfl (fun ls hl => ?_)
      suffices LP_95 : ∀ (nn : Nat) (i_ : Nat) (_ : dc - i_ < nn) (hi_ : i_ ≤ dc) (H : Heap) (locs : List Loc) (ls : Array Slot), Rh G w (cpA z b bx mc i_) H → va_S (xA w s.heap.size) s.heap H locs → lv_has ls 3 [(0, .ref (w.2.2 (oB b))), (1, .ref (w.2.2 (oB bx))), (2, .int (nI i_))] → W p l e rm_X0_copyFrom s mt args below meth c H locs 0 0 Q (F0 mt 95 ls []) from LP_95 ((_) + 1) 0 (Nat.lt_succ_self _) (by omega) _ _ _ hR hS (lv_sub hl [1, 2, 0] rfl)
      intro nn
      induction nn with
      | zero => intro i_ hm_ ; exact absurd hm_ (Nat.not_lt_zero _)
      | succ nn ih_95 =>
        intro i_ hm_95 hi_ H locs ls hR hS hl
        refine lv_iload_n hx hcb dX0_copyFrom_95 rfl (lv_at hl 2 rfl) ?_
        refine lv_aload_n hx hcb dX0_copyFrom_96 rfl (lv_at hl 0 rfl) ?_
        refine x_getI hx hcb hts hown hK xc0 hR (hoB hw hb) (hsB hw) 4 (by decide) rfl q_273 dX0_copyFrom_97 ?_
        refine x_top (show ((cpA z b bx mc i_).1 (oB b) 4) = (nI dc) from by rw [cpA_in (by simp only [oB]; omega)]; exact (congrFun (congrArg z.1 (show oB b - 48 * b + 48 * bx = oB bx by simp only [oB]; omega)) 4).trans hdc) ?_
        refine lv_icmp_ge (tgt := 124) hx hcb dX0_copyFrom_100 (by decide) (fun c_2 => ?_) (fun c_2 => ?_)
        · skip
          have c_2 : dc ≤ i_ := (nI_leI (by omega) (by omega)).mp c_2
          obtain rfl : dc = i_ := by omega
          exact hret (cpA z b bx mc dc) _ _ _ _ dX0_copyFrom_124 hR hS rfl
        · skip
          have c_2 : ¬ dc ≤ i_ := fun h_ => c_2 ((nI_leI (by omega) (by omega)).mpr h_)
          refine lv_aload_n hx hcb dX0_copyFrom_103 rfl (lv_at hl 0 rfl) ?_
          refine x_getR hx hcb hts hown hK xc0 hR (hoB hw hb) (hsB hw) 1 (by decide) rfl q_260 dX0_copyFrom_104 ?_
          refine lv_iload_n hx hcb dX0_copyFrom_107 rfl (lv_at hl 2 rfl) ?_
          have hk_108 : i_ < 4 := (by omega)
          refine x_aald hx hcb hK hR (hoDs hw hb) (hsDs hw) rfl (oDs_at hk_108) (Nat.lt_of_lt_of_le (Nat.lt_succ_self _) (Nat.le_of_ble_eq_true rfl)) dX0_copyFrom_108 ?_
          refine lv_aload_n hx hcb dX0_copyFrom_109 rfl (lv_at hl 1 rfl) ?_
          refine x_getR hx hcb hts hown hK xc0 hR (hoB hw hbx) (hsB hw) 1 (by decide) rfl q_260 dX0_copyFrom_110 ?_
          refine lv_iload_n hx hcb dX0_copyFrom_113 rfl (lv_at hl 2 rfl) ?_
          have hk_114 : i_ < 4 := (by omega)
          refine x_aald hx hcb hK hR (hoDs hw hbx) (hsDs hw) rfl (oDs_at hk_114) (Nat.lt_of_lt_of_le (Nat.lt_succ_self _) (Nat.le_of_ble_eq_true rfl)) dX0_copyFrom_114 ?_
          refine x_cv0 rfl rfl (x_runV hx hcb hml hown hts (c_X2_copyFrom l G w K hw (cpA z b bx mc i_) _ b i_ hb hk_108 bx i_ hbx hk_114 hne) mv_X2_copyFrom q_660 hK hZ hR hS (hoD hw hb hk_108) xc2 (hsD hw hk_108) rfl hl.1 rfl (Nat.le_of_ble_eq_true rfl) dX0_copyFrom_115 ⟨by decide, by decide⟩ ⟨by decide, by decide⟩) hS (fun z_4 H locs hp_5 hR hS => ?_)
          rw [hp_5] at hR
          refine lv_iinc (v := (nI (i_ + 1))) (lv' := [(2, .int (nI (i_ + 1))), (0, .ref (w.2.2 (oB b))), (1, .ref (w.2.2 (oB bx)))]) hx hcb dX0_copyFrom_118 hl (k := 2) rfl (x_iinc1 _) (by decide) rfl (fun ls hl => ?_)
          refine lv_goto (tgt := 95) hx hcb dX0_copyFrom_121 (by decide) ?_
          rw [show (ur (cpA z b bx mc i_) (oD b i_) ((cpA z b bx mc i_).1 (oD bx i_))) = (cpA z b bx mc (i_ + 1)) from cp_d hne (by omega)] at hR
          exact ih_95 (i_ + 1) (by omega) (by omega) _ _ _ hR hS (lv_sub hl [1, 2, 0] rfl)
    · skip
      have c_1 : ¬ mc ≤ i_ := fun h_ => c_1 ((nI_leI (by omega) (by omega)).mpr h_)
      refine lv_aload_n hx hcb dX0_copyFrom_72 rfl (lv_at hl 0 rfl) ?_
      refine x_getR hx hcb hts hown hK xc0 hR (hoB hw hb) (hsB hw) 0 (by decide) rfl q_255 dX0_copyFrom_73 ?_
      refine lv_iload_n hx hcb dX0_copyFrom_76 rfl (lv_at hl 2 rfl) ?_
      have hk_77 : i_ < 8 := (by omega)
      refine x_aald hx hcb hK hR (hoMs hw hb) (hsMs hw) rfl (oMs_at hk_77) (Nat.lt_of_lt_of_le (Nat.lt_succ_self _) (Nat.le_of_ble_eq_true rfl)) dX0_copyFrom_77 ?_
      refine lv_aload_n hx hcb dX0_copyFrom_78 rfl (lv_at hl 1 rfl) ?_
      refine x_getR hx hcb hts hown hK xc0 hR (hoB hw hbx) (hsB hw) 0 (by decide) rfl q_255 dX0_copyFrom_79 ?_
      refine lv_iload_n hx hcb dX0_copyFrom_82 rfl (lv_at hl 2 rfl) ?_
      have hk_83 : i_ < 8 := (by omega)
      refine x_aald hx hcb hK hR (hoMs hw hbx) (hsMs hw) rfl (oMs_at hk_83) (Nat.lt_of_lt_of_le (Nat.lt_succ_self _) (Nat.le_of_ble_eq_true rfl)) dX0_copyFrom_83 ?_
      refine x_cv0 rfl rfl (x_runV hx hcb hml hown hts (c_X5_copyFrom l G w K hw (cpA z b bx i_ 0) _ b i_ hb hk_77 bx i_ hbx hk_83 hne (by rw [cpA_out (by simp only [oM]; omega)]; exact hcn i_ (by omega))) mv_X5_copyFrom q_655 hK hZ hR hS (hoM hw hb hk_77) xc5 (hsM hw hk_77) rfl hl.1 rfl (Nat.le_of_ble_eq_true rfl) dX0_copyFrom_84 ⟨by decide, by decide⟩ ⟨by decide, by decide⟩) hS (fun z_7 H locs hp_8 hR hS => ?_)
      rw [hp_8] at hR
      refine lv_iinc (v := (nI (i_ + 1))) (lv' := [(2, .int (nI (i_ + 1))), (0, .ref (w.2.2 (oB b))), (1, .ref (w.2.2 (oB bx)))]) hx hcb dX0_copyFrom_87 hl (k := 2) rfl (x_iinc1 _) (by decide) rfl (fun ls hl => ?_)
      refine lv_goto (tgt := 64) hx hcb dX0_copyFrom_90 (by decide) ?_
      rw [show (cpN (cpA z b bx i_ 0) b i_ bx i_) = (cpA z b bx (i_ + 1) 0) from cp_m hne (by omega)] at hR
      exact ih_64 (i_ + 1) (by omega) (by omega) _ _ _ hR hS (lv_sub hl [1, 2, 0] rfl)
def rm_X0_addMember : Room := { frames := 2, cells := 0, slots := 0, locals := 44 }
set_option maxRecDepth 100000 in
set_option maxHeartbeats 4000000 in
theorem c_X0_addMember (l : Launch) (G : xGl) (w : xWd) (K : Nat) (hw : isC K w) (z : xSt) (sz : Nat) (b : Nat) (hb : b < 2 + K) (nm : Int32) (mc : Nat) (hmc : z.1 (oB b) 3 = nI mc) (hmc8 : mc < 8) : xMv l yX0_addMember cX0_addMember 2 rm_X0_addMember G w z sz [.ref (w.2.2 (oB b)), .int nm] (fun z1 => z1 = u1 (stM z b mc nm) (oB b) 3 (nI (mc + 1))) := by
  refine x_mv (by decide) (Nat.le_of_ble_eq_true rfl) ?_
  intro p e s mt args below meth c ls Q hsz X hR hS hl hret
  obtain ⟨hx, hcb, hml, hown, hts, hlk, hK, hZ⟩ := X
  have hl : lv_has ls 2 [(0, .ref (w.2.2 (oB b))), (1, .int nm)] := hl
  refine lv_aload_n hx hcb dX0_addMember_0 rfl (lv_at hl 0 rfl) ?_
  refine x_getI hx hcb hts hown hK xc0 hR (hoB hw hb) (hsB hw) 3 (by decide) rfl q_268 dX0_addMember_1 ?_
  refine x_top (show (z.1 (oB b) 3) = (nI mc) from hmc) ?_
  refine lv_bipush (v := (nI 8)) hx hcb dX0_addMember_4 (by decide) ?_
  refine lv_icmp_ge (tgt := 32) hx hcb dX0_addMember_6 (by decide) (fun c_1 => ?_) (fun c_1 => ?_)
  · skip
    have c_1 : 8 ≤ mc := (nI_leI (by omega) (by omega)).mp c_1
    omega
  · skip
    have c_1 : ¬ 8 ≤ mc := fun h_ => c_1 ((nI_leI (by omega) (by omega)).mpr h_)
    refine lv_aload_n hx hcb dX0_addMember_9 rfl (lv_at hl 0 rfl) ?_
    refine x_getR hx hcb hts hown hK xc0 hR (hoB hw hb) (hsB hw) 0 (by decide) rfl q_255 dX0_addMember_10 ?_
    refine lv_aload_n hx hcb dX0_addMember_13 rfl (lv_at hl 0 rfl) ?_
    refine x_getI hx hcb hts hown hK xc0 hR (hoB hw hb) (hsB hw) 3 (by decide) rfl q_268 dX0_addMember_14 ?_
    refine x_top (show (z.1 (oB b) 3) = (nI mc) from hmc) ?_
    have hk_17 : mc < 8 := (by omega)
    refine x_aald hx hcb hK hR (hoMs hw hb) (hsMs hw) rfl (oMs_at hk_17) (Nat.lt_of_lt_of_le (Nat.lt_succ_self _) (Nat.le_of_ble_eq_true rfl)) dX0_addMember_17 ?_
    refine lv_iload_n hx hcb dX0_addMember_18 rfl (lv_at hl 1 rfl) ?_
    refine x_cv0 rfl rfl (x_runV hx hcb hml hown hts (c_X5_start l G w K hw z _ b mc hb hk_17 nm) mv_X5_start q_537 hK hZ hR hS (hoM hw hb hk_17) xc5 (hsM hw hk_17) rfl hl.1 rfl (Nat.le_of_ble_eq_true rfl) dX0_addMember_19 ⟨by decide, by decide⟩ ⟨by decide, by decide⟩) hS (fun z_3 H locs hp_4 hR hS => ?_)
    rw [hp_4] at hR
    refine lv_aload_n hx hcb dX0_addMember_22 rfl (lv_at hl 0 rfl) ?_
    refine lv_dup hx hcb dX0_addMember_23 rfl ?_
    refine x_getI hx hcb hts hown hK xc0 hR (hoB hw hb) (hsB hw) 3 (by decide) rfl q_268 dX0_addMember_24 ?_
    refine x_top (show ((stM z b mc nm).1 (oB b) 3) = (nI mc) from by unfold stM; rw [ur_rd, if_neg (by first | omega | (simp only [oB, oMs, oDs, oSt, oD, oM, oPt, oLf, oKd, oPd]; omega)), ur_rd, if_neg (by first | omega | (simp only [oB, oMs, oDs, oSt, oD, oM, oPt, oLf, oKd, oPd]; omega)), ur_rd, if_neg (by first | omega | (simp only [oB, oMs, oDs, oSt, oD, oM, oPt, oLf, oKd, oPd]; omega)), ur_rd, if_neg (by first | omega | (simp only [oB, oMs, oDs, oSt, oD, oM, oPt, oLf, oKd, oPd]; omega)), ur_rd, if_neg (by first | omega | (simp only [oB, oMs, oDs, oSt, oD, oM, oPt, oLf, oKd, oPd]; omega))]; exact hmc) ?_
    refine lv_iconst (v := (nI 1)) hx hcb dX0_addMember_27 (by decide) ?_
    refine x_iaddN hx hcb dX0_addMember_28 ?_
    refine x_putI hx hcb hts hown hK xc0 hR hS (hoB hw hb) (hsB hw) 3 (by decide) rfl q_268 rfl (v := (nI (mc + 1))) rfl rfl dX0_addMember_29 (fun H locs hR hS => ?_)
    exact hret (u1 (stM z b mc nm) (oB b) 3 (nI (mc + 1))) _ _ _ _ dX0_addMember_32 hR hS rfl
def rm_X0_addDepartment : Room := { frames := 1, cells := 0, slots := 0, locals := 21 }
set_option maxRecDepth 100000 in
set_option maxHeartbeats 4000000 in
theorem c_X0_addDepartment (l : Launch) (G : xGl) (w : xWd) (K : Nat) (hw : isC K w) (z : xSt) (sz : Nat) (b : Nat) (hb : b < 2 + K) (nm : Int32) (dc : Nat) (hdc : z.1 (oB b) 4 = nI dc) (hdc4 : dc < 4) : xMv l yX0_addDepartment cX0_addDepartment 2 rm_X0_addDepartment G w z sz [.ref (w.2.2 (oB b)), .int nm] (fun z1 => z1 = u1 (stD z b dc nm) (oB b) 4 (nI (dc + 1))) := by
  refine x_mv (by decide) (Nat.le_of_ble_eq_true rfl) ?_
  intro p e s mt args below meth c ls Q hsz X hR hS hl hret
  obtain ⟨hx, hcb, hml, hown, hts, hlk, hK, hZ⟩ := X
  have hl : lv_has ls 2 [(0, .ref (w.2.2 (oB b))), (1, .int nm)] := hl
  refine lv_aload_n hx hcb dX0_addDepartment_0 rfl (lv_at hl 0 rfl) ?_
  refine x_getI hx hcb hts hown hK xc0 hR (hoB hw hb) (hsB hw) 4 (by decide) rfl q_273 dX0_addDepartment_1 ?_
  refine x_top (show (z.1 (oB b) 4) = (nI dc) from hdc) ?_
  refine lv_iconst (v := (nI 4)) hx hcb dX0_addDepartment_4 (by decide) ?_
  refine lv_icmp_ge (tgt := 31) hx hcb dX0_addDepartment_5 (by decide) (fun c_1 => ?_) (fun c_1 => ?_)
  · skip
    have c_1 : 4 ≤ dc := (nI_leI (by omega) (by omega)).mp c_1
    omega
  · skip
    have c_1 : ¬ 4 ≤ dc := fun h_ => c_1 ((nI_leI (by omega) (by omega)).mpr h_)
    refine lv_aload_n hx hcb dX0_addDepartment_8 rfl (lv_at hl 0 rfl) ?_
    refine x_getR hx hcb hts hown hK xc0 hR (hoB hw hb) (hsB hw) 1 (by decide) rfl q_260 dX0_addDepartment_9 ?_
    refine lv_aload_n hx hcb dX0_addDepartment_12 rfl (lv_at hl 0 rfl) ?_
    refine x_getI hx hcb hts hown hK xc0 hR (hoB hw hb) (hsB hw) 4 (by decide) rfl q_273 dX0_addDepartment_13 ?_
    refine x_top (show (z.1 (oB b) 4) = (nI dc) from hdc) ?_
    have hk_16 : dc < 4 := (by omega)
    refine x_aald hx hcb hK hR (hoDs hw hb) (hsDs hw) rfl (oDs_at hk_16) (Nat.lt_of_lt_of_le (Nat.lt_succ_self _) (Nat.le_of_ble_eq_true rfl)) dX0_addDepartment_16 ?_
    refine lv_iload_n hx hcb dX0_addDepartment_17 rfl (lv_at hl 1 rfl) ?_
    refine x_cv0 rfl rfl (x_runV hx hcb hml hown hts (c_X2_start l G w K hw z _ b dc hb hk_16 nm) mv_X2_start q_554 hK hZ hR hS (hoD hw hb hk_16) xc2 (hsD hw hk_16) rfl hl.1 rfl (Nat.le_of_ble_eq_true rfl) dX0_addDepartment_18 ⟨by decide, by decide⟩ ⟨by decide, by decide⟩) hS (fun z_3 H locs hp_4 hR hS => ?_)
    rw [hp_4] at hR
    refine lv_aload_n hx hcb dX0_addDepartment_21 rfl (lv_at hl 0 rfl) ?_
    refine lv_dup hx hcb dX0_addDepartment_22 rfl ?_
    refine x_getI hx hcb hts hown hK xc0 hR (hoB hw hb) (hsB hw) 4 (by decide) rfl q_273 dX0_addDepartment_23 ?_
    refine x_top (show ((stD z b dc nm).1 (oB b) 4) = (nI dc) from by unfold stD; rw [ur_rd, if_neg (by first | omega | (simp only [oB, oMs, oDs, oSt, oD, oM, oPt, oLf, oKd, oPd]; omega))]; exact hdc) ?_
    refine lv_iconst (v := (nI 1)) hx hcb dX0_addDepartment_26 (by decide) ?_
    refine x_iaddN hx hcb dX0_addDepartment_27 ?_
    refine x_putI hx hcb hts hown hK xc0 hR hS (hoB hw hb) (hsB hw) 4 (by decide) rfl q_273 rfl (v := (nI (dc + 1))) rfl rfl dX0_addDepartment_28 (fun H locs hR hS => ?_)
    exact hret (u1 (stD z b dc nm) (oB b) 4 (nI (dc + 1))) _ _ _ _ dX0_addDepartment_31 hR hS rfl
def rm_X0_findMember : Room := { frames := 0, cells := 0, slots := 0, locals := 0 }
set_option maxRecDepth 100000 in
set_option maxHeartbeats 4000000 in
theorem c_X0_findMember (l : Launch) (G : xGl) (w : xWd) (K : Nat) (hw : isC K w) (z : xSt) (sz : Nat) (b : Nat) (hb : b < 2 + K) (nm : Int32) (mc : Nat) (hmc : z.1 (oB b) 3 = nI mc) (hmc8 : mc ≤ 8) : xMi l yX0_findMember cX0_findMember 3 (some FieldType.int) rm_X0_findMember G w z sz [.ref (w.2.2 (oB b)), .int nm] (fun r z1 => r = xff (fun m => decide (z.1 (oM b m) 0 = nm)) mc 0 ∧ z1 = z) := by
  refine x_mi (by decide) (Nat.le_of_ble_eq_true rfl) ?_
  intro p e s mt args below meth c ls Q hsz X hR hS hl hret
  obtain ⟨hx, hcb, hml, hown, hts, hlk, hK, hZ⟩ := X
  have hl : lv_has ls 3 [(0, .ref (w.2.2 (oB b))), (1, .int nm)] := hl
  refine lv_iconst (v := (nI 0)) hx hcb dX0_findMember_0 (by decide) ?_
  refine lv_istore_n (lv' := [(2, .int (nI 0)), (0, .ref (w.2.2 (oB b))), (1, .int nm)]) hx hcb dX0_findMember_1 rfl hl (by decide) rfl (fun ls hl => ?_)
  suffices LP_2 : ∀ (nn : Nat) (i_ : Nat) (_ : mc - i_ < nn) (hi_ : i_ ≤ mc) (hf_ : xff (fun m => decide (z.1 (oM b m) 0 = nm)) mc 0 = xff (fun m => decide (z.1 (oM b m) 0 = nm)) (mc - i_) i_) (H : Heap) (locs : List Loc) (ls : Array Slot), Rh G w z H → va_S (xA w s.heap.size) s.heap H locs → lv_has ls 3 [(0, .ref (w.2.2 (oB b))), (1, .int nm), (2, .int (nI i_))] → W p l e rm_X0_findMember s mt args below meth c H locs 0 0 Q (F0 mt 2 ls []) from LP_2 ((_) + 1) 0 (Nat.lt_succ_self _) (by omega) rfl _ _ _ hR hS (lv_sub hl [1, 2, 0] rfl)
  intro nn
  induction nn with
  | zero => intro i_ hm_ ; exact absurd hm_ (Nat.not_lt_zero _)
  | succ nn ih_2 =>
    intro i_ hm_2 hi_ hf_ H locs ls hR hS hl
    refine lv_iload_n hx hcb dX0_findMember_2 rfl (lv_at hl 2 rfl) ?_
    refine lv_aload_n hx hcb dX0_findMember_3 rfl (lv_at hl 0 rfl) ?_
    refine x_getI hx hcb hts hown hK xc0 hR (hoB hw hb) (hsB hw) 3 (by decide) rfl q_268 dX0_findMember_4 ?_
    refine x_top (show (z.1 (oB b) 3) = (nI mc) from hmc) ?_
    refine lv_icmp_ge (tgt := 31) hx hcb dX0_findMember_7 (by decide) (fun c_1 => ?_) (fun c_1 => ?_)
    · skip
      have c_1 : mc ≤ i_ := (nI_leI (by omega) (by omega)).mp c_1
      obtain rfl : mc = i_ := by omega
      refine lv_iconst (v := (-1)) hx hcb dX0_findMember_31 (by decide) ?_
      exact hret (-1) z _ _ _ _ dX0_findMember_32 rfl hR hS (⟨by rw [hf_, Nat.sub_self]; rfl, rfl⟩)
    · skip
      have c_1 : ¬ mc ≤ i_ := fun h_ => c_1 ((nI_leI (by omega) (by omega)).mpr h_)
      refine lv_aload_n hx hcb dX0_findMember_10 rfl (lv_at hl 0 rfl) ?_
      refine x_getR hx hcb hts hown hK xc0 hR (hoB hw hb) (hsB hw) 0 (by decide) rfl q_255 dX0_findMember_11 ?_
      refine lv_iload_n hx hcb dX0_findMember_14 rfl (lv_at hl 2 rfl) ?_
      have hk_15 : i_ < 8 := (by omega)
      refine x_aald hx hcb hK hR (hoMs hw hb) (hsMs hw) rfl (oMs_at hk_15) (Nat.lt_of_lt_of_le (Nat.lt_succ_self _) (Nat.le_of_ble_eq_true rfl)) dX0_findMember_15 ?_
      refine x_getI hx hcb hts hown hK xc5 hR (hoM hw hb hk_15) (hsM hw hk_15) 0 (by decide) rfl q_178 dX0_findMember_16 ?_
      refine lv_iload_n hx hcb dX0_findMember_19 rfl (lv_at hl 1 rfl) ?_
      refine lv_icmp_ne (tgt := 25) hx hcb dX0_findMember_20 (by decide) (fun c_2 => ?_) (fun c_2 => ?_)
      · skip
        have hq_ := c_2
        refine lv_iinc (v := (nI (i_ + 1))) (lv' := [(2, .int (nI (i_ + 1))), (0, .ref (w.2.2 (oB b))), (1, .int nm)]) hx hcb dX0_findMember_25 hl (k := 2) rfl (x_iinc1 _) (by decide) rfl (fun ls hl => ?_)
        refine lv_goto (tgt := 2) hx hcb dX0_findMember_28 (by decide) ?_
        exact ih_2 (i_ + 1) (by omega) (by omega) (by rw [hf_, xff_s (k := mc - (i_ + 1)) (by omega), if_neg (by simpa using hq_)]) _ _ _ hR hS (lv_sub hl [1, 2, 0] rfl)
      · skip
        have hq_ := c_2
        refine lv_iload_n hx hcb dX0_findMember_23 rfl (lv_at hl 2 rfl) ?_
        exact hret (nI i_) z _ _ _ _ dX0_findMember_24 rfl hR hS (⟨by rw [hf_, xff_s (k := mc - (i_ + 1)) (by omega), if_pos (by simpa using hq_)], rfl⟩)
def rm_X0_findDepartment : Room := { frames := 0, cells := 0, slots := 0, locals := 0 }
set_option maxRecDepth 100000 in
set_option maxHeartbeats 4000000 in
theorem c_X0_findDepartment (l : Launch) (G : xGl) (w : xWd) (K : Nat) (hw : isC K w) (z : xSt) (sz : Nat) (b : Nat) (hb : b < 2 + K) (nm : Int32) (dc : Nat) (hdc : z.1 (oB b) 4 = nI dc) (hdc4 : dc ≤ 4) : xMi l yX0_findDepartment cX0_findDepartment 3 (some FieldType.int) rm_X0_findDepartment G w z sz [.ref (w.2.2 (oB b)), .int nm] (fun r z1 => r = xff (fun m => decide (z.1 (oD b m) 0 = nm)) dc 0 ∧ z1 = z) := by
  refine x_mi (by decide) (Nat.le_of_ble_eq_true rfl) ?_
  intro p e s mt args below meth c ls Q hsz X hR hS hl hret
  obtain ⟨hx, hcb, hml, hown, hts, hlk, hK, hZ⟩ := X
  have hl : lv_has ls 3 [(0, .ref (w.2.2 (oB b))), (1, .int nm)] := hl
  refine lv_iconst (v := (nI 0)) hx hcb dX0_findDepartment_0 (by decide) ?_
  refine lv_istore_n (lv' := [(2, .int (nI 0)), (0, .ref (w.2.2 (oB b))), (1, .int nm)]) hx hcb dX0_findDepartment_1 rfl hl (by decide) rfl (fun ls hl => ?_)
  suffices LP_2 : ∀ (nn : Nat) (i_ : Nat) (_ : dc - i_ < nn) (hi_ : i_ ≤ dc) (hf_ : xff (fun m => decide (z.1 (oD b m) 0 = nm)) dc 0 = xff (fun m => decide (z.1 (oD b m) 0 = nm)) (dc - i_) i_) (H : Heap) (locs : List Loc) (ls : Array Slot), Rh G w z H → va_S (xA w s.heap.size) s.heap H locs → lv_has ls 3 [(0, .ref (w.2.2 (oB b))), (1, .int nm), (2, .int (nI i_))] → W p l e rm_X0_findDepartment s mt args below meth c H locs 0 0 Q (F0 mt 2 ls []) from LP_2 ((_) + 1) 0 (Nat.lt_succ_self _) (by omega) rfl _ _ _ hR hS (lv_sub hl [1, 2, 0] rfl)
  intro nn
  induction nn with
  | zero => intro i_ hm_ ; exact absurd hm_ (Nat.not_lt_zero _)
  | succ nn ih_2 =>
    intro i_ hm_2 hi_ hf_ H locs ls hR hS hl
    refine lv_iload_n hx hcb dX0_findDepartment_2 rfl (lv_at hl 2 rfl) ?_
    refine lv_aload_n hx hcb dX0_findDepartment_3 rfl (lv_at hl 0 rfl) ?_
    refine x_getI hx hcb hts hown hK xc0 hR (hoB hw hb) (hsB hw) 4 (by decide) rfl q_273 dX0_findDepartment_4 ?_
    refine x_top (show (z.1 (oB b) 4) = (nI dc) from hdc) ?_
    refine lv_icmp_ge (tgt := 31) hx hcb dX0_findDepartment_7 (by decide) (fun c_1 => ?_) (fun c_1 => ?_)
    · skip
      have c_1 : dc ≤ i_ := (nI_leI (by omega) (by omega)).mp c_1
      obtain rfl : dc = i_ := by omega
      refine lv_iconst (v := (-1)) hx hcb dX0_findDepartment_31 (by decide) ?_
      exact hret (-1) z _ _ _ _ dX0_findDepartment_32 rfl hR hS (⟨by rw [hf_, Nat.sub_self]; rfl, rfl⟩)
    · skip
      have c_1 : ¬ dc ≤ i_ := fun h_ => c_1 ((nI_leI (by omega) (by omega)).mpr h_)
      refine lv_aload_n hx hcb dX0_findDepartment_10 rfl (lv_at hl 0 rfl) ?_
      refine x_getR hx hcb hts hown hK xc0 hR (hoB hw hb) (hsB hw) 1 (by decide) rfl q_260 dX0_findDepartment_11 ?_
      refine lv_iload_n hx hcb dX0_findDepartment_14 rfl (lv_at hl 2 rfl) ?_
      have hk_15 : i_ < 4 := (by omega)
      refine x_aald hx hcb hK hR (hoDs hw hb) (hsDs hw) rfl (oDs_at hk_15) (Nat.lt_of_lt_of_le (Nat.lt_succ_self _) (Nat.le_of_ble_eq_true rfl)) dX0_findDepartment_15 ?_
      refine x_getI hx hcb hts hown hK xc2 hR (hoD hw hb hk_15) (hsD hw hk_15) 0 (by decide) rfl q_238 dX0_findDepartment_16 ?_
      refine lv_iload_n hx hcb dX0_findDepartment_19 rfl (lv_at hl 1 rfl) ?_
      refine lv_icmp_ne (tgt := 25) hx hcb dX0_findDepartment_20 (by decide) (fun c_2 => ?_) (fun c_2 => ?_)
      · skip
        have hq_ := c_2
        refine lv_iinc (v := (nI (i_ + 1))) (lv' := [(2, .int (nI (i_ + 1))), (0, .ref (w.2.2 (oB b))), (1, .int nm)]) hx hcb dX0_findDepartment_25 hl (k := 2) rfl (x_iinc1 _) (by decide) rfl (fun ls hl => ?_)
        refine lv_goto (tgt := 2) hx hcb dX0_findDepartment_28 (by decide) ?_
        exact ih_2 (i_ + 1) (by omega) (by omega) (by rw [hf_, xff_s (k := dc - (i_ + 1)) (by omega), if_neg (by simpa using hq_)]) _ _ _ hR hS (lv_sub hl [1, 2, 0] rfl)
      · skip
        have hq_ := c_2
        refine lv_iload_n hx hcb dX0_findDepartment_23 rfl (lv_at hl 2 rfl) ?_
        exact hret (nI i_) z _ _ _ _ dX0_findDepartment_24 rfl hR hS (⟨by rw [hf_, xff_s (k := dc - (i_ + 1)) (by omega), if_pos (by simpa using hq_)], rfl⟩)
def rm_X0_patronageIn : Room := { frames := 0, cells := 0, slots := 0, locals := 0 }
set_option maxRecDepth 100000 in
set_option maxHeartbeats 4000000 in
theorem c_X0_patronageIn (l : Launch) (G : xGl) (w : xWd) (K : Nat) (hw : isC K w) (z : xSt) (sz : Nat) (b : Nat) (hb : b < 2 + K) (d : Nat) (mc : Nat) (hmc : z.1 (oB b) 3 = nI mc) (hmc8 : mc ≤ 8) (hd : d < 4) : xMi l yX0_patronageIn cX0_patronageIn 4 (some FieldType.int) rm_X0_patronageIn G w z sz [.ref (w.2.2 (oB b)), .int (nI d)] (fun r z1 => r = bx_sum (fun m => z.1 (oPt b m) d) mc ∧ z1 = z) := by
  refine x_mi (by decide) (Nat.le_of_ble_eq_true rfl) ?_
  intro p e s mt args below meth c ls Q hsz X hR hS hl hret
  obtain ⟨hx, hcb, hml, hown, hts, hlk, hK, hZ⟩ := X
  have hl : lv_has ls 4 [(0, .ref (w.2.2 (oB b))), (1, .int (nI d))] := hl
  refine lv_iconst (v := (nI 0)) hx hcb dX0_patronageIn_0 (by decide) ?_
  refine lv_istore_n (lv' := [(2, .int (nI 0)), (0, .ref (w.2.2 (oB b))), (1, .int (nI d))]) hx hcb dX0_patronageIn_1 rfl hl (by decide) rfl (fun ls hl => ?_)
  refine lv_iconst (v := (nI 0)) hx hcb dX0_patronageIn_2 (by decide) ?_
  refine lv_istore_n (lv' := [(3, .int (nI 0)), (2, .int (nI 0)), (0, .ref (w.2.2 (oB b))), (1, .int (nI d))]) hx hcb dX0_patronageIn_3 rfl hl (by decide) rfl (fun ls hl => ?_)
  suffices LP_4 : ∀ (nn : Nat) (i_ : Nat) (_ : mc - i_ < nn) (hi_ : i_ ≤ mc) (H : Heap) (locs : List Loc) (ls : Array Slot), Rh G w z H → va_S (xA w s.heap.size) s.heap H locs → lv_has ls 4 [(0, .ref (w.2.2 (oB b))), (1, .int (nI d)), (2, .int (bx_sum (fun m => z.1 (oPt b m) d) i_)), (3, .int (nI i_))] → W p l e rm_X0_patronageIn s mt args below meth c H locs 0 0 Q (F0 mt 4 ls []) from LP_4 ((_) + 1) 0 (Nat.lt_succ_self _) (by omega) _ _ _ hR hS (lv_sub hl [2, 3, 1, 0] rfl)
  intro nn
  induction nn with
  | zero => intro i_ hm_ ; exact absurd hm_ (Nat.not_lt_zero _)
  | succ nn ih_4 =>
    intro i_ hm_4 hi_ H locs ls hR hS hl
    refine lv_iload_n hx hcb dX0_patronageIn_4 rfl (lv_at hl 3 rfl) ?_
    refine lv_aload_n hx hcb dX0_patronageIn_5 rfl (lv_at hl 0 rfl) ?_
    refine x_getI hx hcb hts hown hK xc0 hR (hoB hw hb) (hsB hw) 3 (by decide) rfl q_268 dX0_patronageIn_6 ?_
    refine x_top (show (z.1 (oB b) 3) = (nI mc) from hmc) ?_
    refine lv_icmp_ge (tgt := 32) hx hcb dX0_patronageIn_9 (by decide) (fun c_1 => ?_) (fun c_1 => ?_)
    · skip
      have c_1 : mc ≤ i_ := (nI_leI (by omega) (by omega)).mp c_1
      obtain rfl : mc = i_ := by omega
      refine lv_iload_n hx hcb dX0_patronageIn_32 rfl (lv_at hl 2 rfl) ?_
      exact hret (bx_sum (fun m => z.1 (oPt b m) d) mc) z _ _ _ _ dX0_patronageIn_33 rfl hR hS (⟨rfl, rfl⟩)
    · skip
      have c_1 : ¬ mc ≤ i_ := fun h_ => c_1 ((nI_leI (by omega) (by omega)).mpr h_)
      refine lv_iload_n hx hcb dX0_patronageIn_12 rfl (lv_at hl 2 rfl) ?_
      refine lv_aload_n hx hcb dX0_patronageIn_13 rfl (lv_at hl 0 rfl) ?_
      refine x_getR hx hcb hts hown hK xc0 hR (hoB hw hb) (hsB hw) 0 (by decide) rfl q_255 dX0_patronageIn_14 ?_
      refine lv_iload_n hx hcb dX0_patronageIn_17 rfl (lv_at hl 3 rfl) ?_
      have hk_18 : i_ < 8 := (by omega)
      refine x_aald hx hcb hK hR (hoMs hw hb) (hsMs hw) rfl (oMs_at hk_18) (Nat.lt_of_lt_of_le (Nat.lt_succ_self _) (Nat.le_of_ble_eq_true rfl)) dX0_patronageIn_18 ?_
      refine x_getR hx hcb hts hown hK xc5 hR (hoM hw hb hk_18) (hsM hw hk_18) 6 (by decide) rfl q_198 dX0_patronageIn_19 ?_
      refine lv_iload_n hx hcb dX0_patronageIn_22 rfl (lv_at hl 1 rfl) ?_
      refine x_iald hx hcb hK hR (hoPt hw hb hk_18) (hsPt hw hk_18) (k := d) (by omega) (by decide) dX0_patronageIn_23 ?_
      refine lv_iadd hx hcb dX0_patronageIn_24 ?_
      refine lv_istore_n (lv' := [(2, .int ((bx_sum (fun m => z.1 (oPt b m) d) i_) + (z.1 (oPt b i_) d))), (0, .ref (w.2.2 (oB b))), (1, .int (nI d)), (3, .int (nI i_))]) hx hcb dX0_patronageIn_25 rfl hl (by decide) rfl (fun ls hl => ?_)
      refine lv_iinc (v := (nI (i_ + 1))) (lv' := [(3, .int (nI (i_ + 1))), (2, .int ((bx_sum (fun m => z.1 (oPt b m) d) i_) + (z.1 (oPt b i_) d))), (0, .ref (w.2.2 (oB b))), (1, .int (nI d))]) hx hcb dX0_patronageIn_26 hl (k := 3) rfl (x_iinc1 _) (by decide) rfl (fun ls hl => ?_)
      refine lv_goto (tgt := 4) hx hcb dX0_patronageIn_29 (by decide) ?_
      exact ih_4 (i_ + 1) (by omega) (by omega) _ _ _ hR hS (lv_sub hl [2, 3, 1, 0] rfl)
def rm_X0_paidInAll : Room := { frames := 0, cells := 0, slots := 0, locals := 0 }
set_option maxRecDepth 100000 in
set_option maxHeartbeats 4000000 in
theorem c_X0_paidInAll (l : Launch) (G : xGl) (w : xWd) (K : Nat) (hw : isC K w) (z : xSt) (sz : Nat) (b : Nat) (hb : b < 2 + K) (wh : Nat) (mc : Nat) (hmc : z.1 (oB b) 3 = nI mc) (hmc8 : mc ≤ 8) (hd : wh < 3) : xMi l yX0_paidInAll cX0_paidInAll 4 (some FieldType.int) rm_X0_paidInAll G w z sz [.ref (w.2.2 (oB b)), .int (nI wh)] (fun r z1 => r = bx_sum (fun m => z.1 (oPd b m) wh) mc ∧ z1 = z) := by
  refine x_mi (by decide) (Nat.le_of_ble_eq_true rfl) ?_
  intro p e s mt args below meth c ls Q hsz X hR hS hl hret
  obtain ⟨hx, hcb, hml, hown, hts, hlk, hK, hZ⟩ := X
  have hl : lv_has ls 4 [(0, .ref (w.2.2 (oB b))), (1, .int (nI wh))] := hl
  refine lv_iconst (v := (nI 0)) hx hcb dX0_paidInAll_0 (by decide) ?_
  refine lv_istore_n (lv' := [(2, .int (nI 0)), (0, .ref (w.2.2 (oB b))), (1, .int (nI wh))]) hx hcb dX0_paidInAll_1 rfl hl (by decide) rfl (fun ls hl => ?_)
  refine lv_iconst (v := (nI 0)) hx hcb dX0_paidInAll_2 (by decide) ?_
  refine lv_istore_n (lv' := [(3, .int (nI 0)), (2, .int (nI 0)), (0, .ref (w.2.2 (oB b))), (1, .int (nI wh))]) hx hcb dX0_paidInAll_3 rfl hl (by decide) rfl (fun ls hl => ?_)
  suffices LP_4 : ∀ (nn : Nat) (i_ : Nat) (_ : mc - i_ < nn) (hi_ : i_ ≤ mc) (H : Heap) (locs : List Loc) (ls : Array Slot), Rh G w z H → va_S (xA w s.heap.size) s.heap H locs → lv_has ls 4 [(0, .ref (w.2.2 (oB b))), (1, .int (nI wh)), (2, .int (bx_sum (fun m => z.1 (oPd b m) wh) i_)), (3, .int (nI i_))] → W p l e rm_X0_paidInAll s mt args below meth c H locs 0 0 Q (F0 mt 4 ls []) from LP_4 ((_) + 1) 0 (Nat.lt_succ_self _) (by omega) _ _ _ hR hS (lv_sub hl [2, 3, 1, 0] rfl)
  intro nn
  induction nn with
  | zero => intro i_ hm_ ; exact absurd hm_ (Nat.not_lt_zero _)
  | succ nn ih_4 =>
    intro i_ hm_4 hi_ H locs ls hR hS hl
    refine lv_iload_n hx hcb dX0_paidInAll_4 rfl (lv_at hl 3 rfl) ?_
    refine lv_aload_n hx hcb dX0_paidInAll_5 rfl (lv_at hl 0 rfl) ?_
    refine x_getI hx hcb hts hown hK xc0 hR (hoB hw hb) (hsB hw) 3 (by decide) rfl q_268 dX0_paidInAll_6 ?_
    refine x_top (show (z.1 (oB b) 3) = (nI mc) from hmc) ?_
    refine lv_icmp_ge (tgt := 32) hx hcb dX0_paidInAll_9 (by decide) (fun c_1 => ?_) (fun c_1 => ?_)
    · skip
      have c_1 : mc ≤ i_ := (nI_leI (by omega) (by omega)).mp c_1
      obtain rfl : mc = i_ := by omega
      refine lv_iload_n hx hcb dX0_paidInAll_32 rfl (lv_at hl 2 rfl) ?_
      exact hret (bx_sum (fun m => z.1 (oPd b m) wh) mc) z _ _ _ _ dX0_paidInAll_33 rfl hR hS (⟨rfl, rfl⟩)
    · skip
      have c_1 : ¬ mc ≤ i_ := fun h_ => c_1 ((nI_leI (by omega) (by omega)).mpr h_)
      refine lv_iload_n hx hcb dX0_paidInAll_12 rfl (lv_at hl 2 rfl) ?_
      refine lv_aload_n hx hcb dX0_paidInAll_13 rfl (lv_at hl 0 rfl) ?_
      refine x_getR hx hcb hts hown hK xc0 hR (hoB hw hb) (hsB hw) 0 (by decide) rfl q_255 dX0_paidInAll_14 ?_
      refine lv_iload_n hx hcb dX0_paidInAll_17 rfl (lv_at hl 3 rfl) ?_
      have hk_18 : i_ < 8 := (by omega)
      refine x_aald hx hcb hK hR (hoMs hw hb) (hsMs hw) rfl (oMs_at hk_18) (Nat.lt_of_lt_of_le (Nat.lt_succ_self _) (Nat.le_of_ble_eq_true rfl)) dX0_paidInAll_18 ?_
      refine x_getR hx hcb hts hown hK xc5 hR (hoM hw hb hk_18) (hsM hw hk_18) 9 (by decide) rfl q_209 dX0_paidInAll_19 ?_
      refine lv_iload_n hx hcb dX0_paidInAll_22 rfl (lv_at hl 1 rfl) ?_
      refine x_iald hx hcb hK hR (hoPd hw hb hk_18) (hsPd hw hk_18) (k := wh) (by omega) (by decide) dX0_paidInAll_23 ?_
      refine lv_iadd hx hcb dX0_paidInAll_24 ?_
      refine lv_istore_n (lv' := [(2, .int ((bx_sum (fun m => z.1 (oPd b m) wh) i_) + (z.1 (oPd b i_) wh))), (0, .ref (w.2.2 (oB b))), (1, .int (nI wh)), (3, .int (nI i_))]) hx hcb dX0_paidInAll_25 rfl hl (by decide) rfl (fun ls hl => ?_)
      refine lv_iinc (v := (nI (i_ + 1))) (lv' := [(3, .int (nI (i_ + 1))), (2, .int ((bx_sum (fun m => z.1 (oPd b m) wh) i_) + (z.1 (oPd b i_) wh))), (0, .ref (w.2.2 (oB b))), (1, .int (nI wh))]) hx hcb dX0_paidInAll_26 hl (k := 3) rfl (x_iinc1 _) (by decide) rfl (fun ls hl => ?_)
      refine lv_goto (tgt := 4) hx hcb dX0_paidInAll_29 (by decide) ?_
      exact ih_4 (i_ + 1) (by omega) (by omega) _ _ _ hR hS (lv_sub hl [2, 3, 1, 0] rfl)
def rm_X0_equityOfAll : Room := { frames := 1, cells := 0, slots := 0, locals := 22 }
set_option maxRecDepth 100000 in
set_option maxHeartbeats 4000000 in
theorem c_X0_equityOfAll (l : Launch) (G : xGl) (w : xWd) (K : Nat) (hw : isC K w) (z : xSt) (sz : Nat) (b : Nat) (hb : b < 2 + K) (mc : Nat) (hmc : z.1 (oB b) 3 = nI mc) (hmc8 : mc ≤ 8) : xMi l yX0_equityOfAll cX0_equityOfAll 3 (some FieldType.int) rm_X0_equityOfAll G w z sz [.ref (w.2.2 (oB b))] (fun r z1 => r = bx_sum (fun m => bx_sum (z.1 (oLf b m)) 25) mc ∧ z1 = z) := by
  refine x_mi (by decide) (Nat.le_of_ble_eq_true rfl) ?_
  intro p e s mt args below meth c ls Q hsz X hR hS hl hret
  obtain ⟨hx, hcb, hml, hown, hts, hlk, hK, hZ⟩ := X
  have hl : lv_has ls 3 [(0, .ref (w.2.2 (oB b)))] := hl
  refine lv_iconst (v := (nI 0)) hx hcb dX0_equityOfAll_0 (by decide) ?_
  refine lv_istore_n (lv' := [(1, .int (nI 0)), (0, .ref (w.2.2 (oB b)))]) hx hcb dX0_equityOfAll_1 rfl hl (by decide) rfl (fun ls hl => ?_)
  refine lv_iconst (v := (nI 0)) hx hcb dX0_equityOfAll_2 (by decide) ?_
  refine lv_istore_n (lv' := [(2, .int (nI 0)), (1, .int (nI 0)), (0, .ref (w.2.2 (oB b)))]) hx hcb dX0_equityOfAll_3 rfl hl (by decide) rfl (fun ls hl => ?_)
  suffices LP_4 : ∀ (nn : Nat) (i_ : Nat) (_ : mc - i_ < nn) (hi_ : i_ ≤ mc) (H : Heap) (locs : List Loc) (ls : Array Slot), Rh G w z H → va_S (xA w s.heap.size) s.heap H locs → lv_has ls 3 [(0, .ref (w.2.2 (oB b))), (1, .int (bx_sum (fun m => bx_sum (z.1 (oLf b m)) 25) i_)), (2, .int (nI i_))] → W p l e rm_X0_equityOfAll s mt args below meth c H locs 0 0 Q (F0 mt 4 ls []) from LP_4 ((_) + 1) 0 (Nat.lt_succ_self _) (by omega) _ _ _ hR hS (lv_sub hl [2, 1, 0] rfl)
  intro nn
  induction nn with
  | zero => intro i_ hm_ ; exact absurd hm_ (Nat.not_lt_zero _)
  | succ nn ih_4 =>
    intro i_ hm_4 hi_ H locs ls hR hS hl
    refine lv_iload_n hx hcb dX0_equityOfAll_4 rfl (lv_at hl 2 rfl) ?_
    refine lv_aload_n hx hcb dX0_equityOfAll_5 rfl (lv_at hl 0 rfl) ?_
    refine x_getI hx hcb hts hown hK xc0 hR (hoB hw hb) (hsB hw) 3 (by decide) rfl q_268 dX0_equityOfAll_6 ?_
    refine x_top (show (z.1 (oB b) 3) = (nI mc) from hmc) ?_
    refine lv_icmp_ge (tgt := 30) hx hcb dX0_equityOfAll_9 (by decide) (fun c_1 => ?_) (fun c_1 => ?_)
    · skip
      have c_1 : mc ≤ i_ := (nI_leI (by omega) (by omega)).mp c_1
      obtain rfl : mc = i_ := by omega
      refine lv_iload_n hx hcb dX0_equityOfAll_30 rfl (lv_at hl 1 rfl) ?_
      exact hret (bx_sum (fun m => bx_sum (z.1 (oLf b m)) 25) mc) z _ _ _ _ dX0_equityOfAll_31 rfl hR hS (⟨rfl, rfl⟩)
    · skip
      have c_1 : ¬ mc ≤ i_ := fun h_ => c_1 ((nI_leI (by omega) (by omega)).mpr h_)
      refine lv_iload_n hx hcb dX0_equityOfAll_12 rfl (lv_at hl 1 rfl) ?_
      refine lv_aload_n hx hcb dX0_equityOfAll_13 rfl (lv_at hl 0 rfl) ?_
      refine x_getR hx hcb hts hown hK xc0 hR (hoB hw hb) (hsB hw) 0 (by decide) rfl q_255 dX0_equityOfAll_14 ?_
      refine lv_iload_n hx hcb dX0_equityOfAll_17 rfl (lv_at hl 2 rfl) ?_
      have hk_18 : i_ < 8 := (by omega)
      refine x_aald hx hcb hK hR (hoMs hw hb) (hsMs hw) rfl (oMs_at hk_18) (Nat.lt_of_lt_of_le (Nat.lt_succ_self _) (Nat.le_of_ble_eq_true rfl)) dX0_equityOfAll_18 ?_
      refine x_ci0 rfl rfl (x_runV hx hcb hml hown hts (c_X5_equity l G w K hw z _ b i_ hb hk_18) mv_X5_equity q_713 hK hZ hR hS (hoM hw hb hk_18) xc5 (hsM hw hk_18) rfl hl.1 rfl (Nat.le_of_ble_eq_true rfl) dX0_equityOfAll_19 ⟨by decide, by decide⟩ ⟨by decide, by decide⟩) hS (fun r_2 z_3 H locs hp_4 hR hS => ?_)
      rw [hp_4.2] at hR; rw [hp_4.1]
      refine lv_iadd hx hcb dX0_equityOfAll_22 ?_
      refine lv_istore_n (lv' := [(1, .int ((bx_sum (fun m => bx_sum (z.1 (oLf b m)) 25) i_) + (bx_sum (z.1 (oLf b i_)) 25))), (0, .ref (w.2.2 (oB b))), (2, .int (nI i_))]) hx hcb dX0_equityOfAll_23 rfl hl (by decide) rfl (fun ls hl => ?_)
      refine lv_iinc (v := (nI (i_ + 1))) (lv' := [(2, .int (nI (i_ + 1))), (1, .int ((bx_sum (fun m => bx_sum (z.1 (oLf b m)) 25) i_) + (bx_sum (z.1 (oLf b i_)) 25))), (0, .ref (w.2.2 (oB b)))]) hx hcb dX0_equityOfAll_24 hl (k := 2) rfl (x_iinc1 _) (by decide) rfl (fun ls hl => ?_)
      refine lv_goto (tgt := 4) hx hcb dX0_equityOfAll_27 (by decide) ?_
      exact ih_4 (i_ + 1) (by omega) (by omega) _ _ _ hR hS (lv_sub hl [2, 1, 0] rfl)
def rm_X0_equityOfActive : Room := { frames := 1, cells := 0, slots := 0, locals := 22 }
set_option maxRecDepth 100000 in
set_option maxHeartbeats 4000000 in
theorem c_X0_equityOfActive (l : Launch) (G : xGl) (w : xWd) (K : Nat) (hw : isC K w) (z : xSt) (sz : Nat) (b : Nat) (hb : b < 2 + K) (mc : Nat) (hmc : z.1 (oB b) 3 = nI mc) (hmc8 : mc ≤ 8) : xMi l yX0_equityOfActive cX0_equityOfActive 3 (some FieldType.int) rm_X0_equityOfActive G w z sz [.ref (w.2.2 (oB b))] (fun r z1 => r = bx_sum (fun m => if z.1 (oM b m) 2 = 0 then bx_sum (z.1 (oLf b m)) 25 else 0) mc ∧ z1 = z) := by
  refine x_mi (by decide) (Nat.le_of_ble_eq_true rfl) ?_
  intro p e s mt args below meth c ls Q hsz X hR hS hl hret
  obtain ⟨hx, hcb, hml, hown, hts, hlk, hK, hZ⟩ := X
  have hl : lv_has ls 3 [(0, .ref (w.2.2 (oB b)))] := hl
  refine lv_iconst (v := (nI 0)) hx hcb dX0_equityOfActive_0 (by decide) ?_
  refine lv_istore_n (lv' := [(1, .int (nI 0)), (0, .ref (w.2.2 (oB b)))]) hx hcb dX0_equityOfActive_1 rfl hl (by decide) rfl (fun ls hl => ?_)
  refine lv_iconst (v := (nI 0)) hx hcb dX0_equityOfActive_2 (by decide) ?_
  refine lv_istore_n (lv' := [(2, .int (nI 0)), (1, .int (nI 0)), (0, .ref (w.2.2 (oB b)))]) hx hcb dX0_equityOfActive_3 rfl hl (by decide) rfl (fun ls hl => ?_)
  suffices LP_4 : ∀ (nn : Nat) (i_ : Nat) (_ : mc - i_ < nn) (hi_ : i_ ≤ mc) (H : Heap) (locs : List Loc) (ls : Array Slot), Rh G w z H → va_S (xA w s.heap.size) s.heap H locs → lv_has ls 3 [(0, .ref (w.2.2 (oB b))), (1, .int (bx_sum (fun m => if z.1 (oM b m) 2 = 0 then bx_sum (z.1 (oLf b m)) 25 else 0) i_)), (2, .int (nI i_))] → W p l e rm_X0_equityOfActive s mt args below meth c H locs 0 0 Q (F0 mt 4 ls []) from LP_4 ((_) + 1) 0 (Nat.lt_succ_self _) (by omega) _ _ _ hR hS (lv_sub hl [2, 1, 0] rfl)
  intro nn
  induction nn with
  | zero => intro i_ hm_ ; exact absurd hm_ (Nat.not_lt_zero _)
  | succ nn ih_4 =>
    intro i_ hm_4 hi_ H locs ls hR hS hl
    refine lv_iload_n hx hcb dX0_equityOfActive_4 rfl (lv_at hl 2 rfl) ?_
    refine lv_aload_n hx hcb dX0_equityOfActive_5 rfl (lv_at hl 0 rfl) ?_
    refine x_getI hx hcb hts hown hK xc0 hR (hoB hw hb) (hsB hw) 3 (by decide) rfl q_268 dX0_equityOfActive_6 ?_
    refine x_top (show (z.1 (oB b) 3) = (nI mc) from hmc) ?_
    refine lv_icmp_ge (tgt := 42) hx hcb dX0_equityOfActive_9 (by decide) (fun c_1 => ?_) (fun c_1 => ?_)
    · skip
      have c_1 : mc ≤ i_ := (nI_leI (by omega) (by omega)).mp c_1
      obtain rfl : mc = i_ := by omega
      refine lv_iload_n hx hcb dX0_equityOfActive_42 rfl (lv_at hl 1 rfl) ?_
      exact hret (bx_sum (fun m => if z.1 (oM b m) 2 = 0 then bx_sum (z.1 (oLf b m)) 25 else 0) mc) z _ _ _ _ dX0_equityOfActive_43 rfl hR hS (⟨rfl, rfl⟩)
    · skip
      have c_1 : ¬ mc ≤ i_ := fun h_ => c_1 ((nI_leI (by omega) (by omega)).mpr h_)
      refine lv_aload_n hx hcb dX0_equityOfActive_12 rfl (lv_at hl 0 rfl) ?_
      refine x_getR hx hcb hts hown hK xc0 hR (hoB hw hb) (hsB hw) 0 (by decide) rfl q_255 dX0_equityOfActive_13 ?_
      refine lv_iload_n hx hcb dX0_equityOfActive_16 rfl (lv_at hl 2 rfl) ?_
      have hk_17 : i_ < 8 := (by omega)
      refine x_aald hx hcb hK hR (hoMs hw hb) (hsMs hw) rfl (oMs_at hk_17) (Nat.lt_of_lt_of_le (Nat.lt_succ_self _) (Nat.le_of_ble_eq_true rfl)) dX0_equityOfActive_17 ?_
      refine x_getI hx hcb hts hown hK xc5 hR (hoM hw hb hk_17) (hsM hw hk_17) 2 (by decide) rfl q_185 dX0_equityOfActive_18 ?_
      refine lv_if_ne (tgt := 36) hx hcb dX0_equityOfActive_21 (by decide) (fun c_2 => ?_) (fun c_2 => ?_)
      · skip
        refine lv_iinc (v := (nI (i_ + 1))) (lv' := [(2, .int (nI (i_ + 1))), (0, .ref (w.2.2 (oB b))), (1, .int (bx_sum (fun m => if z.1 (oM b m) 2 = 0 then bx_sum (z.1 (oLf b m)) 25 else 0) i_))]) hx hcb dX0_equityOfActive_36 hl (k := 2) rfl (x_iinc1 _) (by decide) rfl (fun ls hl => ?_)
        refine lv_goto (tgt := 4) hx hcb dX0_equityOfActive_39 (by decide) ?_
        rw [show (bx_sum (fun m => if z.1 (oM b m) 2 = 0 then bx_sum (z.1 (oLf b m)) 25 else 0) i_) = (bx_sum (fun m => if z.1 (oM b m) 2 = 0 then bx_sum (z.1 (oLf b m)) 25 else 0) (i_ + 1)) from by simp only [bx_sum]; split <;> simp_all] at hl
        exact ih_4 (i_ + 1) (by omega) (by omega) _ _ _ hR hS (lv_sub hl [1, 2, 0] rfl)
      · skip
        refine lv_iload_n hx hcb dX0_equityOfActive_24 rfl (lv_at hl 1 rfl) ?_
        refine lv_aload_n hx hcb dX0_equityOfActive_25 rfl (lv_at hl 0 rfl) ?_
        refine x_getR hx hcb hts hown hK xc0 hR (hoB hw hb) (hsB hw) 0 (by decide) rfl q_255 dX0_equityOfActive_26 ?_
        refine lv_iload_n hx hcb dX0_equityOfActive_29 rfl (lv_at hl 2 rfl) ?_
        have hk_30 : i_ < 8 := (by omega)
        refine x_aald hx hcb hK hR (hoMs hw hb) (hsMs hw) rfl (oMs_at hk_30) (Nat.lt_of_lt_of_le (Nat.lt_succ_self _) (Nat.le_of_ble_eq_true rfl)) dX0_equityOfActive_30 ?_
        refine x_ci0 rfl rfl (x_runV hx hcb hml hown hts (c_X5_equity l G w K hw z _ b i_ hb hk_30) mv_X5_equity q_713 hK hZ hR hS (hoM hw hb hk_30) xc5 (hsM hw hk_30) rfl hl.1 rfl (Nat.le_of_ble_eq_true rfl) dX0_equityOfActive_31 ⟨by decide, by decide⟩ ⟨by decide, by decide⟩) hS (fun r_3 z_4 H locs hp_5 hR hS => ?_)
        rw [hp_5.2] at hR; rw [hp_5.1]
        refine lv_iadd hx hcb dX0_equityOfActive_34 ?_
        refine lv_istore_n (lv' := [(1, .int ((bx_sum (fun m => if z.1 (oM b m) 2 = 0 then bx_sum (z.1 (oLf b m)) 25 else 0) i_) + (bx_sum (z.1 (oLf b i_)) 25))), (0, .ref (w.2.2 (oB b))), (2, .int (nI i_))]) hx hcb dX0_equityOfActive_35 rfl hl (by decide) rfl (fun ls hl => ?_)
        refine lv_iinc (v := (nI (i_ + 1))) (lv' := [(2, .int (nI (i_ + 1))), (1, .int ((bx_sum (fun m => if z.1 (oM b m) 2 = 0 then bx_sum (z.1 (oLf b m)) 25 else 0) i_) + (bx_sum (z.1 (oLf b i_)) 25))), (0, .ref (w.2.2 (oB b)))]) hx hcb dX0_equityOfActive_36 hl (k := 2) rfl (x_iinc1 _) (by decide) rfl (fun ls hl => ?_)
        refine lv_goto (tgt := 4) hx hcb dX0_equityOfActive_39 (by decide) ?_
        rw [show ((bx_sum (fun m => if z.1 (oM b m) 2 = 0 then bx_sum (z.1 (oLf b m)) 25 else 0) i_) + (bx_sum (z.1 (oLf b i_)) 25)) = (bx_sum (fun m => if z.1 (oM b m) 2 = 0 then bx_sum (z.1 (oLf b m)) 25 else 0) (i_ + 1)) from by simp only [bx_sum]; split <;> simp_all] at hl
        exact ih_4 (i_ + 1) (by omega) (by omega) _ _ _ hR hS (lv_sub hl [2, 1, 0] rfl)
def rm_X0_canRedeem : Room := { frames := 0, cells := 0, slots := 0, locals := 0 }
set_option maxRecDepth 100000 in
set_option maxHeartbeats 4000000 in
theorem c_X0_canRedeem (l : Launch) (G : xGl) (w : xWd) (K : Nat) (hw : isC K w) (z : xSt) (sz : Nat) (b : Nat) (hb : b < 2 + K) (bx mx : Nat) (hbx : bx < 2 + K) (hmx : mx < 8) (y : Nat) (hy : y < 25) : xMi l yX0_canRedeem cX0_canRedeem 3 (some FieldType.boolean) rm_X0_canRedeem G w z sz [.ref (w.2.2 (oB b)), .ref (w.2.2 (oM bx mx)), .int (nI y)] (fun r z1 => r = (if cR z b bx mx y then 1 else 0) ∧ z1 = z) := by
  refine x_mi (by decide) (Nat.le_of_ble_eq_true rfl) ?_
  intro p e s mt args below meth c ls Q hsz X hR hS hl hret
  obtain ⟨hx, hcb, hml, hown, hts, hlk, hK, hZ⟩ := X
  have hl : lv_has ls 3 [(0, .ref (w.2.2 (oB b))), (1, .ref (w.2.2 (oM bx mx))), (2, .int (nI y))] := hl
  refine lv_aload_n hx hcb dX0_canRedeem_0 rfl (lv_at hl 1 rfl) ?_
  refine x_getI hx hcb hts hown hK xc5 hR (hoM hw hbx hmx) (hsM hw hmx) 2 (by decide) rfl q_185 dX0_canRedeem_1 ?_
  refine lv_if_ne (tgt := 35) hx hcb dX0_canRedeem_4 (by decide) (fun c_1 => ?_) (fun c_1 => ?_)
  · skip
    have hq_ : ¬ cR z b bx mx y := fun h_ => c_1 h_.1
    refine lv_iconst (v := (nI 0)) hx hcb dX0_canRedeem_35 (by decide) ?_
    exact hret (nI 0) z _ _ _ _ dX0_canRedeem_36 rfl hR hS (⟨by first | (rw [if_pos hq_]; rfl) | (rw [if_neg hq_]; rfl), rfl⟩)
  · skip
    have hA_ := c_1
    refine lv_aload_n hx hcb dX0_canRedeem_7 rfl (lv_at hl 1 rfl) ?_
    refine x_getR hx hcb hts hown hK xc5 hR (hoM hw hbx hmx) (hsM hw hmx) 7 (by decide) rfl q_202 dX0_canRedeem_8 ?_
    refine lv_iload_n hx hcb dX0_canRedeem_11 rfl (lv_at hl 2 rfl) ?_
    refine x_iald hx hcb hK hR (hoLf hw hbx hmx) (hsLf hw hmx) (k := y) (by omega) (by decide) dX0_canRedeem_12 ?_
    refine lv_if_le (tgt := 35) hx hcb dX0_canRedeem_13 (by decide) (fun c_2 => ?_) (fun c_2 => ?_)
    · skip
      have hq_ : ¬ cR z b bx mx y := fun h_ => absurd h_.2.1 (Int32.not_lt.mpr c_2)
      refine lv_iconst (v := (nI 0)) hx hcb dX0_canRedeem_35 (by decide) ?_
      exact hret (nI 0) z _ _ _ _ dX0_canRedeem_36 rfl hR hS (⟨by first | (rw [if_pos hq_]; rfl) | (rw [if_neg hq_]; rfl), rfl⟩)
    · skip
      have hB_ := Int32.not_le.mp c_2
      refine lv_aload_n hx hcb dX0_canRedeem_16 rfl (lv_at hl 0 rfl) ?_
      refine x_getI hx hcb hts hown hK xc0 hR (hoB hw hb) (hsB hw) 5 (by decide) rfl q_277 dX0_canRedeem_17 ?_
      refine lv_iload_n hx hcb dX0_canRedeem_20 rfl (lv_at hl 2 rfl) ?_
      refine lv_isub hx hcb dX0_canRedeem_21 ?_
      refine lv_aload_n hx hcb dX0_canRedeem_22 rfl (lv_at hl 0 rfl) ?_
      refine x_getR hx hcb hts hown hK xc0 hR (hoB hw hb) (hsB hw) 2 (by decide) rfl q_263 dX0_canRedeem_23 ?_
      refine lv_iconst (v := (nI 3)) hx hcb dX0_canRedeem_26 (by decide) ?_
      refine x_iald hx hcb hK hR (hoSt hw hb) (hsSt hw) (k := 3) (by omega) (by decide) dX0_canRedeem_27 ?_
      refine lv_icmp_lt (tgt := 35) hx hcb dX0_canRedeem_28 (by decide) (fun c_3 => ?_) (fun c_3 => ?_)
      · skip
        have hq_ : ¬ cR z b bx mx y := fun h_ => absurd h_.2.2 (Int32.not_le.mpr c_3)
        refine lv_iconst (v := (nI 0)) hx hcb dX0_canRedeem_35 (by decide) ?_
        exact hret (nI 0) z _ _ _ _ dX0_canRedeem_36 rfl hR hS (⟨by first | (rw [if_pos hq_]; rfl) | (rw [if_neg hq_]; rfl), rfl⟩)
      · skip
        have hq_ : cR z b bx mx y := ⟨hA_, hB_, Int32.not_lt.mp c_3⟩
        refine lv_iconst (v := (nI 1)) hx hcb dX0_canRedeem_31 (by decide) ?_
        refine lv_goto (tgt := 36) hx hcb dX0_canRedeem_32 (by decide) ?_
        exact hret (nI 1) z _ _ _ _ dX0_canRedeem_36 rfl hR hS (⟨by first | (rw [if_pos hq_]; rfl) | (rw [if_neg hq_]; rfl), rfl⟩)
def rm_X0_redeemableThrough : Room := { frames := 1, cells := 0, slots := 0, locals := 22 }
set_option maxRecDepth 100000 in
set_option maxHeartbeats 4000000 in
theorem c_X0_redeemableThrough (l : Launch) (G : xGl) (w : xWd) (K : Nat) (hw : isC K w) (z : xSt) (sz : Nat) (b : Nat) (hb : b < 2 + K) (L : Nat) (mc : Nat) (hmc : z.1 (oB b) 3 = nI mc) (hmc8 : mc ≤ 8) (hL : L ≤ 24) : xMi l yX0_redeemableThrough cX0_redeemableThrough 5 (some FieldType.int) rm_X0_redeemableThrough G w z sz [.ref (w.2.2 (oB b)), .int (nI L)] (fun r z1 => r = rTh z b mc (L + 1) ∧ z1 = z) := by
  refine x_mi (by decide) (Nat.le_of_ble_eq_true rfl) ?_
  intro p e s mt args below meth c ls Q hsz X hR hS hl hret
  obtain ⟨hx, hcb, hml, hown, hts, hlk, hK, hZ⟩ := X
  have hl : lv_has ls 5 [(0, .ref (w.2.2 (oB b))), (1, .int (nI L))] := hl
  refine lv_iconst (v := (nI 0)) hx hcb dX0_redeemableThrough_0 (by decide) ?_
  refine lv_istore_n (lv' := [(2, .int (nI 0)), (0, .ref (w.2.2 (oB b))), (1, .int (nI L))]) hx hcb dX0_redeemableThrough_1 rfl hl (by decide) rfl (fun ls hl => ?_)
  refine lv_iconst (v := (nI 0)) hx hcb dX0_redeemableThrough_2 (by decide) ?_
  refine lv_istore_n (lv' := [(3, .int (nI 0)), (2, .int (nI 0)), (0, .ref (w.2.2 (oB b))), (1, .int (nI L))]) hx hcb dX0_redeemableThrough_3 rfl hl (by decide) rfl (fun ls hl => ?_)
  suffices LP_4 : ∀ (nn : Nat) (i_ : Nat) (_ : 25 - i_ < nn) (hi_ : i_ ≤ L + 1) (H : Heap) (locs : List Loc) (ls : Array Slot), Rh G w z H → va_S (xA w s.heap.size) s.heap H locs → lv_has ls 5 [(0, .ref (w.2.2 (oB b))), (1, .int (nI L)), (2, .int (bx_sum (fun y => bx_sum (rdF z b y) mc) i_)), (3, .int (nI i_))] → W p l e rm_X0_redeemableThrough s mt args below meth c H locs 0 0 Q (F0 mt 4 ls []) from LP_4 ((_) + 1) 0 (Nat.lt_succ_self _) (by omega) _ _ _ hR hS (lv_sub hl [2, 3, 1, 0] rfl)
  intro nn
  induction nn with
  | zero => intro i_ hm_ ; exact absurd hm_ (Nat.not_lt_zero _)
  | succ nn ih_4 =>
    intro i_ hm_4 hi_ H locs ls hR hS hl
    refine lv_iload_n hx hcb dX0_redeemableThrough_4 rfl (lv_at hl 3 rfl) ?_
    refine lv_bipush (v := (nI 25)) hx hcb dX0_redeemableThrough_5 (by decide) ?_
    refine lv_icmp_ge (tgt := 69) hx hcb dX0_redeemableThrough_7 (by decide) (fun c_1 => ?_) (fun c_1 => ?_)
    · skip
      have c_1 : 25 ≤ i_ := (nI_leI (by omega) (by omega)).mp c_1
      obtain rfl : L + 1 = i_ := by omega
      refine lv_iload_n hx hcb dX0_redeemableThrough_69 rfl (lv_at hl 2 rfl) ?_
      exact hret (bx_sum (fun y => bx_sum (rdF z b y) mc) (L + 1)) z _ _ _ _ dX0_redeemableThrough_70 rfl hR hS (⟨rfl, rfl⟩)
    · skip
      have c_1 : ¬ 25 ≤ i_ := fun h_ => c_1 ((nI_leI (by omega) (by omega)).mpr h_)
      refine lv_iload_n hx hcb dX0_redeemableThrough_10 rfl (lv_at hl 3 rfl) ?_
      refine lv_iload_n hx hcb dX0_redeemableThrough_11 rfl (lv_at hl 1 rfl) ?_
      refine lv_icmp_gt (tgt := 69) hx hcb dX0_redeemableThrough_12 (by decide) (fun c_2 => ?_) (fun c_2 => ?_)
      · skip
        have c_2 : L < i_ := (nI_ltI (by omega) (by omega)).mp c_2
        obtain rfl : L + 1 = i_ := by omega
        refine lv_iload_n hx hcb dX0_redeemableThrough_69 rfl (lv_at hl 2 rfl) ?_
        exact hret (bx_sum (fun y => bx_sum (rdF z b y) mc) (L + 1)) z _ _ _ _ dX0_redeemableThrough_70 rfl hR hS (⟨rfl, rfl⟩)
      · skip
        have c_2 : ¬ L < i_ := fun h_ => c_2 ((nI_ltI (by omega) (by omega)).mpr h_)
        refine lv_iconst (v := (nI 0)) hx hcb dX0_redeemableThrough_15 (by decide) ?_
        refine lv_istore (lv' := [(4, .int (nI 0)), (0, .ref (w.2.2 (oB b))), (1, .int (nI L)), (2, .int (bx_sum (fun y => bx_sum (rdF z b y) mc) i_)), (3, .int (nI i_))]) hx hcb dX0_redeemableThrough_16 hl (by decide) rfl (fun ls hl => ?_)
        rw [show (bx_sum (fun y => bx_sum (rdF z b y) mc) i_) = (bx_sum (fun y => bx_sum (rdF z b y) mc) i_ + bx_sum (rdF z b i_) 0) from (Int32.add_zero _).symm] at hl
        suffices LP_18 : ∀ (nn : Nat) (j_ : Nat) (_ : mc - j_ < nn) (hj_ : j_ ≤ mc) (H : Heap) (locs : List Loc) (ls : Array Slot), Rh G w z H → va_S (xA w s.heap.size) s.heap H locs → lv_has ls 5 [(0, .ref (w.2.2 (oB b))), (1, .int (nI L)), (2, .int (bx_sum (fun y => bx_sum (rdF z b y) mc) i_ + bx_sum (rdF z b i_) j_)), (3, .int (nI i_)), (4, .int (nI j_))] → W p l e rm_X0_redeemableThrough s mt args below meth c H locs 0 0 Q (F0 mt 18 ls []) from LP_18 ((_) + 1) 0 (Nat.lt_succ_self _) (by omega) _ _ _ hR hS (lv_sub hl [1, 2, 3, 4, 0] rfl)
        intro nn
        induction nn with
        | zero => intro j_ hm_ ; exact absurd hm_ (Nat.not_lt_zero _)
        | succ nn ih_18 =>
          intro j_ hm_18 hj_ H locs ls hR hS hl
          refine lv_iload hx hcb dX0_redeemableThrough_18 (lv_at hl 4 rfl) ?_
          refine lv_aload_n hx hcb dX0_redeemableThrough_20 rfl (lv_at hl 0 rfl) ?_
          refine x_getI hx hcb hts hown hK xc0 hR (hoB hw hb) (hsB hw) 3 (by decide) rfl q_268 dX0_redeemableThrough_21 ?_
          refine x_top (show (z.1 (oB b) 3) = (nI mc) from hmc) ?_
          refine lv_icmp_ge (tgt := 63) hx hcb dX0_redeemableThrough_24 (by decide) (fun c_3 => ?_) (fun c_3 => ?_)
          · skip
            have c_3 : mc ≤ j_ := (nI_leI (by omega) (by omega)).mp c_3
            obtain rfl : mc = j_ := by omega
            refine lv_iinc (v := (nI (i_ + 1))) (lv' := [(3, .int (nI (i_ + 1))), (0, .ref (w.2.2 (oB b))), (1, .int (nI L)), (2, .int (bx_sum (fun y => bx_sum (rdF z b y) mc) i_ + bx_sum (rdF z b i_) mc)), (4, .int (nI mc))]) hx hcb dX0_redeemableThrough_63 hl (k := 3) rfl (x_iinc1 _) (by decide) rfl (fun ls hl => ?_)
            refine lv_goto (tgt := 4) hx hcb dX0_redeemableThrough_66 (by decide) ?_
            exact ih_4 (i_ + 1) (by omega) (by omega) _ _ _ hR hS (lv_sub hl [1, 2, 3, 0] rfl)
          · skip
            have c_3 : ¬ mc ≤ j_ := fun h_ => c_3 ((nI_leI (by omega) (by omega)).mpr h_)
            refine lv_aload_n hx hcb dX0_redeemableThrough_27 rfl (lv_at hl 0 rfl) ?_
            refine lv_aload_n hx hcb dX0_redeemableThrough_28 rfl (lv_at hl 0 rfl) ?_
            refine x_getR hx hcb hts hown hK xc0 hR (hoB hw hb) (hsB hw) 0 (by decide) rfl q_255 dX0_redeemableThrough_29 ?_
            refine lv_iload hx hcb dX0_redeemableThrough_32 (lv_at hl 4 rfl) ?_
            have hk_34 : j_ < 8 := (by omega)
            refine x_aald hx hcb hK hR (hoMs hw hb) (hsMs hw) rfl (oMs_at hk_34) (Nat.lt_of_lt_of_le (Nat.lt_succ_self _) (Nat.le_of_ble_eq_true rfl)) dX0_redeemableThrough_34 ?_
            refine lv_iload_n hx hcb dX0_redeemableThrough_35 rfl (lv_at hl 3 rfl) ?_
            refine x_ci0 rfl rfl (x_runV hx hcb hml hown hts (c_X0_canRedeem l G w K hw z _ b hb b j_ hb hk_34 i_ (by omega)) mv_X0_canRedeem q_740 hK hZ hR hS (hoB hw hb) xc0 (hsB hw) rfl hl.1 rfl (Nat.le_of_ble_eq_true rfl) dX0_redeemableThrough_36 ⟨by decide, by decide⟩ ⟨by decide, by decide⟩) hS (fun r_4 z_5 H locs hp_6 hR hS => ?_)
            rw [hp_6.2] at hR; rw [hp_6.1]
            refine lv_if_eq (tgt := 57) hx hcb dX0_redeemableThrough_39 (by decide) (fun c_7 => ?_) (fun c_7 => ?_)
            · skip
              have hq_ : ¬ cR z b b j_ i_ := fun h_ => by rw [if_pos h_] at c_7; exact absurd c_7 (by decide)
              refine lv_iinc (v := (nI (j_ + 1))) (lv' := [(4, .int (nI (j_ + 1))), (0, .ref (w.2.2 (oB b))), (1, .int (nI L)), (2, .int (bx_sum (fun y => bx_sum (rdF z b y) mc) i_ + bx_sum (rdF z b i_) j_)), (3, .int (nI i_))]) hx hcb dX0_redeemableThrough_57 hl (k := 4) rfl (x_iinc1 _) (by decide) rfl (fun ls hl => ?_)
              refine lv_goto (tgt := 18) hx hcb dX0_redeemableThrough_60 (by decide) ?_
              rw [show (bx_sum (fun y => bx_sum (rdF z b y) mc) i_ + bx_sum (rdF z b i_) j_) = (bx_sum (fun y => bx_sum (rdF z b y) mc) i_ + bx_sum (rdF z b i_) (j_ + 1)) from by rw [show bx_sum (rdF z b i_) (j_ + 1) = bx_sum (rdF z b i_) j_ + rdF z b i_ j_ from rfl, ← Int32.add_assoc]; unfold rdF; first | (rw [if_pos hq_]; done) | rw [if_neg hq_, Int32.add_zero]] at hl
              exact ih_18 (j_ + 1) (by omega) (by omega) _ _ _ hR hS (lv_sub hl [1, 2, 3, 4, 0] rfl)
            · skip
              have hq_ : cR z b b j_ i_ := Classical.byContradiction (fun h_ => c_7 (if_neg h_))
              refine lv_iload_n hx hcb dX0_redeemableThrough_42 rfl (lv_at hl 2 rfl) ?_
              refine lv_aload_n hx hcb dX0_redeemableThrough_43 rfl (lv_at hl 0 rfl) ?_
              refine x_getR hx hcb hts hown hK xc0 hR (hoB hw hb) (hsB hw) 0 (by decide) rfl q_255 dX0_redeemableThrough_44 ?_
              refine lv_iload hx hcb dX0_redeemableThrough_47 (lv_at hl 4 rfl) ?_
              have hk_49 : j_ < 8 := (by omega)
              refine x_aald hx hcb hK hR (hoMs hw hb) (hsMs hw) rfl (oMs_at hk_49) (Nat.lt_of_lt_of_le (Nat.lt_succ_self _) (Nat.le_of_ble_eq_true rfl)) dX0_redeemableThrough_49 ?_
              refine x_getR hx hcb hts hown hK xc5 hR (hoM hw hb hk_49) (hsM hw hk_49) 7 (by decide) rfl q_202 dX0_redeemableThrough_50 ?_
              refine lv_iload_n hx hcb dX0_redeemableThrough_53 rfl (lv_at hl 3 rfl) ?_
              refine x_iald hx hcb hK hR (hoLf hw hb hk_49) (hsLf hw hk_49) (k := i_) (by omega) (by decide) dX0_redeemableThrough_54 ?_
              refine lv_iadd hx hcb dX0_redeemableThrough_55 ?_
              refine lv_istore_n (lv' := [(2, .int ((bx_sum (fun y => bx_sum (rdF z b y) mc) i_ + bx_sum (rdF z b i_) j_) + (z.1 (oLf b j_) i_))), (0, .ref (w.2.2 (oB b))), (1, .int (nI L)), (3, .int (nI i_)), (4, .int (nI j_))]) hx hcb dX0_redeemableThrough_56 rfl hl (by decide) rfl (fun ls hl => ?_)
              refine lv_iinc (v := (nI (j_ + 1))) (lv' := [(4, .int (nI (j_ + 1))), (2, .int ((bx_sum (fun y => bx_sum (rdF z b y) mc) i_ + bx_sum (rdF z b i_) j_) + (z.1 (oLf b j_) i_))), (0, .ref (w.2.2 (oB b))), (1, .int (nI L)), (3, .int (nI i_))]) hx hcb dX0_redeemableThrough_57 hl (k := 4) rfl (x_iinc1 _) (by decide) rfl (fun ls hl => ?_)
              refine lv_goto (tgt := 18) hx hcb dX0_redeemableThrough_60 (by decide) ?_
              rw [show ((bx_sum (fun y => bx_sum (rdF z b y) mc) i_ + bx_sum (rdF z b i_) j_) + (z.1 (oLf b j_) i_)) = (bx_sum (fun y => bx_sum (rdF z b y) mc) i_ + bx_sum (rdF z b i_) (j_ + 1)) from by rw [show bx_sum (rdF z b i_) (j_ + 1) = bx_sum (rdF z b i_) j_ + rdF z b i_ j_ from rfl, ← Int32.add_assoc]; unfold rdF; first | (rw [if_pos hq_]; done) | rw [if_neg hq_, Int32.add_zero]] at hl
              exact ih_18 (j_ + 1) (by omega) (by omega) _ _ _ hR hS (lv_sub hl [2, 3, 1, 4, 0] rfl)
