def rm_X4_checkInteger : Room := { frames := 1, cells := 0, slots := 0, locals := 22 }
set_option maxRecDepth 100000 in
set_option maxHeartbeats 4000000 in
theorem c_X4_checkInteger (l : Launch) (G : xGl) (w : xWd) (K : Nat) (hw : isC K w) (z : xSt) (sz : Nat) (a : Int32) (b : Int32) (hT : tOk z) : xMi l yX4_checkInteger cX4_checkInteger 4 (some FieldType.int) rm_X4_checkInteger G w z sz [.ref (w.2.2 16), .int a, .int b] (fun r z1 => r = cI z a b ∧ z1 = z) := by
  refine x_mi (by decide) (Nat.le_of_ble_eq_true rfl) ?_
  intro p e s mt args below meth c ls Q hsz X hR hS hl hret
  obtain ⟨hx, hcb, hml, hown, hts, hlk, hK, hZ⟩ := X
  have hl : lv_has ls 4 [(0, .ref (w.2.2 16)), (1, .int a), (2, .int b)] := hl
  have h1_ := hT.1
  have h2_ := hT.2.1
  have h3_ := hT.2.2.1
  have h4_ := hT.2.2.2.1
  have h5_ := hT.2.2.2.2.1
  have h6_ := hT.2.2.2.2.2.1
  have h7_ := hT.2.2.2.2.2.2
  have hk3_ := tN_kind hT
  refine lv_aload_n hx hcb dX4_checkInteger_0 rfl (lv_at hl 0 rfl) ?_
  refine x_getR hx hcb hts hown hK xc4 hR (hw.lo (by decide)) (hw.s0 (by decide) rfl) 0 (by decide) rfl q_359 dX4_checkInteger_1 ?_
  refine x_getN hx hcb hts hown hK xc8 hR (hw.lo (by decide)) (hw.s0 (by decide) rfl) 3 (by decide) rfl (hZ.1.1 _ (List.mem_of_getElem? (i := 3) rfl)) dX4_checkInteger_4 ?_
  refine x_top (show (z.1 14 3) = (nI (tN z 3)) from h2_) ?_
  refine lv_iconst (v := (nI 2)) hx hcb dX4_checkInteger_7 (by decide) ?_
  refine lv_icmp_eq (tgt := 14) hx hcb dX4_checkInteger_8 (by decide) (fun c_1 => ?_) (fun c_1 => ?_)
  · skip
    have c_1 : (tN z 3) = 2 := (nI_eq (by omega) (by omega)).mp c_1
    have hk_ : tN z 3 = 2 := c_1
    refine lv_aload_n hx hcb dX4_checkInteger_14 rfl (lv_at hl 0 rfl) ?_
    refine x_getR hx hcb hts hown hK xc4 hR (hw.lo (by decide)) (hw.s0 (by decide) rfl) 0 (by decide) rfl q_359 dX4_checkInteger_15 ?_
    refine x_ci0 rfl rfl (x_runV hx hcb hml hown hts (c_X8_integer l G w K hw z _ (by assumption)) mv_X8_integer q_568 hK hZ hR hS (hw.lo (by decide)) xc8 (hw.s0 (by decide) rfl) rfl hl.1 rfl (Nat.le_of_ble_eq_true rfl) dX4_checkInteger_18 ⟨by decide, by decide⟩ ⟨by decide, by decide⟩) hS (fun r_2 z_3 H locs hp_4 hR hS => ?_)
    rw [hp_4.2] at hR; rw [hp_4.1]
    refine lv_istore_n (lv' := [(3, .int (intg z)), (0, .ref (w.2.2 16)), (1, .int a), (2, .int b)]) hx hcb dX4_checkInteger_21 rfl hl (by decide) rfl (fun ls hl => ?_)
    refine lv_iload_n hx hcb dX4_checkInteger_22 rfl (lv_at hl 0 rfl) ?_
    refine lv_iload_n hx hcb dX4_checkInteger_23 rfl (lv_at hl 2 rfl) ?_
    refine lv_icmp_lt (tgt := 32) hx hcb dX4_checkInteger_24 (by decide) (fun c_5 => ?_) (fun c_5 => ?_)
    · skip
      have hr_ : intg z < a ∨ b < intg z := Or.inl c_5
      refine lv_bipush (v := (-12)) hx hcb dX4_checkInteger_32 (by decide) ?_
      refine lv_goto (tgt := 38) hx hcb dX4_checkInteger_34 (by decide) ?_
      exact hret (-12) z _ _ _ _ dX4_checkInteger_38 rfl hR hS (⟨by unfold cI; rw [if_pos hk_]; first | (rw [if_pos hr_]; first | done | rfl) | (rw [if_neg hr_]; first | done | rfl), rfl⟩)
    · skip
      have hr0_ := c_5
      refine lv_iload_n hx hcb dX4_checkInteger_27 rfl (lv_at hl 0 rfl) ?_
      refine lv_iload_n hx hcb dX4_checkInteger_28 rfl (lv_at hl 3 rfl) ?_
      refine lv_icmp_le (tgt := 37) hx hcb dX4_checkInteger_29 (by decide) (fun c_6 => ?_) (fun c_6 => ?_)
      · skip
        have hr_ : ¬ (intg z < a ∨ b < intg z) := fun h_ => h_.elim hr0_ (Int32.not_lt.mpr c_6)
        refine lv_iconst (v := (nI 0)) hx hcb dX4_checkInteger_37 (by decide) ?_
        exact hret (nI 0) z _ _ _ _ dX4_checkInteger_38 rfl hR hS (⟨by unfold cI; rw [if_pos hk_]; first | (rw [if_pos hr_]; first | done | rfl) | (rw [if_neg hr_]; first | done | rfl), rfl⟩)
      · skip
        have hr_ : intg z < a ∨ b < intg z := Or.inr (Int32.not_le.mp c_6)
        refine lv_bipush (v := (-12)) hx hcb dX4_checkInteger_32 (by decide) ?_
        refine lv_goto (tgt := 38) hx hcb dX4_checkInteger_34 (by decide) ?_
        exact hret (-12) z _ _ _ _ dX4_checkInteger_38 rfl hR hS (⟨by unfold cI; rw [if_pos hk_]; first | (rw [if_pos hr_]; first | done | rfl) | (rw [if_neg hr_]; first | done | rfl), rfl⟩)
  · skip
    have c_1 : ¬ (tN z 3) = 2 := fun h_ => c_1 ((nI_eq (by omega) (by omega)).mpr h_)
    have hk_ : ¬ tN z 3 = 2 := c_1
    refine lv_bipush (v := (-11)) hx hcb dX4_checkInteger_11 (by decide) ?_
    exact hret (-11) z _ _ _ _ dX4_checkInteger_13 rfl hR hS (⟨by unfold cI; rw [if_neg hk_]; first | done | rfl, rfl⟩)
def rm_X4_checkNewName : Room := { frames := 6, cells := 0, slots := 0, locals := 127 }
set_option maxRecDepth 100000 in
set_option maxHeartbeats 4000000 in
theorem c_X4_checkNewName (l : Launch) (G : xGl) (w : xWd) (K : Nat) (hw : isC K w) (z : xSt) (sz : Nat)  (hL : lOk z) : xMi l yX4_checkNewName cX4_checkNewName 3 (some FieldType.int) rm_X4_checkNewName G w z sz [.ref (w.2.2 16)] (fun r z1 => r = cNN z ∧ z1 = z) := by
  refine x_mi (by decide) (Nat.le_of_ble_eq_true rfl) ?_
  intro p e s mt args below meth c ls Q hsz X hR hS hl hret
  obtain ⟨hx, hcb, hml, hown, hts, hlk, hK, hZ⟩ := X
  have hl : lv_has ls 3 [(0, .ref (w.2.2 16))] := hl
  have hT := hL.1
  refine lv_aload_n hx hcb dX4_checkNewName_0 rfl (lv_at hl 0 rfl) ?_
  refine x_getR hx hcb hts hown hK xc4 hR (hw.lo (by decide)) (hw.s0 (by decide) rfl) 0 (by decide) rfl q_359 dX4_checkNewName_1 ?_
  refine x_ci0 rfl rfl (x_runV hx hcb hml hown hts (c_X8_isName l G w K hw z _ (by assumption)) mv_X8_isName q_508 hK hZ hR hS (hw.lo (by decide)) xc8 (hw.s0 (by decide) rfl) rfl hl.1 rfl (Nat.le_of_ble_eq_true rfl) dX4_checkNewName_4 ⟨by decide, by decide⟩ ⟨by decide, by decide⟩) hS (fun r_1 z_2 H locs hp_3 hR hS => ?_)
  rw [hp_3.2] at hR; rw [hp_3.1]
  refine lv_if_ne (tgt := 13) hx hcb dX4_checkNewName_7 (by decide) (fun c_4 => ?_) (fun c_4 => ?_)
  · skip
    have hn_ : isNm z := Classical.byContradiction (fun h_ => c_4 (if_neg h_))
    refine lv_aload_n hx hcb dX4_checkNewName_13 rfl (lv_at hl 0 rfl) ?_
    refine x_getR hx hcb hts hown hK xc4 hR (hw.lo (by decide)) (hw.s0 (by decide) rfl) 0 (by decide) rfl q_359 dX4_checkNewName_14 ?_
    refine x_ci0 rfl rfl (x_runV hx hcb hml hown hts (c_X8_letters l G w K hw z _ (by assumption)) mv_X8_letters q_521 hK hZ hR hS (hw.lo (by decide)) xc8 (hw.s0 (by decide) rfl) rfl hl.1 rfl (Nat.le_of_ble_eq_true rfl) dX4_checkNewName_17 ⟨by decide, by decide⟩ ⟨by decide, by decide⟩) hS (fun r_5 z_6 H locs hp_7 hR hS => ?_)
    rw [hp_7.2] at hR; rw [hp_7.1]
    refine lv_istore_n (lv' := [(1, .int (ltr z 6)), (0, .ref (w.2.2 16))]) hx hcb dX4_checkNewName_20 rfl hl (by decide) rfl (fun ls hl => ?_)
    refine lv_aload_n hx hcb dX4_checkNewName_21 rfl (lv_at hl 1 rfl) ?_
    refine x_getR hx hcb hts hown hK xc4 hR (hw.lo (by decide)) (hw.s0 (by decide) rfl) 2 (by decide) rfl q_361 dX4_checkNewName_22 ?_
    refine lv_iload_n hx hcb dX4_checkNewName_25 rfl (lv_at hl 0 rfl) ?_
    refine x_ci0 rfl rfl (x_runV hx hcb hml hown hts (c_X0_findMember l G w K hw z _ 1 (by omega) (ltr z 6) (bN z 1 3) hL.2.1 hL.2.2.1) mv_X0_findMember q_525 hK hZ hR hS (hoB hw (by omega)) xc0 (hsB hw) rfl hl.1 rfl (Nat.le_of_ble_eq_true rfl) dX4_checkNewName_26 ⟨by decide, by decide⟩ ⟨by decide, by decide⟩) hS (fun r_8 z_9 H locs hp_10 hR hS => ?_)
    rw [hp_10.2] at hR; rw [hp_10.1]
    refine x_top (show (xff (fun m => decide (z.1 (oM 1 m) 0 = (ltr z 6))) (bN z 1 3) 0) = (fM z 1 (ltr z 6)) from rfl) ?_
    refine lv_if_ge (tgt := 43) hx hcb dX4_checkNewName_29 (by decide) (fun c_11 => ?_) (fun c_11 => ?_)
    · skip
      have hd_ : ¬ fM z 1 (ltr z 6) < 0 ∨ ¬ fD z 1 (ltr z 6) < 0 := Or.inl (Int32.not_lt.mpr c_11)
      refine lv_iconst (v := (nI 1)) hx hcb dX4_checkNewName_43 (by decide) ?_
      refine lv_goto (tgt := 48) hx hcb dX4_checkNewName_44 (by decide) ?_
      refine lv_istore_n (lv' := [(2, .int (nI 1)), (1, .int (ltr z 6)), (0, .ref (w.2.2 16))]) hx hcb dX4_checkNewName_48 rfl hl (by decide) rfl (fun ls hl => ?_)
      refine lv_iload_n hx hcb dX4_checkNewName_49 rfl (lv_at hl 0 rfl) ?_
      refine lv_if_eq (tgt := 58) hx hcb dX4_checkNewName_50 (by decide) (fun c_12 => ?_) (fun c_12 => ?_)
      · skip
        first | exact absurd c_12 (by decide) | exact absurd (by decide) c_12
      · skip
        refine lv_bipush (v := (-14)) hx hcb dX4_checkNewName_53 (by decide) ?_
        refine lv_goto (tgt := 59) hx hcb dX4_checkNewName_55 (by decide) ?_
        exact hret (-14) z _ _ _ _ dX4_checkNewName_59 rfl hR hS (⟨by unfold cNN; rw [if_pos hn_]; first | (rw [if_pos hd_]; first | done | rfl) | (rw [if_neg hd_]; first | done | rfl), rfl⟩)
    · skip
      have hm_ := Int32.not_le.mp c_11
      refine lv_aload_n hx hcb dX4_checkNewName_32 rfl (lv_at hl 1 rfl) ?_
      refine x_getR hx hcb hts hown hK xc4 hR (hw.lo (by decide)) (hw.s0 (by decide) rfl) 2 (by decide) rfl q_361 dX4_checkNewName_33 ?_
      refine lv_iload_n hx hcb dX4_checkNewName_36 rfl (lv_at hl 0 rfl) ?_
      refine x_ci0 rfl rfl (x_runV hx hcb hml hown hts (c_X0_findDepartment l G w K hw z _ 1 (by omega) (ltr z 6) (bN z 1 4) hL.2.2.2.1 hL.2.2.2.2.1) mv_X0_findDepartment q_529 hK hZ hR hS (hoB hw (by omega)) xc0 (hsB hw) rfl hl.1 rfl (Nat.le_of_ble_eq_true rfl) dX4_checkNewName_37 ⟨by decide, by decide⟩ ⟨by decide, by decide⟩) hS (fun r_13 z_14 H locs hp_15 hR hS => ?_)
      rw [hp_15.2] at hR; rw [hp_15.1]
      refine x_top (show (xff (fun m => decide (z.1 (oD 1 m) 0 = (ltr z 6))) (bN z 1 4) 0) = (fD z 1 (ltr z 6)) from rfl) ?_
      refine lv_if_lt (tgt := 47) hx hcb dX4_checkNewName_40 (by decide) (fun c_16 => ?_) (fun c_16 => ?_)
      · skip
        have hd_ : ¬ (¬ fM z 1 (ltr z 6) < 0 ∨ ¬ fD z 1 (ltr z 6) < 0) := fun h_ => h_.elim (fun g_ => g_ hm_) (fun g_ => g_ c_16)
        refine lv_iconst (v := (nI 0)) hx hcb dX4_checkNewName_47 (by decide) ?_
        refine lv_istore_n (lv' := [(2, .int (nI 0)), (1, .int (ltr z 6)), (0, .ref (w.2.2 16))]) hx hcb dX4_checkNewName_48 rfl hl (by decide) rfl (fun ls hl => ?_)
        refine lv_iload_n hx hcb dX4_checkNewName_49 rfl (lv_at hl 0 rfl) ?_
        refine lv_if_eq (tgt := 58) hx hcb dX4_checkNewName_50 (by decide) (fun c_17 => ?_) (fun c_17 => ?_)
        · skip
          refine lv_iconst (v := (nI 0)) hx hcb dX4_checkNewName_58 (by decide) ?_
          exact hret (nI 0) z _ _ _ _ dX4_checkNewName_59 rfl hR hS (⟨by unfold cNN; rw [if_pos hn_]; first | (rw [if_pos hd_]; first | done | rfl) | (rw [if_neg hd_]; first | done | rfl), rfl⟩)
        · skip
          first | exact absurd c_17 (by decide) | exact absurd (by decide) c_17
      · skip
        have hd_ : ¬ fM z 1 (ltr z 6) < 0 ∨ ¬ fD z 1 (ltr z 6) < 0 := Or.inr c_16
        refine lv_iconst (v := (nI 1)) hx hcb dX4_checkNewName_43 (by decide) ?_
        refine lv_goto (tgt := 48) hx hcb dX4_checkNewName_44 (by decide) ?_
        refine lv_istore_n (lv' := [(2, .int (nI 1)), (1, .int (ltr z 6)), (0, .ref (w.2.2 16))]) hx hcb dX4_checkNewName_48 rfl hl (by decide) rfl (fun ls hl => ?_)
        refine lv_iload_n hx hcb dX4_checkNewName_49 rfl (lv_at hl 0 rfl) ?_
        refine lv_if_eq (tgt := 58) hx hcb dX4_checkNewName_50 (by decide) (fun c_18 => ?_) (fun c_18 => ?_)
        · skip
          first | exact absurd c_18 (by decide) | exact absurd (by decide) c_18
        · skip
          refine lv_bipush (v := (-14)) hx hcb dX4_checkNewName_53 (by decide) ?_
          refine lv_goto (tgt := 59) hx hcb dX4_checkNewName_55 (by decide) ?_
          exact hret (-14) z _ _ _ _ dX4_checkNewName_59 rfl hR hS (⟨by unfold cNN; rw [if_pos hn_]; first | (rw [if_pos hd_]; first | done | rfl) | (rw [if_neg hd_]; first | done | rfl), rfl⟩)
  · skip
    have hn_ : ¬ isNm z := fun h_ => absurd c_4 (by rw [if_pos h_]; decide)
    refine lv_bipush (v := (-11)) hx hcb dX4_checkNewName_10 (by decide) ?_
    exact hret (-11) z _ _ _ _ dX4_checkNewName_12 rfl hR hS (⟨by unfold cNN; rw [if_neg hn_]; first | done | rfl, rfl⟩)
def rm_X4_readMember : Room := { frames := 7, cells := 0, slots := 0, locals := 149 }
set_option maxRecDepth 100000 in
set_option maxHeartbeats 4000000 in
theorem c_X4_readMember (l : Launch) (G : xGl) (w : xWd) (K : Nat) (hw : isC K w) (z : xSt) (sz : Nat)  (hL : lOk z) : xMi l yX4_readMember cX4_readMember 3 (some FieldType.int) rm_X4_readMember G w z sz [.ref (w.2.2 16)] (fun r z1 => r = (rdM z).1 ∧ z1 = (rdM z).2) := by
  refine x_mi (by decide) (Nat.le_of_ble_eq_true rfl) ?_
  intro p e s mt args below meth c ls Q hsz X hR hS hl hret
  obtain ⟨hx, hcb, hml, hown, hts, hlk, hK, hZ⟩ := X
  have hl : lv_has ls 3 [(0, .ref (w.2.2 16))] := hl
  have hT := hL.1
  have hb3_ := hL.2.2.1
  refine lv_aload_n hx hcb dX4_readMember_0 rfl (lv_at hl 0 rfl) ?_
  refine x_getR hx hcb hts hown hK xc4 hR (hw.lo (by decide)) (hw.s0 (by decide) rfl) 2 (by decide) rfl q_361 dX4_readMember_1 ?_
  refine x_getI hx hcb hts hown hK xc0 hR (hoB hw (by omega)) (hsB hw) 3 (by decide) rfl q_270 dX4_readMember_4 ?_
  refine x_top (show (z.1 (oB 1) 3) = (nI (bN z 1 3)) from hL.2.1) ?_
  refine lv_bipush (v := (nI 8)) hx hcb dX4_readMember_7 (by decide) ?_
  refine lv_icmp_lt (tgt := 15) hx hcb dX4_readMember_9 (by decide) (fun c_1 => ?_) (fun c_1 => ?_)
  · skip
    have c_1 : (bN z 1 3) < 8 := (nI_ltI (by omega) (by omega)).mp c_1
    have hm_ : bN z 1 3 < 8 := c_1
    have hL1_ := hL.nx
    have hT3_ := (lOk_rdM3 hL1_ nx_bN hm_).1
    refine lv_aload_n hx hcb dX4_readMember_15 rfl (lv_at hl 0 rfl) ?_
    refine x_getR hx hcb hts hown hK xc4 hR (hw.lo (by decide)) (hw.s0 (by decide) rfl) 0 (by decide) rfl q_359 dX4_readMember_16 ?_
    refine x_cv0 rfl rfl (x_runV hx hcb hml hown hts (c_X8_next l G w K hw z _ hT.pre) mv_X8_next q_503 hK hZ hR hS (hw.lo (by decide)) xc8 (hw.s0 (by decide) rfl) rfl hl.1 rfl (Nat.le_of_ble_eq_true rfl) dX4_readMember_19 ⟨by decide, by decide⟩ ⟨by decide, by decide⟩) hS (fun z_3 H locs hp_4 hR hS => ?_)
    rw [hp_4] at hR
    refine lv_aload_n hx hcb dX4_readMember_22 rfl (lv_at hl 0 rfl) ?_
    refine x_ci0 rfl rfl (x_runV hx hcb hml hown hts (c_X4_checkNewName l G w K hw (nx z) _ hL1_) mv_X4_checkNewName q_504 hK hZ hR hS (hw.lo (by decide)) xc4 (hw.s0 (by decide) rfl) rfl hl.1 rfl (Nat.le_of_ble_eq_true rfl) dX4_readMember_23 ⟨by decide, by decide⟩ ⟨by decide, by decide⟩) hS (fun r_5 z_6 H locs hp_7 hR hS => ?_)
    rw [hp_7.2] at hR; rw [hp_7.1]
    refine lv_istore_n (lv' := [(1, .int (cNN (nx z))), (0, .ref (w.2.2 16))]) hx hcb dX4_readMember_26 rfl hl (by decide) rfl (fun ls hl => ?_)
    refine lv_iload_n hx hcb dX4_readMember_27 rfl (lv_at hl 0 rfl) ?_
    refine lv_if_eq (tgt := 33) hx hcb dX4_readMember_28 (by decide) (fun c_8 => ?_) (fun c_8 => ?_)
    · skip
      have hc_ : cNN (nx z) = 0 := c_8
      refine lv_aload_n hx hcb dX4_readMember_33 rfl (lv_at hl 1 rfl) ?_
      refine x_getR hx hcb hts hown hK xc4 hR (hw.lo (by decide)) (hw.s0 (by decide) rfl) 2 (by decide) rfl q_361 dX4_readMember_34 ?_
      refine x_getI hx hcb hts hown hK xc0 hR (hoB hw (by omega)) (hsB hw) 3 (by decide) rfl q_270 dX4_readMember_37 ?_
      refine x_top (show ((nx z).1 (oB 1) 3) = (nI (bN z 1 3)) from (congrFun (nx_hi (by decide)) 3).trans hL.2.1) ?_
      refine lv_istore_n (lv' := [(2, .int (nI (bN z 1 3))), (1, .int (cNN (nx z))), (0, .ref (w.2.2 16))]) hx hcb dX4_readMember_40 rfl hl (by decide) rfl (fun ls hl => ?_)
      refine lv_aload_n hx hcb dX4_readMember_41 rfl (lv_at hl 2 rfl) ?_
      refine x_getR hx hcb hts hown hK xc4 hR (hw.lo (by decide)) (hw.s0 (by decide) rfl) 2 (by decide) rfl q_361 dX4_readMember_42 ?_
      refine lv_aload_n hx hcb dX4_readMember_45 rfl (lv_at hl 2 rfl) ?_
      refine x_getR hx hcb hts hown hK xc4 hR (hw.lo (by decide)) (hw.s0 (by decide) rfl) 0 (by decide) rfl q_359 dX4_readMember_46 ?_
      refine x_ci0 rfl rfl (x_runV hx hcb hml hown hts (c_X8_letters l G w K hw (nx z) _ hL1_.1) mv_X8_letters q_521 hK hZ hR hS (hw.lo (by decide)) xc8 (hw.s0 (by decide) rfl) rfl hl.1 rfl (Nat.le_of_ble_eq_true rfl) dX4_readMember_49 ⟨by decide, by decide⟩ ⟨by decide, by decide⟩) hS (fun r_9 z_10 H locs hp_11 hR hS => ?_)
      rw [hp_11.2] at hR; rw [hp_11.1]
      refine x_cv0 rfl rfl (x_runV hx hcb hml hown hts (c_X0_addMember l G w K hw (nx z) _ 1 (by omega) (ltr (nx z) 6) (bN z 1 3) ((congrFun (nx_hi (by decide)) 3).trans hL.2.1) (by omega)) mv_X0_addMember q_533 hK hZ hR hS (hoB hw (by omega)) xc0 (hsB hw) rfl hl.1 rfl (Nat.le_of_ble_eq_true rfl) dX4_readMember_52 ⟨by decide, by decide⟩ ⟨by decide, by decide⟩) hS (fun z_13 H locs hp_14 hR hS => ?_)
      rw [hp_14] at hR
      refine lv_aload_n hx hcb dX4_readMember_55 rfl (lv_at hl 2 rfl) ?_
      refine x_getR hx hcb hts hown hK xc4 hR (hw.lo (by decide)) (hw.s0 (by decide) rfl) 0 (by decide) rfl q_359 dX4_readMember_56 ?_
      refine x_cv0 rfl rfl (x_runV hx hcb hml hown hts (c_X8_next l G w K hw (u1 (stM (nx z) 1 (bN z 1 3) (ltr (nx z) 6)) (oB 1) 3 (nI ((bN z 1 3) + 1))) _ ((tOk_aM hL1_.1 (by omega)).pre)) mv_X8_next q_503 hK hZ hR hS (hw.lo (by decide)) xc8 (hw.s0 (by decide) rfl) rfl hl.1 rfl (Nat.le_of_ble_eq_true rfl) dX4_readMember_59 ⟨by decide, by decide⟩ ⟨by decide, by decide⟩) hS (fun z_16 H locs hp_17 hR hS => ?_)
      rw [hp_17] at hR
      rw [show nx (u1 (stM (nx z) 1 (bN z 1 3) (ltr (nx z) 6)) (oB 1) 3 (nI ((bN z 1 3) + 1))) = rdM3 (nx z) (bN z 1 3) from rfl] at hR
      refine lv_aload_n hx hcb dX4_readMember_62 rfl (lv_at hl 2 rfl) ?_
      refine x_getR hx hcb hts hown hK xc4 hR (hw.lo (by decide)) (hw.s0 (by decide) rfl) 0 (by decide) rfl q_359 dX4_readMember_63 ?_
      obtain ⟨aq_18, hvq_18, hsq_18⟩ := xS_of hZ (q := (RX4, 94, "consent")) (List.mem_of_getElem? (i := 9) rfl)
      refine va_ldcS hx hcb hown hvq_18 dX4_readMember_66 ?_
      refine x_ci0 rfl rfl (x_runVE isS_mv hsq_18 hx hcb hml hown hts (c_X8_isWord l G w K hw (rdM3 (nx z) (bN z 1 3)) _ "consent" aq_18 hT3_ (tx_of (by decide) (by decide))) mv_X8_isWord q_447 hK hZ hR hS (hw.lo (by decide)) xc8 (hw.s0 (by decide) rfl) rfl hl.1 rfl (Nat.le_of_ble_eq_true rfl) dX4_readMember_68 ⟨by decide, by decide⟩ ⟨by decide, by decide⟩) hS (fun r_19 z_20 H locs hp_21 hR hS => ?_)
      rw [hp_21.2] at hR; rw [hp_21.1]
      refine lv_if_eq (tgt := 94) hx hcb dX4_readMember_71 (by decide) (fun c_22 => ?_) (fun c_22 => ?_)
      · skip
        have hw_ : ¬ isW (rdM3 (nx z) (bN z 1 3)) "consent" := fun h_ => absurd c_22 (by rw [if_pos h_]; decide)
        refine lv_iconst (v := (nI 0)) hx hcb dX4_readMember_94 (by decide) ?_
        exact hret (nI 0) (rdM3 (nx z) (bN z 1 3)) _ _ _ _ dX4_readMember_95 rfl hR hS (pr2 (by unfold rdM; rw [if_pos hm_, if_pos hc_]; first | (rw [if_pos hw_]; first | done | rfl) | (rw [if_neg hw_]; first | done | rfl)))
      · skip
        have hw_ : isW (rdM3 (nx z) (bN z 1 3)) "consent" := Classical.byContradiction (fun h_ => c_22 (if_neg h_))
        refine lv_aload_n hx hcb dX4_readMember_74 rfl (lv_at hl 2 rfl) ?_
        refine x_getR hx hcb hts hown hK xc4 hR (hw.lo (by decide)) (hw.s0 (by decide) rfl) 2 (by decide) rfl q_361 dX4_readMember_75 ?_
        refine x_getR hx hcb hts hown hK xc0 hR (hoB hw (by omega)) (hsB hw) 0 (by decide) rfl q_257 dX4_readMember_78 ?_
        refine lv_iload_n hx hcb dX4_readMember_81 rfl (lv_at hl 0 rfl) ?_
        have hk_82 : (bN z 1 3) < 8 := (by omega)
        refine x_aald hx hcb hK hR (hoMs hw (by omega)) (hsMs hw) rfl (oMs_at hk_82) (Nat.lt_of_lt_of_le (Nat.lt_succ_self _) (Nat.le_of_ble_eq_true rfl)) dX4_readMember_82 ?_
        refine lv_iconst (v := (nI 1)) hx hcb dX4_readMember_83 (by decide) ?_
        refine x_putI hx hcb hts hown hK xc5 hR hS (hoM hw (by omega) hk_82) (hsM hw hk_82) 1 (by decide) rfl q_181 rfl (v := 1) rfl rfl dX4_readMember_84 (fun H locs hR hS => ?_)
        refine lv_aload_n hx hcb dX4_readMember_87 rfl (lv_at hl 2 rfl) ?_
        refine x_getR hx hcb hts hown hK xc4 hR (hw.lo (by decide)) (hw.s0 (by decide) rfl) 0 (by decide) rfl q_359 dX4_readMember_88 ?_
        refine x_cv0 rfl rfl (x_runV hx hcb hml hown hts (c_X8_next l G w K hw (u1 (rdM3 (nx z) (bN z 1 3)) (oM 1 (bN z 1 3)) 1 1) _ ((hT3_.of (u1_ne _ (by simp only [oM]; omega))).pre)) mv_X8_next q_503 hK hZ hR hS (hw.lo (by decide)) xc8 (hw.s0 (by decide) rfl) rfl hl.1 rfl (Nat.le_of_ble_eq_true rfl) dX4_readMember_91 ⟨by decide, by decide⟩ ⟨by decide, by decide⟩) hS (fun z_24 H locs hp_25 hR hS => ?_)
        rw [hp_25] at hR
        refine lv_iconst (v := (nI 0)) hx hcb dX4_readMember_94 (by decide) ?_
        exact hret (nI 0) (nx (u1 (rdM3 (nx z) (bN z 1 3)) (oM 1 (bN z 1 3)) 1 1)) _ _ _ _ dX4_readMember_95 rfl hR hS (pr2 (by unfold rdM; rw [if_pos hm_, if_pos hc_]; first | (rw [if_pos hw_]; first | done | rfl) | (rw [if_neg hw_]; first | done | rfl)))
    · skip
      have hc_ : ¬ cNN (nx z) = 0 := c_8
      refine lv_iload_n hx hcb dX4_readMember_31 rfl (lv_at hl 0 rfl) ?_
      exact hret (cNN (nx z)) (nx z) _ _ _ _ dX4_readMember_32 rfl hR hS (pr2 (by unfold rdM; rw [if_pos hm_, if_neg hc_]; first | done | rfl))
  · skip
    have c_1 : ¬ (bN z 1 3) < 8 := fun h_ => c_1 ((nI_ltI (by omega) (by omega)).mpr h_)
    have hm_ : ¬ bN z 1 3 < 8 := c_1
    refine lv_bipush (v := (-16)) hx hcb dX4_readMember_12 (by decide) ?_
    exact hret (-16) z _ _ _ _ dX4_readMember_14 rfl hR hS (pr2 (by unfold rdM; rw [if_neg hm_]; first | done | rfl))
def rm_X4_readSection : Room := { frames := 7, cells := 0, slots := 0, locals := 149 }
set_option maxRecDepth 100000 in
set_option maxHeartbeats 4000000 in
theorem c_X4_readSection (l : Launch) (G : xGl) (w : xWd) (K : Nat) (hw : isC K w) (z : xSt) (sz : Nat)  (hL : lOk z) : xMi l yX4_readSection cX4_readSection 2 (some FieldType.int) rm_X4_readSection G w z sz [.ref (w.2.2 16)] (fun r z1 => r = (rdP z).1 ∧ z1 = (rdP z).2) := by
  refine x_mi (by decide) (Nat.le_of_ble_eq_true rfl) ?_
  intro p e s mt args below meth c ls Q hsz X hR hS hl hret
  obtain ⟨hx, hcb, hml, hown, hts, hlk, hK, hZ⟩ := X
  have hl : lv_has ls 2 [(0, .ref (w.2.2 16))] := hl
  have hT := hL.1
  have hb4_ := hL.2.2.2.2.1
  have hb5_ := hL.2.2.2.2.2.2
  refine lv_aload_n hx hcb dX4_readSection_0 rfl (lv_at hl 0 rfl) ?_
  refine x_getR hx hcb hts hown hK xc4 hR (hw.lo (by decide)) (hw.s0 (by decide) rfl) 2 (by decide) rfl q_361 dX4_readSection_1 ?_
  refine x_getI hx hcb hts hown hK xc0 hR (hoB hw (by omega)) (hsB hw) 5 (by decide) rfl q_279 dX4_readSection_4 ?_
  refine x_top (show (z.1 (oB 1) 5) = (nI (bN z 1 5)) from hL.2.2.2.2.2.1) ?_
  refine lv_if_le (tgt := 13) hx hcb dX4_readSection_7 (by decide) (fun c_1 => ?_) (fun c_1 => ?_)
  · skip
    have c_1 : (bN z 1 5) ≤ 0 := (nI_leI (a := (bN z 1 5)) (b := 0) (by omega) (by omega)).mp c_1
    have hy_ : ¬ 0 < bN z 1 5 := by omega
    refine lv_aload_n hx hcb dX4_readSection_13 rfl (lv_at hl 0 rfl) ?_
    refine x_getR hx hcb hts hown hK xc4 hR (hw.lo (by decide)) (hw.s0 (by decide) rfl) 2 (by decide) rfl q_361 dX4_readSection_14 ?_
    refine x_getI hx hcb hts hown hK xc0 hR (hoB hw (by omega)) (hsB hw) 4 (by decide) rfl q_275 dX4_readSection_17 ?_
    refine x_top (show (z.1 (oB 1) 4) = (nI (bN z 1 4)) from hL.2.2.2.1) ?_
    refine lv_iconst (v := (nI 4)) hx hcb dX4_readSection_20 (by decide) ?_
    refine lv_icmp_lt (tgt := 27) hx hcb dX4_readSection_21 (by decide) (fun c_2 => ?_) (fun c_2 => ?_)
    · skip
      have c_2 : (bN z 1 4) < 4 := (nI_ltI (by omega) (by omega)).mp c_2
      have hm_ : bN z 1 4 < 4 := c_2
      have hL1_ := hL.nx
      refine lv_aload_n hx hcb dX4_readSection_27 rfl (lv_at hl 0 rfl) ?_
      refine x_getR hx hcb hts hown hK xc4 hR (hw.lo (by decide)) (hw.s0 (by decide) rfl) 0 (by decide) rfl q_359 dX4_readSection_28 ?_
      refine x_cv0 rfl rfl (x_runV hx hcb hml hown hts (c_X8_next l G w K hw z _ hT.pre) mv_X8_next q_503 hK hZ hR hS (hw.lo (by decide)) xc8 (hw.s0 (by decide) rfl) rfl hl.1 rfl (Nat.le_of_ble_eq_true rfl) dX4_readSection_31 ⟨by decide, by decide⟩ ⟨by decide, by decide⟩) hS (fun z_4 H locs hp_5 hR hS => ?_)
      rw [hp_5] at hR
      refine lv_aload_n hx hcb dX4_readSection_34 rfl (lv_at hl 0 rfl) ?_
      refine x_ci0 rfl rfl (x_runV hx hcb hml hown hts (c_X4_checkNewName l G w K hw (nx z) _ hL1_) mv_X4_checkNewName q_504 hK hZ hR hS (hw.lo (by decide)) xc4 (hw.s0 (by decide) rfl) rfl hl.1 rfl (Nat.le_of_ble_eq_true rfl) dX4_readSection_35 ⟨by decide, by decide⟩ ⟨by decide, by decide⟩) hS (fun r_6 z_7 H locs hp_8 hR hS => ?_)
      rw [hp_8.2] at hR; rw [hp_8.1]
      refine lv_istore_n (lv' := [(1, .int (cNN (nx z))), (0, .ref (w.2.2 16))]) hx hcb dX4_readSection_38 rfl hl (by decide) rfl (fun ls hl => ?_)
      refine lv_iload_n hx hcb dX4_readSection_39 rfl (lv_at hl 0 rfl) ?_
      refine lv_if_eq (tgt := 45) hx hcb dX4_readSection_40 (by decide) (fun c_9 => ?_) (fun c_9 => ?_)
      · skip
        have hc_ : cNN (nx z) = 0 := c_9
        refine lv_aload_n hx hcb dX4_readSection_45 rfl (lv_at hl 1 rfl) ?_
        refine x_getR hx hcb hts hown hK xc4 hR (hw.lo (by decide)) (hw.s0 (by decide) rfl) 2 (by decide) rfl q_361 dX4_readSection_46 ?_
        refine lv_aload_n hx hcb dX4_readSection_49 rfl (lv_at hl 1 rfl) ?_
        refine x_getR hx hcb hts hown hK xc4 hR (hw.lo (by decide)) (hw.s0 (by decide) rfl) 0 (by decide) rfl q_359 dX4_readSection_50 ?_
        refine x_ci0 rfl rfl (x_runV hx hcb hml hown hts (c_X8_letters l G w K hw (nx z) _ hL1_.1) mv_X8_letters q_521 hK hZ hR hS (hw.lo (by decide)) xc8 (hw.s0 (by decide) rfl) rfl hl.1 rfl (Nat.le_of_ble_eq_true rfl) dX4_readSection_53 ⟨by decide, by decide⟩ ⟨by decide, by decide⟩) hS (fun r_10 z_11 H locs hp_12 hR hS => ?_)
        rw [hp_12.2] at hR; rw [hp_12.1]
        refine x_cv0 rfl rfl (x_runV hx hcb hml hown hts (c_X0_addDepartment l G w K hw (nx z) _ 1 (by omega) (ltr (nx z) 6) (bN z 1 4) ((congrFun (nx_hi (by decide)) 4).trans hL.2.2.2.1) (by omega)) mv_X0_addDepartment q_550 hK hZ hR hS (hoB hw (by omega)) xc0 (hsB hw) rfl hl.1 rfl (Nat.le_of_ble_eq_true rfl) dX4_readSection_56 ⟨by decide, by decide⟩ ⟨by decide, by decide⟩) hS (fun z_14 H locs hp_15 hR hS => ?_)
        rw [hp_15] at hR
        refine lv_aload_n hx hcb dX4_readSection_59 rfl (lv_at hl 1 rfl) ?_
        refine x_getR hx hcb hts hown hK xc4 hR (hw.lo (by decide)) (hw.s0 (by decide) rfl) 0 (by decide) rfl q_359 dX4_readSection_60 ?_
        refine x_cv0 rfl rfl (x_runV hx hcb hml hown hts (c_X8_next l G w K hw (u1 (stD (nx z) 1 (bN z 1 4) (ltr (nx z) 6)) (oB 1) 4 (nI ((bN z 1 4) + 1))) _ ((tOk_aD hL1_.1 (by omega)).pre)) mv_X8_next q_503 hK hZ hR hS (hw.lo (by decide)) xc8 (hw.s0 (by decide) rfl) rfl hl.1 rfl (Nat.le_of_ble_eq_true rfl) dX4_readSection_63 ⟨by decide, by decide⟩ ⟨by decide, by decide⟩) hS (fun z_17 H locs hp_18 hR hS => ?_)
        rw [hp_18] at hR
        refine lv_iconst (v := (nI 0)) hx hcb dX4_readSection_66 (by decide) ?_
        exact hret (nI 0) (nx (u1 (stD (nx z) 1 (bN z 1 4) (ltr (nx z) 6)) (oB 1) 4 (nI ((bN z 1 4) + 1)))) _ _ _ _ dX4_readSection_67 rfl hR hS (pr2 (by unfold rdP; rw [if_neg hy_, if_pos hm_, if_pos hc_]; first | done | rfl))
      · skip
        have hc_ : ¬ cNN (nx z) = 0 := c_9
        refine lv_iload_n hx hcb dX4_readSection_43 rfl (lv_at hl 0 rfl) ?_
        exact hret (cNN (nx z)) (nx z) _ _ _ _ dX4_readSection_44 rfl hR hS (pr2 (by unfold rdP; rw [if_neg hy_, if_pos hm_, if_neg hc_]; first | done | rfl))
    · skip
      have c_2 : ¬ (bN z 1 4) < 4 := fun h_ => c_2 ((nI_ltI (by omega) (by omega)).mpr h_)
      have hm_ : ¬ bN z 1 4 < 4 := c_2
      refine lv_bipush (v := (-16)) hx hcb dX4_readSection_24 (by decide) ?_
      exact hret (-16) z _ _ _ _ dX4_readSection_26 rfl hR hS (pr2 (by unfold rdP; rw [if_neg hy_, if_neg hm_]; first | done | rfl))
  · skip
    have c_1 : ¬ (bN z 1 5) ≤ 0 := fun h_ => c_1 ((nI_leI (a := (bN z 1 5)) (b := 0) (by omega) (by omega)).mpr h_)
    have hy_ : 0 < bN z 1 5 := by omega
    refine lv_bipush (v := (-15)) hx hcb dX4_readSection_10 (by decide) ?_
    exact hret (-15) z _ _ _ _ dX4_readSection_12 rfl hR hS (pr2 (by unfold rdP; rw [if_pos hy_]; first | done | rfl))
def rm_X4_readTrade : Room := { frames := 6, cells := 0, slots := 0, locals := 127 }
set_option maxRecDepth 100000 in
set_option maxHeartbeats 4000000 in
theorem c_X4_readTrade (l : Launch) (G : xGl) (w : xWd) (K : Nat) (hw : isC K w) (z : xSt) (sz : Nat)  (hL : lOk z) : xMi l yX4_readTrade cX4_readTrade 5 (some FieldType.int) rm_X4_readTrade G w z sz [.ref (w.2.2 16)] (fun r z1 => r = (rdT1 (nx z)).1 ∧ z1 = (rdT1 (nx z)).2) := by
  refine x_mi (by decide) (Nat.le_of_ble_eq_true rfl) ?_
  intro p e s mt args below meth c ls Q hsz X hR hS hl hret
  obtain ⟨hx, hcb, hml, hown, hts, hlk, hK, hZ⟩ := X
  have hl : lv_has ls 5 [(0, .ref (w.2.2 16))] := hl
  have hL1_ := hL.nx
  have hL2_ := hL1_.nx
  have hL3_ := hL2_.nx
  have hb3_ := hL1_.2.2.1
  have hb4_ := hL2_.2.2.2.2.1
  refine lv_aload_n hx hcb dX4_readTrade_0 rfl (lv_at hl 0 rfl) ?_
  refine x_getR hx hcb hts hown hK xc4 hR (hw.lo (by decide)) (hw.s0 (by decide) rfl) 0 (by decide) rfl q_359 dX4_readTrade_1 ?_
  refine x_cv0 rfl rfl (x_runV hx hcb hml hown hts (c_X8_next l G w K hw z _ hL.1.pre) mv_X8_next q_503 hK hZ hR hS (hw.lo (by decide)) xc8 (hw.s0 (by decide) rfl) rfl hl.1 rfl (Nat.le_of_ble_eq_true rfl) dX4_readTrade_4 ⟨by decide, by decide⟩ ⟨by decide, by decide⟩) hS (fun z_2 H locs hp_3 hR hS => ?_)
  rw [hp_3] at hR
  refine lv_aload_n hx hcb dX4_readTrade_7 rfl (lv_at hl 0 rfl) ?_
  refine x_getR hx hcb hts hown hK xc4 hR (hw.lo (by decide)) (hw.s0 (by decide) rfl) 0 (by decide) rfl q_359 dX4_readTrade_8 ?_
  refine x_ci0 rfl rfl (x_runV hx hcb hml hown hts (c_X8_isName l G w K hw (nx z) _ hL1_.1) mv_X8_isName q_508 hK hZ hR hS (hw.lo (by decide)) xc8 (hw.s0 (by decide) rfl) rfl hl.1 rfl (Nat.le_of_ble_eq_true rfl) dX4_readTrade_11 ⟨by decide, by decide⟩ ⟨by decide, by decide⟩) hS (fun r_4 z_5 H locs hp_6 hR hS => ?_)
  rw [hp_6.2] at hR; rw [hp_6.1]
  refine lv_if_ne (tgt := 20) hx hcb dX4_readTrade_14 (by decide) (fun c_7 => ?_) (fun c_7 => ?_)
  · skip
    have hn_ : isNm (nx z) := Classical.byContradiction (fun h_ => c_7 (if_neg h_))
    refine lv_aload_n hx hcb dX4_readTrade_20 rfl (lv_at hl 0 rfl) ?_
    refine x_getR hx hcb hts hown hK xc4 hR (hw.lo (by decide)) (hw.s0 (by decide) rfl) 2 (by decide) rfl q_361 dX4_readTrade_21 ?_
    refine lv_aload_n hx hcb dX4_readTrade_24 rfl (lv_at hl 0 rfl) ?_
    refine x_getR hx hcb hts hown hK xc4 hR (hw.lo (by decide)) (hw.s0 (by decide) rfl) 0 (by decide) rfl q_359 dX4_readTrade_25 ?_
    refine x_ci0 rfl rfl (x_runV hx hcb hml hown hts (c_X8_letters l G w K hw (nx z) _ hL1_.1) mv_X8_letters q_521 hK hZ hR hS (hw.lo (by decide)) xc8 (hw.s0 (by decide) rfl) rfl hl.1 rfl (Nat.le_of_ble_eq_true rfl) dX4_readTrade_28 ⟨by decide, by decide⟩ ⟨by decide, by decide⟩) hS (fun r_8 z_9 H locs hp_10 hR hS => ?_)
    rw [hp_10.2] at hR; rw [hp_10.1]
    refine x_ci0 rfl rfl (x_runV hx hcb hml hown hts (c_X0_findMember l G w K hw (nx z) _ 1 (by omega) (ltr (nx z) 6) (bN (nx z) 1 3) hL1_.2.1 hL1_.2.2.1) mv_X0_findMember q_525 hK hZ hR hS (hoB hw (by omega)) xc0 (hsB hw) rfl hl.1 rfl (Nat.le_of_ble_eq_true rfl) dX4_readTrade_31 ⟨by decide, by decide⟩ ⟨by decide, by decide⟩) hS (fun r_11 z_12 H locs hp_13 hR hS => ?_)
    rw [hp_13.2] at hR; rw [hp_13.1]
    refine x_top (show (xff (fun m => decide ((nx z).1 (oM 1 m) 0 = (ltr (nx z) 6))) (bN (nx z) 1 3) 0) = (fM (nx z) 1 (ltr (nx z) 6)) from rfl) ?_
    refine lv_istore_n (lv' := [(1, .int (fM (nx z) 1 (ltr (nx z) 6))), (0, .ref (w.2.2 16))]) hx hcb dX4_readTrade_34 rfl hl (by decide) rfl (fun ls hl => ?_)
    refine lv_iload_n hx hcb dX4_readTrade_35 rfl (lv_at hl 0 rfl) ?_
    refine lv_if_ge (tgt := 42) hx hcb dX4_readTrade_36 (by decide) (fun c_14 => ?_) (fun c_14 => ?_)
    · skip
      have hm_ : ¬ fM (nx z) 1 (ltr (nx z) 6) < 0 := Int32.not_lt.mpr c_14
      have hmk_ : fM (nx z) 1 (ltr (nx z) 6) = nI (fM (nx z) 1 (ltr (nx z) 6)).toNatClampNeg := (xff_k hL1_.2.2.1 hm_).1
      have hm8_ : (fM (nx z) 1 (ltr (nx z) 6)).toNatClampNeg < bN (nx z) 1 3 := (xff_k hL1_.2.2.1 hm_).2
      obtain ⟨m_, em_⟩ : ∃ q_, q_ = (fM (nx z) 1 (ltr (nx z) 6)).toNatClampNeg := ⟨_, rfl⟩
      rw [← em_] at hmk_ hm8_
      rw [hmk_] at hl
      refine lv_aload_n hx hcb dX4_readTrade_42 rfl (lv_at hl 1 rfl) ?_
      refine x_getR hx hcb hts hown hK xc4 hR (hw.lo (by decide)) (hw.s0 (by decide) rfl) 0 (by decide) rfl q_359 dX4_readTrade_43 ?_
      refine x_cv0 rfl rfl (x_runV hx hcb hml hown hts (c_X8_next l G w K hw (nx z) _ hL1_.1.pre) mv_X8_next q_503 hK hZ hR hS (hw.lo (by decide)) xc8 (hw.s0 (by decide) rfl) rfl hl.1 rfl (Nat.le_of_ble_eq_true rfl) dX4_readTrade_46 ⟨by decide, by decide⟩ ⟨by decide, by decide⟩) hS (fun z_16 H locs hp_17 hR hS => ?_)
      rw [hp_17] at hR
      refine lv_aload_n hx hcb dX4_readTrade_49 rfl (lv_at hl 1 rfl) ?_
      refine x_getR hx hcb hts hown hK xc4 hR (hw.lo (by decide)) (hw.s0 (by decide) rfl) 0 (by decide) rfl q_359 dX4_readTrade_50 ?_
      refine x_ci0 rfl rfl (x_runV hx hcb hml hown hts (c_X8_isName l G w K hw (nx (nx z)) _ hL2_.1) mv_X8_isName q_508 hK hZ hR hS (hw.lo (by decide)) xc8 (hw.s0 (by decide) rfl) rfl hl.1 rfl (Nat.le_of_ble_eq_true rfl) dX4_readTrade_53 ⟨by decide, by decide⟩ ⟨by decide, by decide⟩) hS (fun r_18 z_19 H locs hp_20 hR hS => ?_)
      rw [hp_20.2] at hR; rw [hp_20.1]
      refine lv_if_ne (tgt := 62) hx hcb dX4_readTrade_56 (by decide) (fun c_21 => ?_) (fun c_21 => ?_)
      · skip
        have hn2_ : isNm (nx (nx z)) := Classical.byContradiction (fun h_ => c_21 (if_neg h_))
        refine lv_aload_n hx hcb dX4_readTrade_62 rfl (lv_at hl 1 rfl) ?_
        refine x_getR hx hcb hts hown hK xc4 hR (hw.lo (by decide)) (hw.s0 (by decide) rfl) 2 (by decide) rfl q_361 dX4_readTrade_63 ?_
        refine lv_aload_n hx hcb dX4_readTrade_66 rfl (lv_at hl 1 rfl) ?_
        refine x_getR hx hcb hts hown hK xc4 hR (hw.lo (by decide)) (hw.s0 (by decide) rfl) 0 (by decide) rfl q_359 dX4_readTrade_67 ?_
        refine x_ci0 rfl rfl (x_runV hx hcb hml hown hts (c_X8_letters l G w K hw (nx (nx z)) _ hL2_.1) mv_X8_letters q_521 hK hZ hR hS (hw.lo (by decide)) xc8 (hw.s0 (by decide) rfl) rfl hl.1 rfl (Nat.le_of_ble_eq_true rfl) dX4_readTrade_70 ⟨by decide, by decide⟩ ⟨by decide, by decide⟩) hS (fun r_22 z_23 H locs hp_24 hR hS => ?_)
        rw [hp_24.2] at hR; rw [hp_24.1]
        refine x_ci0 rfl rfl (x_runV hx hcb hml hown hts (c_X0_findDepartment l G w K hw (nx (nx z)) _ 1 (by omega) (ltr (nx (nx z)) 6) (bN (nx (nx z)) 1 4) hL2_.2.2.2.1 hL2_.2.2.2.2.1) mv_X0_findDepartment q_529 hK hZ hR hS (hoB hw (by omega)) xc0 (hsB hw) rfl hl.1 rfl (Nat.le_of_ble_eq_true rfl) dX4_readTrade_73 ⟨by decide, by decide⟩ ⟨by decide, by decide⟩) hS (fun r_25 z_26 H locs hp_27 hR hS => ?_)
        rw [hp_27.2] at hR; rw [hp_27.1]
        refine x_top (show (xff (fun m => decide ((nx (nx z)).1 (oD 1 m) 0 = (ltr (nx (nx z)) 6))) (bN (nx (nx z)) 1 4) 0) = (fD (nx (nx z)) 1 (ltr (nx (nx z)) 6)) from rfl) ?_
        refine lv_istore_n (lv' := [(2, .int (fD (nx (nx z)) 1 (ltr (nx (nx z)) 6))), (1, .int (nI m_)), (0, .ref (w.2.2 16))]) hx hcb dX4_readTrade_76 rfl hl (by decide) rfl (fun ls hl => ?_)
        refine lv_iload_n hx hcb dX4_readTrade_77 rfl (lv_at hl 0 rfl) ?_
        refine lv_if_ge (tgt := 84) hx hcb dX4_readTrade_78 (by decide) (fun c_28 => ?_) (fun c_28 => ?_)
        · skip
          have hd_ : ¬ fD (nx (nx z)) 1 (ltr (nx (nx z)) 6) < 0 := Int32.not_lt.mpr c_28
          have hdk_ : fD (nx (nx z)) 1 (ltr (nx (nx z)) 6) = nI (fD (nx (nx z)) 1 (ltr (nx (nx z)) 6)).toNatClampNeg := (xff_k (Nat.le_trans hL2_.2.2.2.2.1 (by decide)) hd_).1
          have hd4_ : (fD (nx (nx z)) 1 (ltr (nx (nx z)) 6)).toNatClampNeg < bN (nx (nx z)) 1 4 := (xff_k (Nat.le_trans hL2_.2.2.2.2.1 (by decide)) hd_).2
          obtain ⟨d_, ed_⟩ : ∃ q_, q_ = (fD (nx (nx z)) 1 (ltr (nx (nx z)) 6)).toNatClampNeg := ⟨_, rfl⟩
          rw [← ed_] at hdk_ hd4_
          rw [hdk_] at hl
          refine lv_aload_n hx hcb dX4_readTrade_84 rfl (lv_at hl 2 rfl) ?_
          refine x_getR hx hcb hts hown hK xc4 hR (hw.lo (by decide)) (hw.s0 (by decide) rfl) 0 (by decide) rfl q_359 dX4_readTrade_85 ?_
          refine x_cv0 rfl rfl (x_runV hx hcb hml hown hts (c_X8_next l G w K hw (nx (nx z)) _ hL2_.1.pre) mv_X8_next q_503 hK hZ hR hS (hw.lo (by decide)) xc8 (hw.s0 (by decide) rfl) rfl hl.1 rfl (Nat.le_of_ble_eq_true rfl) dX4_readTrade_88 ⟨by decide, by decide⟩ ⟨by decide, by decide⟩) hS (fun z_30 H locs hp_31 hR hS => ?_)
          rw [hp_31] at hR
          refine lv_aload_n hx hcb dX4_readTrade_91 rfl (lv_at hl 2 rfl) ?_
          refine lv_iconst (v := (nI 1)) hx hcb dX4_readTrade_92 (by decide) ?_
          refine lv_ldc (v := (nI 100000)) hx hcb hown (hts _ q_563) dX4_readTrade_93 ?_
          refine x_ci0 rfl rfl (x_runV hx hcb hml hown hts (c_X4_checkInteger l G w K hw (nx (nx (nx z))) _ 1 100000 hL3_.1) mv_X4_checkInteger q_564 hK hZ hR hS (hw.lo (by decide)) xc4 (hw.s0 (by decide) rfl) rfl hl.1 rfl (Nat.le_of_ble_eq_true rfl) dX4_readTrade_95 ⟨by decide, by decide⟩ ⟨by decide, by decide⟩) hS (fun r_32 z_33 H locs hp_34 hR hS => ?_)
          rw [hp_34.2] at hR; rw [hp_34.1]
          refine lv_istore_n (lv' := [(3, .int (cI (nx (nx (nx z))) 1 100000)), (2, .int (nI d_)), (1, .int (nI m_)), (0, .ref (w.2.2 16))]) hx hcb dX4_readTrade_98 rfl hl (by decide) rfl (fun ls hl => ?_)
          refine lv_iload_n hx hcb dX4_readTrade_99 rfl (lv_at hl 0 rfl) ?_
          refine lv_if_eq (tgt := 105) hx hcb dX4_readTrade_100 (by decide) (fun c_35 => ?_) (fun c_35 => ?_)
          · skip
            have hc_ : cI (nx (nx (nx z))) 1 100000 = 0 := c_35
            refine lv_aload_n hx hcb dX4_readTrade_105 rfl (lv_at hl 3 rfl) ?_
            refine x_getR hx hcb hts hown hK xc4 hR (hw.lo (by decide)) (hw.s0 (by decide) rfl) 2 (by decide) rfl q_361 dX4_readTrade_106 ?_
            refine x_getR hx hcb hts hown hK xc0 hR (hoB hw (by omega)) (hsB hw) 0 (by decide) rfl q_257 dX4_readTrade_109 ?_
            refine lv_iload_n hx hcb dX4_readTrade_112 rfl (lv_at hl 2 rfl) ?_
            have hk_113 : m_ < 8 := (by omega)
            refine x_aald hx hcb hK hR (hoMs hw (by omega)) (hsMs hw) rfl (oMs_at hk_113) (Nat.lt_of_lt_of_le (Nat.lt_succ_self _) (Nat.le_of_ble_eq_true rfl)) dX4_readTrade_113 ?_
            refine x_getR hx hcb hts hown hK xc5 hR (hoM hw (by omega) hk_113) (hsM hw hk_113) 6 (by decide) rfl q_197 dX4_readTrade_114 ?_
            refine lv_iload_n hx hcb dX4_readTrade_117 rfl (lv_at hl 1 rfl) ?_
            refine x_iald hx hcb hK hR (hoPt hw (by omega) hk_113) (hsPt hw hk_113) (k := d_) (by omega) (by decide) dX4_readTrade_118 ?_
            refine lv_aload_n hx hcb dX4_readTrade_119 rfl (lv_at hl 3 rfl) ?_
            refine x_getR hx hcb hts hown hK xc4 hR (hw.lo (by decide)) (hw.s0 (by decide) rfl) 0 (by decide) rfl q_359 dX4_readTrade_120 ?_
            refine x_ci0 rfl rfl (x_runV hx hcb hml hown hts (c_X8_integer l G w K hw (nx (nx (nx z))) _ hL3_.1) mv_X8_integer q_568 hK hZ hR hS (hw.lo (by decide)) xc8 (hw.s0 (by decide) rfl) rfl hl.1 rfl (Nat.le_of_ble_eq_true rfl) dX4_readTrade_123 ⟨by decide, by decide⟩ ⟨by decide, by decide⟩) hS (fun r_36 z_37 H locs hp_38 hR hS => ?_)
            rw [hp_38.2] at hR; rw [hp_38.1]
            refine lv_iadd hx hcb dX4_readTrade_126 ?_
            refine lv_istore (lv' := [(4, .int (((nx (nx (nx z))).1 (oPt 1 m_) d_) + (intg (nx (nx (nx z)))))), (3, .int (cI (nx (nx (nx z))) 1 100000)), (2, .int (nI d_)), (1, .int (nI m_)), (0, .ref (w.2.2 16))]) hx hcb dX4_readTrade_127 hl (by decide) rfl (fun ls hl => ?_)
            refine lv_iload hx hcb dX4_readTrade_129 (lv_at hl 0 rfl) ?_
            refine lv_ldc (v := (nI 1000000)) hx hcb hown (hts _ q_573) dX4_readTrade_131 ?_
            refine lv_icmp_le (tgt := 139) hx hcb dX4_readTrade_133 (by decide) (fun c_39 => ?_) (fun c_39 => ?_)
            · skip
              have hs_ : (nx (nx (nx z))).1 (oPt 1 m_) d_ + intg (nx (nx (nx z))) ≤ nI 1000000 := c_39
              refine lv_aload_n hx hcb dX4_readTrade_139 rfl (lv_at hl 4 rfl) ?_
              refine x_getR hx hcb hts hown hK xc4 hR (hw.lo (by decide)) (hw.s0 (by decide) rfl) 2 (by decide) rfl q_361 dX4_readTrade_140 ?_
              refine x_getR hx hcb hts hown hK xc0 hR (hoB hw (by omega)) (hsB hw) 0 (by decide) rfl q_257 dX4_readTrade_143 ?_
              refine lv_iload_n hx hcb dX4_readTrade_146 rfl (lv_at hl 3 rfl) ?_
              have hk_147 : m_ < 8 := (by omega)
              refine x_aald hx hcb hK hR (hoMs hw (by omega)) (hsMs hw) rfl (oMs_at hk_147) (Nat.lt_of_lt_of_le (Nat.lt_succ_self _) (Nat.le_of_ble_eq_true rfl)) dX4_readTrade_147 ?_
              refine x_getR hx hcb hts hown hK xc5 hR (hoM hw (by omega) hk_147) (hsM hw hk_147) 6 (by decide) rfl q_197 dX4_readTrade_148 ?_
              refine lv_iload_n hx hcb dX4_readTrade_151 rfl (lv_at hl 2 rfl) ?_
              refine lv_iload hx hcb dX4_readTrade_152 (lv_at hl 0 rfl) ?_
              refine x_iast hx hcb hK hR hS (hoPt hw (by omega) hk_147) (hsPt hw hk_147) (k := d_) (v := (((nx (nx (nx z))).1 (oPt 1 m_) d_) + (intg (nx (nx (nx z)))))) (by omega) (by decide) dX4_readTrade_154 (fun H locs hR hS => ?_)
              refine lv_aload_n hx hcb dX4_readTrade_155 rfl (lv_at hl 4 rfl) ?_
              refine x_getR hx hcb hts hown hK xc4 hR (hw.lo (by decide)) (hw.s0 (by decide) rfl) 0 (by decide) rfl q_359 dX4_readTrade_156 ?_
              refine x_cv0 rfl rfl (x_runV hx hcb hml hown hts (c_X8_next l G w K hw (u1 (nx (nx (nx z))) (oPt 1 m_) d_ (((nx (nx (nx z))).1 (oPt 1 m_) d_) + (intg (nx (nx (nx z)))))) _ ((hL3_.1.of (u1_ne _ (by simp only [oPt]; omega))).pre)) mv_X8_next q_503 hK hZ hR hS (hw.lo (by decide)) xc8 (hw.s0 (by decide) rfl) rfl hl.1 rfl (Nat.le_of_ble_eq_true rfl) dX4_readTrade_159 ⟨by decide, by decide⟩ ⟨by decide, by decide⟩) hS (fun z_41 H locs hp_42 hR hS => ?_)
              rw [hp_42] at hR
              refine lv_iconst (v := (nI 0)) hx hcb dX4_readTrade_162 (by decide) ?_
              exact hret (nI 0) (nx (u1 (nx (nx (nx z))) (oPt 1 m_) d_ (((nx (nx (nx z))).1 (oPt 1 m_) d_) + (intg (nx (nx (nx z))))))) _ _ _ _ dX4_readTrade_163 rfl hR hS (pr2 (by unfold rdT1; rw [if_pos hn_, if_neg hm_]; unfold rdT2; rw [if_pos hn2_, if_neg hd_, ← em_, ← ed_]; unfold rdT3; rw [if_pos hc_, if_pos hs_]; first | done | rfl))
            · skip
              have hs_ : ¬ (nx (nx (nx z))).1 (oPt 1 m_) d_ + intg (nx (nx (nx z))) ≤ nI 1000000 := c_39
              refine lv_bipush (v := (-16)) hx hcb dX4_readTrade_136 (by decide) ?_
              exact hret (-16) (nx (nx (nx z))) _ _ _ _ dX4_readTrade_138 rfl hR hS (pr2 (by unfold rdT1; rw [if_pos hn_, if_neg hm_]; unfold rdT2; rw [if_pos hn2_, if_neg hd_, ← em_, ← ed_]; unfold rdT3; rw [if_pos hc_, if_neg hs_]))
          · skip
            have hc_ : ¬ cI (nx (nx (nx z))) 1 100000 = 0 := c_35
            refine lv_iload_n hx hcb dX4_readTrade_103 rfl (lv_at hl 0 rfl) ?_
            exact hret (cI (nx (nx (nx z))) 1 100000) (nx (nx (nx z))) _ _ _ _ dX4_readTrade_104 rfl hR hS (pr2 (by unfold rdT1; rw [if_pos hn_, if_neg hm_]; unfold rdT2; rw [if_pos hn2_, if_neg hd_]; unfold rdT3; rw [if_neg hc_]))
        · skip
          have hd_ := Int32.not_le.mp c_28
          refine lv_bipush (v := (-13)) hx hcb dX4_readTrade_81 (by decide) ?_
          exact hret (-13) (nx (nx z)) _ _ _ _ dX4_readTrade_83 rfl hR hS (pr2 (by unfold rdT1; rw [if_pos hn_, if_neg hm_]; unfold rdT2; rw [if_pos hn2_, if_pos hd_]))
      · skip
        have hn2_ : ¬ isNm (nx (nx z)) := fun h_ => absurd c_21 (by rw [if_pos h_]; decide)
        refine lv_bipush (v := (-11)) hx hcb dX4_readTrade_59 (by decide) ?_
        exact hret (-11) (nx (nx z)) _ _ _ _ dX4_readTrade_61 rfl hR hS (pr2 (by unfold rdT1; rw [if_pos hn_, if_neg hm_]; unfold rdT2; rw [if_neg hn2_]))
    · skip
      have hm_ := Int32.not_le.mp c_14
      refine lv_bipush (v := (-13)) hx hcb dX4_readTrade_39 (by decide) ?_
      exact hret (-13) (nx z) _ _ _ _ dX4_readTrade_41 rfl hR hS (pr2 (by unfold rdT1; rw [if_pos hn_, if_pos hm_]; first | done | rfl))
  · skip
    have hn_ : ¬ isNm (nx z) := fun h_ => absurd c_7 (by rw [if_pos h_]; decide)
    refine lv_bipush (v := (-11)) hx hcb dX4_readTrade_17 (by decide) ?_
    exact hret (-11) (nx z) _ _ _ _ dX4_readTrade_19 rfl hR hS (pr2 (by unfold rdT1; rw [if_neg hn_]; first | done | rfl))
def rm_X4_readClose : Room := { frames := 4, cells := 0, slots := 0, locals := 85 }
set_option maxRecDepth 100000 in
set_option maxHeartbeats 4000000 in
theorem c_X4_readClose (l : Launch) (G : xGl) (w : xWd) (K : Nat) (hw : isC K w) (z : xSt) (sz : Nat)  (hL : lOk z) : xMi l yX4_readClose cX4_readClose 4 (some FieldType.int) rm_X4_readClose G w z sz [.ref (w.2.2 16)] (fun r z1 => r = (rdC z).1 ∧ z1 = (rdC z).2) := by
  refine x_mi (by decide) (Nat.le_of_ble_eq_true rfl) ?_
  intro p e s mt args below meth c ls Q hsz X hR hS hl hret
  obtain ⟨hx, hcb, hml, hown, hts, hlk, hK, hZ⟩ := X
  have hl : lv_has ls 4 [(0, .ref (w.2.2 16))] := hl
  have hb3_ := hL.2.2.1
  have hb4_ := hL.2.2.2.2.1
  have hb5_ := hL.2.2.2.2.2.2
  refine lv_aload_n hx hcb dX4_readClose_0 rfl (lv_at hl 0 rfl) ?_
  refine x_getR hx hcb hts hown hK xc4 hR (hw.lo (by decide)) (hw.s0 (by decide) rfl) 2 (by decide) rfl q_361 dX4_readClose_1 ?_
  refine x_getI hx hcb hts hown hK xc0 hR (hoB hw (by omega)) (hsB hw) 5 (by decide) rfl q_279 dX4_readClose_4 ?_
  refine x_top (show (z.1 (oB 1) 5) = (nI (bN z 1 5)) from hL.2.2.2.2.2.1) ?_
  refine lv_bipush (v := (nI 24)) hx hcb dX4_readClose_7 (by decide) ?_
  refine lv_icmp_lt (tgt := 15) hx hcb dX4_readClose_9 (by decide) (fun c_1 => ?_) (fun c_1 => ?_)
  · skip
    have c_1 : (bN z 1 5) < 24 := (nI_ltI (by omega) (by omega)).mp c_1
    have hy_ : bN z 1 5 < 24 := c_1
    refine lv_aload_n hx hcb dX4_readClose_15 rfl (lv_at hl 0 rfl) ?_
    refine x_getR hx hcb hts hown hK xc4 hR (hw.lo (by decide)) (hw.s0 (by decide) rfl) 0 (by decide) rfl q_359 dX4_readClose_16 ?_
    refine x_cv0 rfl rfl (x_runV hx hcb hml hown hts (c_X8_next l G w K hw z _ hL.1.pre) mv_X8_next q_503 hK hZ hR hS (hw.lo (by decide)) xc8 (hw.s0 (by decide) rfl) rfl hl.1 rfl (Nat.le_of_ble_eq_true rfl) dX4_readClose_19 ⟨by decide, by decide⟩ ⟨by decide, by decide⟩) hS (fun z_3 H locs hp_4 hR hS => ?_)
    rw [hp_4] at hR
    refine lv_iconst (v := (nI 0)) hx hcb dX4_readClose_22 (by decide) ?_
    refine lv_istore_n (lv' := [(1, .int (nI 0)), (0, .ref (w.2.2 16))]) hx hcb dX4_readClose_23 rfl hl (by decide) rfl (fun ls hl => ?_)
    suffices LP_24 : ∀ (nn : Nat) (d_ : Nat) (y_ : xSt) (_ : bN z 1 4 - d_ < nn) (hLy_ : lOk y_) (hdB_ : y_.1 (oB 1) = z.1 (oB 1)) (hd_ : d_ ≤ bN z 1 4) (hf_ : rcL (bN z 1 4) 0 (nx z) = rcL (bN z 1 4 - d_) d_ y_) (H : Heap) (locs : List Loc) (ls : Array Slot), Rh G w y_ H → va_S (xA w s.heap.size) s.heap H locs → lv_has ls 4 [(0, .ref (w.2.2 16)), (1, .int (nI d_))] → W p l e rm_X4_readClose s mt args below meth c H locs 0 0 Q (F0 mt 24 ls []) from LP_24 ((_) + 1) 0 (nx z) (Nat.lt_succ_self _) hL.nx (nx_hi (by decide)) (Nat.zero_le _) rfl _ _ _ hR hS (lv_sub hl [1, 0] rfl)
    intro nn
    induction nn with
    | zero => intro d_ y_ hm_ ; exact absurd hm_ (Nat.not_lt_zero _)
    | succ nn ih_24 =>
      intro d_ y_ hm_24 hLy_ hdB_ hd_ hf_ H locs ls hR hS hl
      have hky_ := tN_kind hLy_.1
      refine lv_iload_n hx hcb dX4_readClose_24 rfl (lv_at hl 1 rfl) ?_
      refine lv_aload_n hx hcb dX4_readClose_25 rfl (lv_at hl 0 rfl) ?_
      refine x_getR hx hcb hts hown hK xc4 hR (hw.lo (by decide)) (hw.s0 (by decide) rfl) 2 (by decide) rfl q_361 dX4_readClose_26 ?_
      refine x_getI hx hcb hts hown hK xc0 hR (hoB hw (by omega)) (hsB hw) 4 (by decide) rfl q_275 dX4_readClose_29 ?_
      refine x_top (show (y_.1 (oB 1) 4) = (nI (bN z 1 4)) from by rw [hdB_]; exact hL.2.2.2.1) ?_
      refine lv_icmp_ge (tgt := 118) hx hcb dX4_readClose_32 (by decide) (fun c_5 => ?_) (fun c_5 => ?_)
      · skip
        have c_5 : (bN z 1 4) ≤ d_ := (nI_leI (by omega) (by omega)).mp c_5
        have he_ : rcL (bN z 1 4) 0 (nx z) = (0, y_) := by rw [hf_, show bN z 1 4 - d_ = 0 by omega]; rfl
        refine lv_aload_n hx hcb dX4_readClose_118 rfl (lv_at hl 0 rfl) ?_
        refine x_getR hx hcb hts hown hK xc4 hR (hw.lo (by decide)) (hw.s0 (by decide) rfl) 1 (by decide) rfl q_360 dX4_readClose_119 ?_
        refine lv_aload_n hx hcb dX4_readClose_122 rfl (lv_at hl 0 rfl) ?_
        refine x_getR hx hcb hts hown hK xc4 hR (hw.lo (by decide)) (hw.s0 (by decide) rfl) 2 (by decide) rfl q_361 dX4_readClose_123 ?_
        refine lv_aload_n hx hcb dX4_readClose_126 rfl (lv_at hl 0 rfl) ?_
        refine x_getR hx hcb hts hown hK xc4 hR (hw.lo (by decide)) (hw.s0 (by decide) rfl) 3 (by decide) rfl q_362 dX4_readClose_127 ?_
        refine x_cv0 rfl rfl (x_runV hx hcb hml hown hts (c_X1_carryOut l G w K hw y_ _ 1 (by omega) 17 4 (hw.lo (by decide)) (hw.s0 (by decide) rfl) (by decide) (bN z 1 3) (bN z 1 4) (bN z 1 5) (⟨rfl, Or.inr rfl⟩) (by rw [hdB_]; exact hL.2.1) hb3_ (by rw [hdB_]; exact hL.2.2.2.1) hb4_ (by rw [hdB_]; exact hL.2.2.2.2.2.1) (by omega)) mv_X1_carryOut q_579 hK hZ hR hS (hw.lo (by decide)) xc1 (hw.s0 (by decide) rfl) rfl hl.1 rfl (Nat.le_of_ble_eq_true rfl) dX4_readClose_130 ⟨by decide, by decide⟩ ⟨by decide, by decide⟩) hS (fun z_7 H locs hp_8 hR hS => ?_)
        rw [hp_8] at hR
        refine lv_iconst (v := (nI 0)) hx hcb dX4_readClose_133 (by decide) ?_
        exact hret (nI 0) (clos y_ 1 17 (bN z 1 3) (bN z 1 4) (bN z 1 5)) _ _ _ _ dX4_readClose_134 rfl hR hS (pr2 (by unfold rdC; rw [if_pos hy_, he_, if_pos rfl]; first | done | rfl))
      · skip
        have c_5 : ¬ (bN z 1 4) ≤ d_ := fun h_ => c_5 ((nI_leI (by omega) (by omega)).mpr h_)
        have hlt_ : d_ < bN z 1 4 := by omega
        refine lv_aload_n hx hcb dX4_readClose_35 rfl (lv_at hl 0 rfl) ?_
        refine x_getR hx hcb hts hown hK xc4 hR (hw.lo (by decide)) (hw.s0 (by decide) rfl) 0 (by decide) rfl q_359 dX4_readClose_36 ?_
        refine x_getN hx hcb hts hown hK xc8 hR (hw.lo (by decide)) (hw.s0 (by decide) rfl) 3 (by decide) rfl (hZ.1.1 _ (List.mem_of_getElem? (i := 3) rfl)) dX4_readClose_39 ?_
        refine x_top (show (y_.1 14 3) = (nI (tN y_ 3)) from hLy_.1.2.1) ?_
        refine lv_iconst (v := (nI 4)) hx hcb dX4_readClose_42 (by decide) ?_
        refine lv_icmp_ne (tgt := 50) hx hcb dX4_readClose_43 (by decide) (fun c_9 => ?_) (fun c_9 => ?_)
        · skip
          have c_9 : ¬ (tN y_ 3) = 4 := fun h_ => c_9 ((nI_eq (by omega) (by omega)).mpr h_)
          have hk_ : ¬ tN y_ 3 = 4 := c_9
          refine lv_iconst (v := (nI 0)) hx hcb dX4_readClose_50 (by decide) ?_
          refine lv_istore_n (lv' := [(2, .int (nI 0)), (0, .ref (w.2.2 16)), (1, .int (nI d_))]) hx hcb dX4_readClose_51 rfl hl (by decide) rfl (fun ls hl => ?_)
          refine lv_iload_n hx hcb dX4_readClose_52 rfl (lv_at hl 0 rfl) ?_
          refine lv_if_eq (tgt := 63) hx hcb dX4_readClose_53 (by decide) (fun c_10 => ?_) (fun c_10 => ?_)
          · skip
            rw [show y_ = rcN y_ from by unfold rcN; first | rw [if_pos hk_] | rw [if_neg hk_]] at hR
            have hLn_ := lOk_rcN hLy_
            refine lv_aload_n hx hcb dX4_readClose_63 rfl (lv_at hl 1 rfl) ?_
            refine lv_iconst (v := (nI 0)) hx hcb dX4_readClose_64 (by decide) ?_
            refine lv_ldc (v := (nI 1000000)) hx hcb hown (hts _ q_573) dX4_readClose_65 ?_
            refine x_ci0 rfl rfl (x_runV hx hcb hml hown hts (c_X4_checkInteger l G w K hw (rcN y_) _ 0 1000000 hLn_.1) mv_X4_checkInteger q_564 hK hZ hR hS (hw.lo (by decide)) xc4 (hw.s0 (by decide) rfl) rfl hl.1 rfl (Nat.le_of_ble_eq_true rfl) dX4_readClose_67 ⟨by decide, by decide⟩ ⟨by decide, by decide⟩) hS (fun r_11 z_12 H locs hp_13 hR hS => ?_)
            rw [hp_13.2] at hR; rw [hp_13.1]
            refine lv_istore_n (lv' := [(3, .int (cI (rcN y_) 0 1000000)), (2, .int (nI 0)), (0, .ref (w.2.2 16)), (1, .int (nI d_))]) hx hcb dX4_readClose_70 rfl hl (by decide) rfl (fun ls hl => ?_)
            refine lv_iload_n hx hcb dX4_readClose_71 rfl (lv_at hl 0 rfl) ?_
            refine lv_if_eq (tgt := 77) hx hcb dX4_readClose_72 (by decide) (fun c_14 => ?_) (fun c_14 => ?_)
            · skip
              have hci_ : cI (rcN y_) 0 1000000 = 0 := c_14
              refine lv_aload_n hx hcb dX4_readClose_77 rfl (lv_at hl 2 rfl) ?_
              refine x_getR hx hcb hts hown hK xc4 hR (hw.lo (by decide)) (hw.s0 (by decide) rfl) 3 (by decide) rfl q_362 dX4_readClose_78 ?_
              refine lv_iload_n hx hcb dX4_readClose_81 rfl (lv_at hl 3 rfl) ?_
              refine lv_iload_n hx hcb dX4_readClose_82 rfl (lv_at hl 1 rfl) ?_
              refine lv_if_eq (tgt := 97) hx hcb dX4_readClose_83 (by decide) (fun c_15 => ?_) (fun c_15 => ?_)
              · skip
                refine lv_aload_n hx hcb dX4_readClose_97 rfl (lv_at hl 2 rfl) ?_
                refine x_getR hx hcb hts hown hK xc4 hR (hw.lo (by decide)) (hw.s0 (by decide) rfl) 0 (by decide) rfl q_359 dX4_readClose_98 ?_
                refine x_ci0 rfl rfl (x_runV hx hcb hml hown hts (c_X8_integer l G w K hw (rcN y_) _ hLn_.1) mv_X8_integer q_568 hK hZ hR hS (hw.lo (by decide)) xc8 (hw.s0 (by decide) rfl) rfl hl.1 rfl (Nat.le_of_ble_eq_true rfl) dX4_readClose_101 ⟨by decide, by decide⟩ ⟨by decide, by decide⟩) hS (fun r_16 z_17 H locs hp_18 hR hS => ?_)
                rw [hp_18.2] at hR; rw [hp_18.1]
                refine x_iast hx hcb hK hR hS (hw.lo (by decide)) (hw.s0 (by decide) rfl) (k := d_) (v := (intg (rcN y_))) (by omega) (by decide) dX4_readClose_104 (fun H locs hR hS => ?_)
                refine lv_aload_n hx hcb dX4_readClose_105 rfl (lv_at hl 2 rfl) ?_
                refine x_getR hx hcb hts hown hK xc4 hR (hw.lo (by decide)) (hw.s0 (by decide) rfl) 0 (by decide) rfl q_359 dX4_readClose_106 ?_
                refine x_cv0 rfl rfl (x_runV hx hcb hml hown hts (c_X8_next l G w K hw (u1 (rcN y_) 17 d_ (intg (rcN y_))) _ ((hLn_.of (u1_ne _ (by omega)) (u1_ne _ (by simp only [oB]; omega))).1.pre)) mv_X8_next q_503 hK hZ hR hS (hw.lo (by decide)) xc8 (hw.s0 (by decide) rfl) rfl hl.1 rfl (Nat.le_of_ble_eq_true rfl) dX4_readClose_109 ⟨by decide, by decide⟩ ⟨by decide, by decide⟩) hS (fun z_20 H locs hp_21 hR hS => ?_)
                rw [hp_21] at hR
                refine lv_iinc (v := (nI (d_ + 1))) (lv' := [(1, .int (nI (d_ + 1))), (3, .int (cI (rcN y_) 0 1000000)), (2, .int (nI 0)), (0, .ref (w.2.2 16))]) hx hcb dX4_readClose_112 hl (k := 3) rfl (x_iinc1 _) (by decide) rfl (fun ls hl => ?_)
                refine lv_goto (tgt := 24) hx hcb dX4_readClose_115 (by decide) ?_
                rw [show (nx (u1 (rcN y_) 17 d_ (intg (rcN y_)))) = ((rcS y_ d_).2) from by unfold rcS; rw [if_pos hci_]; first | rw [if_pos hk_] | rw [if_neg hk_]] at hR
                exact ih_24 (d_ + 1) ((rcS y_ d_).2) (by omega) (lOk_rcS hLy_) (rcS_B.trans hdB_) (by omega) (by rw [hf_, rcL_s (k := bN z 1 4 - (d_ + 1)) (by omega), if_pos (show (rcS y_ d_).1 = 0 from by unfold rcS; rw [if_pos hci_])]) _ _ _ hR hS (lv_sub hl [3, 0] rfl)
              · skip
                first | exact absurd c_15 (by decide) | exact absurd (by decide) c_15
            · skip
              have hci_ : ¬ cI (rcN y_) 0 1000000 = 0 := c_14
              have he_ : rcL (bN z 1 4) 0 (nx z) = (cI (rcN y_) 0 1000000, rcN y_) := by rw [hf_, rcL_s (k := bN z 1 4 - (d_ + 1)) (by omega), show rcS y_ d_ = (cI (rcN y_) 0 1000000, rcN y_) from if_neg hci_, if_neg hci_]
              refine lv_iload_n hx hcb dX4_readClose_75 rfl (lv_at hl 0 rfl) ?_
              exact hret (cI (rcN y_) 0 1000000) (rcN y_) _ _ _ _ dX4_readClose_76 rfl hR hS (pr2 (by unfold rdC; rw [if_pos hy_, he_, if_neg hci_]))
          · skip
            first | exact absurd c_10 (by decide) | exact absurd (by decide) c_10
        · skip
          have c_9 : (tN y_ 3) = 4 := (nI_eq (by omega) (by omega)).mp c_9
          have hk_ : tN y_ 3 = 4 := c_9
          refine lv_iconst (v := (nI 1)) hx hcb dX4_readClose_46 (by decide) ?_
          refine lv_goto (tgt := 51) hx hcb dX4_readClose_47 (by decide) ?_
          refine lv_istore_n (lv' := [(2, .int (nI 1)), (0, .ref (w.2.2 16)), (1, .int (nI d_))]) hx hcb dX4_readClose_51 rfl hl (by decide) rfl (fun ls hl => ?_)
          refine lv_iload_n hx hcb dX4_readClose_52 rfl (lv_at hl 0 rfl) ?_
          refine lv_if_eq (tgt := 63) hx hcb dX4_readClose_53 (by decide) (fun c_22 => ?_) (fun c_22 => ?_)
          · skip
            first | exact absurd c_22 (by decide) | exact absurd (by decide) c_22
          · skip
            refine lv_aload_n hx hcb dX4_readClose_56 rfl (lv_at hl 1 rfl) ?_
            refine x_getR hx hcb hts hown hK xc4 hR (hw.lo (by decide)) (hw.s0 (by decide) rfl) 0 (by decide) rfl q_359 dX4_readClose_57 ?_
            refine x_cv0 rfl rfl (x_runV hx hcb hml hown hts (c_X8_next l G w K hw y_ _ hLy_.1.pre) mv_X8_next q_503 hK hZ hR hS (hw.lo (by decide)) xc8 (hw.s0 (by decide) rfl) rfl hl.1 rfl (Nat.le_of_ble_eq_true rfl) dX4_readClose_60 ⟨by decide, by decide⟩ ⟨by decide, by decide⟩) hS (fun z_24 H locs hp_25 hR hS => ?_)
            rw [hp_25] at hR
            rw [show nx y_ = rcN y_ from by unfold rcN; first | rw [if_pos hk_] | rw [if_neg hk_]] at hR
            have hLn_ := lOk_rcN hLy_
            refine lv_aload_n hx hcb dX4_readClose_63 rfl (lv_at hl 1 rfl) ?_
            refine lv_iconst (v := (nI 0)) hx hcb dX4_readClose_64 (by decide) ?_
            refine lv_ldc (v := (nI 1000000)) hx hcb hown (hts _ q_573) dX4_readClose_65 ?_
            refine x_ci0 rfl rfl (x_runV hx hcb hml hown hts (c_X4_checkInteger l G w K hw (rcN y_) _ 0 1000000 hLn_.1) mv_X4_checkInteger q_564 hK hZ hR hS (hw.lo (by decide)) xc4 (hw.s0 (by decide) rfl) rfl hl.1 rfl (Nat.le_of_ble_eq_true rfl) dX4_readClose_67 ⟨by decide, by decide⟩ ⟨by decide, by decide⟩) hS (fun r_26 z_27 H locs hp_28 hR hS => ?_)
            rw [hp_28.2] at hR; rw [hp_28.1]
            refine lv_istore_n (lv' := [(3, .int (cI (rcN y_) 0 1000000)), (2, .int (nI 1)), (0, .ref (w.2.2 16)), (1, .int (nI d_))]) hx hcb dX4_readClose_70 rfl hl (by decide) rfl (fun ls hl => ?_)
            refine lv_iload_n hx hcb dX4_readClose_71 rfl (lv_at hl 0 rfl) ?_
            refine lv_if_eq (tgt := 77) hx hcb dX4_readClose_72 (by decide) (fun c_29 => ?_) (fun c_29 => ?_)
            · skip
              have hci_ : cI (rcN y_) 0 1000000 = 0 := c_29
              refine lv_aload_n hx hcb dX4_readClose_77 rfl (lv_at hl 2 rfl) ?_
              refine x_getR hx hcb hts hown hK xc4 hR (hw.lo (by decide)) (hw.s0 (by decide) rfl) 3 (by decide) rfl q_362 dX4_readClose_78 ?_
              refine lv_iload_n hx hcb dX4_readClose_81 rfl (lv_at hl 3 rfl) ?_
              refine lv_iload_n hx hcb dX4_readClose_82 rfl (lv_at hl 1 rfl) ?_
              refine lv_if_eq (tgt := 97) hx hcb dX4_readClose_83 (by decide) (fun c_30 => ?_) (fun c_30 => ?_)
              · skip
                first | exact absurd c_30 (by decide) | exact absurd (by decide) c_30
              · skip
                refine lv_aload_n hx hcb dX4_readClose_86 rfl (lv_at hl 2 rfl) ?_
                refine x_getR hx hcb hts hown hK xc4 hR (hw.lo (by decide)) (hw.s0 (by decide) rfl) 0 (by decide) rfl q_359 dX4_readClose_87 ?_
                refine x_ci0 rfl rfl (x_runV hx hcb hml hown hts (c_X8_integer l G w K hw (rcN y_) _ hLn_.1) mv_X8_integer q_568 hK hZ hR hS (hw.lo (by decide)) xc8 (hw.s0 (by decide) rfl) rfl hl.1 rfl (Nat.le_of_ble_eq_true rfl) dX4_readClose_90 ⟨by decide, by decide⟩ ⟨by decide, by decide⟩) hS (fun r_31 z_32 H locs hp_33 hR hS => ?_)
                rw [hp_33.2] at hR; rw [hp_33.1]
                refine lv_ineg hx hcb dX4_readClose_93 ?_
                refine lv_goto (tgt := 104) hx hcb dX4_readClose_94 (by decide) ?_
                refine x_iast hx hcb hK hR hS (hw.lo (by decide)) (hw.s0 (by decide) rfl) (k := d_) (v := (-(intg (rcN y_)))) (by omega) (by decide) dX4_readClose_104 (fun H locs hR hS => ?_)
                refine lv_aload_n hx hcb dX4_readClose_105 rfl (lv_at hl 2 rfl) ?_
                refine x_getR hx hcb hts hown hK xc4 hR (hw.lo (by decide)) (hw.s0 (by decide) rfl) 0 (by decide) rfl q_359 dX4_readClose_106 ?_
                refine x_cv0 rfl rfl (x_runV hx hcb hml hown hts (c_X8_next l G w K hw (u1 (rcN y_) 17 d_ (-(intg (rcN y_)))) _ ((hLn_.of (u1_ne _ (by omega)) (u1_ne _ (by simp only [oB]; omega))).1.pre)) mv_X8_next q_503 hK hZ hR hS (hw.lo (by decide)) xc8 (hw.s0 (by decide) rfl) rfl hl.1 rfl (Nat.le_of_ble_eq_true rfl) dX4_readClose_109 ⟨by decide, by decide⟩ ⟨by decide, by decide⟩) hS (fun z_35 H locs hp_36 hR hS => ?_)
                rw [hp_36] at hR
                refine lv_iinc (v := (nI (d_ + 1))) (lv' := [(1, .int (nI (d_ + 1))), (3, .int (cI (rcN y_) 0 1000000)), (2, .int (nI 1)), (0, .ref (w.2.2 16))]) hx hcb dX4_readClose_112 hl (k := 3) rfl (x_iinc1 _) (by decide) rfl (fun ls hl => ?_)
                refine lv_goto (tgt := 24) hx hcb dX4_readClose_115 (by decide) ?_
                rw [show (nx (u1 (rcN y_) 17 d_ (-(intg (rcN y_))))) = ((rcS y_ d_).2) from by unfold rcS; rw [if_pos hci_]; first | rw [if_pos hk_] | rw [if_neg hk_]] at hR
                exact ih_24 (d_ + 1) ((rcS y_ d_).2) (by omega) (lOk_rcS hLy_) (rcS_B.trans hdB_) (by omega) (by rw [hf_, rcL_s (k := bN z 1 4 - (d_ + 1)) (by omega), if_pos (show (rcS y_ d_).1 = 0 from by unfold rcS; rw [if_pos hci_])]) _ _ _ hR hS (lv_sub hl [3, 0] rfl)
            · skip
              have hci_ : ¬ cI (rcN y_) 0 1000000 = 0 := c_29
              have he_ : rcL (bN z 1 4) 0 (nx z) = (cI (rcN y_) 0 1000000, rcN y_) := by rw [hf_, rcL_s (k := bN z 1 4 - (d_ + 1)) (by omega), show rcS y_ d_ = (cI (rcN y_) 0 1000000, rcN y_) from if_neg hci_, if_neg hci_]
              refine lv_iload_n hx hcb dX4_readClose_75 rfl (lv_at hl 0 rfl) ?_
              exact hret (cI (rcN y_) 0 1000000) (rcN y_) _ _ _ _ dX4_readClose_76 rfl hR hS (pr2 (by unfold rdC; rw [if_pos hy_, he_, if_neg hci_]))
  · skip
    have c_1 : ¬ (bN z 1 5) < 24 := fun h_ => c_1 ((nI_ltI (by omega) (by omega)).mpr h_)
    have hy_ : ¬ bN z 1 5 < 24 := c_1
    refine lv_bipush (v := (-16)) hx hcb dX4_readClose_12 (by decide) ?_
    exact hret (-16) z _ _ _ _ dX4_readClose_14 rfl hR hS (pr2 (by unfold rdC; rw [if_neg hy_]; first | done | rfl))
def rm_X4_settingAtToken : Room := { frames := 5, cells := 0, slots := 0, locals := 107 }
set_option maxRecDepth 100000 in
set_option maxHeartbeats 4000000 in
theorem c_X4_settingAtToken (l : Launch) (G : xGl) (w : xWd) (K : Nat) (hw : isC K w) (z : xSt) (sz : Nat)  (hT : tOk z) : xMi l yX4_settingAtToken cX4_settingAtToken 1 (some FieldType.int) rm_X4_settingAtToken G w z sz [.ref (w.2.2 16)] (fun r z1 => r = stA z ∧ z1 = z) := by
  refine x_mi (by decide) (Nat.le_of_ble_eq_true rfl) ?_
  intro p e s mt args below meth c ls Q hsz X hR hS hl hret
  obtain ⟨hx, hcb, hml, hown, hts, hlk, hK, hZ⟩ := X
  have hl : lv_has ls 1 [(0, .ref (w.2.2 16))] := hl
  refine lv_aload_n hx hcb dX4_settingAtToken_0 rfl (lv_at hl 0 rfl) ?_
  refine x_getR hx hcb hts hown hK xc4 hR (hw.lo (by decide)) (hw.s0 (by decide) rfl) 0 (by decide) rfl q_359 dX4_settingAtToken_1 ?_
  obtain ⟨aq_1, hvq_1, hsq_1⟩ := xS_of hZ (q := (RX4, 156, "cash")) (List.mem_of_getElem? (i := 14) rfl)
  refine va_ldcS hx hcb hown hvq_1 dX4_settingAtToken_4 ?_
  refine x_ci0 rfl rfl (x_runVE isS_mv hsq_1 hx hcb hml hown hts (c_X8_isWord l G w K hw z _ "cash" aq_1 (by assumption) (tx_of (by decide) (by decide))) mv_X8_isWord q_447 hK hZ hR hS (hw.lo (by decide)) xc8 (hw.s0 (by decide) rfl) rfl hl.1 rfl (Nat.le_of_ble_eq_true rfl) dX4_settingAtToken_6 ⟨by decide, by decide⟩ ⟨by decide, by decide⟩) hS (fun r_2 z_3 H locs hp_4 hR hS => ?_)
  rw [hp_4.2] at hR; rw [hp_4.1]
  refine lv_if_eq (tgt := 14) hx hcb dX4_settingAtToken_9 (by decide) (fun c_5 => ?_) (fun c_5 => ?_)
  · skip
    have hw0_ : ¬ isW z "cash" := fun h_ => absurd c_5 (by rw [if_pos h_]; decide)
    refine lv_aload_n hx hcb dX4_settingAtToken_14 rfl (lv_at hl 0 rfl) ?_
    refine x_getR hx hcb hts hown hK xc4 hR (hw.lo (by decide)) (hw.s0 (by decide) rfl) 0 (by decide) rfl q_359 dX4_settingAtToken_15 ?_
    obtain ⟨aq_6, hvq_6, hsq_6⟩ := xS_of hZ (q := (RX4, 158, "reserve")) (List.mem_of_getElem? (i := 15) rfl)
    refine va_ldcS hx hcb hown hvq_6 dX4_settingAtToken_18 ?_
    refine x_ci0 rfl rfl (x_runVE isS_mv hsq_6 hx hcb hml hown hts (c_X8_isWord l G w K hw z _ "reserve" aq_6 (by assumption) (tx_of (by decide) (by decide))) mv_X8_isWord q_447 hK hZ hR hS (hw.lo (by decide)) xc8 (hw.s0 (by decide) rfl) rfl hl.1 rfl (Nat.le_of_ble_eq_true rfl) dX4_settingAtToken_20 ⟨by decide, by decide⟩ ⟨by decide, by decide⟩) hS (fun r_7 z_8 H locs hp_9 hR hS => ?_)
    rw [hp_9.2] at hR; rw [hp_9.1]
    refine lv_if_eq (tgt := 28) hx hcb dX4_settingAtToken_23 (by decide) (fun c_10 => ?_) (fun c_10 => ?_)
    · skip
      have hw1_ : ¬ isW z "reserve" := fun h_ => absurd c_10 (by rw [if_pos h_]; decide)
      refine lv_aload_n hx hcb dX4_settingAtToken_28 rfl (lv_at hl 0 rfl) ?_
      refine x_getR hx hcb hts hown hK xc4 hR (hw.lo (by decide)) (hw.s0 (by decide) rfl) 0 (by decide) rfl q_359 dX4_settingAtToken_29 ?_
      obtain ⟨aq_11, hvq_11, hsq_11⟩ := xS_of hZ (q := (RX4, 160, "years")) (List.mem_of_getElem? (i := 16) rfl)
      refine va_ldcS hx hcb hown hvq_11 dX4_settingAtToken_32 ?_
      refine x_ci0 rfl rfl (x_runVE isS_mv hsq_11 hx hcb hml hown hts (c_X8_isWord l G w K hw z _ "years" aq_11 (by assumption) (tx_of (by decide) (by decide))) mv_X8_isWord q_447 hK hZ hR hS (hw.lo (by decide)) xc8 (hw.s0 (by decide) rfl) rfl hl.1 rfl (Nat.le_of_ble_eq_true rfl) dX4_settingAtToken_34 ⟨by decide, by decide⟩ ⟨by decide, by decide⟩) hS (fun r_12 z_13 H locs hp_14 hR hS => ?_)
      rw [hp_14.2] at hR; rw [hp_14.1]
      refine lv_if_eq (tgt := 42) hx hcb dX4_settingAtToken_37 (by decide) (fun c_15 => ?_) (fun c_15 => ?_)
      · skip
        have hw2_ : ¬ isW z "years" := fun h_ => absurd c_15 (by rw [if_pos h_]; decide)
        refine lv_aload_n hx hcb dX4_settingAtToken_42 rfl (lv_at hl 0 rfl) ?_
        refine x_getR hx hcb hts hown hK xc4 hR (hw.lo (by decide)) (hw.s0 (by decide) rfl) 0 (by decide) rfl q_359 dX4_settingAtToken_43 ?_
        obtain ⟨aq_16, hvq_16, hsq_16⟩ := xS_of hZ (q := (RX4, 162, "keep")) (List.mem_of_getElem? (i := 17) rfl)
        refine va_ldcS hx hcb hown hvq_16 dX4_settingAtToken_46 ?_
        refine x_ci0 rfl rfl (x_runVE isS_mv hsq_16 hx hcb hml hown hts (c_X8_isWord l G w K hw z _ "keep" aq_16 (by assumption) (tx_of (by decide) (by decide))) mv_X8_isWord q_447 hK hZ hR hS (hw.lo (by decide)) xc8 (hw.s0 (by decide) rfl) rfl hl.1 rfl (Nat.le_of_ble_eq_true rfl) dX4_settingAtToken_48 ⟨by decide, by decide⟩ ⟨by decide, by decide⟩) hS (fun r_17 z_18 H locs hp_19 hR hS => ?_)
        rw [hp_19.2] at hR; rw [hp_19.1]
        refine lv_if_eq (tgt := 56) hx hcb dX4_settingAtToken_51 (by decide) (fun c_20 => ?_) (fun c_20 => ?_)
        · skip
          have hw3_ : ¬ isW z "keep" := fun h_ => absurd c_20 (by rw [if_pos h_]; decide)
          refine lv_aload_n hx hcb dX4_settingAtToken_56 rfl (lv_at hl 0 rfl) ?_
          refine x_getR hx hcb hts hown hK xc4 hR (hw.lo (by decide)) (hw.s0 (by decide) rfl) 0 (by decide) rfl q_359 dX4_settingAtToken_57 ?_
          obtain ⟨aq_21, hvq_21, hsq_21⟩ := xS_of hZ (q := (RX4, 164, "policy")) (List.mem_of_getElem? (i := 18) rfl)
          refine va_ldcS hx hcb hown hvq_21 dX4_settingAtToken_60 ?_
          refine x_ci0 rfl rfl (x_runVE isS_mv hsq_21 hx hcb hml hown hts (c_X8_isWord l G w K hw z _ "policy" aq_21 (by assumption) (tx_of (by decide) (by decide))) mv_X8_isWord q_447 hK hZ hR hS (hw.lo (by decide)) xc8 (hw.s0 (by decide) rfl) rfl hl.1 rfl (Nat.le_of_ble_eq_true rfl) dX4_settingAtToken_62 ⟨by decide, by decide⟩ ⟨by decide, by decide⟩) hS (fun r_22 z_23 H locs hp_24 hR hS => ?_)
          rw [hp_24.2] at hR; rw [hp_24.1]
          refine lv_if_eq (tgt := 72) hx hcb dX4_settingAtToken_65 (by decide) (fun c_25 => ?_) (fun c_25 => ?_)
          · skip
            have hw4_ : ¬ isW z "policy" := fun h_ => absurd c_25 (by rw [if_pos h_]; decide)
            refine lv_iconst (v := (-1)) hx hcb dX4_settingAtToken_72 (by decide) ?_
            exact hret (-1) z _ _ _ _ dX4_settingAtToken_73 rfl hR hS (⟨by unfold stA; rw [if_neg hw0_, if_neg hw1_, if_neg hw2_, if_neg hw3_]; first | (rw [if_pos hw4_]; first | done | rfl) | (rw [if_neg hw4_]; first | done | rfl), rfl⟩)
          · skip
            have hw4_ : isW z "policy" := Classical.byContradiction (fun h_ => c_25 (if_neg h_))
            refine lv_iconst (v := (nI 4)) hx hcb dX4_settingAtToken_68 (by decide) ?_
            refine lv_goto (tgt := 73) hx hcb dX4_settingAtToken_69 (by decide) ?_
            exact hret (nI 4) z _ _ _ _ dX4_settingAtToken_73 rfl hR hS (⟨by unfold stA; rw [if_neg hw0_, if_neg hw1_, if_neg hw2_, if_neg hw3_]; first | (rw [if_pos hw4_]; first | done | rfl) | (rw [if_neg hw4_]; first | done | rfl), rfl⟩)
        · skip
          have hw3_ : isW z "keep" := Classical.byContradiction (fun h_ => c_20 (if_neg h_))
          refine lv_iconst (v := (nI 3)) hx hcb dX4_settingAtToken_54 (by decide) ?_
          exact hret (nI 3) z _ _ _ _ dX4_settingAtToken_55 rfl hR hS (⟨by unfold stA; rw [if_neg hw0_, if_neg hw1_, if_neg hw2_, if_pos hw3_]; first | done | rfl, rfl⟩)
      · skip
        have hw2_ : isW z "years" := Classical.byContradiction (fun h_ => c_15 (if_neg h_))
        refine lv_iconst (v := (nI 2)) hx hcb dX4_settingAtToken_40 (by decide) ?_
        exact hret (nI 2) z _ _ _ _ dX4_settingAtToken_41 rfl hR hS (⟨by unfold stA; rw [if_neg hw0_, if_neg hw1_, if_pos hw2_]; first | done | rfl, rfl⟩)
    · skip
      have hw1_ : isW z "reserve" := Classical.byContradiction (fun h_ => c_10 (if_neg h_))
      refine lv_iconst (v := (nI 1)) hx hcb dX4_settingAtToken_26 (by decide) ?_
      exact hret (nI 1) z _ _ _ _ dX4_settingAtToken_27 rfl hR hS (⟨by unfold stA; rw [if_neg hw0_, if_pos hw1_]; first | done | rfl, rfl⟩)
  · skip
    have hw0_ : isW z "cash" := Classical.byContradiction (fun h_ => c_5 (if_neg h_))
    refine lv_iconst (v := (nI 0)) hx hcb dX4_settingAtToken_12 (by decide) ?_
    exact hret (nI 0) z _ _ _ _ dX4_settingAtToken_13 rfl hR hS (⟨by unfold stA; rw [if_pos hw0_]; first | done | rfl, rfl⟩)
def rm_X4_readSet : Room := { frames := 6, cells := 0, slots := 0, locals := 127 }
set_option maxRecDepth 100000 in
set_option maxHeartbeats 4000000 in
theorem c_X4_readSet (l : Launch) (G : xGl) (w : xWd) (K : Nat) (hw : isC K w) (z : xSt) (sz : Nat)  (hL : lOk z) : xMi l yX4_readSet cX4_readSet 3 (some FieldType.int) rm_X4_readSet G w z sz [.ref (w.2.2 16)] (fun r z1 => r = (rdZ1 (nx z)).1 ∧ z1 = (rdZ1 (nx z)).2) := by
  refine x_mi (by decide) (Nat.le_of_ble_eq_true rfl) ?_
  intro p e s mt args below meth c ls Q hsz X hR hS hl hret
  obtain ⟨hx, hcb, hml, hown, hts, hlk, hK, hZ⟩ := X
  have hl : lv_has ls 3 [(0, .ref (w.2.2 16))] := hl
  have hL1_ := hL.nx
  refine lv_aload_n hx hcb dX4_readSet_0 rfl (lv_at hl 0 rfl) ?_
  refine x_getR hx hcb hts hown hK xc4 hR (hw.lo (by decide)) (hw.s0 (by decide) rfl) 0 (by decide) rfl q_359 dX4_readSet_1 ?_
  refine x_cv0 rfl rfl (x_runV hx hcb hml hown hts (c_X8_next l G w K hw z _ hL.1.pre) mv_X8_next q_503 hK hZ hR hS (hw.lo (by decide)) xc8 (hw.s0 (by decide) rfl) rfl hl.1 rfl (Nat.le_of_ble_eq_true rfl) dX4_readSet_4 ⟨by decide, by decide⟩ ⟨by decide, by decide⟩) hS (fun z_2 H locs hp_3 hR hS => ?_)
  rw [hp_3] at hR
  refine lv_aload_n hx hcb dX4_readSet_7 rfl (lv_at hl 0 rfl) ?_
  refine x_ci0 rfl rfl (x_runV hx hcb hml hown hts (c_X4_settingAtToken l G w K hw (nx z) _ hL1_.1) mv_X4_settingAtToken q_638 hK hZ hR hS (hw.lo (by decide)) xc4 (hw.s0 (by decide) rfl) rfl hl.1 rfl (Nat.le_of_ble_eq_true rfl) dX4_readSet_8 ⟨by decide, by decide⟩ ⟨by decide, by decide⟩) hS (fun r_4 z_5 H locs hp_6 hR hS => ?_)
  rw [hp_6.2] at hR; rw [hp_6.1]
  refine lv_istore_n (lv' := [(1, .int (stA (nx z))), (0, .ref (w.2.2 16))]) hx hcb dX4_readSet_11 rfl hl (by decide) rfl (fun ls hl => ?_)
  refine lv_iload_n hx hcb dX4_readSet_12 rfl (lv_at hl 0 rfl) ?_
  refine lv_if_ge (tgt := 19) hx hcb dX4_readSet_13 (by decide) (fun c_7 => ?_) (fun c_7 => ?_)
  · skip
    have hk0_ : ¬ stA (nx z) < 0 := Int32.not_lt.mpr c_7
    obtain ⟨hkk_, hk5_⟩ := stA_k hk0_
    obtain ⟨k_, ek_⟩ : ∃ q_, q_ = (stA (nx z)).toNatClampNeg := ⟨_, rfl⟩
    rw [← ek_] at hkk_ hk5_
    rw [hkk_] at hl
    refine lv_aload_n hx hcb dX4_readSet_19 rfl (lv_at hl 1 rfl) ?_
    refine x_getR hx hcb hts hown hK xc4 hR (hw.lo (by decide)) (hw.s0 (by decide) rfl) 4 (by decide) rfl q_363 dX4_readSet_20 ?_
    refine lv_iload_n hx hcb dX4_readSet_23 rfl (lv_at hl 0 rfl) ?_
    refine x_zald hx hcb hK hR (hw.lo (by decide)) (hw.s0 (by decide) rfl) (k := k_) (by omega) (by decide) dX4_readSet_24 ?_
    refine lv_if_eq (tgt := 31) hx hcb dX4_readSet_25 (by decide) (fun c_8 => ?_) (fun c_8 => ?_)
    · skip
      have hg_ : (nx z).1 18 k_ = 0 := c_8
      have hL2_ : lOk (u1 (nx z) 18 k_ 1) := hL1_.of (u1_ne _ (by omega)) (u1_ne _ (by simp only [oB]; omega))
      have hL3_ := hL2_.nx
      refine lv_aload_n hx hcb dX4_readSet_31 rfl (lv_at hl 1 rfl) ?_
      refine x_getR hx hcb hts hown hK xc4 hR (hw.lo (by decide)) (hw.s0 (by decide) rfl) 4 (by decide) rfl q_363 dX4_readSet_32 ?_
      refine lv_iload_n hx hcb dX4_readSet_35 rfl (lv_at hl 0 rfl) ?_
      refine lv_iconst (v := (nI 1)) hx hcb dX4_readSet_36 (by decide) ?_
      refine x_zast hx hcb hK hR hS (hw.lo (by decide)) (hw.s0 (by decide) rfl) (k := k_) (v := 1) (by omega) (by decide) (by decide) dX4_readSet_37 (fun H locs hR hS => ?_)
      refine lv_aload_n hx hcb dX4_readSet_38 rfl (lv_at hl 1 rfl) ?_
      refine x_getR hx hcb hts hown hK xc4 hR (hw.lo (by decide)) (hw.s0 (by decide) rfl) 0 (by decide) rfl q_359 dX4_readSet_39 ?_
      refine x_cv0 rfl rfl (x_runV hx hcb hml hown hts (c_X8_next l G w K hw (u1 (nx z) 18 k_ 1) _ hL2_.1.pre) mv_X8_next q_503 hK hZ hR hS (hw.lo (by decide)) xc8 (hw.s0 (by decide) rfl) rfl hl.1 rfl (Nat.le_of_ble_eq_true rfl) dX4_readSet_42 ⟨by decide, by decide⟩ ⟨by decide, by decide⟩) hS (fun z_10 H locs hp_11 hR hS => ?_)
      rw [hp_11] at hR
      refine lv_aload_n hx hcb dX4_readSet_45 rfl (lv_at hl 1 rfl) ?_
      obtain ⟨tLea_, hzLea_, htLea_⟩ := hZ.2.1.2.1
      refine x_getsN hx hcb hzLea_ hS hown (hZ.1.1 _ (List.mem_of_getElem? (i := 10) rfl)) dX4_readSet_46 ?_
      refine lv_iload_n hx hcb dX4_readSet_49 rfl (lv_at hl 0 rfl) ?_
      refine x_ti hx hcb htLea_ hS (k := k_) (by omega) (by decide) dX4_readSet_50 ?_
      obtain ⟨tGre_, hzGre_, htGre_⟩ := hZ.2.1.2.2
      refine x_getsN hx hcb hzGre_ hS hown (hZ.1.1 _ (List.mem_of_getElem? (i := 11) rfl)) dX4_readSet_51 ?_
      refine lv_iload_n hx hcb dX4_readSet_54 rfl (lv_at hl 0 rfl) ?_
      refine x_ti hx hcb htGre_ hS (k := k_) (by omega) (by decide) dX4_readSet_55 ?_
      refine x_ci0 rfl rfl (x_runV hx hcb hml hown hts (c_X4_checkInteger l G w K hw (nx (u1 (nx z) 18 k_ 1)) _ (xLea k_) (xGre k_) hL3_.1) mv_X4_checkInteger q_564 hK hZ hR hS (hw.lo (by decide)) xc4 (hw.s0 (by decide) rfl) rfl hl.1 rfl (Nat.le_of_ble_eq_true rfl) dX4_readSet_56 ⟨by decide, by decide⟩ ⟨by decide, by decide⟩) hS (fun r_12 z_13 H locs hp_14 hR hS => ?_)
      rw [hp_14.2] at hR; rw [hp_14.1]
      refine lv_istore_n (lv' := [(2, .int (cI (nx (u1 (nx z) 18 k_ 1)) (xLea k_) (xGre k_))), (1, .int (nI k_)), (0, .ref (w.2.2 16))]) hx hcb dX4_readSet_59 rfl hl (by decide) rfl (fun ls hl => ?_)
      refine lv_iload_n hx hcb dX4_readSet_60 rfl (lv_at hl 0 rfl) ?_
      refine lv_if_eq (tgt := 66) hx hcb dX4_readSet_61 (by decide) (fun c_15 => ?_) (fun c_15 => ?_)
      · skip
        have hc_ : cI (nx (u1 (nx z) 18 k_ 1)) (xLea k_) (xGre k_) = 0 := c_15
        refine lv_aload_n hx hcb dX4_readSet_66 rfl (lv_at hl 2 rfl) ?_
        refine x_getR hx hcb hts hown hK xc4 hR (hw.lo (by decide)) (hw.s0 (by decide) rfl) 2 (by decide) rfl q_361 dX4_readSet_67 ?_
        refine x_getR hx hcb hts hown hK xc0 hR (hoB hw (by omega)) (hsB hw) 2 (by decide) rfl q_266 dX4_readSet_70 ?_
        refine lv_iload_n hx hcb dX4_readSet_73 rfl (lv_at hl 1 rfl) ?_
        refine lv_aload_n hx hcb dX4_readSet_74 rfl (lv_at hl 2 rfl) ?_
        refine x_getR hx hcb hts hown hK xc4 hR (hw.lo (by decide)) (hw.s0 (by decide) rfl) 0 (by decide) rfl q_359 dX4_readSet_75 ?_
        refine x_ci0 rfl rfl (x_runV hx hcb hml hown hts (c_X8_integer l G w K hw (nx (u1 (nx z) 18 k_ 1)) _ hL3_.1) mv_X8_integer q_568 hK hZ hR hS (hw.lo (by decide)) xc8 (hw.s0 (by decide) rfl) rfl hl.1 rfl (Nat.le_of_ble_eq_true rfl) dX4_readSet_78 ⟨by decide, by decide⟩ ⟨by decide, by decide⟩) hS (fun r_16 z_17 H locs hp_18 hR hS => ?_)
        rw [hp_18.2] at hR; rw [hp_18.1]
        refine x_iast hx hcb hK hR hS (hoSt hw (by omega)) (hsSt hw) (k := k_) (v := (intg (nx (u1 (nx z) 18 k_ 1)))) (by omega) (by decide) dX4_readSet_81 (fun H locs hR hS => ?_)
        refine lv_aload_n hx hcb dX4_readSet_82 rfl (lv_at hl 2 rfl) ?_
        refine x_getR hx hcb hts hown hK xc4 hR (hw.lo (by decide)) (hw.s0 (by decide) rfl) 0 (by decide) rfl q_359 dX4_readSet_83 ?_
        refine x_cv0 rfl rfl (x_runV hx hcb hml hown hts (c_X8_next l G w K hw (u1 (nx (u1 (nx z) 18 k_ 1)) (oSt 1) k_ (intg (nx (u1 (nx z) 18 k_ 1)))) _ ((hL3_.1.of (u1_ne _ (by simp only [oSt]; omega))).pre)) mv_X8_next q_503 hK hZ hR hS (hw.lo (by decide)) xc8 (hw.s0 (by decide) rfl) rfl hl.1 rfl (Nat.le_of_ble_eq_true rfl) dX4_readSet_86 ⟨by decide, by decide⟩ ⟨by decide, by decide⟩) hS (fun z_20 H locs hp_21 hR hS => ?_)
        rw [hp_21] at hR
        refine lv_iconst (v := (nI 0)) hx hcb dX4_readSet_89 (by decide) ?_
        exact hret (nI 0) (nx (u1 (nx (u1 (nx z) 18 k_ 1)) (oSt 1) k_ (intg (nx (u1 (nx z) 18 k_ 1))))) _ _ _ _ dX4_readSet_90 rfl hR hS (pr2 (by unfold rdZ1; rw [if_neg hk0_, ← ek_, if_pos hg_]; unfold rdZ2; rw [if_pos hc_]; first | done | rfl))
      · skip
        have hc_ : ¬ cI (nx (u1 (nx z) 18 k_ 1)) (xLea k_) (xGre k_) = 0 := c_15
        refine lv_iload_n hx hcb dX4_readSet_64 rfl (lv_at hl 0 rfl) ?_
        exact hret (cI (nx (u1 (nx z) 18 k_ 1)) (xLea k_) (xGre k_)) (nx (u1 (nx z) 18 k_ 1)) _ _ _ _ dX4_readSet_65 rfl hR hS (pr2 (by unfold rdZ1; rw [if_neg hk0_, ← ek_, if_pos hg_]; unfold rdZ2; rw [if_neg hc_]))
    · skip
      have hg_ : ¬ (nx z).1 18 k_ = 0 := c_8
      refine lv_bipush (v := (-14)) hx hcb dX4_readSet_28 (by decide) ?_
      exact hret (-14) (nx z) _ _ _ _ dX4_readSet_30 rfl hR hS (pr2 (by unfold rdZ1; rw [if_neg hk0_, ← ek_, if_neg hg_]; first | done | rfl))
  · skip
    have hk0_ := Int32.not_le.mp c_7
    refine lv_bipush (v := (-11)) hx hcb dX4_readSet_16 (by decide) ?_
    exact hret (-11) (nx z) _ _ _ _ dX4_readSet_18 rfl hR hS (pr2 (by unfold rdZ1; rw [if_pos hk0_]; first | done | rfl))
def rm_X4_readStatement : Room := { frames := 8, cells := 0, slots := 0, locals := 171 }
set_option maxRecDepth 100000 in
set_option maxHeartbeats 4000000 in
theorem c_X4_readStatement (l : Launch) (G : xGl) (w : xWd) (K : Nat) (hw : isC K w) (z : xSt) (sz : Nat)  (hL : lOk z) : xMi l yX4_readStatement cX4_readStatement 1 (some FieldType.int) rm_X4_readStatement G w z sz [.ref (w.2.2 16)] (fun r z1 => r = (rdS z).1 ∧ z1 = (rdS z).2) := by
  refine x_mi (by decide) (Nat.le_of_ble_eq_true rfl) ?_
  intro p e s mt args below meth c ls Q hsz X hR hS hl hret
  obtain ⟨hx, hcb, hml, hown, hts, hlk, hK, hZ⟩ := X
  have hl : lv_has ls 1 [(0, .ref (w.2.2 16))] := hl
  have hT := hL.1
  refine lv_aload_n hx hcb dX4_readStatement_0 rfl (lv_at hl 0 rfl) ?_
  refine x_getR hx hcb hts hown hK xc4 hR (hw.lo (by decide)) (hw.s0 (by decide) rfl) 0 (by decide) rfl q_359 dX4_readStatement_1 ?_
  obtain ⟨aq_1, hvq_1, hsq_1⟩ := xS_of hZ (q := (RX4, 53, "member")) (List.mem_of_getElem? (i := 0) rfl)
  refine va_ldcS hx hcb hown hvq_1 dX4_readStatement_4 ?_
  refine x_ci0 rfl rfl (x_runVE isS_mv hsq_1 hx hcb hml hown hts (c_X8_isWord l G w K hw z _ "member" aq_1 (by assumption) (tx_of (by decide) (by decide))) mv_X8_isWord q_447 hK hZ hR hS (hw.lo (by decide)) xc8 (hw.s0 (by decide) rfl) rfl hl.1 rfl (Nat.le_of_ble_eq_true rfl) dX4_readStatement_6 ⟨by decide, by decide⟩ ⟨by decide, by decide⟩) hS (fun r_2 z_3 H locs hp_4 hR hS => ?_)
  rw [hp_4.2] at hR; rw [hp_4.1]
  refine lv_if_eq (tgt := 17) hx hcb dX4_readStatement_9 (by decide) (fun c_5 => ?_) (fun c_5 => ?_)
  · skip
    have hw0_ : ¬ isW z "member" := fun h_ => absurd c_5 (by rw [if_pos h_]; decide)
    refine lv_aload_n hx hcb dX4_readStatement_17 rfl (lv_at hl 0 rfl) ?_
    refine x_getR hx hcb hts hown hK xc4 hR (hw.lo (by decide)) (hw.s0 (by decide) rfl) 0 (by decide) rfl q_359 dX4_readStatement_18 ?_
    obtain ⟨aq_6, hvq_6, hsq_6⟩ := xS_of hZ (q := (RX4, 62, "section")) (List.mem_of_getElem? (i := 10) rfl)
    refine va_ldcS hx hcb hown hvq_6 dX4_readStatement_21 ?_
    refine x_ci0 rfl rfl (x_runVE isS_mv hsq_6 hx hcb hml hown hts (c_X8_isWord l G w K hw z _ "section" aq_6 (by assumption) (tx_of (by decide) (by decide))) mv_X8_isWord q_447 hK hZ hR hS (hw.lo (by decide)) xc8 (hw.s0 (by decide) rfl) rfl hl.1 rfl (Nat.le_of_ble_eq_true rfl) dX4_readStatement_23 ⟨by decide, by decide⟩ ⟨by decide, by decide⟩) hS (fun r_7 z_8 H locs hp_9 hR hS => ?_)
    rw [hp_9.2] at hR; rw [hp_9.1]
    refine lv_if_eq (tgt := 34) hx hcb dX4_readStatement_26 (by decide) (fun c_10 => ?_) (fun c_10 => ?_)
    · skip
      have hw1_ : ¬ isW z "section" := fun h_ => absurd c_10 (by rw [if_pos h_]; decide)
      refine lv_aload_n hx hcb dX4_readStatement_34 rfl (lv_at hl 0 rfl) ?_
      refine x_getR hx hcb hts hown hK xc4 hR (hw.lo (by decide)) (hw.s0 (by decide) rfl) 0 (by decide) rfl q_359 dX4_readStatement_35 ?_
      obtain ⟨aq_11, hvq_11, hsq_11⟩ := xS_of hZ (q := (RX4, 67, "trade")) (List.mem_of_getElem? (i := 11) rfl)
      refine va_ldcS hx hcb hown hvq_11 dX4_readStatement_38 ?_
      refine x_ci0 rfl rfl (x_runVE isS_mv hsq_11 hx hcb hml hown hts (c_X8_isWord l G w K hw z _ "trade" aq_11 (by assumption) (tx_of (by decide) (by decide))) mv_X8_isWord q_447 hK hZ hR hS (hw.lo (by decide)) xc8 (hw.s0 (by decide) rfl) rfl hl.1 rfl (Nat.le_of_ble_eq_true rfl) dX4_readStatement_40 ⟨by decide, by decide⟩ ⟨by decide, by decide⟩) hS (fun r_12 z_13 H locs hp_14 hR hS => ?_)
      rw [hp_14.2] at hR; rw [hp_14.1]
      refine lv_if_eq (tgt := 51) hx hcb dX4_readStatement_43 (by decide) (fun c_15 => ?_) (fun c_15 => ?_)
      · skip
        have hw2_ : ¬ isW z "trade" := fun h_ => absurd c_15 (by rw [if_pos h_]; decide)
        refine lv_aload_n hx hcb dX4_readStatement_51 rfl (lv_at hl 0 rfl) ?_
        refine x_getR hx hcb hts hown hK xc4 hR (hw.lo (by decide)) (hw.s0 (by decide) rfl) 0 (by decide) rfl q_359 dX4_readStatement_52 ?_
        obtain ⟨aq_16, hvq_16, hsq_16⟩ := xS_of hZ (q := (RX4, 72, "close")) (List.mem_of_getElem? (i := 12) rfl)
        refine va_ldcS hx hcb hown hvq_16 dX4_readStatement_55 ?_
        refine x_ci0 rfl rfl (x_runVE isS_mv hsq_16 hx hcb hml hown hts (c_X8_isWord l G w K hw z _ "close" aq_16 (by assumption) (tx_of (by decide) (by decide))) mv_X8_isWord q_447 hK hZ hR hS (hw.lo (by decide)) xc8 (hw.s0 (by decide) rfl) rfl hl.1 rfl (Nat.le_of_ble_eq_true rfl) dX4_readStatement_57 ⟨by decide, by decide⟩ ⟨by decide, by decide⟩) hS (fun r_17 z_18 H locs hp_19 hR hS => ?_)
        rw [hp_19.2] at hR; rw [hp_19.1]
        refine lv_if_eq (tgt := 68) hx hcb dX4_readStatement_60 (by decide) (fun c_20 => ?_) (fun c_20 => ?_)
        · skip
          have hw3_ : ¬ isW z "close" := fun h_ => absurd c_20 (by rw [if_pos h_]; decide)
          refine lv_aload_n hx hcb dX4_readStatement_68 rfl (lv_at hl 0 rfl) ?_
          refine x_getR hx hcb hts hown hK xc4 hR (hw.lo (by decide)) (hw.s0 (by decide) rfl) 0 (by decide) rfl q_359 dX4_readStatement_69 ?_
          obtain ⟨aq_21, hvq_21, hsq_21⟩ := xS_of hZ (q := (RX4, 77, "set")) (List.mem_of_getElem? (i := 13) rfl)
          refine va_ldcS hx hcb hown hvq_21 dX4_readStatement_72 ?_
          refine x_ci0 rfl rfl (x_runVE isS_mv hsq_21 hx hcb hml hown hts (c_X8_isWord l G w K hw z _ "set" aq_21 (by assumption) (tx_of (by decide) (by decide))) mv_X8_isWord q_447 hK hZ hR hS (hw.lo (by decide)) xc8 (hw.s0 (by decide) rfl) rfl hl.1 rfl (Nat.le_of_ble_eq_true rfl) dX4_readStatement_74 ⟨by decide, by decide⟩ ⟨by decide, by decide⟩) hS (fun r_22 z_23 H locs hp_24 hR hS => ?_)
          rw [hp_24.2] at hR; rw [hp_24.1]
          refine lv_if_eq (tgt := 85) hx hcb dX4_readStatement_77 (by decide) (fun c_25 => ?_) (fun c_25 => ?_)
          · skip
            have hw4_ : ¬ isW z "set" := fun h_ => absurd c_25 (by rw [if_pos h_]; decide)
            refine lv_bipush (v := (-11)) hx hcb dX4_readStatement_85 (by decide) ?_
            exact hret (-11) z _ _ _ _ dX4_readStatement_87 rfl hR hS (pr2 (by unfold rdS; rw [if_neg hw0_, if_neg hw1_, if_neg hw2_, if_neg hw3_, if_neg hw4_]))
          · skip
            have hw4_ : isW z "set" := Classical.byContradiction (fun h_ => c_25 (if_neg h_))
            refine lv_aload_n hx hcb dX4_readStatement_80 rfl (lv_at hl 0 rfl) ?_
            refine x_ci0 rfl rfl (x_runV hx hcb hml hown hts (c_X4_readSet l G w K hw z _ (by assumption)) mv_X4_readSet q_634 hK hZ hR hS (hw.lo (by decide)) xc4 (hw.s0 (by decide) rfl) rfl hl.1 rfl (Nat.le_of_ble_eq_true rfl) dX4_readStatement_81 ⟨by decide, by decide⟩ ⟨by decide, by decide⟩) hS (fun r_26 z_27 H locs hp_28 hR hS => ?_)
            rw [hp_28.2] at hR; rw [hp_28.1]
            exact hret ((rdZ1 (nx z)).1) ((rdZ1 (nx z)).2) _ _ _ _ dX4_readStatement_84 rfl hR hS (pr3 (by unfold rdS; rw [if_neg hw0_, if_neg hw1_, if_neg hw2_, if_neg hw3_, if_pos hw4_]))
        · skip
          have hw3_ : isW z "close" := Classical.byContradiction (fun h_ => c_20 (if_neg h_))
          refine lv_aload_n hx hcb dX4_readStatement_63 rfl (lv_at hl 0 rfl) ?_
          refine x_ci0 rfl rfl (x_runV hx hcb hml hown hts (c_X4_readClose l G w K hw z _ (by assumption)) mv_X4_readClose q_575 hK hZ hR hS (hw.lo (by decide)) xc4 (hw.s0 (by decide) rfl) rfl hl.1 rfl (Nat.le_of_ble_eq_true rfl) dX4_readStatement_64 ⟨by decide, by decide⟩ ⟨by decide, by decide⟩) hS (fun r_29 z_30 H locs hp_31 hR hS => ?_)
          rw [hp_31.2] at hR; rw [hp_31.1]
          exact hret ((rdC z).1) ((rdC z).2) _ _ _ _ dX4_readStatement_67 rfl hR hS (pr3 (by unfold rdS; rw [if_neg hw0_, if_neg hw1_, if_neg hw2_, if_pos hw3_]))
      · skip
        have hw2_ : isW z "trade" := Classical.byContradiction (fun h_ => c_15 (if_neg h_))
        refine lv_aload_n hx hcb dX4_readStatement_46 rfl (lv_at hl 0 rfl) ?_
        refine x_ci0 rfl rfl (x_runV hx hcb hml hown hts (c_X4_readTrade l G w K hw z _ (by assumption)) mv_X4_readTrade q_559 hK hZ hR hS (hw.lo (by decide)) xc4 (hw.s0 (by decide) rfl) rfl hl.1 rfl (Nat.le_of_ble_eq_true rfl) dX4_readStatement_47 ⟨by decide, by decide⟩ ⟨by decide, by decide⟩) hS (fun r_32 z_33 H locs hp_34 hR hS => ?_)
        rw [hp_34.2] at hR; rw [hp_34.1]
        exact hret ((rdT1 (nx z)).1) ((rdT1 (nx z)).2) _ _ _ _ dX4_readStatement_50 rfl hR hS (pr3 (by unfold rdS; rw [if_neg hw0_, if_neg hw1_, if_pos hw2_]))
    · skip
      have hw1_ : isW z "section" := Classical.byContradiction (fun h_ => c_10 (if_neg h_))
      refine lv_aload_n hx hcb dX4_readStatement_29 rfl (lv_at hl 0 rfl) ?_
      refine x_ci0 rfl rfl (x_runV hx hcb hml hown hts (c_X4_readSection l G w K hw z _ (by assumption)) mv_X4_readSection q_546 hK hZ hR hS (hw.lo (by decide)) xc4 (hw.s0 (by decide) rfl) rfl hl.1 rfl (Nat.le_of_ble_eq_true rfl) dX4_readStatement_30 ⟨by decide, by decide⟩ ⟨by decide, by decide⟩) hS (fun r_35 z_36 H locs hp_37 hR hS => ?_)
      rw [hp_37.2] at hR; rw [hp_37.1]
      exact hret ((rdP z).1) ((rdP z).2) _ _ _ _ dX4_readStatement_33 rfl hR hS (pr3 (by unfold rdS; rw [if_neg hw0_, if_pos hw1_]))
  · skip
    have hw0_ : isW z "member" := Classical.byContradiction (fun h_ => c_5 (if_neg h_))
    refine lv_aload_n hx hcb dX4_readStatement_12 rfl (lv_at hl 0 rfl) ?_
    refine x_ci0 rfl rfl (x_runV hx hcb hml hown hts (c_X4_readMember l G w K hw z _ (by assumption)) mv_X4_readMember q_499 hK hZ hR hS (hw.lo (by decide)) xc4 (hw.s0 (by decide) rfl) rfl hl.1 rfl (Nat.le_of_ble_eq_true rfl) dX4_readStatement_13 ⟨by decide, by decide⟩ ⟨by decide, by decide⟩) hS (fun r_38 z_39 H locs hp_40 hR hS => ?_)
    rw [hp_40.2] at hR; rw [hp_40.1]
    exact hret ((rdM z).1) ((rdM z).2) _ _ _ _ dX4_readStatement_16 rfl hR hS (pr3 (by unfold rdS; rw [if_pos hw0_]))
def rm_X4_readText : Room := { frames := 9, cells := 0, slots := 0, locals := 191 }
set_option maxRecDepth 100000 in
set_option maxHeartbeats 4000000 in
theorem c_X4_readText (l : Launch) (G : xGl) (w : xWd) (K : Nat) (hw : isC K w) (z : xSt) (sz : Nat) (n : Nat) (q : Nat) (hq : z.1 14 1 = nI q) (hq9 : q ≤ 900) (hn : n < 2147483648) : xMi l yX4_readText cX4_readText 4 (some FieldType.int) rm_X4_readText G w z sz [.ref (w.2.2 16), .int (nI n)] (fun r z1 => r = (rdX z n q).1 ∧ z1 = (rdX z n q).2) := by
  refine x_mi (by decide) (Nat.le_of_ble_eq_true rfl) ?_
  intro p e s mt args below meth c ls Q hsz X hR hS hl hret
  obtain ⟨hx, hcb, hml, hown, hts, hlk, hK, hZ⟩ := X
  have hl : lv_has ls 4 [(0, .ref (w.2.2 16)), (1, .int (nI n))] := hl
  refine lv_aload_n hx hcb dX4_readText_0 rfl (lv_at hl 0 rfl) ?_
  refine x_getR hx hcb hts hown hK xc4 hR (hw.lo (by decide)) (hw.s0 (by decide) rfl) 2 (by decide) rfl q_361 dX4_readText_1 ?_
  refine x_cv0 rfl rfl (x_runV hx hcb hml hown hts (c_X0_startAnew l G w K hw z _ 1 (by omega)) mv_X0_startAnew q_424 hK hZ hR hS (hoB hw (by omega)) xc0 (hsB hw) rfl hl.1 rfl (Nat.le_of_ble_eq_true rfl) dX4_readText_4 ⟨by decide, by decide⟩ ⟨by decide, by decide⟩) hS (fun z_2 H locs hp_3 hR hS => ?_)
  rw [hp_3] at hR
  rw [show ur (ur z (oB 1) (fun _ => 0)) (oSt 1) xIni = anew z 1 from rfl] at hR
  refine lv_iconst (v := (nI 0)) hx hcb dX4_readText_7 (by decide) ?_
  refine lv_istore_n (lv' := [(2, .int (nI 0)), (0, .ref (w.2.2 16)), (1, .int (nI n))]) hx hcb dX4_readText_8 rfl hl (by decide) rfl (fun ls hl => ?_)
  rw [fill_0 (anew z 1) 18 0] at hR
  suffices LP_9 : ∀ (nn : Nat) (i_ : Nat) (_ : 5 - i_ < nn) (hi_ : i_ ≤ 5) (H : Heap) (locs : List Loc) (ls : Array Slot), Rh G w (ur (anew z 1) 18 (fun j => if j < i_ then 0 else (anew z 1).1 18 j)) H → va_S (xA w s.heap.size) s.heap H locs → lv_has ls 4 [(0, .ref (w.2.2 16)), (1, .int (nI n)), (2, .int (nI i_))] → W p l e rm_X4_readText s mt args below meth c H locs 0 0 Q (F0 mt 9 ls []) from LP_9 ((_) + 1) 0 (Nat.lt_succ_self _) (by omega) _ _ _ hR hS (lv_sub hl [1, 2, 0] rfl)
  intro nn
  induction nn with
  | zero => intro i_ hm_ ; exact absurd hm_ (Nat.not_lt_zero _)
  | succ nn ih_9 =>
    intro i_ hm_9 hi_ H locs ls hR hS hl
    refine lv_iload_n hx hcb dX4_readText_9 rfl (lv_at hl 2 rfl) ?_
    refine lv_iconst (v := (nI 5)) hx hcb dX4_readText_10 (by decide) ?_
    refine lv_icmp_ge (tgt := 27) hx hcb dX4_readText_11 (by decide) (fun c_4 => ?_) (fun c_4 => ?_)
    · skip
      have c_4 : 5 ≤ i_ := (nI_leI (by omega) (by omega)).mp c_4
      obtain rfl : 5 = i_ := by omega
      have hR := hR.row (hw.s0 (by decide) rfl) (g := fun _ => 0) (fun k hk => if_pos hk)
      refine lv_aload_n hx hcb dX4_readText_27 rfl (lv_at hl 0 rfl) ?_
      refine x_getR hx hcb hts hown hK xc4 hR (hw.lo (by decide)) (hw.s0 (by decide) rfl) 0 (by decide) rfl q_359 dX4_readText_28 ?_
      refine lv_iload_n hx hcb dX4_readText_31 rfl (lv_at hl 1 rfl) ?_
      refine x_cv0 rfl rfl (x_runV hx hcb hml hown hts (c_X8_open l G w K hw (ur (anew z 1) 18 (fun _ => 0)) _ n q (by unfold anew; rw [ur_ne _ _ (by decide), ur_ne _ _ (by decide), ur_ne _ _ (by decide)]; exact hq) hq9 hn) mv_X8_open q_428 hK hZ hR hS (hw.lo (by decide)) xc8 (hw.s0 (by decide) rfl) rfl hl.1 rfl (Nat.le_of_ble_eq_true rfl) dX4_readText_32 ⟨by decide, by decide⟩ ⟨by decide, by decide⟩) hS (fun z_6 H locs hp_7 hR hS => ?_)
      rw [hp_7] at hR
      rw [show opn (ur (anew z 1) 18 (fun _ => 0)) n q = rdO z n q from rfl] at hR
      refine lv_iconst (v := (nI 0)) hx hcb dX4_readText_35 (by decide) ?_
      refine lv_istore_n (lv' := [(2, .int (nI 0)), (0, .ref (w.2.2 16)), (1, .int (nI n))]) hx hcb dX4_readText_36 rfl hl (by decide) rfl (fun ls hl => ?_)
      suffices LP_37 : ∀ (nn : Nat) (i_ : Nat) (y_ : xSt) (_ : 900 - i_ < nn) (hLy_ : lOk y_) (hi_ : i_ ≤ 900) (hf_ : rdX z n q = rdL (900 - i_) i_ y_) (H : Heap) (locs : List Loc) (ls : Array Slot), Rh G w y_ H → va_S (xA w s.heap.size) s.heap H locs → lv_has ls 4 [(0, .ref (w.2.2 16)), (2, .int (nI i_))] → W p l e rm_X4_readText s mt args below meth c H locs 0 0 Q (F0 mt 37 ls []) from LP_37 ((_) + 1) 0 (rdO z n q) (Nat.lt_succ_self _) (lOk_rdO hq9) (Nat.zero_le _) rfl _ _ _ hR hS (lv_sub hl [1, 0] rfl)
      intro nn
      induction nn with
      | zero => intro i_ y_ hm_ ; exact absurd hm_ (Nat.not_lt_zero _)
      | succ nn ih_37 =>
        intro i_ y_ hm_37 hLy_ hi_ hf_ H locs ls hR hS hl
        have hky_ := tN_kind hLy_.1
        refine lv_aload_n hx hcb dX4_readText_37 rfl (lv_at hl 0 rfl) ?_
        refine x_getR hx hcb hts hown hK xc4 hR (hw.lo (by decide)) (hw.s0 (by decide) rfl) 0 (by decide) rfl q_359 dX4_readText_38 ?_
        refine x_getN hx hcb hts hown hK xc8 hR (hw.lo (by decide)) (hw.s0 (by decide) rfl) 3 (by decide) rfl (hZ.1.1 _ (List.mem_of_getElem? (i := 3) rfl)) dX4_readText_41 ?_
        refine x_top (show (y_.1 14 3) = (nI (tN y_ 3)) from hLy_.1.2.1) ?_
        refine lv_if_eq (tgt := 92) hx hcb dX4_readText_44 (by decide) (fun c_8 => ?_) (fun c_8 => ?_)
        · skip
          have c_8 : (tN y_ 3) = 0 := (nI_eq (a := (tN y_ 3)) (b := 0) (by omega) (by omega)).mp c_8
          have he_ : rdX z n q = (nI i_, y_) := by rw [hf_]; exact rdL_0 c_8
          refine lv_iload_n hx hcb dX4_readText_92 rfl (lv_at hl 1 rfl) ?_
          exact hret (nI i_) y_ _ _ _ _ dX4_readText_93 rfl hR hS (pr2 he_)
        · skip
          have c_8 : ¬ (tN y_ 3) = 0 := fun h_ => c_8 ((nI_eq (a := (tN y_ 3)) (b := 0) (by omega) (by omega)).mpr h_)
          have hk_ : ¬ tN y_ 3 = 0 := c_8
          refine lv_iload_n hx hcb dX4_readText_47 rfl (lv_at hl 1 rfl) ?_
          refine lv_sipush (v := (nI 900)) hx hcb dX4_readText_48 (by decide) ?_
          refine lv_icmp_ge (tgt := 92) hx hcb dX4_readText_51 (by decide) (fun c_9 => ?_) (fun c_9 => ?_)
          · skip
            have c_9 : 900 ≤ i_ := (nI_leI (by omega) (by omega)).mp c_9
            have he_ : rdX z n q = (nI i_, y_) := by rw [hf_, show 900 - i_ = 0 by omega]; rfl
            refine lv_iload_n hx hcb dX4_readText_92 rfl (lv_at hl 1 rfl) ?_
            exact hret (nI i_) y_ _ _ _ _ dX4_readText_93 rfl hR hS (pr2 he_)
          · skip
            have c_9 : ¬ 900 ≤ i_ := fun h_ => c_9 ((nI_leI (by omega) (by omega)).mpr h_)
            refine lv_aload_n hx hcb dX4_readText_54 rfl (lv_at hl 0 rfl) ?_
            refine x_ci0 rfl rfl (x_runV hx hcb hml hown hts (c_X4_readStatement l G w K hw y_ _ hLy_) mv_X4_readStatement q_442 hK hZ hR hS (hw.lo (by decide)) xc4 (hw.s0 (by decide) rfl) rfl hl.1 rfl (Nat.le_of_ble_eq_true rfl) dX4_readText_55 ⟨by decide, by decide⟩ ⟨by decide, by decide⟩) hS (fun r_10 z_11 H locs hp_12 hR hS => ?_)
            rw [hp_12.2] at hR; rw [hp_12.1]
            refine lv_istore_n (lv' := [(3, .int ((rdS y_).1)), (0, .ref (w.2.2 16)), (2, .int (nI i_))]) hx hcb dX4_readText_58 rfl hl (by decide) rfl (fun ls hl => ?_)
            refine lv_iload_n hx hcb dX4_readText_59 rfl (lv_at hl 0 rfl) ?_
            refine lv_if_eq (tgt := 65) hx hcb dX4_readText_60 (by decide) (fun c_13 => ?_) (fun c_13 => ?_)
            · skip
              have hr_ : (rdS y_).1 = 0 := c_13
              have hkr_ := tN_kind (lOk_rdS hLy_).1
              refine lv_aload_n hx hcb dX4_readText_65 rfl (lv_at hl 1 rfl) ?_
              refine x_getR hx hcb hts hown hK xc4 hR (hw.lo (by decide)) (hw.s0 (by decide) rfl) 0 (by decide) rfl q_359 dX4_readText_66 ?_
              refine x_getN hx hcb hts hown hK xc8 hR (hw.lo (by decide)) (hw.s0 (by decide) rfl) 3 (by decide) rfl (hZ.1.1 _ (List.mem_of_getElem? (i := 3) rfl)) dX4_readText_69 ?_
              refine x_top (show (((rdS y_).2).1 14 3) = (nI (tN (rdS y_).2 3)) from (lOk_rdS hLy_).1.2.1) ?_
              refine lv_iconst (v := (nI 3)) hx hcb dX4_readText_72 (by decide) ?_
              refine lv_icmp_eq (tgt := 79) hx hcb dX4_readText_73 (by decide) (fun c_14 => ?_) (fun c_14 => ?_)
              · skip
                have c_14 : (tN (rdS y_).2 3) = 3 := (nI_eq (by omega) (by omega)).mp c_14
                have hs_ : tN (rdS y_).2 3 = 3 := c_14
                refine lv_aload_n hx hcb dX4_readText_79 rfl (lv_at hl 1 rfl) ?_
                refine x_getR hx hcb hts hown hK xc4 hR (hw.lo (by decide)) (hw.s0 (by decide) rfl) 0 (by decide) rfl q_359 dX4_readText_80 ?_
                refine x_cv0 rfl rfl (x_runV hx hcb hml hown hts (c_X8_next l G w K hw ((rdS y_).2) _ ((lOk_rdS hLy_).1.pre)) mv_X8_next q_503 hK hZ hR hS (hw.lo (by decide)) xc8 (hw.s0 (by decide) rfl) rfl hl.1 rfl (Nat.le_of_ble_eq_true rfl) dX4_readText_83 ⟨by decide, by decide⟩ ⟨by decide, by decide⟩) hS (fun z_16 H locs hp_17 hR hS => ?_)
                rw [hp_17] at hR
                refine lv_iinc (v := (nI (i_ + 1))) (lv' := [(2, .int (nI (i_ + 1))), (3, .int ((rdS y_).1)), (0, .ref (w.2.2 16))]) hx hcb dX4_readText_86 hl (k := 2) rfl (x_iinc1 _) (by decide) rfl (fun ls hl => ?_)
                refine lv_goto (tgt := 37) hx hcb dX4_readText_89 (by decide) ?_
                exact ih_37 (i_ + 1) (nx (rdS y_).2) (by omega) ((lOk_rdS hLy_).nx) (by omega) (by rw [hf_, rdL_s (k := 900 - (i_ + 1)) (by omega), if_neg hk_, if_pos hr_, if_pos hs_]) _ _ _ hR hS (lv_sub hl [2, 0] rfl)
              · skip
                have c_14 : ¬ (tN (rdS y_).2 3) = 3 := fun h_ => c_14 ((nI_eq (by omega) (by omega)).mpr h_)
                have he_ : rdX z n q = ((-11), (rdS y_).2) := by rw [hf_, rdL_s (k := 900 - (i_ + 1)) (by omega), if_neg hk_, if_pos hr_, if_neg c_14]
                refine lv_bipush (v := (-11)) hx hcb dX4_readText_76 (by decide) ?_
                exact hret (-11) ((rdS y_).2) _ _ _ _ dX4_readText_78 rfl hR hS (pr2 he_)
            · skip
              have he_ : rdX z n q = rdS y_ := by rw [hf_, rdL_s (k := 900 - (i_ + 1)) (by omega), if_neg hk_, if_neg c_13]
              refine lv_iload_n hx hcb dX4_readText_63 rfl (lv_at hl 0 rfl) ?_
              exact hret ((rdS y_).1) ((rdS y_).2) _ _ _ _ dX4_readText_64 rfl hR hS (pr3 he_)
    · skip
      have c_4 : ¬ 5 ≤ i_ := fun h_ => c_4 ((nI_leI (by omega) (by omega)).mpr h_)
      refine lv_aload_n hx hcb dX4_readText_14 rfl (lv_at hl 0 rfl) ?_
      refine x_getR hx hcb hts hown hK xc4 hR (hw.lo (by decide)) (hw.s0 (by decide) rfl) 4 (by decide) rfl q_363 dX4_readText_15 ?_
      refine lv_iload_n hx hcb dX4_readText_18 rfl (lv_at hl 2 rfl) ?_
      refine lv_iconst (v := (nI 0)) hx hcb dX4_readText_19 (by decide) ?_
      refine x_zast hx hcb hK hR hS (hw.lo (by decide)) (hw.s0 (by decide) rfl) (k := i_) (v := 0) (by omega) (by decide) (by decide) dX4_readText_20 (fun H locs hR hS => ?_)
      refine lv_iinc (v := (nI (i_ + 1))) (lv' := [(2, .int (nI (i_ + 1))), (0, .ref (w.2.2 16)), (1, .int (nI n))]) hx hcb dX4_readText_21 hl (k := 2) rfl (x_iinc1 _) (by decide) rfl (fun ls hl => ?_)
      refine lv_goto (tgt := 9) hx hcb dX4_readText_24 (by decide) ?_
      rw [show (u1 (ur (anew z 1) 18 (fun j => if j < i_ then 0 else (anew z 1).1 18 j)) 18 i_ 0) = (ur (anew z 1) 18 (fun j => if j < (i_ + 1) then 0 else (anew z 1).1 18 j)) from by rw [u1_ur, fill_s]] at hR
      exact ih_9 (i_ + 1) (by omega) (by omega) _ _ _ hR hS (lv_sub hl [1, 2, 0] rfl)
