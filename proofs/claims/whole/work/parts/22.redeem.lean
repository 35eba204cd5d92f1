def rm_X6_collect : Room := { frames := 1, cells := 0, slots := 0, locals := 22 }
set_option maxRecDepth 100000 in
set_option maxHeartbeats 4000000 in
theorem c_X6_collect (l : Launch) (G : xGl) (w : xWd) (K : Nat) (hw : isC K w) (z : xSt) (sz : Nat) (b : Nat) (hb : b < 2 + K) (mc : Nat) (hmc : z.1 (oB b) 3 = nI mc) (hmc8 : mc ≤ 8) : xMi l yX6_collect cX6_collect 5 (some FieldType.int) rm_X6_collect G w z sz [.ref (w.2.2 9), .ref (w.2.2 (oB b))] (fun r z1 => r = cSum z b (cts z b mc 25) ∧ z1 = cS z b (cts z b mc 25)) := by
  refine x_mi (by decide) (Nat.le_of_ble_eq_true rfl) ?_
  intro p e s mt args below meth c ls Q hsz X hR hS hl hret
  obtain ⟨hx, hcb, hml, hown, hts, hlk, hK, hZ⟩ := X
  have hl : lv_has ls 5 [(0, .ref (w.2.2 9)), (1, .ref (w.2.2 (oB b)))] := hl
  refine lv_iconst (v := (nI 0)) hx hcb dX6_collect_0 (by decide) ?_
  refine lv_istore_n (lv' := [(2, .int (nI 0)), (0, .ref (w.2.2 9)), (1, .ref (w.2.2 (oB b)))]) hx hcb dX6_collect_1 rfl hl (by decide) rfl (fun ls hl => ?_)
  refine lv_aload_n hx hcb dX6_collect_2 rfl (lv_at hl 1 rfl) ?_
  refine lv_iconst (v := (nI 0)) hx hcb dX6_collect_3 (by decide) ?_
  refine x_putI hx hcb hts hown hK xc6 hR hS (hw.lo (by decide)) (hw.s0 (by decide) rfl) 5 (by decide) rfl q_339 rfl (v := 0) rfl rfl dX6_collect_4 (fun H locs hR hS => ?_)
  refine lv_iconst (v := (nI 0)) hx hcb dX6_collect_7 (by decide) ?_
  refine lv_istore_n (lv' := [(3, .int (nI 0)), (2, .int (nI 0)), (0, .ref (w.2.2 9)), (1, .ref (w.2.2 (oB b)))]) hx hcb dX6_collect_8 rfl hl (by decide) rfl (fun ls hl => ?_)
  rw [cS_0 (z := z) (b := b)] at hR
  suffices LP_9 : ∀ (nn : Nat) (i_ : Nat) (_ : 25 - i_ < nn) (hi_ : i_ ≤ 25) (H : Heap) (locs : List Loc) (ls : Array Slot), Rh G w (cS z b (cts z b mc i_)) H → va_S (xA w s.heap.size) s.heap H locs → lv_has ls 5 [(0, .ref (w.2.2 9)), (1, .ref (w.2.2 (oB b))), (2, .int (cSum z b (cts z b mc i_))), (3, .int (nI i_))] → W p l e rm_X6_collect s mt args below meth c H locs 0 0 Q (F0 mt 9 ls []) from LP_9 ((_) + 1) 0 (Nat.lt_succ_self _) (by omega) _ _ _ hR hS (lv_sub hl [2, 3, 1, 0] rfl)
  intro nn
  induction nn with
  | zero => intro i_ hm_ ; exact absurd hm_ (Nat.not_lt_zero _)
  | succ nn ih_9 =>
    intro i_ hm_9 hi_ H locs ls hR hS hl
    refine lv_iload_n hx hcb dX6_collect_9 rfl (lv_at hl 3 rfl) ?_
    refine lv_bipush (v := (nI 25)) hx hcb dX6_collect_10 (by decide) ?_
    refine lv_icmp_ge (tgt := 138) hx hcb dX6_collect_12 (by decide) (fun c_1 => ?_) (fun c_1 => ?_)
    · skip
      have c_1 : 25 ≤ i_ := (nI_leI (by omega) (by omega)).mp c_1
      obtain rfl : 25 = i_ := by omega
      refine lv_iload_n hx hcb dX6_collect_138 rfl (lv_at hl 2 rfl) ?_
      exact hret (cSum z b (cts z b mc 25)) (cS z b (cts z b mc 25)) _ _ _ _ dX6_collect_139 rfl hR hS (⟨rfl, rfl⟩)
    · skip
      have c_1 : ¬ 25 ≤ i_ := fun h_ => c_1 ((nI_leI (by omega) (by omega)).mpr h_)
      refine lv_iconst (v := (nI 0)) hx hcb dX6_collect_15 (by decide) ?_
      refine lv_istore (lv' := [(4, .int (nI 0)), (0, .ref (w.2.2 9)), (1, .ref (w.2.2 (oB b))), (2, .int (cSum z b (cts z b mc i_))), (3, .int (nI i_))]) hx hcb dX6_collect_16 hl (by decide) rfl (fun ls hl => ?_)
      rw [show cts z b mc i_ = cts z b mc i_ ++ cpt z b i_ 0 from (List.append_nil _).symm] at hR hl
      suffices LP_18 : ∀ (nn : Nat) (j_ : Nat) (_ : mc - j_ < nn) (hj_ : j_ ≤ mc) (H : Heap) (locs : List Loc) (ls : Array Slot), Rh G w (cS z b (cts z b mc i_ ++ cpt z b i_ j_)) H → va_S (xA w s.heap.size) s.heap H locs → lv_has ls 5 [(0, .ref (w.2.2 9)), (1, .ref (w.2.2 (oB b))), (2, .int (cSum z b (cts z b mc i_ ++ cpt z b i_ j_))), (3, .int (nI i_)), (4, .int (nI j_))] → W p l e rm_X6_collect s mt args below meth c H locs 0 0 Q (F0 mt 18 ls []) from LP_18 ((_) + 1) 0 (Nat.lt_succ_self _) (by omega) _ _ _ hR hS (lv_sub hl [1, 2, 3, 4, 0] rfl)
      intro nn
      induction nn with
      | zero => intro j_ hm_ ; exact absurd hm_ (Nat.not_lt_zero _)
      | succ nn ih_18 =>
        intro j_ hm_18 hj_ H locs ls hR hS hl
        refine lv_iload hx hcb dX6_collect_18 (lv_at hl 4 rfl) ?_
        refine lv_aload_n hx hcb dX6_collect_20 rfl (lv_at hl 1 rfl) ?_
        refine x_getI hx hcb hts hown hK xc0 hR (hoB hw hb) (hsB hw) 3 (by decide) rfl q_272 dX6_collect_21 ?_
        refine x_top (show ((cS z b (cts z b mc i_ ++ cpt z b i_ j_)).1 (oB b) 3) = (nI mc) from by rw [cS_hi (by simp only [oB]; omega)]; exact hmc) ?_
        refine lv_icmp_ge (tgt := 132) hx hcb dX6_collect_24 (by decide) (fun c_2 => ?_) (fun c_2 => ?_)
        · skip
          have c_2 : mc ≤ j_ := (nI_leI (by omega) (by omega)).mp c_2
          obtain rfl : mc = j_ := by omega
          refine lv_iinc (v := (nI (i_ + 1))) (lv' := [(3, .int (nI (i_ + 1))), (0, .ref (w.2.2 9)), (1, .ref (w.2.2 (oB b))), (2, .int (cSum z b (cts z b mc i_ ++ cpt z b i_ mc))), (4, .int (nI mc))]) hx hcb dX6_collect_132 hl (k := 3) rfl (x_iinc1 _) (by decide) rfl (fun ls hl => ?_)
          refine lv_goto (tgt := 9) hx hcb dX6_collect_135 (by decide) ?_
          exact ih_9 (i_ + 1) (by omega) (by omega) _ _ _ hR hS (lv_sub hl [1, 2, 3, 0] rfl)
        · skip
          have c_2 : ¬ mc ≤ j_ := fun h_ => c_2 ((nI_leI (by omega) (by omega)).mpr h_)
          have hlen_ : (cts z b mc i_ ++ cpt z b i_ j_).length < 200 := by have h1_ := cts_len z b hmc8 i_; have h2_ := cpt_len z b i_ j_; rw [List.length_append]; omega
          refine lv_aload_n hx hcb dX6_collect_27 rfl (lv_at hl 0 rfl) ?_
          refine x_getI hx hcb hts hown hK xc6 hR (hw.lo (by decide)) (hw.s0 (by decide) rfl) 5 (by decide) rfl q_339 dX6_collect_28 ?_
          refine x_top (show ((cS z b (cts z b mc i_ ++ cpt z b i_ j_)).1 9 5) = (nI ((cts z b mc i_ ++ cpt z b i_ j_).length)) from cS_n) ?_
          refine lv_sipush (v := (nI 200)) hx hcb dX6_collect_31 (by decide) ?_
          refine lv_icmp_ge (tgt := 126) hx hcb dX6_collect_34 (by decide) (fun c_3 => ?_) (fun c_3 => ?_)
          · skip
            have c_3 : 200 ≤ ((cts z b mc i_ ++ cpt z b i_ j_).length) := (nI_leI (by omega) (by omega)).mp c_3
            omega
          · skip
            have c_3 : ¬ 200 ≤ ((cts z b mc i_ ++ cpt z b i_ j_).length) := fun h_ => c_3 ((nI_leI (by omega) (by omega)).mpr h_)
            refine lv_aload_n hx hcb dX6_collect_37 rfl (lv_at hl 1 rfl) ?_
            refine lv_aload_n hx hcb dX6_collect_38 rfl (lv_at hl 1 rfl) ?_
            refine x_getR hx hcb hts hown hK xc0 hR (hoB hw hb) (hsB hw) 0 (by decide) rfl q_258 dX6_collect_39 ?_
            refine lv_iload hx hcb dX6_collect_42 (lv_at hl 4 rfl) ?_
            have hk_44 : j_ < 8 := (by omega)
            refine x_aald hx hcb hK hR (hoMs hw hb) (hsMs hw) rfl (oMs_at hk_44) (Nat.lt_of_lt_of_le (Nat.lt_succ_self _) (Nat.le_of_ble_eq_true rfl)) dX6_collect_44 ?_
            refine lv_iload_n hx hcb dX6_collect_45 rfl (lv_at hl 3 rfl) ?_
            refine x_ci0 rfl rfl (x_runV hx hcb hml hown hts (c_X0_canRedeem l G w K hw (cS z b (cts z b mc i_ ++ cpt z b i_ j_)) _ b hb b j_ hb hk_44 i_ (by omega)) mv_X0_canRedeem q_772 hK hZ hR hS (hoB hw hb) xc0 (hsB hw) rfl hl.1 rfl (Nat.le_of_ble_eq_true rfl) dX6_collect_46 ⟨by decide, by decide⟩ ⟨by decide, by decide⟩) hS (fun r_4 z_5 H locs hp_6 hR hS => ?_)
            rw [hp_6.2] at hR; rw [hp_6.1]
            refine x_top (show (if cR (cS z b (cts z b mc i_ ++ cpt z b i_ j_)) b b j_ i_ then 1 else 0) = (if cR z b b j_ i_ then 1 else 0) from by simp only [cS_cR]) ?_
            refine lv_if_eq (tgt := 126) hx hcb dX6_collect_49 (by decide) (fun c_7 => ?_) (fun c_7 => ?_)
            · skip
              have hq_ : ¬ cR z b b j_ i_ := fun h_ => by rw [if_pos h_] at c_7; exact absurd c_7 (by decide)
              refine lv_iinc (v := (nI (j_ + 1))) (lv' := [(4, .int (nI (j_ + 1))), (0, .ref (w.2.2 9)), (1, .ref (w.2.2 (oB b))), (2, .int (cSum z b (cts z b mc i_ ++ cpt z b i_ j_))), (3, .int (nI i_))]) hx hcb dX6_collect_126 hl (k := 4) rfl (x_iinc1 _) (by decide) rfl (fun ls hl => ?_)
              refine lv_goto (tgt := 18) hx hcb dX6_collect_129 (by decide) ?_
              rw [show (cSum z b (cts z b mc i_ ++ cpt z b i_ j_)) = (cSum z b (cts z b mc i_ ++ cpt z b i_ (j_ + 1))) from by first | (rw [show cpt z b i_ (j_ + 1) = cpt z b i_ j_ from if_neg hq_]; done) | (rw [show cpt z b i_ (j_ + 1) = cpt z b i_ j_ ++ [(i_, j_)] from if_pos hq_, ← List.append_assoc]; unfold cSum; rw [List.foldl_append (l := _ ++ _)]; rfl)] at hl
              rw [show (cS z b (cts z b mc i_ ++ cpt z b i_ j_)) = (cS z b (cts z b mc i_ ++ cpt z b i_ (j_ + 1))) from by first | (rw [show cpt z b i_ (j_ + 1) = cpt z b i_ j_ from if_neg hq_]; done) | rw [cS_s, show cpt z b i_ (j_ + 1) = cpt z b i_ j_ ++ [(i_, j_)] from if_pos hq_, List.append_assoc]] at hR
              exact ih_18 (j_ + 1) (by omega) (by omega) _ _ _ hR hS (lv_sub hl [1, 2, 3, 4, 0] rfl)
            · skip
              have hq_ : cR z b b j_ i_ := Classical.byContradiction (fun h_ => c_7 (if_neg h_))
              refine lv_aload_n hx hcb dX6_collect_52 rfl (lv_at hl 0 rfl) ?_
              refine x_getR hx hcb hts hown hK xc6 hR (hw.lo (by decide)) (hw.s0 (by decide) rfl) 1 (by decide) rfl q_335 dX6_collect_53 ?_
              refine lv_aload_n hx hcb dX6_collect_56 rfl (lv_at hl 0 rfl) ?_
              refine x_getI hx hcb hts hown hK xc6 hR (hw.lo (by decide)) (hw.s0 (by decide) rfl) 5 (by decide) rfl q_339 dX6_collect_57 ?_
              refine x_top (show ((cS z b (cts z b mc i_ ++ cpt z b i_ j_)).1 9 5) = (nI ((cts z b mc i_ ++ cpt z b i_ j_).length)) from cS_n) ?_
              refine lv_iload hx hcb dX6_collect_60 (lv_at hl 4 rfl) ?_
              refine x_iast hx hcb hK hR hS (hw.lo (by decide)) (hw.s0 (by decide) rfl) (k := ((cts z b mc i_ ++ cpt z b i_ j_).length)) (v := (nI j_)) (by omega) (by decide) dX6_collect_62 (fun H locs hR hS => ?_)
              refine lv_aload_n hx hcb dX6_collect_63 rfl (lv_at hl 0 rfl) ?_
              refine x_getR hx hcb hts hown hK xc6 hR (hw.lo (by decide)) (hw.s0 (by decide) rfl) 2 (by decide) rfl q_336 dX6_collect_64 ?_
              refine lv_aload_n hx hcb dX6_collect_67 rfl (lv_at hl 0 rfl) ?_
              refine x_getI hx hcb hts hown hK xc6 hR (hw.lo (by decide)) (hw.s0 (by decide) rfl) 5 (by decide) rfl q_339 dX6_collect_68 ?_
              refine x_top (show ((u1 (cS z b (cts z b mc i_ ++ cpt z b i_ j_)) 10 ((cts z b mc i_ ++ cpt z b i_ j_).length) (nI j_)).1 9 5) = (nI ((cts z b mc i_ ++ cpt z b i_ j_).length)) from by rw [u1_ne _ (by omega)]; exact cS_n) ?_
              refine lv_iload_n hx hcb dX6_collect_71 rfl (lv_at hl 3 rfl) ?_
              refine x_iast hx hcb hK hR hS (hw.lo (by decide)) (hw.s0 (by decide) rfl) (k := ((cts z b mc i_ ++ cpt z b i_ j_).length)) (v := (nI i_)) (by omega) (by decide) dX6_collect_72 (fun H locs hR hS => ?_)
              refine lv_aload_n hx hcb dX6_collect_73 rfl (lv_at hl 0 rfl) ?_
              refine x_getR hx hcb hts hown hK xc6 hR (hw.lo (by decide)) (hw.s0 (by decide) rfl) 3 (by decide) rfl q_337 dX6_collect_74 ?_
              refine lv_aload_n hx hcb dX6_collect_77 rfl (lv_at hl 0 rfl) ?_
              refine x_getI hx hcb hts hown hK xc6 hR (hw.lo (by decide)) (hw.s0 (by decide) rfl) 5 (by decide) rfl q_339 dX6_collect_78 ?_
              refine x_top (show ((u1 (u1 (cS z b (cts z b mc i_ ++ cpt z b i_ j_)) 10 ((cts z b mc i_ ++ cpt z b i_ j_).length) (nI j_)) 11 ((cts z b mc i_ ++ cpt z b i_ j_).length) (nI i_)).1 9 5) = (nI ((cts z b mc i_ ++ cpt z b i_ j_).length)) from by rw [u1_ne _ (by omega), u1_ne _ (by omega)]; exact cS_n) ?_
              refine lv_aload_n hx hcb dX6_collect_81 rfl (lv_at hl 1 rfl) ?_
              refine x_getR hx hcb hts hown hK xc0 hR (hoB hw hb) (hsB hw) 0 (by decide) rfl q_258 dX6_collect_82 ?_
              refine lv_iload hx hcb dX6_collect_85 (lv_at hl 4 rfl) ?_
              have hk_87 : j_ < 8 := (by omega)
              refine x_aald hx hcb hK hR (hoMs hw hb) (hsMs hw) rfl (oMs_at hk_87) (Nat.lt_of_lt_of_le (Nat.lt_succ_self _) (Nat.le_of_ble_eq_true rfl)) dX6_collect_87 ?_
              refine x_getR hx hcb hts hown hK xc5 hR (hoM hw hb hk_87) (hsM hw hk_87) 7 (by decide) rfl q_201 dX6_collect_88 ?_
              refine lv_iload_n hx hcb dX6_collect_91 rfl (lv_at hl 3 rfl) ?_
              refine x_iald hx hcb hK hR (hoLf hw hb hk_87) (hsLf hw hk_87) (k := i_) (by omega) (by decide) dX6_collect_92 ?_
              refine x_top (show ((u1 (u1 (cS z b (cts z b mc i_ ++ cpt z b i_ j_)) 10 ((cts z b mc i_ ++ cpt z b i_ j_).length) (nI j_)) 11 ((cts z b mc i_ ++ cpt z b i_ j_).length) (nI i_)).1 (oLf b j_) i_) = (z.1 (oLf b j_) i_) from by rw [u1_ne _ (by simp only [oLf]; omega), u1_ne _ (by simp only [oLf]; omega), cS_hi (by simp only [oLf]; omega)]) ?_
              refine x_iast hx hcb hK hR hS (hw.lo (by decide)) (hw.s0 (by decide) rfl) (k := ((cts z b mc i_ ++ cpt z b i_ j_).length)) (v := (z.1 (oLf b j_) i_)) (by omega) (by decide) dX6_collect_93 (fun H locs hR hS => ?_)
              refine lv_aload_n hx hcb dX6_collect_94 rfl (lv_at hl 0 rfl) ?_
              refine x_getR hx hcb hts hown hK xc6 hR (hw.lo (by decide)) (hw.s0 (by decide) rfl) 4 (by decide) rfl q_338 dX6_collect_95 ?_
              refine lv_aload_n hx hcb dX6_collect_98 rfl (lv_at hl 0 rfl) ?_
              refine x_getI hx hcb hts hown hK xc6 hR (hw.lo (by decide)) (hw.s0 (by decide) rfl) 5 (by decide) rfl q_339 dX6_collect_99 ?_
              refine x_top (show ((u1 (u1 (u1 (cS z b (cts z b mc i_ ++ cpt z b i_ j_)) 10 ((cts z b mc i_ ++ cpt z b i_ j_).length) (nI j_)) 11 ((cts z b mc i_ ++ cpt z b i_ j_).length) (nI i_)) 12 ((cts z b mc i_ ++ cpt z b i_ j_).length) (z.1 (oLf b j_) i_)).1 9 5) = (nI ((cts z b mc i_ ++ cpt z b i_ j_).length)) from by rw [u1_ne _ (by omega), u1_ne _ (by omega), u1_ne _ (by omega)]; exact cS_n) ?_
              refine lv_iconst (v := (nI 0)) hx hcb dX6_collect_102 (by decide) ?_
              refine x_iast hx hcb hK hR hS (hw.lo (by decide)) (hw.s0 (by decide) rfl) (k := ((cts z b mc i_ ++ cpt z b i_ j_).length)) (v := 0) (by omega) (by decide) dX6_collect_103 (fun H locs hR hS => ?_)
              refine lv_iload_n hx hcb dX6_collect_104 rfl (lv_at hl 2 rfl) ?_
              refine lv_aload_n hx hcb dX6_collect_105 rfl (lv_at hl 0 rfl) ?_
              refine x_getR hx hcb hts hown hK xc6 hR (hw.lo (by decide)) (hw.s0 (by decide) rfl) 3 (by decide) rfl q_337 dX6_collect_106 ?_
              refine lv_aload_n hx hcb dX6_collect_109 rfl (lv_at hl 0 rfl) ?_
              refine x_getI hx hcb hts hown hK xc6 hR (hw.lo (by decide)) (hw.s0 (by decide) rfl) 5 (by decide) rfl q_339 dX6_collect_110 ?_
              refine x_top (show ((u1 (u1 (u1 (u1 (cS z b (cts z b mc i_ ++ cpt z b i_ j_)) 10 ((cts z b mc i_ ++ cpt z b i_ j_).length) (nI j_)) 11 ((cts z b mc i_ ++ cpt z b i_ j_).length) (nI i_)) 12 ((cts z b mc i_ ++ cpt z b i_ j_).length) (z.1 (oLf b j_) i_)) 13 ((cts z b mc i_ ++ cpt z b i_ j_).length) 0).1 9 5) = (nI ((cts z b mc i_ ++ cpt z b i_ j_).length)) from by rw [u1_ne _ (by omega), u1_ne _ (by omega), u1_ne _ (by omega), u1_ne _ (by omega)]; exact cS_n) ?_
              refine x_iald hx hcb hK hR (hw.lo (by decide)) (hw.s0 (by decide) rfl) (k := ((cts z b mc i_ ++ cpt z b i_ j_).length)) (by omega) (by decide) dX6_collect_113 ?_
              refine x_top (show ((u1 (u1 (u1 (u1 (cS z b (cts z b mc i_ ++ cpt z b i_ j_)) 10 ((cts z b mc i_ ++ cpt z b i_ j_).length) (nI j_)) 11 ((cts z b mc i_ ++ cpt z b i_ j_).length) (nI i_)) 12 ((cts z b mc i_ ++ cpt z b i_ j_).length) (z.1 (oLf b j_) i_)) 13 ((cts z b mc i_ ++ cpt z b i_ j_).length) 0).1 12 ((cts z b mc i_ ++ cpt z b i_ j_).length)) = (z.1 (oLf b j_) i_) from by rw [u1_ne _ (by omega), u1_self]) ?_
              refine lv_iadd hx hcb dX6_collect_114 ?_
              refine lv_istore_n (lv' := [(2, .int ((cSum z b (cts z b mc i_ ++ cpt z b i_ j_)) + (z.1 (oLf b j_) i_))), (0, .ref (w.2.2 9)), (1, .ref (w.2.2 (oB b))), (3, .int (nI i_)), (4, .int (nI j_))]) hx hcb dX6_collect_115 rfl hl (by decide) rfl (fun ls hl => ?_)
              refine lv_aload_n hx hcb dX6_collect_116 rfl (lv_at hl 1 rfl) ?_
              refine lv_dup hx hcb dX6_collect_117 rfl ?_
              refine x_getI hx hcb hts hown hK xc6 hR (hw.lo (by decide)) (hw.s0 (by decide) rfl) 5 (by decide) rfl q_339 dX6_collect_118 ?_
              refine x_top (show ((u1 (u1 (u1 (u1 (cS z b (cts z b mc i_ ++ cpt z b i_ j_)) 10 ((cts z b mc i_ ++ cpt z b i_ j_).length) (nI j_)) 11 ((cts z b mc i_ ++ cpt z b i_ j_).length) (nI i_)) 12 ((cts z b mc i_ ++ cpt z b i_ j_).length) (z.1 (oLf b j_) i_)) 13 ((cts z b mc i_ ++ cpt z b i_ j_).length) 0).1 9 5) = (nI ((cts z b mc i_ ++ cpt z b i_ j_).length)) from by rw [u1_ne _ (by omega), u1_ne _ (by omega), u1_ne _ (by omega), u1_ne _ (by omega)]; exact cS_n) ?_
              refine lv_iconst (v := (nI 1)) hx hcb dX6_collect_121 (by decide) ?_
              refine x_iaddN hx hcb dX6_collect_122 ?_
              refine x_putI hx hcb hts hown hK xc6 hR hS (hw.lo (by decide)) (hw.s0 (by decide) rfl) 5 (by decide) rfl q_339 rfl (v := (nI (((cts z b mc i_ ++ cpt z b i_ j_).length) + 1))) rfl rfl dX6_collect_123 (fun H locs hR hS => ?_)
              refine lv_iinc (v := (nI (j_ + 1))) (lv' := [(4, .int (nI (j_ + 1))), (2, .int ((cSum z b (cts z b mc i_ ++ cpt z b i_ j_)) + (z.1 (oLf b j_) i_))), (0, .ref (w.2.2 9)), (1, .ref (w.2.2 (oB b))), (3, .int (nI i_))]) hx hcb dX6_collect_126 hl (k := 4) rfl (x_iinc1 _) (by decide) rfl (fun ls hl => ?_)
              refine lv_goto (tgt := 18) hx hcb dX6_collect_129 (by decide) ?_
              rw [show ((cSum z b (cts z b mc i_ ++ cpt z b i_ j_)) + (z.1 (oLf b j_) i_)) = (cSum z b (cts z b mc i_ ++ cpt z b i_ (j_ + 1))) from by first | (rw [show cpt z b i_ (j_ + 1) = cpt z b i_ j_ from if_neg hq_]; done) | (rw [show cpt z b i_ (j_ + 1) = cpt z b i_ j_ ++ [(i_, j_)] from if_pos hq_, ← List.append_assoc]; unfold cSum; rw [List.foldl_append (l := _ ++ _)]; rfl)] at hl
              rw [show (u1 (u1 (u1 (u1 (u1 (cS z b (cts z b mc i_ ++ cpt z b i_ j_)) 10 ((cts z b mc i_ ++ cpt z b i_ j_).length) (nI j_)) 11 ((cts z b mc i_ ++ cpt z b i_ j_).length) (nI i_)) 12 ((cts z b mc i_ ++ cpt z b i_ j_).length) (z.1 (oLf b j_) i_)) 13 ((cts z b mc i_ ++ cpt z b i_ j_).length) 0) 9 5 (nI (((cts z b mc i_ ++ cpt z b i_ j_).length) + 1))) = (cS z b (cts z b mc i_ ++ cpt z b i_ (j_ + 1))) from by first | (rw [show cpt z b i_ (j_ + 1) = cpt z b i_ j_ from if_neg hq_]; done) | rw [cS_s, show cpt z b i_ (j_ + 1) = cpt z b i_ j_ ++ [(i_, j_)] from if_pos hq_, List.append_assoc]] at hR
              exact ih_18 (j_ + 1) (by omega) (by omega) _ _ _ hR hS (lv_sub hl [2, 3, 1, 4, 0] rfl)
def rm_X6_payShares : Room := { frames := 1, cells := 0, slots := 0, locals := 27 }
set_option maxRecDepth 100000 in
set_option maxHeartbeats 4000000 in
theorem c_X6_payShares (l : Launch) (G : xGl) (w : xWd) (K : Nat) (hw : isC K w) (z : xSt) (sz : Nat) (f : Nat) (t : Nat) (a : Int32) (hft : f ≤ t) (ht : t ≤ 200) : xMv l yX6_payShares cX6_payShares 5 rm_X6_payShares G w z sz [.ref (w.2.2 9), .int (nI f), .int (nI t), .int a] (fun z1 => z1 = psZ z f t a) := by
  refine x_mv (by decide) (Nat.le_of_ble_eq_true rfl) ?_
  intro p e s mt args below meth c ls Q hsz X hR hS hl hret
  obtain ⟨hx, hcb, hml, hown, hts, hlk, hK, hZ⟩ := X
  have hl : lv_has ls 5 [(0, .ref (w.2.2 9)), (1, .int (nI f)), (2, .int (nI t)), (3, .int a)] := hl
  refine lv_aload_n hx hcb dX6_payShares_0 rfl (lv_at hl 0 rfl) ?_
  refine x_getR hx hcb hts hown hK xc6 hR (hw.lo (by decide)) (hw.s0 (by decide) rfl) 0 (by decide) rfl q_334 dX6_payShares_1 ?_
  refine x_cv0 rfl rfl (x_runV hx hcb hml hown hts (c_X7_start l G w K hw z _ ) mv_X7_start q_783 hK hZ hR hS (hw.lo (by decide)) xc7 (hw.s0 (by decide) rfl) rfl hl.1 rfl (Nat.le_of_ble_eq_true rfl) dX6_payShares_4 ⟨by decide, by decide⟩ ⟨by decide, by decide⟩) hS (fun z_2 H locs hp_3 hR hS => ?_)
  rw [hp_3] at hR
  refine lv_iload_n hx hcb dX6_payShares_7 rfl (lv_at hl 1 rfl) ?_
  refine lv_istore (lv' := [(4, .int (nI f)), (0, .ref (w.2.2 9)), (1, .int (nI f)), (2, .int (nI t)), (3, .int a)]) hx hcb dX6_payShares_8 hl (by decide) rfl (fun ls hl => ?_)
  rw [adV_0 z (fun i => z.1 12 (f + i))] at hR
  suffices LP_10 : ∀ (nn : Nat) (i_ : Nat) (_ : t - i_ < nn) (hi_ : f + i_ ≤ t) (H : Heap) (locs : List Loc) (ls : Array Slot), Rh G w (adV z (fun i => z.1 12 (f + i)) i_) H → va_S (xA w s.heap.size) s.heap H locs → lv_has ls 5 [(0, .ref (w.2.2 9)), (1, .int (nI f)), (2, .int (nI t)), (3, .int a), (4, .int (nI (f + i_)))] → W p l e rm_X6_payShares s mt args below meth c H locs 0 0 Q (F0 mt 10 ls []) from LP_10 ((_) + 1) 0 (Nat.lt_succ_self _) (by omega) _ _ _ hR hS (lv_sub hl [1, 2, 3, 4, 0] rfl)
  intro nn
  induction nn with
  | zero => intro i_ hm_ ; exact absurd hm_ (Nat.not_lt_zero _)
  | succ nn ih_10 =>
    intro i_ hm_10 hi_ H locs ls hR hS hl
    refine lv_iload hx hcb dX6_payShares_10 (lv_at hl 4 rfl) ?_
    refine lv_iload_n hx hcb dX6_payShares_12 rfl (lv_at hl 2 rfl) ?_
    refine lv_icmp_ge (tgt := 36) hx hcb dX6_payShares_13 (by decide) (fun c_4 => ?_) (fun c_4 => ?_)
    · skip
      have c_4 : t ≤ (f + i_) := (nI_leI (by omega) (by omega)).mp c_4
      obtain rfl : t - f = i_ := by omega
      refine lv_aload_n hx hcb dX6_payShares_36 rfl (lv_at hl 0 rfl) ?_
      refine x_getR hx hcb hts hown hK xc6 hR (hw.lo (by decide)) (hw.s0 (by decide) rfl) 0 (by decide) rfl q_334 dX6_payShares_37 ?_
      refine lv_iload_n hx hcb dX6_payShares_40 rfl (lv_at hl 3 rfl) ?_
      refine x_cv0 rfl rfl (x_runV hx hcb hml hown hts (c_X7_share l G w K hw (adV z (fun i => z.1 12 (f + i)) (t - f)) _ a (t - f) adV_n (by omega)) mv_X7_share q_785 hK hZ hR hS (hw.lo (by decide)) xc7 (hw.s0 (by decide) rfl) rfl hl.1 rfl (Nat.le_of_ble_eq_true rfl) dX6_payShares_41 ⟨by decide, by decide⟩ ⟨by decide, by decide⟩) hS (fun z_6 H locs hp_7 hR hS => ?_)
      rw [hp_7] at hR
      refine lv_iload_n hx hcb dX6_payShares_44 rfl (lv_at hl 1 rfl) ?_
      refine lv_istore (lv' := [(4, .int (nI f)), (0, .ref (w.2.2 9)), (1, .int (nI f)), (2, .int (nI t)), (3, .int a)]) hx hcb dX6_payShares_45 hl (by decide) rfl (fun ls hl => ?_)
      rw [show shZ (adV z (fun i => z.1 12 (f + i)) (t - f)) a (t - f) = ur (psh z f t a) 13 (rng f f ((psh z f t a).1 7) ((psh z f t a).1 13)) from by rw [rng_0, ur_id]; rfl] at hR
      suffices LP_47 : ∀ (nn : Nat) (k_ : Nat) (_ : t - k_ < nn) (hk1_ : f ≤ k_) (hk2_ : k_ ≤ t) (H : Heap) (locs : List Loc) (ls : Array Slot), Rh G w (ur (psh z f t a) 13 (rng f k_ ((psh z f t a).1 7) ((psh z f t a).1 13))) H → va_S (xA w s.heap.size) s.heap H locs → lv_has ls 5 [(0, .ref (w.2.2 9)), (1, .int (nI f)), (2, .int (nI t)), (4, .int (nI k_))] → W p l e rm_X6_payShares s mt args below meth c H locs 0 0 Q (F0 mt 47 ls []) from LP_47 ((_) + 1) f (Nat.lt_succ_self _) (by omega) (by omega) _ _ _ hR hS (lv_sub hl [1, 2, 3, 0] rfl)
      intro nn
      induction nn with
      | zero => intro k_ hm_ ; exact absurd hm_ (Nat.not_lt_zero _)
      | succ nn ih_47 =>
        intro k_ hm_47 hk1_ hk2_ H locs ls hR hS hl
        refine lv_iload hx hcb dX6_payShares_47 (lv_at hl 3 rfl) ?_
        refine lv_iload_n hx hcb dX6_payShares_49 rfl (lv_at hl 2 rfl) ?_
        refine lv_icmp_ge (tgt := 77) hx hcb dX6_payShares_50 (by decide) (fun c_8 => ?_) (fun c_8 => ?_)
        · skip
          have c_8 : t ≤ k_ := (nI_leI (by omega) (by omega)).mp c_8
          obtain rfl : t = k_ := by omega
          exact hret (ur (psh z f t a) 13 (rng f t ((psh z f t a).1 7) ((psh z f t a).1 13))) _ _ _ _ dX6_payShares_77 hR hS rfl
        · skip
          have c_8 : ¬ t ≤ k_ := fun h_ => c_8 ((nI_leI (by omega) (by omega)).mpr h_)
          refine lv_aload_n hx hcb dX6_payShares_53 rfl (lv_at hl 0 rfl) ?_
          refine x_getR hx hcb hts hown hK xc6 hR (hw.lo (by decide)) (hw.s0 (by decide) rfl) 4 (by decide) rfl q_338 dX6_payShares_54 ?_
          refine lv_iload hx hcb dX6_payShares_57 (lv_at hl 3 rfl) ?_
          refine lv_aload_n hx hcb dX6_payShares_59 rfl (lv_at hl 0 rfl) ?_
          refine x_getR hx hcb hts hown hK xc6 hR (hw.lo (by decide)) (hw.s0 (by decide) rfl) 0 (by decide) rfl q_334 dX6_payShares_60 ?_
          refine lv_iload hx hcb dX6_payShares_63 (lv_at hl 3 rfl) ?_
          refine lv_iload_n hx hcb dX6_payShares_65 rfl (lv_at hl 1 rfl) ?_
          refine x_isubN hx hcb (by omega) dX6_payShares_66 ?_
          refine x_ci0 rfl rfl (x_runV hx hcb hml hown hts (c_X7_shareAt l G w K hw (ur (psh z f t a) 13 (rng f k_ ((psh z f t a).1 7) ((psh z f t a).1 13))) _ (k_ - f) (t - f) (by rw [ur_ne _ _ (by omega)]; unfold psh; rw [shZ_ne (by omega)]; exact adV_n) (by omega) (by omega)) mv_X7_shareAt q_786 hK hZ hR hS (hw.lo (by decide)) xc7 (hw.s0 (by decide) rfl) rfl hl.1 rfl (Nat.le_of_ble_eq_true rfl) dX6_payShares_67 ⟨by decide, by decide⟩ ⟨by decide, by decide⟩) hS (fun r_9 z_10 H locs hp_11 hR hS => ?_)
          rw [hp_11.2] at hR; rw [hp_11.1]
          refine x_top (show (if (k_ - f) < (t - f) then (ur (psh z f t a) 13 (rng f k_ ((psh z f t a).1 7) ((psh z f t a).1 13))).1 7 (k_ - f) else 0) = ((psh z f t a).1 7 (k_ - f)) from by rw [if_pos (show k_ - f < t - f by omega), ur_ne _ _ (by omega)]) ?_
          refine x_iast hx hcb hK hR hS (hw.lo (by decide)) (hw.s0 (by decide) rfl) (k := k_) (v := ((psh z f t a).1 7 (k_ - f))) (by omega) (by decide) dX6_payShares_70 (fun H locs hR hS => ?_)
          refine lv_iinc (v := (nI (k_ + 1))) (lv' := [(4, .int (nI (k_ + 1))), (0, .ref (w.2.2 9)), (1, .int (nI f)), (2, .int (nI t))]) hx hcb dX6_payShares_71 hl (k := 3) rfl (x_iinc1 _) (by decide) rfl (fun ls hl => ?_)
          refine lv_goto (tgt := 47) hx hcb dX6_payShares_74 (by decide) ?_
          rw [show (u1 (ur (psh z f t a) 13 (rng f k_ ((psh z f t a).1 7) ((psh z f t a).1 13))) 13 k_ ((psh z f t a).1 7 (k_ - f))) = (ur (psh z f t a) 13 (rng f (k_ + 1) ((psh z f t a).1 7) ((psh z f t a).1 13))) from by rw [u1_ur, rng_s _ _ (by omega)]] at hR
          exact ih_47 (k_ + 1) (by omega) (by omega) (by omega) _ _ _ hR hS (lv_sub hl [1, 2, 3, 0] rfl)
    · skip
      have c_4 : ¬ t ≤ (f + i_) := fun h_ => c_4 ((nI_leI (by omega) (by omega)).mpr h_)
      refine lv_aload_n hx hcb dX6_payShares_16 rfl (lv_at hl 0 rfl) ?_
      refine x_getR hx hcb hts hown hK xc6 hR (hw.lo (by decide)) (hw.s0 (by decide) rfl) 0 (by decide) rfl q_334 dX6_payShares_17 ?_
      refine lv_aload_n hx hcb dX6_payShares_20 rfl (lv_at hl 0 rfl) ?_
      refine x_getR hx hcb hts hown hK xc6 hR (hw.lo (by decide)) (hw.s0 (by decide) rfl) 3 (by decide) rfl q_337 dX6_payShares_21 ?_
      refine lv_iload hx hcb dX6_payShares_24 (lv_at hl 4 rfl) ?_
      refine x_iald hx hcb hK hR (hw.lo (by decide)) (hw.s0 (by decide) rfl) (k := (f + i_)) (by omega) (by decide) dX6_payShares_26 ?_
      refine x_top (show ((adV z (fun i => z.1 12 (f + i)) i_).1 12 (f + i_)) = (z.1 12 (f + i_)) from by rw [adV_ne (by omega)]) ?_
      refine x_cv0 rfl rfl (x_runV hx hcb hml hown hts (c_X7_add l G w K hw (adV z (fun i => z.1 12 (f + i)) i_) _ (z.1 12 (f + i_)) i_ adV_n (by omega)) mv_X7_add q_784 hK hZ hR hS (hw.lo (by decide)) xc7 (hw.s0 (by decide) rfl) rfl hl.1 rfl (Nat.le_of_ble_eq_true rfl) dX6_payShares_27 ⟨by decide, by decide⟩ ⟨by decide, by decide⟩) hS (fun z_13 H locs hp_14 hR hS => ?_)
      rw [hp_14] at hR
      refine lv_iinc (v := (nI ((f + i_) + 1))) (lv' := [(4, .int (nI ((f + i_) + 1))), (0, .ref (w.2.2 9)), (1, .int (nI f)), (2, .int (nI t)), (3, .int a)]) hx hcb dX6_payShares_30 hl (k := 4) rfl (x_iinc1 _) (by decide) rfl (fun ls hl => ?_)
      refine lv_goto (tgt := 10) hx hcb dX6_payShares_33 (by decide) ?_
      rw [show (u1 (u1 (u1 (adV z (fun i => z.1 12 (f + i)) i_) 6 i_ (z.1 12 (f + i_))) 7 i_ 0) 5 3 (nI (i_ + 1))) = (adV z (fun i => z.1 12 (f + i)) (i_ + 1)) from adV_s z (fun i => z.1 12 (f + i)) i_] at hR
      exact ih_10 (i_ + 1) (by omega) (by omega) _ _ _ hR hS (lv_sub hl [1, 2, 3, 4, 0] rfl)
def rm_X6_payByYears : Room := { frames := 2, cells := 0, slots := 0, locals := 51 }
set_option maxRecDepth 100000 in
set_option maxHeartbeats 4000000 in
theorem c_X6_payByYears (l : Launch) (G : xGl) (w : xWd) (K : Nat) (hw : isC K w) (z : xSt) (sz : Nat) (bud : Int32) (n : Nat) (hc : z.1 9 5 = nI n) (hn : n ≤ 200) : xMv l yX6_payByYears cX6_payByYears 8 rm_X6_payByYears G w z sz [.ref (w.2.2 9), .int bud] (fun z1 => z1 = (pbY z bud n 25).1) := by
  refine x_mv (by decide) (Nat.le_of_ble_eq_true rfl) ?_
  intro p e s mt args below meth c ls Q hsz X hR hS hl hret
  obtain ⟨hx, hcb, hml, hown, hts, hlk, hK, hZ⟩ := X
  have hl : lv_has ls 8 [(0, .ref (w.2.2 9)), (1, .int bud)] := hl
  refine lv_iload_n hx hcb dX6_payByYears_0 rfl (lv_at hl 1 rfl) ?_
  refine lv_istore_n (lv' := [(2, .int bud), (0, .ref (w.2.2 9)), (1, .int bud)]) hx hcb dX6_payByYears_1 rfl hl (by decide) rfl (fun ls hl => ?_)
  refine lv_iconst (v := (nI 0)) hx hcb dX6_payByYears_2 (by decide) ?_
  refine lv_istore_n (lv' := [(3, .int (nI 0)), (2, .int bud), (0, .ref (w.2.2 9)), (1, .int bud)]) hx hcb dX6_payByYears_3 rfl hl (by decide) rfl (fun ls hl => ?_)
  refine lv_iconst (v := (nI 0)) hx hcb dX6_payByYears_4 (by decide) ?_
  refine lv_istore (lv' := [(4, .int (nI 0)), (3, .int (nI 0)), (2, .int bud), (0, .ref (w.2.2 9)), (1, .int bud)]) hx hcb dX6_payByYears_5 hl (by decide) rfl (fun ls hl => ?_)
  suffices LP_7 : ∀ (nn : Nat) (i_ : Nat) (_ : 25 - i_ < nn) (hi_ : i_ ≤ 25) (hfr_ : (pbY z bud n i_).2.2 ≤ n) (H : Heap) (locs : List Loc) (ls : Array Slot), Rh G w ((pbY z bud n i_).1) H → va_S (xA w s.heap.size) s.heap H locs → lv_has ls 8 [(0, .ref (w.2.2 9)), (2, .int ((pbY z bud n i_).2.1)), (3, .int (nI ((pbY z bud n i_).2.2))), (4, .int (nI i_))] → W p l e rm_X6_payByYears s mt args below meth c H locs 0 0 Q (F0 mt 7 ls []) from LP_7 ((_) + 1) 0 (Nat.lt_succ_self _) (by omega) (Nat.zero_le _) _ _ _ hR hS (lv_sub hl [3, 2, 1, 0] rfl)
  intro nn
  induction nn with
  | zero => intro i_ hm_ ; exact absurd hm_ (Nat.not_lt_zero _)
  | succ nn ih_7 =>
    intro i_ hm_7 hi_ hfr_ H locs ls hR hS hl
    refine lv_iload hx hcb dX6_payByYears_7 (lv_at hl 3 rfl) ?_
    refine lv_bipush (v := (nI 25)) hx hcb dX6_payByYears_9 (by decide) ?_
    refine lv_icmp_ge (tgt := 90) hx hcb dX6_payByYears_11 (by decide) (fun c_1 => ?_) (fun c_1 => ?_)
    · skip
      have c_1 : 25 ≤ i_ := (nI_leI (by omega) (by omega)).mp c_1
      obtain rfl : 25 = i_ := by omega
      exact hret ((pbY z bud n 25).1) _ _ _ _ dX6_payByYears_90 hR hS rfl
    · skip
      have c_1 : ¬ 25 ≤ i_ := fun h_ => c_1 ((nI_leI (by omega) (by omega)).mpr h_)
      refine lv_iconst (v := (nI 0)) hx hcb dX6_payByYears_14 (by decide) ?_
      refine lv_istore (lv' := [(5, .int (nI 0)), (0, .ref (w.2.2 9)), (2, .int ((pbY z bud n i_).2.1)), (3, .int (nI ((pbY z bud n i_).2.2))), (4, .int (nI i_))]) hx hcb dX6_payByYears_15 hl (by decide) rfl (fun ls hl => ?_)
      refine lv_iload_n hx hcb dX6_payByYears_17 rfl (lv_at hl 3 rfl) ?_
      refine lv_istore (lv' := [(6, .int (nI ((pbY z bud n i_).2.2))), (5, .int (nI 0)), (0, .ref (w.2.2 9)), (2, .int ((pbY z bud n i_).2.1)), (3, .int (nI ((pbY z bud n i_).2.2))), (4, .int (nI i_))]) hx hcb dX6_payByYears_18 hl (by decide) rfl (fun ls hl => ?_)
      rw [show (nI 0) = (bx_sum (fun i => (pbY z bud n i_).1.1 12 ((pbY z bud n i_).2.2 + i)) ((pbY z bud n i_).2.2 - (pbY z bud n i_).2.2)) from by rw [Nat.sub_self]; rfl] at hl
      suffices LP_20 : ∀ (nn : Nat) (t_ : Nat) (_ : n - t_ < nn) (hft_ : (pbY z bud n i_).2.2 ≤ t_) (htn_ : t_ ≤ n) (hsg_ : (seg ((pbY z bud n i_).1.1 11) (nI i_) (n - (pbY z bud n i_).2.2) (pbY z bud n i_).2.2) = seg ((pbY z bud n i_).1.1 11) (nI i_) (n - t_) t_) (H : Heap) (locs : List Loc) (ls : Array Slot), Rh G w ((pbY z bud n i_).1) H → va_S (xA w s.heap.size) s.heap H locs → lv_has ls 8 [(0, .ref (w.2.2 9)), (2, .int ((pbY z bud n i_).2.1)), (3, .int (nI ((pbY z bud n i_).2.2))), (4, .int (nI i_)), (5, .int (bx_sum (fun i => (pbY z bud n i_).1.1 12 ((pbY z bud n i_).2.2 + i)) (t_ - (pbY z bud n i_).2.2))), (6, .int (nI t_))] → W p l e rm_X6_payByYears s mt args below meth c H locs 0 0 Q (F0 mt 20 ls []) from LP_20 ((_) + 1) ((pbY z bud n i_).2.2) (Nat.lt_succ_self _) (Nat.le_refl _) hfr_ rfl _ _ _ hR hS (lv_sub hl [2, 3, 4, 5, 1, 0] rfl)
      intro nn
      induction nn with
      | zero => intro t_ hm_ ; exact absurd hm_ (Nat.not_lt_zero _)
      | succ nn ih_20 =>
        intro t_ hm_20 hft_ htn_ hsg_ H locs ls hR hS hl
        refine lv_iload hx hcb dX6_payByYears_20 (lv_at hl 5 rfl) ?_
        refine lv_aload_n hx hcb dX6_payByYears_22 rfl (lv_at hl 0 rfl) ?_
        refine x_getI hx hcb hts hown hK xc6 hR (hw.lo (by decide)) (hw.s0 (by decide) rfl) 5 (by decide) rfl q_339 dX6_payByYears_23 ?_
        refine x_top (show (((pbY z bud n i_).1).1 9 5) = (nI n) from by rw [pbY_hi (by omega) (by omega)]; exact hc) ?_
        refine lv_icmp_ge (tgt := 59) hx hcb dX6_payByYears_26 (by decide) (fun c_2 => ?_) (fun c_2 => ?_)
        · skip
          have c_2 : n ≤ t_ := (nI_leI (by omega) (by omega)).mp c_2
          have hT_ : (seg ((pbY z bud n i_).1.1 11) (nI i_) (n - (pbY z bud n i_).2.2) (pbY z bud n i_).2.2) = t_ := by rw [hsg_, show n - t_ = 0 by omega]; rfl
          refine lv_iload_n hx hcb dX6_payByYears_59 rfl (lv_at hl 1 rfl) ?_
          refine lv_iload hx hcb dX6_payByYears_60 (lv_at hl 4 rfl) ?_
          refine x_min hx hcb hml hown hts hl.1 q_778 (by decide) (Nat.le_of_ble_eq_true rfl) (by decide) (by decide) dX6_payByYears_62 ?_
          refine x_top (show (if (bx_sum (fun i => (pbY z bud n i_).1.1 12 ((pbY z bud n i_).2.2 + i)) (t_ - (pbY z bud n i_).2.2)) < ((pbY z bud n i_).2.1) then (bx_sum (fun i => (pbY z bud n i_).1.1 12 ((pbY z bud n i_).2.2 + i)) (t_ - (pbY z bud n i_).2.2)) else ((pbY z bud n i_).2.1)) = (imin (pbY z bud n i_).2.1 (bx_sum (fun i => (pbY z bud n i_).1.1 12 ((pbY z bud n i_).2.2 + i)) (t_ - (pbY z bud n i_).2.2))) from rfl) ?_
          refine lv_istore (lv' := [(7, .int (imin (pbY z bud n i_).2.1 (bx_sum (fun i => (pbY z bud n i_).1.1 12 ((pbY z bud n i_).2.2 + i)) (t_ - (pbY z bud n i_).2.2)))), (0, .ref (w.2.2 9)), (2, .int ((pbY z bud n i_).2.1)), (3, .int (nI ((pbY z bud n i_).2.2))), (4, .int (nI i_)), (5, .int (bx_sum (fun i => (pbY z bud n i_).1.1 12 ((pbY z bud n i_).2.2 + i)) (t_ - (pbY z bud n i_).2.2))), (6, .int (nI t_))]) hx hcb dX6_payByYears_65 hl (by decide) rfl (fun ls hl => ?_)
          refine lv_aload_n hx hcb dX6_payByYears_67 rfl (lv_at hl 1 rfl) ?_
          refine lv_iload_n hx hcb dX6_payByYears_68 rfl (lv_at hl 3 rfl) ?_
          refine lv_iload hx hcb dX6_payByYears_69 (lv_at hl 6 rfl) ?_
          refine lv_iload hx hcb dX6_payByYears_71 (lv_at hl 0 rfl) ?_
          refine x_cv0 rfl rfl (x_runV hx hcb hml hown hts (c_X6_payShares l G w K hw ((pbY z bud n i_).1) _ ((pbY z bud n i_).2.2) t_ (imin (pbY z bud n i_).2.1 (bx_sum (fun i => (pbY z bud n i_).1.1 12 ((pbY z bud n i_).2.2 + i)) (t_ - (pbY z bud n i_).2.2))) (by omega) (by omega)) mv_X6_payShares q_779 hK hZ hR hS (hw.lo (by decide)) xc6 (hw.s0 (by decide) rfl) rfl hl.1 rfl (Nat.le_of_ble_eq_true rfl) dX6_payByYears_73 ⟨by decide, by decide⟩ ⟨by decide, by decide⟩) hS (fun z_4 H locs hp_5 hR hS => ?_)
          rw [hp_5] at hR
          refine lv_iload_n hx hcb dX6_payByYears_76 rfl (lv_at hl 2 rfl) ?_
          refine lv_iload hx hcb dX6_payByYears_77 (lv_at hl 0 rfl) ?_
          refine lv_isub hx hcb dX6_payByYears_79 ?_
          refine lv_istore_n (lv' := [(2, .int (((pbY z bud n i_).2.1) - (imin (pbY z bud n i_).2.1 (bx_sum (fun i => (pbY z bud n i_).1.1 12 ((pbY z bud n i_).2.2 + i)) (t_ - (pbY z bud n i_).2.2))))), (7, .int (imin (pbY z bud n i_).2.1 (bx_sum (fun i => (pbY z bud n i_).1.1 12 ((pbY z bud n i_).2.2 + i)) (t_ - (pbY z bud n i_).2.2)))), (0, .ref (w.2.2 9)), (3, .int (nI ((pbY z bud n i_).2.2))), (4, .int (nI i_)), (5, .int (bx_sum (fun i => (pbY z bud n i_).1.1 12 ((pbY z bud n i_).2.2 + i)) (t_ - (pbY z bud n i_).2.2))), (6, .int (nI t_))]) hx hcb dX6_payByYears_80 rfl hl (by decide) rfl (fun ls hl => ?_)
          refine lv_iload hx hcb dX6_payByYears_81 (lv_at hl 6 rfl) ?_
          refine lv_istore_n (lv' := [(3, .int (nI t_)), (2, .int (((pbY z bud n i_).2.1) - (imin (pbY z bud n i_).2.1 (bx_sum (fun i => (pbY z bud n i_).1.1 12 ((pbY z bud n i_).2.2 + i)) (t_ - (pbY z bud n i_).2.2))))), (7, .int (imin (pbY z bud n i_).2.1 (bx_sum (fun i => (pbY z bud n i_).1.1 12 ((pbY z bud n i_).2.2 + i)) (t_ - (pbY z bud n i_).2.2)))), (0, .ref (w.2.2 9)), (4, .int (nI i_)), (5, .int (bx_sum (fun i => (pbY z bud n i_).1.1 12 ((pbY z bud n i_).2.2 + i)) (t_ - (pbY z bud n i_).2.2))), (6, .int (nI t_))]) hx hcb dX6_payByYears_83 rfl hl (by decide) rfl (fun ls hl => ?_)
          obtain rfl : (seg ((pbY z bud n i_).1.1 11) (nI i_) (n - (pbY z bud n i_).2.2) (pbY z bud n i_).2.2) = t_ := hT_
          refine lv_iinc (v := (nI (i_ + 1))) (lv' := [(4, .int (nI (i_ + 1))), (3, .int (nI (seg ((pbY z bud n i_).1.1 11) (nI i_) (n - (pbY z bud n i_).2.2) (pbY z bud n i_).2.2))), (2, .int (((pbY z bud n i_).2.1) - (imin (pbY z bud n i_).2.1 (bx_sum (fun i => (pbY z bud n i_).1.1 12 ((pbY z bud n i_).2.2 + i)) ((seg ((pbY z bud n i_).1.1 11) (nI i_) (n - (pbY z bud n i_).2.2) (pbY z bud n i_).2.2) - (pbY z bud n i_).2.2))))), (7, .int (imin (pbY z bud n i_).2.1 (bx_sum (fun i => (pbY z bud n i_).1.1 12 ((pbY z bud n i_).2.2 + i)) ((seg ((pbY z bud n i_).1.1 11) (nI i_) (n - (pbY z bud n i_).2.2) (pbY z bud n i_).2.2) - (pbY z bud n i_).2.2)))), (0, .ref (w.2.2 9)), (5, .int (bx_sum (fun i => (pbY z bud n i_).1.1 12 ((pbY z bud n i_).2.2 + i)) ((seg ((pbY z bud n i_).1.1 11) (nI i_) (n - (pbY z bud n i_).2.2) (pbY z bud n i_).2.2) - (pbY z bud n i_).2.2))), (6, .int (nI (seg ((pbY z bud n i_).1.1 11) (nI i_) (n - (pbY z bud n i_).2.2) (pbY z bud n i_).2.2)))]) hx hcb dX6_payByYears_84 hl (k := 4) rfl (x_iinc1 _) (by decide) rfl (fun ls hl => ?_)
          refine lv_goto (tgt := 7) hx hcb dX6_payByYears_87 (by decide) ?_
          exact ih_7 (i_ + 1) (by omega) (by omega) htn_ _ _ _ hR hS (lv_sub hl [4, 2, 1, 0] rfl)
        · skip
          have c_2 : ¬ n ≤ t_ := fun h_ => c_2 ((nI_leI (by omega) (by omega)).mpr h_)
          refine lv_aload_n hx hcb dX6_payByYears_29 rfl (lv_at hl 0 rfl) ?_
          refine x_getR hx hcb hts hown hK xc6 hR (hw.lo (by decide)) (hw.s0 (by decide) rfl) 2 (by decide) rfl q_336 dX6_payByYears_30 ?_
          refine lv_iload hx hcb dX6_payByYears_33 (lv_at hl 5 rfl) ?_
          refine x_iald hx hcb hK hR (hw.lo (by decide)) (hw.s0 (by decide) rfl) (k := t_) (by omega) (by decide) dX6_payByYears_35 ?_
          refine lv_iload hx hcb dX6_payByYears_36 (lv_at hl 3 rfl) ?_
          refine lv_icmp_ne (tgt := 59) hx hcb dX6_payByYears_38 (by decide) (fun c_6 => ?_) (fun c_6 => ?_)
          · skip
            have hT_ : (seg ((pbY z bud n i_).1.1 11) (nI i_) (n - (pbY z bud n i_).2.2) (pbY z bud n i_).2.2) = t_ := by rw [hsg_, seg_s (k := n - (t_ + 1)) (by omega), if_neg c_6]
            refine lv_iload_n hx hcb dX6_payByYears_59 rfl (lv_at hl 1 rfl) ?_
            refine lv_iload hx hcb dX6_payByYears_60 (lv_at hl 4 rfl) ?_
            refine x_min hx hcb hml hown hts hl.1 q_778 (by decide) (Nat.le_of_ble_eq_true rfl) (by decide) (by decide) dX6_payByYears_62 ?_
            refine x_top (show (if (bx_sum (fun i => (pbY z bud n i_).1.1 12 ((pbY z bud n i_).2.2 + i)) (t_ - (pbY z bud n i_).2.2)) < ((pbY z bud n i_).2.1) then (bx_sum (fun i => (pbY z bud n i_).1.1 12 ((pbY z bud n i_).2.2 + i)) (t_ - (pbY z bud n i_).2.2)) else ((pbY z bud n i_).2.1)) = (imin (pbY z bud n i_).2.1 (bx_sum (fun i => (pbY z bud n i_).1.1 12 ((pbY z bud n i_).2.2 + i)) (t_ - (pbY z bud n i_).2.2))) from rfl) ?_
            refine lv_istore (lv' := [(7, .int (imin (pbY z bud n i_).2.1 (bx_sum (fun i => (pbY z bud n i_).1.1 12 ((pbY z bud n i_).2.2 + i)) (t_ - (pbY z bud n i_).2.2)))), (0, .ref (w.2.2 9)), (2, .int ((pbY z bud n i_).2.1)), (3, .int (nI ((pbY z bud n i_).2.2))), (4, .int (nI i_)), (5, .int (bx_sum (fun i => (pbY z bud n i_).1.1 12 ((pbY z bud n i_).2.2 + i)) (t_ - (pbY z bud n i_).2.2))), (6, .int (nI t_))]) hx hcb dX6_payByYears_65 hl (by decide) rfl (fun ls hl => ?_)
            refine lv_aload_n hx hcb dX6_payByYears_67 rfl (lv_at hl 1 rfl) ?_
            refine lv_iload_n hx hcb dX6_payByYears_68 rfl (lv_at hl 3 rfl) ?_
            refine lv_iload hx hcb dX6_payByYears_69 (lv_at hl 6 rfl) ?_
            refine lv_iload hx hcb dX6_payByYears_71 (lv_at hl 0 rfl) ?_
            refine x_cv0 rfl rfl (x_runV hx hcb hml hown hts (c_X6_payShares l G w K hw ((pbY z bud n i_).1) _ ((pbY z bud n i_).2.2) t_ (imin (pbY z bud n i_).2.1 (bx_sum (fun i => (pbY z bud n i_).1.1 12 ((pbY z bud n i_).2.2 + i)) (t_ - (pbY z bud n i_).2.2))) (by omega) (by omega)) mv_X6_payShares q_779 hK hZ hR hS (hw.lo (by decide)) xc6 (hw.s0 (by decide) rfl) rfl hl.1 rfl (Nat.le_of_ble_eq_true rfl) dX6_payByYears_73 ⟨by decide, by decide⟩ ⟨by decide, by decide⟩) hS (fun z_8 H locs hp_9 hR hS => ?_)
            rw [hp_9] at hR
            refine lv_iload_n hx hcb dX6_payByYears_76 rfl (lv_at hl 2 rfl) ?_
            refine lv_iload hx hcb dX6_payByYears_77 (lv_at hl 0 rfl) ?_
            refine lv_isub hx hcb dX6_payByYears_79 ?_
            refine lv_istore_n (lv' := [(2, .int (((pbY z bud n i_).2.1) - (imin (pbY z bud n i_).2.1 (bx_sum (fun i => (pbY z bud n i_).1.1 12 ((pbY z bud n i_).2.2 + i)) (t_ - (pbY z bud n i_).2.2))))), (7, .int (imin (pbY z bud n i_).2.1 (bx_sum (fun i => (pbY z bud n i_).1.1 12 ((pbY z bud n i_).2.2 + i)) (t_ - (pbY z bud n i_).2.2)))), (0, .ref (w.2.2 9)), (3, .int (nI ((pbY z bud n i_).2.2))), (4, .int (nI i_)), (5, .int (bx_sum (fun i => (pbY z bud n i_).1.1 12 ((pbY z bud n i_).2.2 + i)) (t_ - (pbY z bud n i_).2.2))), (6, .int (nI t_))]) hx hcb dX6_payByYears_80 rfl hl (by decide) rfl (fun ls hl => ?_)
            refine lv_iload hx hcb dX6_payByYears_81 (lv_at hl 6 rfl) ?_
            refine lv_istore_n (lv' := [(3, .int (nI t_)), (2, .int (((pbY z bud n i_).2.1) - (imin (pbY z bud n i_).2.1 (bx_sum (fun i => (pbY z bud n i_).1.1 12 ((pbY z bud n i_).2.2 + i)) (t_ - (pbY z bud n i_).2.2))))), (7, .int (imin (pbY z bud n i_).2.1 (bx_sum (fun i => (pbY z bud n i_).1.1 12 ((pbY z bud n i_).2.2 + i)) (t_ - (pbY z bud n i_).2.2)))), (0, .ref (w.2.2 9)), (4, .int (nI i_)), (5, .int (bx_sum (fun i => (pbY z bud n i_).1.1 12 ((pbY z bud n i_).2.2 + i)) (t_ - (pbY z bud n i_).2.2))), (6, .int (nI t_))]) hx hcb dX6_payByYears_83 rfl hl (by decide) rfl (fun ls hl => ?_)
            obtain rfl : (seg ((pbY z bud n i_).1.1 11) (nI i_) (n - (pbY z bud n i_).2.2) (pbY z bud n i_).2.2) = t_ := hT_
            refine lv_iinc (v := (nI (i_ + 1))) (lv' := [(4, .int (nI (i_ + 1))), (3, .int (nI (seg ((pbY z bud n i_).1.1 11) (nI i_) (n - (pbY z bud n i_).2.2) (pbY z bud n i_).2.2))), (2, .int (((pbY z bud n i_).2.1) - (imin (pbY z bud n i_).2.1 (bx_sum (fun i => (pbY z bud n i_).1.1 12 ((pbY z bud n i_).2.2 + i)) ((seg ((pbY z bud n i_).1.1 11) (nI i_) (n - (pbY z bud n i_).2.2) (pbY z bud n i_).2.2) - (pbY z bud n i_).2.2))))), (7, .int (imin (pbY z bud n i_).2.1 (bx_sum (fun i => (pbY z bud n i_).1.1 12 ((pbY z bud n i_).2.2 + i)) ((seg ((pbY z bud n i_).1.1 11) (nI i_) (n - (pbY z bud n i_).2.2) (pbY z bud n i_).2.2) - (pbY z bud n i_).2.2)))), (0, .ref (w.2.2 9)), (5, .int (bx_sum (fun i => (pbY z bud n i_).1.1 12 ((pbY z bud n i_).2.2 + i)) ((seg ((pbY z bud n i_).1.1 11) (nI i_) (n - (pbY z bud n i_).2.2) (pbY z bud n i_).2.2) - (pbY z bud n i_).2.2))), (6, .int (nI (seg ((pbY z bud n i_).1.1 11) (nI i_) (n - (pbY z bud n i_).2.2) (pbY z bud n i_).2.2)))]) hx hcb dX6_payByYears_84 hl (k := 4) rfl (x_iinc1 _) (by decide) rfl (fun ls hl => ?_)
            refine lv_goto (tgt := 7) hx hcb dX6_payByYears_87 (by decide) ?_
            exact ih_7 (i_ + 1) (by omega) (by omega) htn_ _ _ _ hR hS (lv_sub hl [4, 2, 1, 0] rfl)
          · skip
            have hq_ := c_6
            refine lv_iload hx hcb dX6_payByYears_41 (lv_at hl 4 rfl) ?_
            refine lv_aload_n hx hcb dX6_payByYears_43 rfl (lv_at hl 0 rfl) ?_
            refine x_getR hx hcb hts hown hK xc6 hR (hw.lo (by decide)) (hw.s0 (by decide) rfl) 3 (by decide) rfl q_337 dX6_payByYears_44 ?_
            refine lv_iload hx hcb dX6_payByYears_47 (lv_at hl 5 rfl) ?_
            refine x_iald hx hcb hK hR (hw.lo (by decide)) (hw.s0 (by decide) rfl) (k := t_) (by omega) (by decide) dX6_payByYears_49 ?_
            refine lv_iadd hx hcb dX6_payByYears_50 ?_
            refine lv_istore (lv' := [(5, .int ((bx_sum (fun i => (pbY z bud n i_).1.1 12 ((pbY z bud n i_).2.2 + i)) (t_ - (pbY z bud n i_).2.2)) + (((pbY z bud n i_).1).1 12 t_))), (0, .ref (w.2.2 9)), (2, .int ((pbY z bud n i_).2.1)), (3, .int (nI ((pbY z bud n i_).2.2))), (4, .int (nI i_)), (6, .int (nI t_))]) hx hcb dX6_payByYears_51 hl (by decide) rfl (fun ls hl => ?_)
            refine lv_iinc (v := (nI (t_ + 1))) (lv' := [(6, .int (nI (t_ + 1))), (5, .int ((bx_sum (fun i => (pbY z bud n i_).1.1 12 ((pbY z bud n i_).2.2 + i)) (t_ - (pbY z bud n i_).2.2)) + (((pbY z bud n i_).1).1 12 t_))), (0, .ref (w.2.2 9)), (2, .int ((pbY z bud n i_).2.1)), (3, .int (nI ((pbY z bud n i_).2.2))), (4, .int (nI i_))]) hx hcb dX6_payByYears_53 hl (k := 5) rfl (x_iinc1 _) (by decide) rfl (fun ls hl => ?_)
            refine lv_goto (tgt := 20) hx hcb dX6_payByYears_56 (by decide) ?_
            rw [show ((bx_sum (fun i => (pbY z bud n i_).1.1 12 ((pbY z bud n i_).2.2 + i)) (t_ - (pbY z bud n i_).2.2)) + (((pbY z bud n i_).1).1 12 t_)) = (bx_sum (fun i => (pbY z bud n i_).1.1 12 ((pbY z bud n i_).2.2 + i)) ((t_ + 1) - (pbY z bud n i_).2.2)) from by rw [show t_ + 1 - (pbY z bud n i_).2.2 = (t_ - (pbY z bud n i_).2.2) + 1 by omega]; show _ = bx_sum _ _ + (pbY z bud n i_).1.1 12 ((pbY z bud n i_).2.2 + (t_ - (pbY z bud n i_).2.2)); rw [show (pbY z bud n i_).2.2 + (t_ - (pbY z bud n i_).2.2) = t_ by omega]] at hl
            exact ih_20 (t_ + 1) (by omega) (by omega) (by omega) (by rw [hsg_, seg_s (k := n - (t_ + 1)) (by omega), if_pos hq_]) _ _ _ hR hS (lv_sub hl [2, 3, 4, 5, 1, 0] rfl)
def rm_X6_paySmallestFirst : Room := { frames := 1, cells := 0, slots := 0, locals := 15 }
set_option maxRecDepth 100000 in
set_option maxHeartbeats 4000000 in
theorem c_X6_paySmallestFirst (l : Launch) (G : xGl) (w : xWd) (K : Nat) (hw : isC K w) (z : xSt) (sz : Nat) (bud : Int32) (n : Nat) (hc : z.1 9 5 = nI n) (hn : n ≤ 200) : xMv l yX6_paySmallestFirst cX6_paySmallestFirst 6 rm_X6_paySmallestFirst G w z sz [.ref (w.2.2 9), .int bud] (fun z1 => z1 = ur z 13 (psm (z.1 12) n n (z.1 13) bud).1) := by
  refine x_mv (by decide) (Nat.le_of_ble_eq_true rfl) ?_
  intro p e s mt args below meth c ls Q hsz X hR hS hl hret
  obtain ⟨hx, hcb, hml, hown, hts, hlk, hK, hZ⟩ := X
  have hl : lv_has ls 6 [(0, .ref (w.2.2 9)), (1, .int bud)] := hl
  refine lv_iload_n hx hcb dX6_paySmallestFirst_0 rfl (lv_at hl 1 rfl) ?_
  refine lv_istore_n (lv' := [(2, .int bud), (0, .ref (w.2.2 9)), (1, .int bud)]) hx hcb dX6_paySmallestFirst_1 rfl hl (by decide) rfl (fun ls hl => ?_)
  refine lv_iconst (v := (nI 0)) hx hcb dX6_paySmallestFirst_2 (by decide) ?_
  refine lv_istore_n (lv' := [(3, .int (nI 0)), (2, .int bud), (0, .ref (w.2.2 9)), (1, .int bud)]) hx hcb dX6_paySmallestFirst_3 rfl hl (by decide) rfl (fun ls hl => ?_)
  rw [← ur_id z 13] at hR
  suffices LP_4 : ∀ (nn : Nat) (i_ : Nat) (p_ : Nat → Int32) (o_ : Int32) (_ : n - i_ < nn) (hi_ : i_ ≤ n) (hf_ : psm (z.1 12) n n (z.1 13) bud = psm (z.1 12) n (n - i_) p_ o_) (H : Heap) (locs : List Loc) (ls : Array Slot), Rh G w (ur z 13 p_) H → va_S (xA w s.heap.size) s.heap H locs → lv_has ls 6 [(0, .ref (w.2.2 9)), (2, .int o_), (3, .int (nI i_))] → W p l e rm_X6_paySmallestFirst s mt args below meth c H locs 0 0 Q (F0 mt 4 ls []) from LP_4 ((_) + 1) 0 (z.1 13) bud (Nat.lt_succ_self _) (by omega) rfl _ _ _ hR hS (lv_sub hl [2, 1, 0] rfl)
  intro nn
  induction nn with
  | zero => intro i_ p_ o_ hm_ ; exact absurd hm_ (Nat.not_lt_zero _)
  | succ nn ih_4 =>
    intro i_ p_ o_ hm_4 hi_ hf_ H locs ls hR hS hl
    refine lv_iload_n hx hcb dX6_paySmallestFirst_4 rfl (lv_at hl 2 rfl) ?_
    refine lv_aload_n hx hcb dX6_paySmallestFirst_5 rfl (lv_at hl 0 rfl) ?_
    refine x_getI hx hcb hts hown hK xc6 hR (hw.lo (by decide)) (hw.s0 (by decide) rfl) 5 (by decide) rfl q_339 dX6_paySmallestFirst_6 ?_
    refine x_top (show ((ur z 13 p_).1 9 5) = (nI n) from by rw [ur_ne _ _ (by omega)]; exact hc) ?_
    refine lv_icmp_ge (tgt := 113) hx hcb dX6_paySmallestFirst_9 (by decide) (fun c_1 => ?_) (fun c_1 => ?_)
    · skip
      have c_1 : n ≤ i_ := (nI_leI (by omega) (by omega)).mp c_1
      have hf_ : psm (z.1 12) n n (z.1 13) bud = (p_, o_) := by rw [hf_, show n - i_ = 0 by omega]; rfl
      exact hret (ur z 13 p_) _ _ _ _ dX6_paySmallestFirst_113 hR hS (by rw [hf_])
    · skip
      have c_1 : ¬ n ≤ i_ := fun h_ => c_1 ((nI_leI (by omega) (by omega)).mpr h_)
      refine lv_iload_n hx hcb dX6_paySmallestFirst_12 rfl (lv_at hl 1 rfl) ?_
      refine lv_if_le (tgt := 113) hx hcb dX6_paySmallestFirst_13 (by decide) (fun c_2 => ?_) (fun c_2 => ?_)
      · skip
        have hf_ := hf_.trans (psm_no (Int32.not_lt.mpr c_2))
        exact hret (ur z 13 p_) _ _ _ _ dX6_paySmallestFirst_113 hR hS (by rw [hf_])
      · skip
        have ho_ := Int32.not_le.mp c_2
        refine lv_iconst (v := (-1)) hx hcb dX6_paySmallestFirst_16 (by decide) ?_
        refine lv_istore (lv' := [(4, .int (-1)), (0, .ref (w.2.2 9)), (2, .int o_), (3, .int (nI i_))]) hx hcb dX6_paySmallestFirst_17 hl (by decide) rfl (fun ls hl => ?_)
        refine lv_iconst (v := (nI 0)) hx hcb dX6_paySmallestFirst_19 (by decide) ?_
        refine lv_istore (lv' := [(5, .int (nI 0)), (4, .int (-1)), (0, .ref (w.2.2 9)), (2, .int o_), (3, .int (nI i_))]) hx hcb dX6_paySmallestFirst_20 hl (by decide) rfl (fun ls hl => ?_)
        rw [show (-1) = (nI 0 - 1) from by decide] at hl
        suffices LP_22 : ∀ (nn : Nat) (j_ : Nat) (_ : n - j_ < nn) (hj_ : j_ ≤ n) (H : Heap) (locs : List Loc) (ls : Array Slot), Rh G w (ur z 13 p_) H → va_S (xA w s.heap.size) s.heap H locs → lv_has ls 6 [(0, .ref (w.2.2 9)), (2, .int o_), (3, .int (nI i_)), (4, .int (nI (smi (z.1 12) p_ j_) - 1)), (5, .int (nI j_))] → W p l e rm_X6_paySmallestFirst s mt args below meth c H locs 0 0 Q (F0 mt 22 ls []) from LP_22 ((_) + 1) 0 (Nat.lt_succ_self _) (by omega) _ _ _ hR hS (lv_sub hl [2, 3, 4, 1, 0] rfl)
        intro nn
        induction nn with
        | zero => intro j_ hm_ ; exact absurd hm_ (Nat.not_lt_zero _)
        | succ nn ih_22 =>
          intro j_ hm_22 hj_ H locs ls hR hS hl
          refine lv_iload hx hcb dX6_paySmallestFirst_22 (lv_at hl 4 rfl) ?_
          refine lv_aload_n hx hcb dX6_paySmallestFirst_24 rfl (lv_at hl 0 rfl) ?_
          refine x_getI hx hcb hts hown hK xc6 hR (hw.lo (by decide)) (hw.s0 (by decide) rfl) 5 (by decide) rfl q_339 dX6_paySmallestFirst_25 ?_
          refine x_top (show ((ur z 13 p_).1 9 5) = (nI n) from by rw [ur_ne _ _ (by omega)]; exact hc) ?_
          refine lv_icmp_ge (tgt := 73) hx hcb dX6_paySmallestFirst_28 (by decide) (fun c_3 => ?_) (fun c_3 => ?_)
          · skip
            have c_3 : n ≤ j_ := (nI_leI (by omega) (by omega)).mp c_3
            obtain rfl : n = j_ := by omega
            refine lv_iload hx hcb dX6_paySmallestFirst_73 (lv_at hl 3 rfl) ?_
            refine lv_if_ge (tgt := 79) hx hcb dX6_paySmallestFirst_75 (by decide) (fun c_4 => ?_) (fun c_4 => ?_)
            · skip
              obtain ⟨k_, hk_⟩ := pred_pos (by have := smi_le (z.1 12) p_ n; omega) (Int32.not_lt.mpr c_4)
              rw [hk_, nI_pred] at hl
              have hkn_ := smi_le (z.1 12) p_ n
              refine lv_aload_n hx hcb dX6_paySmallestFirst_79 rfl (lv_at hl 0 rfl) ?_
              refine x_getR hx hcb hts hown hK xc6 hR (hw.lo (by decide)) (hw.s0 (by decide) rfl) 4 (by decide) rfl q_338 dX6_paySmallestFirst_80 ?_
              refine lv_iload hx hcb dX6_paySmallestFirst_83 (lv_at hl 3 rfl) ?_
              refine lv_iload_n hx hcb dX6_paySmallestFirst_85 rfl (lv_at hl 1 rfl) ?_
              refine lv_aload_n hx hcb dX6_paySmallestFirst_86 rfl (lv_at hl 0 rfl) ?_
              refine x_getR hx hcb hts hown hK xc6 hR (hw.lo (by decide)) (hw.s0 (by decide) rfl) 3 (by decide) rfl q_337 dX6_paySmallestFirst_87 ?_
              refine lv_iload hx hcb dX6_paySmallestFirst_90 (lv_at hl 3 rfl) ?_
              refine x_iald hx hcb hK hR (hw.lo (by decide)) (hw.s0 (by decide) rfl) (k := k_) (by omega) (by decide) dX6_paySmallestFirst_92 ?_
              refine x_top (show ((ur z 13 p_).1 12 k_) = (z.1 12 k_) from by rw [ur_ne _ _ (by omega)]) ?_
              refine x_min hx hcb hml hown hts hl.1 q_778 (by decide) (Nat.le_of_ble_eq_true rfl) (by decide) (by decide) dX6_paySmallestFirst_93 ?_
              refine x_top (show (if (z.1 12 k_) < o_ then (z.1 12 k_) else o_) = (imin o_ (z.1 12 k_)) from rfl) ?_
              refine x_iast hx hcb hK hR hS (hw.lo (by decide)) (hw.s0 (by decide) rfl) (k := k_) (v := (imin o_ (z.1 12 k_))) (by omega) (by decide) dX6_paySmallestFirst_96 (fun H locs hR hS => ?_)
              rw [show u1 (ur z 13 p_) 13 k_ (imin o_ (z.1 12 k_)) = ur z 13 (va_up p_ k_ (imin o_ (z.1 12 k_))) from u1_ur ..] at hR
              refine lv_iload_n hx hcb dX6_paySmallestFirst_97 rfl (lv_at hl 1 rfl) ?_
              refine lv_aload_n hx hcb dX6_paySmallestFirst_98 rfl (lv_at hl 0 rfl) ?_
              refine x_getR hx hcb hts hown hK xc6 hR (hw.lo (by decide)) (hw.s0 (by decide) rfl) 4 (by decide) rfl q_338 dX6_paySmallestFirst_99 ?_
              refine lv_iload hx hcb dX6_paySmallestFirst_102 (lv_at hl 3 rfl) ?_
              refine x_iald hx hcb hK hR (hw.lo (by decide)) (hw.s0 (by decide) rfl) (k := k_) (by omega) (by decide) dX6_paySmallestFirst_104 ?_
              refine x_top (show ((ur z 13 (va_up p_ k_ (imin o_ (z.1 12 k_)))).1 13 k_) = (imin o_ (z.1 12 k_)) from by rw [ur_at, va_up_self]) ?_
              refine lv_isub hx hcb dX6_paySmallestFirst_105 ?_
              refine lv_istore_n (lv' := [(2, .int (o_ - (imin o_ (z.1 12 k_)))), (0, .ref (w.2.2 9)), (3, .int (nI i_)), (4, .int (nI k_)), (5, .int (nI n))]) hx hcb dX6_paySmallestFirst_106 rfl hl (by decide) rfl (fun ls hl => ?_)
              refine lv_iinc (v := (nI (i_ + 1))) (lv' := [(3, .int (nI (i_ + 1))), (2, .int (o_ - (imin o_ (z.1 12 k_)))), (0, .ref (w.2.2 9)), (4, .int (nI k_)), (5, .int (nI n))]) hx hcb dX6_paySmallestFirst_107 hl (k := 2) rfl (x_iinc1 _) (by decide) rfl (fun ls hl => ?_)
              refine lv_goto (tgt := 4) hx hcb dX6_paySmallestFirst_110 (by decide) ?_
              exact ih_4 (i_ + 1) (va_up p_ k_ (imin o_ (z.1 12 k_))) (o_ - imin o_ (z.1 12 k_)) (by omega) (by omega) (by rw [hf_, psm_s (k := n - (i_ + 1)) (by omega), if_pos ho_, if_neg (by omega), hk_]; rfl) _ _ _ hR hS (lv_sub hl [2, 1, 0] rfl)
            · skip
              have hz0_ := pred_neg (by have := smi_le (z.1 12) p_ n; omega) (Int32.not_le.mp c_4)
              have hf_ : psm (z.1 12) n n (z.1 13) bud = (p_, o_) := by rw [hf_, psm_s (k := n - (i_ + 1)) (by omega), if_pos ho_, if_pos hz0_]
              exact hret (ur z 13 p_) _ _ _ _ dX6_paySmallestFirst_78 hR hS (by rw [hf_])
          · skip
            have c_3 : ¬ n ≤ j_ := fun h_ => c_3 ((nI_leI (by omega) (by omega)).mpr h_)
            refine lv_aload_n hx hcb dX6_paySmallestFirst_31 rfl (lv_at hl 0 rfl) ?_
            refine x_getR hx hcb hts hown hK xc6 hR (hw.lo (by decide)) (hw.s0 (by decide) rfl) 4 (by decide) rfl q_338 dX6_paySmallestFirst_32 ?_
            refine lv_iload hx hcb dX6_paySmallestFirst_35 (lv_at hl 4 rfl) ?_
            refine x_iald hx hcb hK hR (hw.lo (by decide)) (hw.s0 (by decide) rfl) (k := j_) (by omega) (by decide) dX6_paySmallestFirst_37 ?_
            refine x_top (show ((ur z 13 p_).1 13 j_) = (p_ j_) from by rw [ur_at]) ?_
            refine lv_if_ne (tgt := 67) hx hcb dX6_paySmallestFirst_38 (by decide) (fun c_5 => ?_) (fun c_5 => ?_)
            · skip
              have hs_ : smi (z.1 12) p_ (j_ + 1) = smi (z.1 12) p_ j_ := if_neg (fun h_ => c_5 h_.1)
              refine lv_iinc (v := (nI (j_ + 1))) (lv' := [(5, .int (nI (j_ + 1))), (0, .ref (w.2.2 9)), (2, .int o_), (3, .int (nI i_)), (4, .int (nI (smi (z.1 12) p_ j_) - 1))]) hx hcb dX6_paySmallestFirst_67 hl (k := 4) rfl (x_iinc1 _) (by decide) rfl (fun ls hl => ?_)
              refine lv_goto (tgt := 22) hx hcb dX6_paySmallestFirst_70 (by decide) ?_
              rw [show (nI (smi (z.1 12) p_ j_) - 1) = (nI (smi (z.1 12) p_ (j_ + 1)) - 1) from by rw [hs_]; first | done | exact (nI_pred _).symm | (rw [hk_]; exact (nI_pred _).symm)] at hl
              exact ih_22 (j_ + 1) (by omega) (by omega) _ _ _ hR hS (lv_sub hl [1, 2, 3, 4, 0] rfl)
            · skip
              have hp0_ := c_5
              refine lv_iload hx hcb dX6_paySmallestFirst_41 (lv_at hl 3 rfl) ?_
              refine lv_if_lt (tgt := 63) hx hcb dX6_paySmallestFirst_43 (by decide) (fun c_6 => ?_) (fun c_6 => ?_)
              · skip
                have hz0_ := pred_neg (by have := smi_le (z.1 12) p_ j_; omega) c_6
                have hs_ : smi (z.1 12) p_ (j_ + 1) = j_ + 1 := if_pos ⟨hp0_, Or.inl hz0_⟩
                refine lv_iload hx hcb dX6_paySmallestFirst_63 (lv_at hl 4 rfl) ?_
                refine lv_istore (lv' := [(4, .int (nI j_)), (0, .ref (w.2.2 9)), (2, .int o_), (3, .int (nI i_)), (5, .int (nI j_))]) hx hcb dX6_paySmallestFirst_65 hl (by decide) rfl (fun ls hl => ?_)
                refine lv_iinc (v := (nI (j_ + 1))) (lv' := [(5, .int (nI (j_ + 1))), (4, .int (nI j_)), (0, .ref (w.2.2 9)), (2, .int o_), (3, .int (nI i_))]) hx hcb dX6_paySmallestFirst_67 hl (k := 4) rfl (x_iinc1 _) (by decide) rfl (fun ls hl => ?_)
                refine lv_goto (tgt := 22) hx hcb dX6_paySmallestFirst_70 (by decide) ?_
                rw [show (nI j_) = (nI (smi (z.1 12) p_ (j_ + 1)) - 1) from by rw [hs_]; first | done | exact (nI_pred _).symm | (rw [hk_]; exact (nI_pred _).symm)] at hl
                exact ih_22 (j_ + 1) (by omega) (by omega) _ _ _ hR hS (lv_sub hl [2, 3, 4, 1, 0] rfl)
              · skip
                obtain ⟨k_, hk_⟩ := pred_pos (by have := smi_le (z.1 12) p_ j_; omega) c_6
                rw [hk_, nI_pred] at hl
                refine lv_aload_n hx hcb dX6_paySmallestFirst_46 rfl (lv_at hl 0 rfl) ?_
                refine x_getR hx hcb hts hown hK xc6 hR (hw.lo (by decide)) (hw.s0 (by decide) rfl) 3 (by decide) rfl q_337 dX6_paySmallestFirst_47 ?_
                refine lv_iload hx hcb dX6_paySmallestFirst_50 (lv_at hl 4 rfl) ?_
                refine x_iald hx hcb hK hR (hw.lo (by decide)) (hw.s0 (by decide) rfl) (k := j_) (by omega) (by decide) dX6_paySmallestFirst_52 ?_
                refine x_top (show ((ur z 13 p_).1 12 j_) = (z.1 12 j_) from by rw [ur_ne _ _ (by omega)]) ?_
                refine lv_aload_n hx hcb dX6_paySmallestFirst_53 rfl (lv_at hl 0 rfl) ?_
                refine x_getR hx hcb hts hown hK xc6 hR (hw.lo (by decide)) (hw.s0 (by decide) rfl) 3 (by decide) rfl q_337 dX6_paySmallestFirst_54 ?_
                refine lv_iload hx hcb dX6_paySmallestFirst_57 (lv_at hl 3 rfl) ?_
                refine x_iald hx hcb hK hR (hw.lo (by decide)) (hw.s0 (by decide) rfl) (k := k_) (by have := smi_le (z.1 12) p_ j_; omega) (by decide) dX6_paySmallestFirst_59 ?_
                refine x_top (show ((ur z 13 p_).1 12 k_) = (z.1 12 k_) from by rw [ur_ne _ _ (by omega)]) ?_
                refine lv_icmp_ge (tgt := 67) hx hcb dX6_paySmallestFirst_60 (by decide) (fun c_7 => ?_) (fun c_7 => ?_)
                · skip
                  have hs_ : smi (z.1 12) p_ (j_ + 1) = smi (z.1 12) p_ j_ := if_neg (fun h_ => h_.2.elim (fun a_ => by omega) (fun a_ => absurd a_ (by rw [hk_]; exact Int32.not_lt.mpr c_7)))
                  refine lv_iinc (v := (nI (j_ + 1))) (lv' := [(5, .int (nI (j_ + 1))), (0, .ref (w.2.2 9)), (2, .int o_), (3, .int (nI i_)), (4, .int (nI k_))]) hx hcb dX6_paySmallestFirst_67 hl (k := 4) rfl (x_iinc1 _) (by decide) rfl (fun ls hl => ?_)
                  refine lv_goto (tgt := 22) hx hcb dX6_paySmallestFirst_70 (by decide) ?_
                  rw [show (nI k_) = (nI (smi (z.1 12) p_ (j_ + 1)) - 1) from by rw [hs_]; first | done | exact (nI_pred _).symm | (rw [hk_]; exact (nI_pred _).symm)] at hl
                  exact ih_22 (j_ + 1) (by omega) (by omega) _ _ _ hR hS (lv_sub hl [1, 2, 3, 4, 0] rfl)
                · skip
                  have hs_ : smi (z.1 12) p_ (j_ + 1) = j_ + 1 := if_pos ⟨hp0_, Or.inr (by rw [hk_]; exact Int32.not_le.mp c_7)⟩
                  refine lv_iload hx hcb dX6_paySmallestFirst_63 (lv_at hl 4 rfl) ?_
                  refine lv_istore (lv' := [(4, .int (nI j_)), (0, .ref (w.2.2 9)), (2, .int o_), (3, .int (nI i_)), (5, .int (nI j_))]) hx hcb dX6_paySmallestFirst_65 hl (by decide) rfl (fun ls hl => ?_)
                  refine lv_iinc (v := (nI (j_ + 1))) (lv' := [(5, .int (nI (j_ + 1))), (4, .int (nI j_)), (0, .ref (w.2.2 9)), (2, .int o_), (3, .int (nI i_))]) hx hcb dX6_paySmallestFirst_67 hl (k := 4) rfl (x_iinc1 _) (by decide) rfl (fun ls hl => ?_)
                  refine lv_goto (tgt := 22) hx hcb dX6_paySmallestFirst_70 (by decide) ?_
                  rw [show (nI j_) = (nI (smi (z.1 12) p_ (j_ + 1)) - 1) from by rw [hs_]; first | done | exact (nI_pred _).symm | (rw [hk_]; exact (nI_pred _).symm)] at hl
                  exact ih_22 (j_ + 1) (by omega) (by omega) _ _ _ hR hS (lv_sub hl [2, 3, 4, 1, 0] rfl)
def rm_X6_plan : Room := { frames := 3, cells := 0, slots := 0, locals := 78 }
set_option maxRecDepth 100000 in
set_option maxHeartbeats 4000000 in
theorem c_X6_plan (l : Launch) (G : xGl) (w : xWd) (K : Nat) (hw : isC K w) (z : xSt) (sz : Nat) (b : Nat) (hb : b < 2 + K) (bud : Int32) (mc : Nat) (hmc : z.1 (oB b) 3 = nI mc) (hmc8 : mc ≤ 8) : xMi l yX6_plan cX6_plan 5 (some FieldType.int) rm_X6_plan G w z sz [.ref (w.2.2 9), .ref (w.2.2 (oB b)), .int bud] (fun r z1 => r = plR z b mc bud ∧ z1 = plZ z b mc bud) := by
  refine x_mi (by decide) (Nat.le_of_ble_eq_true rfl) ?_
  intro p e s mt args below meth c ls Q hsz X hR hS hl hret
  obtain ⟨hx, hcb, hml, hown, hts, hlk, hK, hZ⟩ := X
  have hl : lv_has ls 5 [(0, .ref (w.2.2 9)), (1, .ref (w.2.2 (oB b))), (2, .int bud)] := hl
  have hlen_ := cts_len z b hmc8 25
  refine lv_aload_n hx hcb dX6_plan_0 rfl (lv_at hl 0 rfl) ?_
  refine lv_aload_n hx hcb dX6_plan_1 rfl (lv_at hl 1 rfl) ?_
  refine x_ci0 rfl rfl (x_runV hx hcb hml hown hts (c_X6_collect l G w K hw z _ b hb mc hmc hmc8) mv_X6_collect q_768 hK hZ hR hS (hw.lo (by decide)) xc6 (hw.s0 (by decide) rfl) rfl hl.1 rfl (Nat.le_of_ble_eq_true rfl) dX6_plan_2 ⟨by decide, by decide⟩ ⟨by decide, by decide⟩) hS (fun r_1 z_2 H locs hp_3 hR hS => ?_)
  rw [hp_3.2] at hR; rw [hp_3.1]
  refine lv_istore_n (lv' := [(3, .int (cSum z b (cts z b mc 25))), (0, .ref (w.2.2 9)), (1, .ref (w.2.2 (oB b))), (2, .int bud)]) hx hcb dX6_plan_5 rfl hl (by decide) rfl (fun ls hl => ?_)
  refine lv_iload_n hx hcb dX6_plan_6 rfl (lv_at hl 3 rfl) ?_
  refine lv_iload_n hx hcb dX6_plan_7 rfl (lv_at hl 0 rfl) ?_
  refine lv_icmp_lt (tgt := 30) hx hcb dX6_plan_8 (by decide) (fun c_4 => ?_) (fun c_4 => ?_)
  · skip
    have hc_ := Int32.not_le.mpr c_4
    refine lv_aload_n hx hcb dX6_plan_30 rfl (lv_at hl 2 rfl) ?_
    refine x_getR hx hcb hts hown hK xc0 hR (hoB hw hb) (hsB hw) 2 (by decide) rfl q_264 dX6_plan_31 ?_
    refine lv_iconst (v := (nI 4)) hx hcb dX6_plan_34 (by decide) ?_
    refine x_iald hx hcb hK hR (hoSt hw hb) (hsSt hw) (k := 4) (by omega) (by decide) dX6_plan_35 ?_
    refine x_top (show ((cS z b (cts z b mc 25)).1 (oSt b) 4) = (z.1 (oSt b) 4) from by rw [cS_hi (by simp only [oSt]; omega)]) ?_
    refine lv_istore (lv' := [(4, .int (z.1 (oSt b) 4)), (3, .int (cSum z b (cts z b mc 25))), (0, .ref (w.2.2 9)), (1, .ref (w.2.2 (oB b))), (2, .int bud)]) hx hcb dX6_plan_36 hl (by decide) rfl (fun ls hl => ?_)
    refine lv_iload hx hcb dX6_plan_38 (lv_at hl 0 rfl) ?_
    refine lv_if_ne (tgt := 51) hx hcb dX6_plan_40 (by decide) (fun c_5 => ?_) (fun c_5 => ?_)
    · skip
      have h4_ := c_5
      refine lv_iload hx hcb dX6_plan_51 (lv_at hl 0 rfl) ?_
      refine lv_iconst (v := (nI 1)) hx hcb dX6_plan_53 (by decide) ?_
      refine lv_icmp_ne (tgt := 70) hx hcb dX6_plan_54 (by decide) (fun c_6 => ?_) (fun c_6 => ?_)
      · skip
        have h5_ : ¬ z.1 (oSt b) 4 = 1 := c_6
        refine lv_aload_n hx hcb dX6_plan_70 rfl (lv_at hl 2 rfl) ?_
        refine lv_iload_n hx hcb dX6_plan_71 rfl (lv_at hl 4 rfl) ?_
        refine x_cv0 rfl rfl (x_runV hx hcb hml hown hts (c_X6_paySmallestFirst l G w K hw (cS z b (cts z b mc 25)) _ bud ((cts z b mc 25).length) cS_n (by omega)) mv_X6_paySmallestFirst q_787 hK hZ hR hS (hw.lo (by decide)) xc6 (hw.s0 (by decide) rfl) rfl hl.1 rfl (Nat.le_of_ble_eq_true rfl) dX6_plan_72 ⟨by decide, by decide⟩ ⟨by decide, by decide⟩) hS (fun z_8 H locs hp_9 hR hS => ?_)
        rw [hp_9] at hR
        refine lv_iload_n hx hcb dX6_plan_75 rfl (lv_at hl 4 rfl) ?_
        exact hret bud (ur (cS z b (cts z b mc 25)) 13 (psm ((cS z b (cts z b mc 25)).1 12) ((cts z b mc 25).length) ((cts z b mc 25).length) ((cS z b (cts z b mc 25)).1 13) bud).1) _ _ _ _ dX6_plan_76 rfl hR hS (⟨by unfold plR; rw [if_neg hc_], by unfold plZ; dsimp only; rw [if_neg hc_]; first | (rw [if_pos h4_]; done) | (rw [if_neg h4_, if_pos h5_]; done) | rw [if_neg h4_, if_neg h5_]⟩)
      · skip
        have h5_ : z.1 (oSt b) 4 = 1 := c_6
        refine lv_aload_n hx hcb dX6_plan_57 rfl (lv_at hl 2 rfl) ?_
        refine lv_iconst (v := (nI 0)) hx hcb dX6_plan_58 (by decide) ?_
        refine lv_aload_n hx hcb dX6_plan_59 rfl (lv_at hl 2 rfl) ?_
        refine x_getI hx hcb hts hown hK xc6 hR (hw.lo (by decide)) (hw.s0 (by decide) rfl) 5 (by decide) rfl q_339 dX6_plan_60 ?_
        refine x_top (show ((cS z b (cts z b mc 25)).1 9 5) = (nI ((cts z b mc 25).length)) from cS_n) ?_
        refine lv_iload_n hx hcb dX6_plan_63 rfl (lv_at hl 4 rfl) ?_
        refine x_cv0 rfl rfl (x_runV hx hcb hml hown hts (c_X6_payShares l G w K hw (cS z b (cts z b mc 25)) _ 0 ((cts z b mc 25).length) bud (Nat.zero_le _) (by omega)) mv_X6_payShares q_779 hK hZ hR hS (hw.lo (by decide)) xc6 (hw.s0 (by decide) rfl) rfl hl.1 rfl (Nat.le_of_ble_eq_true rfl) dX6_plan_64 ⟨by decide, by decide⟩ ⟨by decide, by decide⟩) hS (fun z_11 H locs hp_12 hR hS => ?_)
        rw [hp_12] at hR
        refine lv_goto (tgt := 75) hx hcb dX6_plan_67 (by decide) ?_
        refine lv_iload_n hx hcb dX6_plan_75 rfl (lv_at hl 4 rfl) ?_
        exact hret bud (psZ (cS z b (cts z b mc 25)) 0 ((cts z b mc 25).length) bud) _ _ _ _ dX6_plan_76 rfl hR hS (⟨by unfold plR; rw [if_neg hc_], by unfold plZ; dsimp only; rw [if_neg hc_]; first | (rw [if_pos h4_]; done) | (rw [if_neg h4_, if_pos h5_]; done) | rw [if_neg h4_, if_neg h5_]⟩)
    · skip
      have h4_ := c_5
      refine lv_aload_n hx hcb dX6_plan_43 rfl (lv_at hl 2 rfl) ?_
      refine lv_iload_n hx hcb dX6_plan_44 rfl (lv_at hl 4 rfl) ?_
      refine x_cv0 rfl rfl (x_runV hx hcb hml hown hts (c_X6_payByYears l G w K hw (cS z b (cts z b mc 25)) _ bud ((cts z b mc 25).length) cS_n (by omega)) mv_X6_payByYears q_774 hK hZ hR hS (hw.lo (by decide)) xc6 (hw.s0 (by decide) rfl) rfl hl.1 rfl (Nat.le_of_ble_eq_true rfl) dX6_plan_45 ⟨by decide, by decide⟩ ⟨by decide, by decide⟩) hS (fun z_14 H locs hp_15 hR hS => ?_)
      rw [hp_15] at hR
      refine lv_goto (tgt := 75) hx hcb dX6_plan_48 (by decide) ?_
      refine lv_iload_n hx hcb dX6_plan_75 rfl (lv_at hl 4 rfl) ?_
      exact hret bud ((pbY (cS z b (cts z b mc 25)) bud ((cts z b mc 25).length) 25).1) _ _ _ _ dX6_plan_76 rfl hR hS (⟨by unfold plR; rw [if_neg hc_], by unfold plZ; dsimp only; rw [if_neg hc_]; first | (rw [if_pos h4_]; done) | (rw [if_neg h4_, if_pos h5_]; done) | rw [if_neg h4_, if_neg h5_]⟩)
  · skip
    have hc_ := Int32.not_lt.mp c_4
    refine lv_aload_n hx hcb dX6_plan_11 rfl (lv_at hl 1 rfl) ?_
    refine x_getR hx hcb hts hown hK xc6 hR (hw.lo (by decide)) (hw.s0 (by decide) rfl) 3 (by decide) rfl q_337 dX6_plan_12 ?_
    refine lv_iconst (v := (nI 0)) hx hcb dX6_plan_15 (by decide) ?_
    refine lv_aload_n hx hcb dX6_plan_16 rfl (lv_at hl 1 rfl) ?_
    refine x_getR hx hcb hts hown hK xc6 hR (hw.lo (by decide)) (hw.s0 (by decide) rfl) 4 (by decide) rfl q_338 dX6_plan_17 ?_
    refine lv_iconst (v := (nI 0)) hx hcb dX6_plan_20 (by decide) ?_
    refine lv_aload_n hx hcb dX6_plan_21 rfl (lv_at hl 1 rfl) ?_
    refine x_getI hx hcb hts hown hK xc6 hR (hw.lo (by decide)) (hw.s0 (by decide) rfl) 5 (by decide) rfl q_339 dX6_plan_22 ?_
    refine x_top (show ((cS z b (cts z b mc 25)).1 9 5) = (nI ((cts z b mc 25).length)) from cS_n) ?_
    refine x_copy hx hcb hml hown hts hl.1 q_773 hK hR hS (hw.lo (by decide)) (hw.s0 (by decide) rfl) (hw.lo (by decide)) (hw.s0 (by decide) rfl) (sp := 0) (dp := 0) (n := ((cts z b mc 25).length)) (by omega) (by omega) (by decide) (by decide) (by decide) (Nat.le_of_ble_eq_true rfl) dX6_plan_25 (fun H locs hR hS => ?_)
    refine lv_iload_n hx hcb dX6_plan_28 rfl (lv_at hl 0 rfl) ?_
    exact hret (cSum z b (cts z b mc 25)) (ur (cS z b (cts z b mc 25)) 13 (va_cpy ((cS z b (cts z b mc 25)).1 12) ((cS z b (cts z b mc 25)).1 13) 0 0 ((cts z b mc 25).length))) _ _ _ _ dX6_plan_29 rfl hR hS (⟨by unfold plR; rw [if_pos hc_], by unfold plZ; dsimp only; rw [if_pos hc_]⟩)
def rm_X6_paymentFor : Room := { frames := 0, cells := 0, slots := 0, locals := 0 }
set_option maxRecDepth 100000 in
set_option maxHeartbeats 4000000 in
theorem c_X6_paymentFor (l : Launch) (G : xGl) (w : xWd) (K : Nat) (hw : isC K w) (z : xSt) (sz : Nat) (mem : Int32) (n : Nat) (hc : z.1 9 5 = nI n) (hn : n ≤ 200) : xMi l yX6_paymentFor cX6_paymentFor 4 (some FieldType.int) rm_X6_paymentFor G w z sz [.ref (w.2.2 9), .int mem] (fun r z1 => r = bx_sum (fun i => if z.1 10 i = mem then z.1 13 i else 0) n ∧ z1 = z) := by
  refine x_mi (by decide) (Nat.le_of_ble_eq_true rfl) ?_
  intro p e s mt args below meth c ls Q hsz X hR hS hl hret
  obtain ⟨hx, hcb, hml, hown, hts, hlk, hK, hZ⟩ := X
  have hl : lv_has ls 4 [(0, .ref (w.2.2 9)), (1, .int mem)] := hl
  refine lv_iconst (v := (nI 0)) hx hcb dX6_paymentFor_0 (by decide) ?_
  refine lv_istore_n (lv' := [(2, .int (nI 0)), (0, .ref (w.2.2 9)), (1, .int mem)]) hx hcb dX6_paymentFor_1 rfl hl (by decide) rfl (fun ls hl => ?_)
  refine lv_iconst (v := (nI 0)) hx hcb dX6_paymentFor_2 (by decide) ?_
  refine lv_istore_n (lv' := [(3, .int (nI 0)), (2, .int (nI 0)), (0, .ref (w.2.2 9)), (1, .int mem)]) hx hcb dX6_paymentFor_3 rfl hl (by decide) rfl (fun ls hl => ?_)
  suffices LP_4 : ∀ (nn : Nat) (i_ : Nat) (_ : n - i_ < nn) (hi_ : i_ ≤ n) (H : Heap) (locs : List Loc) (ls : Array Slot), Rh G w z H → va_S (xA w s.heap.size) s.heap H locs → lv_has ls 4 [(0, .ref (w.2.2 9)), (1, .int mem), (2, .int (bx_sum (fun i => if z.1 10 i = mem then z.1 13 i else 0) i_)), (3, .int (nI i_))] → W p l e rm_X6_paymentFor s mt args below meth c H locs 0 0 Q (F0 mt 4 ls []) from LP_4 ((_) + 1) 0 (Nat.lt_succ_self _) (by omega) _ _ _ hR hS (lv_sub hl [2, 3, 1, 0] rfl)
  intro nn
  induction nn with
  | zero => intro i_ hm_ ; exact absurd hm_ (Nat.not_lt_zero _)
  | succ nn ih_4 =>
    intro i_ hm_4 hi_ H locs ls hR hS hl
    refine lv_iload_n hx hcb dX6_paymentFor_4 rfl (lv_at hl 3 rfl) ?_
    refine lv_aload_n hx hcb dX6_paymentFor_5 rfl (lv_at hl 0 rfl) ?_
    refine x_getI hx hcb hts hown hK xc6 hR (hw.lo (by decide)) (hw.s0 (by decide) rfl) 5 (by decide) rfl q_339 dX6_paymentFor_6 ?_
    refine x_top (show (z.1 9 5) = (nI n) from hc) ?_
    refine lv_icmp_ge (tgt := 37) hx hcb dX6_paymentFor_9 (by decide) (fun c_1 => ?_) (fun c_1 => ?_)
    · skip
      have c_1 : n ≤ i_ := (nI_leI (by omega) (by omega)).mp c_1
      obtain rfl : n = i_ := by omega
      refine lv_iload_n hx hcb dX6_paymentFor_37 rfl (lv_at hl 2 rfl) ?_
      exact hret (bx_sum (fun i => if z.1 10 i = mem then z.1 13 i else 0) n) z _ _ _ _ dX6_paymentFor_38 rfl hR hS (⟨rfl, rfl⟩)
    · skip
      have c_1 : ¬ n ≤ i_ := fun h_ => c_1 ((nI_leI (by omega) (by omega)).mpr h_)
      refine lv_aload_n hx hcb dX6_paymentFor_12 rfl (lv_at hl 0 rfl) ?_
      refine x_getR hx hcb hts hown hK xc6 hR (hw.lo (by decide)) (hw.s0 (by decide) rfl) 1 (by decide) rfl q_335 dX6_paymentFor_13 ?_
      refine lv_iload_n hx hcb dX6_paymentFor_16 rfl (lv_at hl 3 rfl) ?_
      refine x_iald hx hcb hK hR (hw.lo (by decide)) (hw.s0 (by decide) rfl) (k := i_) (by omega) (by decide) dX6_paymentFor_17 ?_
      refine lv_iload_n hx hcb dX6_paymentFor_18 rfl (lv_at hl 1 rfl) ?_
      refine lv_icmp_ne (tgt := 31) hx hcb dX6_paymentFor_19 (by decide) (fun c_2 => ?_) (fun c_2 => ?_)
      · skip
        refine lv_iinc (v := (nI (i_ + 1))) (lv' := [(3, .int (nI (i_ + 1))), (0, .ref (w.2.2 9)), (1, .int mem), (2, .int (bx_sum (fun i => if z.1 10 i = mem then z.1 13 i else 0) i_))]) hx hcb dX6_paymentFor_31 hl (k := 3) rfl (x_iinc1 _) (by decide) rfl (fun ls hl => ?_)
        refine lv_goto (tgt := 4) hx hcb dX6_paymentFor_34 (by decide) ?_
        rw [show (bx_sum (fun i => if z.1 10 i = mem then z.1 13 i else 0) i_) = (bx_sum (fun i => if z.1 10 i = mem then z.1 13 i else 0) (i_ + 1)) from by simp only [bx_sum]; split <;> simp_all] at hl
        exact ih_4 (i_ + 1) (by omega) (by omega) _ _ _ hR hS (lv_sub hl [1, 2, 3, 0] rfl)
      · skip
        refine lv_iload_n hx hcb dX6_paymentFor_22 rfl (lv_at hl 2 rfl) ?_
        refine lv_aload_n hx hcb dX6_paymentFor_23 rfl (lv_at hl 0 rfl) ?_
        refine x_getR hx hcb hts hown hK xc6 hR (hw.lo (by decide)) (hw.s0 (by decide) rfl) 4 (by decide) rfl q_338 dX6_paymentFor_24 ?_
        refine lv_iload_n hx hcb dX6_paymentFor_27 rfl (lv_at hl 3 rfl) ?_
        refine x_iald hx hcb hK hR (hw.lo (by decide)) (hw.s0 (by decide) rfl) (k := i_) (by omega) (by decide) dX6_paymentFor_28 ?_
        refine lv_iadd hx hcb dX6_paymentFor_29 ?_
        refine lv_istore_n (lv' := [(2, .int ((bx_sum (fun i => if z.1 10 i = mem then z.1 13 i else 0) i_) + (z.1 13 i_))), (0, .ref (w.2.2 9)), (1, .int mem), (3, .int (nI i_))]) hx hcb dX6_paymentFor_30 rfl hl (by decide) rfl (fun ls hl => ?_)
        refine lv_iinc (v := (nI (i_ + 1))) (lv' := [(3, .int (nI (i_ + 1))), (2, .int ((bx_sum (fun i => if z.1 10 i = mem then z.1 13 i else 0) i_) + (z.1 13 i_))), (0, .ref (w.2.2 9)), (1, .int mem)]) hx hcb dX6_paymentFor_31 hl (k := 3) rfl (x_iinc1 _) (by decide) rfl (fun ls hl => ?_)
        refine lv_goto (tgt := 4) hx hcb dX6_paymentFor_34 (by decide) ?_
        rw [show ((bx_sum (fun i => if z.1 10 i = mem then z.1 13 i else 0) i_) + (z.1 13 i_)) = (bx_sum (fun i => if z.1 10 i = mem then z.1 13 i else 0) (i_ + 1)) from by simp only [bx_sum]; split <;> simp_all] at hl
        exact ih_4 (i_ + 1) (by omega) (by omega) _ _ _ hR hS (lv_sub hl [2, 3, 1, 0] rfl)
def rm_X6_firstPaid : Room := { frames := 0, cells := 0, slots := 0, locals := 0 }
set_option maxRecDepth 100000 in
set_option maxHeartbeats 4000000 in
theorem c_X6_firstPaid (l : Launch) (G : xGl) (w : xWd) (K : Nat) (hw : isC K w) (z : xSt) (sz : Nat)  (n : Nat) (hc : z.1 9 5 = nI n) (hn : n ≤ 200) : xMi l yX6_firstPaid cX6_firstPaid 2 (some FieldType.int) rm_X6_firstPaid G w z sz [.ref (w.2.2 9)] (fun r z1 => r = fpd (z.1 13) (z.1 10) n 0 ∧ z1 = z) := by
  refine x_mi (by decide) (Nat.le_of_ble_eq_true rfl) ?_
  intro p e s mt args below meth c ls Q hsz X hR hS hl hret
  obtain ⟨hx, hcb, hml, hown, hts, hlk, hK, hZ⟩ := X
  have hl : lv_has ls 2 [(0, .ref (w.2.2 9))] := hl
  refine lv_iconst (v := (nI 0)) hx hcb dX6_firstPaid_0 (by decide) ?_
  refine lv_istore_n (lv' := [(1, .int (nI 0)), (0, .ref (w.2.2 9))]) hx hcb dX6_firstPaid_1 rfl hl (by decide) rfl (fun ls hl => ?_)
  suffices LP_2 : ∀ (nn : Nat) (i_ : Nat) (_ : n - i_ < nn) (hi_ : i_ ≤ n) (hf_ : fpd (z.1 13) (z.1 10) n 0 = fpd (z.1 13) (z.1 10) (n - i_) i_) (H : Heap) (locs : List Loc) (ls : Array Slot), Rh G w z H → va_S (xA w s.heap.size) s.heap H locs → lv_has ls 2 [(0, .ref (w.2.2 9)), (1, .int (nI i_))] → W p l e rm_X6_firstPaid s mt args below meth c H locs 0 0 Q (F0 mt 2 ls []) from LP_2 ((_) + 1) 0 (Nat.lt_succ_self _) (by omega) rfl _ _ _ hR hS (lv_sub hl [1, 0] rfl)
  intro nn
  induction nn with
  | zero => intro i_ hm_ ; exact absurd hm_ (Nat.not_lt_zero _)
  | succ nn ih_2 =>
    intro i_ hm_2 hi_ hf_ H locs ls hR hS hl
    refine lv_iload_n hx hcb dX6_firstPaid_2 rfl (lv_at hl 1 rfl) ?_
    refine lv_aload_n hx hcb dX6_firstPaid_3 rfl (lv_at hl 0 rfl) ?_
    refine x_getI hx hcb hts hown hK xc6 hR (hw.lo (by decide)) (hw.s0 (by decide) rfl) 5 (by decide) rfl q_339 dX6_firstPaid_4 ?_
    refine x_top (show (z.1 9 5) = (nI n) from hc) ?_
    refine lv_icmp_ge (tgt := 32) hx hcb dX6_firstPaid_7 (by decide) (fun c_1 => ?_) (fun c_1 => ?_)
    · skip
      have c_1 : n ≤ i_ := (nI_leI (by omega) (by omega)).mp c_1
      obtain rfl : n = i_ := by omega
      refine lv_iconst (v := (-1)) hx hcb dX6_firstPaid_32 (by decide) ?_
      exact hret (-1) z _ _ _ _ dX6_firstPaid_33 rfl hR hS (⟨by rw [hf_, Nat.sub_self]; rfl, rfl⟩)
    · skip
      have c_1 : ¬ n ≤ i_ := fun h_ => c_1 ((nI_leI (by omega) (by omega)).mpr h_)
      refine lv_aload_n hx hcb dX6_firstPaid_10 rfl (lv_at hl 0 rfl) ?_
      refine x_getR hx hcb hts hown hK xc6 hR (hw.lo (by decide)) (hw.s0 (by decide) rfl) 4 (by decide) rfl q_338 dX6_firstPaid_11 ?_
      refine lv_iload_n hx hcb dX6_firstPaid_14 rfl (lv_at hl 1 rfl) ?_
      refine x_iald hx hcb hK hR (hw.lo (by decide)) (hw.s0 (by decide) rfl) (k := i_) (by omega) (by decide) dX6_firstPaid_15 ?_
      refine lv_if_le (tgt := 26) hx hcb dX6_firstPaid_16 (by decide) (fun c_2 => ?_) (fun c_2 => ?_)
      · skip
        have hq_ := Int32.not_lt.mpr c_2
        refine lv_iinc (v := (nI (i_ + 1))) (lv' := [(1, .int (nI (i_ + 1))), (0, .ref (w.2.2 9))]) hx hcb dX6_firstPaid_26 hl (k := 1) rfl (x_iinc1 _) (by decide) rfl (fun ls hl => ?_)
        refine lv_goto (tgt := 2) hx hcb dX6_firstPaid_29 (by decide) ?_
        exact ih_2 (i_ + 1) (by omega) (by omega) (by rw [hf_, fpd_s (k := n - (i_ + 1)) (by omega), if_neg hq_]) _ _ _ hR hS (lv_sub hl [1, 0] rfl)
      · skip
        have hq_ := Int32.not_le.mp c_2
        refine lv_aload_n hx hcb dX6_firstPaid_19 rfl (lv_at hl 0 rfl) ?_
        refine x_getR hx hcb hts hown hK xc6 hR (hw.lo (by decide)) (hw.s0 (by decide) rfl) 1 (by decide) rfl q_335 dX6_firstPaid_20 ?_
        refine lv_iload_n hx hcb dX6_firstPaid_23 rfl (lv_at hl 1 rfl) ?_
        refine x_iald hx hcb hK hR (hw.lo (by decide)) (hw.s0 (by decide) rfl) (k := i_) (by omega) (by decide) dX6_firstPaid_24 ?_
        exact hret (z.1 10 i_) z _ _ _ _ dX6_firstPaid_25 rfl hR hS (⟨by rw [hf_, fpd_s (k := n - (i_ + 1)) (by omega), if_pos hq_], rfl⟩)
def rm_X6_carryOut : Room := { frames := 0, cells := 0, slots := 0, locals := 0 }
set_option maxRecDepth 100000 in
set_option maxHeartbeats 4000000 in
theorem c_X6_carryOut (l : Launch) (G : xGl) (w : xWd) (K : Nat) (hw : isC K w) (z : xSt) (sz : Nat) (b : Nat) (hb : b < 2 + K) (n : Nat) (mO yO : Nat → Nat) (hc : z.1 9 5 = nI n) (hn : n ≤ 200) (hL : ∀ i, i < n → z.1 10 i = nI (mO i) ∧ mO i < 8 ∧ z.1 11 i = nI (yO i) ∧ yO i < 25) : xMv l yX6_carryOut cX6_carryOut 4 rm_X6_carryOut G w z sz [.ref (w.2.2 9), .ref (w.2.2 (oB b))] (fun z1 => z1 = crO z b mO yO n) := by
  refine x_mv (by decide) (Nat.le_of_ble_eq_true rfl) ?_
  intro p e s mt args below meth c ls Q hsz X hR hS hl hret
  obtain ⟨hx, hcb, hml, hown, hts, hlk, hK, hZ⟩ := X
  have hl : lv_has ls 4 [(0, .ref (w.2.2 9)), (1, .ref (w.2.2 (oB b)))] := hl
  refine lv_iconst (v := (nI 0)) hx hcb dX6_carryOut_0 (by decide) ?_
  refine lv_istore_n (lv' := [(2, .int (nI 0)), (0, .ref (w.2.2 9)), (1, .ref (w.2.2 (oB b)))]) hx hcb dX6_carryOut_1 rfl hl (by decide) rfl (fun ls hl => ?_)
  suffices LP_2 : ∀ (nn : Nat) (i_ : Nat) (_ : n - i_ < nn) (hi_ : i_ ≤ n) (H : Heap) (locs : List Loc) (ls : Array Slot), Rh G w (crO z b mO yO i_) H → va_S (xA w s.heap.size) s.heap H locs → lv_has ls 4 [(0, .ref (w.2.2 9)), (1, .ref (w.2.2 (oB b))), (2, .int (nI i_))] → W p l e rm_X6_carryOut s mt args below meth c H locs 0 0 Q (F0 mt 2 ls []) from LP_2 ((_) + 1) 0 (Nat.lt_succ_self _) (by omega) _ _ _ hR hS (lv_sub hl [1, 2, 0] rfl)
  intro nn
  induction nn with
  | zero => intro i_ hm_ ; exact absurd hm_ (Nat.not_lt_zero _)
  | succ nn ih_2 =>
    intro i_ hm_2 hi_ H locs ls hR hS hl
    refine lv_iload_n hx hcb dX6_carryOut_2 rfl (lv_at hl 2 rfl) ?_
    refine lv_aload_n hx hcb dX6_carryOut_3 rfl (lv_at hl 0 rfl) ?_
    refine x_getI hx hcb hts hown hK xc6 hR (hw.lo (by decide)) (hw.s0 (by decide) rfl) 5 (by decide) rfl q_339 dX6_carryOut_4 ?_
    refine x_top (show ((crO z b mO yO i_).1 9 5) = (nI n) from by rw [crO_lo (by omega)]; exact hc) ?_
    refine lv_icmp_ge (tgt := 63) hx hcb dX6_carryOut_7 (by decide) (fun c_1 => ?_) (fun c_1 => ?_)
    · skip
      have c_1 : n ≤ i_ := (nI_leI (by omega) (by omega)).mp c_1
      obtain rfl : n = i_ := by omega
      exact hret (crO z b mO yO n) _ _ _ _ dX6_carryOut_63 hR hS rfl
    · skip
      have c_1 : ¬ n ≤ i_ := fun h_ => c_1 ((nI_leI (by omega) (by omega)).mpr h_)
      refine lv_aload_n hx hcb dX6_carryOut_10 rfl (lv_at hl 1 rfl) ?_
      refine x_getR hx hcb hts hown hK xc0 hR (hoB hw hb) (hsB hw) 0 (by decide) rfl q_258 dX6_carryOut_11 ?_
      refine lv_aload_n hx hcb dX6_carryOut_14 rfl (lv_at hl 0 rfl) ?_
      refine x_getR hx hcb hts hown hK xc6 hR (hw.lo (by decide)) (hw.s0 (by decide) rfl) 1 (by decide) rfl q_335 dX6_carryOut_15 ?_
      refine lv_iload_n hx hcb dX6_carryOut_18 rfl (lv_at hl 2 rfl) ?_
      refine x_iald hx hcb hK hR (hw.lo (by decide)) (hw.s0 (by decide) rfl) (k := i_) (by omega) (by decide) dX6_carryOut_19 ?_
      refine x_top (show ((crO z b mO yO i_).1 10 i_) = (nI (mO i_)) from by rw [crO_lo (by omega)]; exact (hL i_ (by omega)).1) ?_
      have hk_20 : (mO i_) < 8 := ((hL i_ (by omega)).2.1)
      refine x_aald hx hcb hK hR (hoMs hw hb) (hsMs hw) rfl (oMs_at hk_20) (Nat.lt_of_lt_of_le (Nat.lt_succ_self _) (Nat.le_of_ble_eq_true rfl)) dX6_carryOut_20 ?_
      refine lv_astore_n (lv' := [(3, .ref (w.2.2 (oM b (mO i_)))), (0, .ref (w.2.2 9)), (1, .ref (w.2.2 (oB b))), (2, .int (nI i_))]) hx hcb dX6_carryOut_21 rfl hl (by decide) rfl (fun ls hl => ?_)
      refine lv_aload_n hx hcb dX6_carryOut_22 rfl (lv_at hl 0 rfl) ?_
      refine x_getR hx hcb hts hown hK xc5 hR (hoM hw hb hk_20) (hsM hw hk_20) 7 (by decide) rfl q_201 dX6_carryOut_23 ?_
      refine lv_aload_n hx hcb dX6_carryOut_26 rfl (lv_at hl 1 rfl) ?_
      refine x_getR hx hcb hts hown hK xc6 hR (hw.lo (by decide)) (hw.s0 (by decide) rfl) 2 (by decide) rfl q_336 dX6_carryOut_27 ?_
      refine lv_iload_n hx hcb dX6_carryOut_30 rfl (lv_at hl 3 rfl) ?_
      refine x_iald hx hcb hK hR (hw.lo (by decide)) (hw.s0 (by decide) rfl) (k := i_) (by omega) (by decide) dX6_carryOut_31 ?_
      refine x_top (show ((crO z b mO yO i_).1 11 i_) = (nI (yO i_)) from by rw [crO_lo (by omega)]; exact (hL i_ (by omega)).2.2.1) ?_
      refine lv_dup2_11 hx hcb dX6_carryOut_32 rfl rfl ?_
      refine x_iald hx hcb hK hR (hoLf hw hb hk_20) (hsLf hw hk_20) (k := (yO i_)) ((hL i_ (by omega)).2.2.2) (by decide) dX6_carryOut_33 ?_
      refine lv_aload_n hx hcb dX6_carryOut_34 rfl (lv_at hl 1 rfl) ?_
      refine x_getR hx hcb hts hown hK xc6 hR (hw.lo (by decide)) (hw.s0 (by decide) rfl) 4 (by decide) rfl q_338 dX6_carryOut_35 ?_
      refine lv_iload_n hx hcb dX6_carryOut_38 rfl (lv_at hl 3 rfl) ?_
      refine x_iald hx hcb hK hR (hw.lo (by decide)) (hw.s0 (by decide) rfl) (k := i_) (by omega) (by decide) dX6_carryOut_39 ?_
      refine x_top (show ((crO z b mO yO i_).1 13 i_) = (z.1 13 i_) from by rw [crO_lo (by omega)]) ?_
      refine lv_isub hx hcb dX6_carryOut_40 ?_
      refine x_iast hx hcb hK hR hS (hoLf hw hb hk_20) (hsLf hw hk_20) (k := (yO i_)) (v := (((crO z b mO yO i_).1 (oLf b (mO i_)) (yO i_)) - (z.1 13 i_))) ((hL i_ (by omega)).2.2.2) (by decide) dX6_carryOut_41 (fun H locs hR hS => ?_)
      refine lv_aload_n hx hcb dX6_carryOut_42 rfl (lv_at hl 0 rfl) ?_
      refine x_getR hx hcb hts hown hK xc5 hR (hoM hw hb hk_20) (hsM hw hk_20) 9 (by decide) rfl q_208 dX6_carryOut_43 ?_
      refine lv_iconst (v := (nI 1)) hx hcb dX6_carryOut_46 (by decide) ?_
      refine lv_dup2_11 hx hcb dX6_carryOut_47 rfl rfl ?_
      refine x_iald hx hcb hK hR (hoPd hw hb hk_20) (hsPd hw hk_20) (k := 1) (by omega) (by decide) dX6_carryOut_48 ?_
      refine x_top (show ((u1 (crO z b mO yO i_) (oLf b (mO i_)) (yO i_) (((crO z b mO yO i_).1 (oLf b (mO i_)) (yO i_)) - (z.1 13 i_))).1 (oPd b (mO i_)) 1) = ((crO z b mO yO i_).1 (oPd b (mO i_)) 1) from by rw [u1_ne _ (by simp only [oPd, oLf]; omega)]) ?_
      refine lv_aload_n hx hcb dX6_carryOut_49 rfl (lv_at hl 1 rfl) ?_
      refine x_getR hx hcb hts hown hK xc6 hR (hw.lo (by decide)) (hw.s0 (by decide) rfl) 4 (by decide) rfl q_338 dX6_carryOut_50 ?_
      refine lv_iload_n hx hcb dX6_carryOut_53 rfl (lv_at hl 3 rfl) ?_
      refine x_iald hx hcb hK hR (hw.lo (by decide)) (hw.s0 (by decide) rfl) (k := i_) (by omega) (by decide) dX6_carryOut_54 ?_
      refine x_top (show ((u1 (crO z b mO yO i_) (oLf b (mO i_)) (yO i_) (((crO z b mO yO i_).1 (oLf b (mO i_)) (yO i_)) - (z.1 13 i_))).1 13 i_) = (z.1 13 i_) from by rw [u1_ne _ (by simp only [oLf]; omega), crO_lo (by omega)]) ?_
      refine lv_iadd hx hcb dX6_carryOut_55 ?_
      refine x_iast hx hcb hK hR hS (hoPd hw hb hk_20) (hsPd hw hk_20) (k := 1) (v := (((crO z b mO yO i_).1 (oPd b (mO i_)) 1) + (z.1 13 i_))) (by omega) (by decide) dX6_carryOut_56 (fun H locs hR hS => ?_)
      refine lv_iinc (v := (nI (i_ + 1))) (lv' := [(2, .int (nI (i_ + 1))), (3, .ref (w.2.2 (oM b (mO i_)))), (0, .ref (w.2.2 9)), (1, .ref (w.2.2 (oB b)))]) hx hcb dX6_carryOut_57 hl (k := 3) rfl (x_iinc1 _) (by decide) rfl (fun ls hl => ?_)
      refine lv_goto (tgt := 2) hx hcb dX6_carryOut_60 (by decide) ?_
      rw [show (u1 (u1 (crO z b mO yO i_) (oLf b (mO i_)) (yO i_) (((crO z b mO yO i_).1 (oLf b (mO i_)) (yO i_)) - (z.1 13 i_))) (oPd b (mO i_)) 1 (((crO z b mO yO i_).1 (oPd b (mO i_)) 1) + (z.1 13 i_))) = (crO z b mO yO (i_ + 1)) from rfl] at hR
      exact ih_2 (i_ + 1) (by omega) (by omega) _ _ _ hR hS (lv_sub hl [2, 3, 0] rfl)
