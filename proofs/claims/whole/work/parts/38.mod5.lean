/-! THE REFERENCE: results dealt -/
def jQ (a : Int64) (f : Nat → Int64) (n : Nat) : Nat := (lopn a (gQ a f (xls f n)) n).toInt.toNat
def shOk (f : Nat → Int64) (n : Nat) (a : Int64) : Prop := xls f n ≠ 0 → lopn a (gQ a f (xls f n)) n = Int64.ofNat (jQ a f n) ∧ jQ a f n ≤ 192
def kpQ (z : xSt) (d : Nat) : Int32 := if 0 < z.1 10 d then z.1 10 d * z.1 4 1 / nI 100 else nI 0
def rsQ (z : xSt) (d : Nat) : Int32 := z.1 10 d - kpQ z d
def abQ (z : xSt) (d : Nat) : Int32 := if 0 ≤ rsQ z d then rsQ z d else 0 - rsQ z d
def sgQ (r : Int32) : Int32 := if r < 0 then (-1) else nI 1
def w7 (z : xSt) (d n : Nat) : xSt := (z.1, va_up z.2 7 (pre n (fun m => (z.1 4 (29 + 4 * m + d)).toInt64) (z.2 7)))
theorem w7_0 (z : xSt) (d : Nat) : w7 z d 0 = z := by unfold w7; rw [pre_0, va_up_id]
theorem w7_s (z : xSt) (d i : Nat) : u2 (w7 z d i) 7 i (z.1 4 (29 + 4 * i + d)).toInt64 = w7 z d (i + 1) := by
  refine Prod.ext rfl (funext fun o => ?_)
  show va_up (va_up z.2 7 _) 7 (va_up ((va_up z.2 7 (pre i (fun m => (z.1 4 (29 + 4 * m + d)).toInt64) (z.2 7))) 7) i _) o = va_up z.2 7 (pre (i + 1) (fun m => (z.1 4 (29 + 4 * m + d)).toInt64) (z.2 7)) o
  by_cases h : o = 7
  · subst h
    rw [va_up_self, va_up_self, va_up_self]
    exact pre_s i (fun m => (z.1 4 (29 + 4 * m + d)).toInt64) (z.2 7)
  · rw [va_up_ne _ _ h, va_up_ne _ _ h, va_up_ne _ _ h]
def d11 (z : xSt) (r : Int32) (n : Nat) : xSt := ur z 11 (pre n (fun m => z.1 11 m + (z.2 8 m).toInt32 * sgQ r) (z.1 11))
theorem d11_0 (z : xSt) (r : Int32) : d11 z r 0 = z := by unfold d11; rw [pre_0, ur_id]
theorem d11_s (z : xSt) (r : Int32) (i : Nat) : u1 (d11 z r i) 11 i (z.1 11 i + (z.2 8 i).toInt32 * sgQ r) = d11 z r (i + 1) := by
  unfold d11; rw [u1_ur]; exact congrArg (ur z 11) (pre_s i (fun m => z.1 11 m + (z.2 8 m).toInt32 * sgQ r) (z.1 11))
/-- the shares reckoned -/
def dgQ (z : xSt) (d : Nat) : xSt := zLL (w7 (u1 z 0 15 (z.1 0 15 + kpQ z d)) d (mQ z 12)) (gvQ (mQ z 12) (jQ ((abQ z d).toInt64) ((w7 (u1 z 0 15 (z.1 0 15 + kpQ z d)) d (mQ z 12)).2 7) (mQ z 12)) (pre (mQ z 12) (gQ ((abQ z d).toInt64) ((w7 (u1 z 0 15 (z.1 0 15 + kpQ z d)) d (mQ z 12)).2 7) (xls ((w7 (u1 z 0 15 (z.1 0 15 + kpQ z d)) d (mQ z 12)).2 7) (mQ z 12))) ((w7 (u1 z 0 15 (z.1 0 15 + kpQ z d)) d (mQ z 12)).2 8), pre (mQ z 12) (rQ ((abQ z d).toInt64) ((w7 (u1 z 0 15 (z.1 0 15 + kpQ z d)) d (mQ z 12)).2 7) (xls ((w7 (u1 z 0 15 (z.1 0 15 + kpQ z d)) d (mQ z 12)).2 7) (mQ z 12))) ((w7 (u1 z 0 15 (z.1 0 15 + kpQ z d)) d (mQ z 12)).2 9)))
theorem dgQ_m {z : xSt} {d : Nat} (h : rOk z) : (dgQ z d).1 2 12 = nI (mQ z 12) := h.1
def dlQ (z : xSt) (d : Nat) : xSt := if xls ((w7 (u1 z 0 15 (z.1 0 15 + kpQ z d)) d (mQ z 12)).2 7) (mQ z 12) = 0 then u1 (w7 (u1 z 0 15 (z.1 0 15 + kpQ z d)) d (mQ z 12)) 0 15 ((w7 (u1 z 0 15 (z.1 0 15 + kpQ z d)) d (mQ z 12)).1 0 15 + rsQ z d) else d11 (u1 (dgQ z d) 12 d (rsQ z d)) (rsQ z d) (mQ z 12)
def rm_X10_deals : Room := { frames := 1, cells := 0, slots := 0, locals := 29 }
set_option maxRecDepth 100000 in
set_option maxHeartbeats 4000000 in
theorem c_X10_deals (l : Launch) (G : xGl) (w : xWd) (hw : isM w) (z : xSt) (sz : Nat) (d : Nat) (hO : rOk z) (hd : d < 4) (hsh : shOk ((w7 (u1 z 0 15 (z.1 0 15 + kpQ z d)) d (mQ z 12)).2 7) (mQ z 12) ((abQ z d).toInt64)) : xMv l yX10_deals cX10_deals 6 rm_X10_deals G w z sz [.ref (w.2.2 0), .int (nI d)] (fun z1 => z1 = dlQ z d) := by
  refine x_mv (by decide) (Nat.le_of_ble_eq_true rfl) ?_
  intro p e s mt args below meth c ls Q hsz X hR hS hl hret
  obtain ⟨hx, hcb, hml, hown, hts, hlk, hK, hZ⟩ := X
  have hl : lv_has ls 6 [(0, .ref (w.2.2 0)), (1, .int (nI d))] := hl
  have hm8_ := hO.2.1
  have hd4_ := hO.2.2.2.1
  have hy24_ := hO.2.2.2.2.2
  refine lv_aload_n hx hcb dX10_deals_0 rfl (lv_at hl 0 rfl) ?_
  refine x_getR hx hcb hts hown hK xc10 hR (hw.lo (by decide)) (hw.s0 rfl) 12 (by decide) rfl q_1178 dX10_deals_1 ?_
  refine lv_iload_n hx hcb dX10_deals_4 rfl (lv_at hl 1 rfl) ?_
  refine x_iald hx hcb hK hR (hw.lo (by decide)) (hw.s0 rfl) (k := d) (by omega) (by decide) dX10_deals_5 ?_
  refine lv_istore_n (lv' := [(2, .int (z.1 10 d)), (0, .ref (w.2.2 0)), (1, .int (nI d))]) hx hcb dX10_deals_6 rfl hl (by decide) rfl (fun ls hl => ?_)
  refine lv_iload_n hx hcb dX10_deals_7 rfl (lv_at hl 0 rfl) ?_
  refine lv_if_le (tgt := 25) hx hcb dX10_deals_8 (by decide) (fun c_1 => ?_) (fun c_1 => ?_)
  · skip
    have hk_ : ¬ 0 < z.1 10 d := Int32.not_lt.mpr c_1
    refine lv_iconst (v := (nI 0)) hx hcb dX10_deals_25 (by decide) ?_
    refine x_top (show (nI 0) = kpQ z d from by unfold kpQ; first | rw [if_pos hk_] | rw [if_neg hk_]) ?_
    refine lv_istore_n (lv' := [(3, .int (kpQ z d)), (2, .int (z.1 10 d)), (0, .ref (w.2.2 0)), (1, .int (nI d))]) hx hcb dX10_deals_26 rfl hl (by decide) rfl (fun ls hl => ?_)
    refine lv_iload_n hx hcb dX10_deals_27 rfl (lv_at hl 1 rfl) ?_
    refine lv_iload_n hx hcb dX10_deals_28 rfl (lv_at hl 0 rfl) ?_
    refine lv_isub hx hcb dX10_deals_29 ?_
    refine x_top (show ((z.1 10 d) - (kpQ z d)) = (rsQ z d) from rfl) ?_
    refine lv_istore (lv' := [(4, .int (rsQ z d)), (3, .int (kpQ z d)), (2, .int (z.1 10 d)), (0, .ref (w.2.2 0)), (1, .int (nI d))]) hx hcb dX10_deals_30 hl (by decide) rfl (fun ls hl => ?_)
    refine lv_aload_n hx hcb dX10_deals_32 rfl (lv_at hl 3 rfl) ?_
    refine lv_dup hx hcb dX10_deals_33 rfl ?_
    refine x_getI hx hcb hts hown hK xc10 hR (hw.lo (by decide)) (hw.s0 rfl) 15 (by decide) rfl q_1181 dX10_deals_34 ?_
    refine lv_iload_n hx hcb dX10_deals_37 rfl (lv_at hl 1 rfl) ?_
    refine lv_iadd hx hcb dX10_deals_38 ?_
    refine x_putI hx hcb hts hown hK xc10 hR hS (hw.lo (by decide)) (hw.s0 rfl) 15 (by decide) rfl q_1181 rfl (v := ((z.1 0 15) + (kpQ z d))) rfl rfl dX10_deals_39 (fun H locs hR hS => ?_)
    refine lv_iconst (v := (nI 0)) hx hcb dX10_deals_42 (by decide) ?_
    refine lv_istore (lv' := [(5, .int (nI 0)), (4, .int (rsQ z d)), (3, .int (kpQ z d)), (2, .int (z.1 10 d)), (0, .ref (w.2.2 0)), (1, .int (nI d))]) hx hcb dX10_deals_43 hl (by decide) rfl (fun ls hl => ?_)
    rw [← w7_0 (u1 z 0 15 (z.1 0 15 + kpQ z d)) d] at hR
    suffices LP_45 : ∀ (nn : Nat) (i_ : Nat) (_ : mQ z 12 - i_ < nn) (hi_ : i_ ≤ mQ z 12) (H : Heap) (locs : List Loc) (ls : Array Slot), Rh G w (w7 (u1 z 0 15 (z.1 0 15 + kpQ z d)) d i_) H → va_S (xA w s.heap.size) s.heap H locs → lv_has ls 6 [(0, .ref (w.2.2 0)), (1, .int (nI d)), (4, .int (rsQ z d)), (5, .int (nI i_))] → W p l e rm_X10_deals s mt args below meth c H locs 0 0 Q (F0 mt 45 ls []) from LP_45 ((_) + 1) 0 (Nat.lt_succ_self _) (Nat.zero_le _) _ _ _ hR hS (lv_sub hl [4, 5, 1, 0] rfl)
    intro nn
    induction nn with
    | zero => intro i_ hm_ ; exact absurd hm_ (Nat.not_lt_zero _)
    | succ nn ih_45 =>
      intro i_ hm_45 hi_ H locs ls hR hS hl
      refine lv_iload hx hcb dX10_deals_45 (lv_at hl 3 rfl) ?_
      refine lv_aload_n hx hcb dX10_deals_47 rfl (lv_at hl 0 rfl) ?_
      refine x_getR hx hcb hts hown hK xc10 hR (hw.lo (by decide)) (hw.s0 rfl) 3 (by decide) rfl q_1169 dX10_deals_48 ?_
      refine lv_bipush (v := (nI 12)) hx hcb dX10_deals_51 (by decide) ?_
      refine x_iald hx hcb hK hR (hw.lo (by decide)) (hw.s0 rfl) (k := 12) (by omega) (by decide) dX10_deals_53 ?_
      refine x_top (show ((w7 (u1 z 0 15 (z.1 0 15 + kpQ z d)) d i_).1 2 12) = (nI (mQ z 12)) from hO.1) ?_
      refine lv_icmp_ge (tgt := 85) hx hcb dX10_deals_54 (by decide) (fun c_2 => ?_) (fun c_2 => ?_)
      · skip
        have c_2 : (mQ z 12) ≤ i_ := (nI_leI (by omega) (by omega)).mp c_2
        obtain rfl : mQ z 12 = i_ := by omega
        refine lv_aload_n hx hcb dX10_deals_85 rfl (lv_at hl 0 rfl) ?_
        refine lv_aload_n hx hcb dX10_deals_86 rfl (lv_at hl 0 rfl) ?_
        refine x_getR hx hcb hts hown hK xc10 hR (hw.lo (by decide)) (hw.s0 rfl) 3 (by decide) rfl q_1169 dX10_deals_87 ?_
        refine lv_bipush (v := (nI 12)) hx hcb dX10_deals_90 (by decide) ?_
        refine x_iald hx hcb hK hR (hw.lo (by decide)) (hw.s0 rfl) (k := 12) (by omega) (by decide) dX10_deals_92 ?_
        refine x_top (show ((w7 (u1 z 0 15 (z.1 0 15 + kpQ z d)) d (mQ z 12)).1 2 12) = (nI (mQ z 12)) from hO.1) ?_
        refine lv_iload hx hcb dX10_deals_93 (lv_at hl 2 rfl) ?_
        refine x_abs hx hcb hml hown hts hl.1 q_1366 (by decide) (Nat.le_of_ble_eq_true rfl) (by decide) (by decide) dX10_deals_95 ?_
        refine x_top (show (if 0 ≤ (rsQ z d) then (rsQ z d) else 0 - (rsQ z d)) = (abQ z d) from rfl) ?_
        refine lv_i2l hx hcb dX10_deals_98 rfl ?_
        refine x_topl (show ((abQ z d).toInt64) = ((abQ z d).toInt64) from rfl) ?_
        refine x_ci0 rfl rfl (x_runV hx hcb hml hown hts (c_X10_shares l G w hw (w7 (u1 z 0 15 (z.1 0 15 + kpQ z d)) d (mQ z 12)) _ (mQ z 12) ((abQ z d).toInt64) (jQ ((abQ z d).toInt64) ((w7 (u1 z 0 15 (z.1 0 15 + kpQ z d)) d (mQ z 12)).2 7) (mQ z 12)) (by omega) hsh) mv_X10_shares q_1369 hK hZ hR hS (hw.lo (by decide)) xc10 (hw.s0 rfl) rfl hl.1 rfl (Nat.le_of_ble_eq_true rfl) dX10_deals_99 ⟨by decide, by decide⟩ ⟨by decide, by decide⟩) hS (fun r_3 z_4 H locs hp_5 hR hS => ?_)
        have hps_ := hp_5
        refine lv_if_ne (tgt := 117) hx hcb dX10_deals_102 (by decide) (fun c_6 => ?_) (fun c_6 => ?_)
        · skip
          have hT_ : ¬ xls ((w7 (u1 z 0 15 (z.1 0 15 + kpQ z d)) d (mQ z 12)).2 7) (mQ z 12) = 0 := fun q_ => c_6 (by rw [if_pos q_] at hps_; exact (Prod.mk.inj hps_).1)
          rw [if_neg hT_] at hps_
          have hz_ := (Prod.mk.inj hps_).2
          rw [hz_] at hR
          rw [show (zLL (w7 (u1 z 0 15 (z.1 0 15 + kpQ z d)) d (mQ z 12)) (gvQ (mQ z 12) (jQ ((abQ z d).toInt64) ((w7 (u1 z 0 15 (z.1 0 15 + kpQ z d)) d (mQ z 12)).2 7) (mQ z 12)) (pre (mQ z 12) (gQ ((abQ z d).toInt64) ((w7 (u1 z 0 15 (z.1 0 15 + kpQ z d)) d (mQ z 12)).2 7) (xls ((w7 (u1 z 0 15 (z.1 0 15 + kpQ z d)) d (mQ z 12)).2 7) (mQ z 12))) ((w7 (u1 z 0 15 (z.1 0 15 + kpQ z d)) d (mQ z 12)).2 8), pre (mQ z 12) (rQ ((abQ z d).toInt64) ((w7 (u1 z 0 15 (z.1 0 15 + kpQ z d)) d (mQ z 12)).2 7) (xls ((w7 (u1 z 0 15 (z.1 0 15 + kpQ z d)) d (mQ z 12)).2 7) (mQ z 12))) ((w7 (u1 z 0 15 (z.1 0 15 + kpQ z d)) d (mQ z 12)).2 9)))) = dgQ z d from rfl] at hR
          refine lv_aload_n hx hcb dX10_deals_117 rfl (lv_at hl 0 rfl) ?_
          refine x_getR hx hcb hts hown hK xc10 hR (hw.lo (by decide)) (hw.s0 rfl) 14 (by decide) rfl q_1180 dX10_deals_118 ?_
          refine lv_iload_n hx hcb dX10_deals_121 rfl (lv_at hl 1 rfl) ?_
          refine lv_iload hx hcb dX10_deals_122 (lv_at hl 2 rfl) ?_
          refine x_iast hx hcb hK hR hS (hw.lo (by decide)) (hw.s0 rfl) (k := d) (v := (rsQ z d)) (by omega) (by decide) dX10_deals_124 (fun H locs hR hS => ?_)
          refine lv_iconst (v := (nI 0)) hx hcb dX10_deals_125 (by decide) ?_
          refine lv_istore (lv' := [(5, .int (nI 0)), (0, .ref (w.2.2 0)), (1, .int (nI d)), (4, .int (rsQ z d))]) hx hcb dX10_deals_126 hl (by decide) rfl (fun ls hl => ?_)
          rw [← d11_0 (u1 (dgQ z d) 12 d (rsQ z d)) (rsQ z d)] at hR
          suffices LP_128 : ∀ (nn : Nat) (i_ : Nat) (_ : mQ z 12 - i_ < nn) (hi_ : i_ ≤ mQ z 12) (H : Heap) (locs : List Loc) (ls : Array Slot), Rh G w (d11 (u1 (dgQ z d) 12 d (rsQ z d)) (rsQ z d) i_) H → va_S (xA w s.heap.size) s.heap H locs → lv_has ls 6 [(0, .ref (w.2.2 0)), (4, .int (rsQ z d)), (5, .int (nI i_))] → W p l e rm_X10_deals s mt args below meth c H locs 0 0 Q (F0 mt 128 ls []) from LP_128 ((_) + 1) 0 (Nat.lt_succ_self _) (Nat.zero_le _) _ _ _ hR hS (lv_sub hl [1, 3, 0] rfl)
          intro nn
          induction nn with
          | zero => intro i_ hm_ ; exact absurd hm_ (Nat.not_lt_zero _)
          | succ nn ih_128 =>
            intro i_ hm_128 hi_ H locs ls hR hS hl
            refine lv_iload hx hcb dX10_deals_128 (lv_at hl 2 rfl) ?_
            refine lv_aload_n hx hcb dX10_deals_130 rfl (lv_at hl 0 rfl) ?_
            refine x_getR hx hcb hts hown hK xc10 hR (hw.lo (by decide)) (hw.s0 rfl) 3 (by decide) rfl q_1169 dX10_deals_131 ?_
            refine lv_bipush (v := (nI 12)) hx hcb dX10_deals_134 (by decide) ?_
            refine x_iald hx hcb hK hR (hw.lo (by decide)) (hw.s0 rfl) (k := 12) (by omega) (by decide) dX10_deals_136 ?_
            refine x_top (show ((d11 (u1 (dgQ z d) 12 d (rsQ z d)) (rsQ z d) i_).1 2 12) = (nI (mQ z 12)) from dgQ_m (z := z) (d := d) hO) ?_
            refine lv_icmp_ge (tgt := 175) hx hcb dX10_deals_137 (by decide) (fun c_7 => ?_) (fun c_7 => ?_)
            · skip
              have c_7 : (mQ z 12) ≤ i_ := (nI_leI (by omega) (by omega)).mp c_7
              obtain rfl : mQ z 12 = i_ := by omega
              exact hret (d11 (u1 (dgQ z d) 12 d (rsQ z d)) (rsQ z d) (mQ z 12)) _ _ _ _ dX10_deals_175 hR hS (by unfold dlQ; rw [if_neg hT_])
            · skip
              have c_7 : ¬ (mQ z 12) ≤ i_ := fun h_ => c_7 ((nI_leI (by omega) (by omega)).mpr h_)
              refine lv_aload_n hx hcb dX10_deals_140 rfl (lv_at hl 0 rfl) ?_
              refine x_getR hx hcb hts hown hK xc10 hR (hw.lo (by decide)) (hw.s0 rfl) 13 (by decide) rfl q_1179 dX10_deals_141 ?_
              refine lv_iload hx hcb dX10_deals_144 (lv_at hl 2 rfl) ?_
              refine lv_dup2_11 hx hcb dX10_deals_146 rfl rfl ?_
              refine x_iald hx hcb hK hR (hw.lo (by decide)) (hw.s0 rfl) (k := i_) (by omega) (by decide) dX10_deals_147 ?_
              refine x_top (show ((d11 (u1 (dgQ z d) 12 d (rsQ z d)) (rsQ z d) i_).1 11 i_) = ((u1 (dgQ z d) 12 d (rsQ z d)).1 11 i_) from by unfold d11; rw [ur_at]; exact if_neg (Nat.lt_irrefl _)) ?_
              refine lv_aload_n hx hcb dX10_deals_148 rfl (lv_at hl 0 rfl) ?_
              refine x_getR hx hcb hts hown hK xc10 hR (hw.lo (by decide)) (hw.s0 rfl) 10 (by decide) rfl q_1176 dX10_deals_149 ?_
              refine lv_iload hx hcb dX10_deals_152 (lv_at hl 2 rfl) ?_
              refine x_lald hx hcb hK hR (hw.lo (by decide)) (hw.s0 rfl) (k := i_) (by omega) (by decide) dX10_deals_154 ?_
              refine x_topl (show ((d11 (u1 (dgQ z d) 12 d (rsQ z d)) (rsQ z d) i_).2 8 i_) = ((u1 (dgQ z d) 12 d (rsQ z d)).2 8 i_) from rfl) ?_
              refine lv_l2i hx hcb dX10_deals_155 rfl ?_
              refine lv_iload hx hcb dX10_deals_156 (lv_at hl 1 rfl) ?_
              refine lv_if_ge (tgt := 165) hx hcb dX10_deals_158 (by decide) (fun c_8 => ?_) (fun c_8 => ?_)
              · skip
                have hs_ : ¬ rsQ z d < 0 := Int32.not_lt.mpr c_8
                refine lv_iconst (v := (nI 1)) hx hcb dX10_deals_165 (by decide) ?_
                refine x_top (show (nI 1) = sgQ (rsQ z d) from by unfold sgQ; first | rw [if_pos hs_] | rw [if_neg hs_]) ?_
                refine lv_imul hx hcb dX10_deals_166 ?_
                refine lv_iadd hx hcb dX10_deals_167 ?_
                refine x_iast hx hcb hK hR hS (hw.lo (by decide)) (hw.s0 rfl) (k := i_) (v := (((u1 (dgQ z d) 12 d (rsQ z d)).1 11 i_) + ((((u1 (dgQ z d) 12 d (rsQ z d)).2 8 i_).toInt32) * (sgQ (rsQ z d))))) (by omega) (by decide) dX10_deals_168 (fun H locs hR hS => ?_)
                refine lv_iinc (v := (nI (i_ + 1))) (lv' := [(5, .int (nI (i_ + 1))), (0, .ref (w.2.2 0)), (4, .int (rsQ z d))]) hx hcb dX10_deals_169 hl (k := 2) rfl (x_iinc1 _) (by decide) rfl (fun ls hl => ?_)
                refine lv_goto (tgt := 128) hx hcb dX10_deals_172 (by decide) ?_
                rw [show (u1 (d11 (u1 (dgQ z d) 12 d (rsQ z d)) (rsQ z d) i_) 11 i_ (((u1 (dgQ z d) 12 d (rsQ z d)).1 11 i_) + ((((u1 (dgQ z d) 12 d (rsQ z d)).2 8 i_).toInt32) * (sgQ (rsQ z d))))) = (d11 (u1 (dgQ z d) 12 d (rsQ z d)) (rsQ z d) (i_ + 1)) from d11_s ..] at hR
                exact ih_128 (i_ + 1) (by omega) (by omega) _ _ _ hR hS (lv_sub hl [1, 2, 0] rfl)
              · skip
                have hs_ : rsQ z d < 0 := Int32.not_le.mp c_8
                refine lv_iconst (v := (-1)) hx hcb dX10_deals_161 (by decide) ?_
                refine lv_goto (tgt := 166) hx hcb dX10_deals_162 (by decide) ?_
                refine x_top (show (-1) = sgQ (rsQ z d) from by unfold sgQ; first | rw [if_pos hs_] | rw [if_neg hs_]) ?_
                refine lv_imul hx hcb dX10_deals_166 ?_
                refine lv_iadd hx hcb dX10_deals_167 ?_
                refine x_iast hx hcb hK hR hS (hw.lo (by decide)) (hw.s0 rfl) (k := i_) (v := (((u1 (dgQ z d) 12 d (rsQ z d)).1 11 i_) + ((((u1 (dgQ z d) 12 d (rsQ z d)).2 8 i_).toInt32) * (sgQ (rsQ z d))))) (by omega) (by decide) dX10_deals_168 (fun H locs hR hS => ?_)
                refine lv_iinc (v := (nI (i_ + 1))) (lv' := [(5, .int (nI (i_ + 1))), (0, .ref (w.2.2 0)), (4, .int (rsQ z d))]) hx hcb dX10_deals_169 hl (k := 2) rfl (x_iinc1 _) (by decide) rfl (fun ls hl => ?_)
                refine lv_goto (tgt := 128) hx hcb dX10_deals_172 (by decide) ?_
                rw [show (u1 (d11 (u1 (dgQ z d) 12 d (rsQ z d)) (rsQ z d) i_) 11 i_ (((u1 (dgQ z d) 12 d (rsQ z d)).1 11 i_) + ((((u1 (dgQ z d) 12 d (rsQ z d)).2 8 i_).toInt32) * (sgQ (rsQ z d))))) = (d11 (u1 (dgQ z d) 12 d (rsQ z d)) (rsQ z d) (i_ + 1)) from d11_s ..] at hR
                exact ih_128 (i_ + 1) (by omega) (by omega) _ _ _ hR hS (lv_sub hl [1, 2, 0] rfl)
        · skip
          have hT_ : xls ((w7 (u1 z 0 15 (z.1 0 15 + kpQ z d)) d (mQ z 12)).2 7) (mQ z 12) = 0 := Classical.byContradiction (fun q_ => by rw [if_neg q_] at hps_; rw [c_6] at hps_; exact absurd (Prod.mk.inj hps_).1 (by decide))
          rw [if_pos hT_] at hps_
          have hz_ := (Prod.mk.inj hps_).2
          rw [hz_] at hR
          refine lv_aload_n hx hcb dX10_deals_105 rfl (lv_at hl 0 rfl) ?_
          refine lv_dup hx hcb dX10_deals_106 rfl ?_
          refine x_getI hx hcb hts hown hK xc10 hR (hw.lo (by decide)) (hw.s0 rfl) 15 (by decide) rfl q_1181 dX10_deals_107 ?_
          refine lv_iload hx hcb dX10_deals_110 (lv_at hl 2 rfl) ?_
          refine lv_iadd hx hcb dX10_deals_112 ?_
          refine x_putI hx hcb hts hown hK xc10 hR hS (hw.lo (by decide)) (hw.s0 rfl) 15 (by decide) rfl q_1181 rfl (v := (((w7 (u1 z 0 15 (z.1 0 15 + kpQ z d)) d (mQ z 12)).1 0 15) + (rsQ z d))) rfl rfl dX10_deals_113 (fun H locs hR hS => ?_)
          exact hret (u1 (w7 (u1 z 0 15 (z.1 0 15 + kpQ z d)) d (mQ z 12)) 0 15 (((w7 (u1 z 0 15 (z.1 0 15 + kpQ z d)) d (mQ z 12)).1 0 15) + (rsQ z d))) _ _ _ _ dX10_deals_116 hR hS (by unfold dlQ; rw [if_pos hT_])
      · skip
        have c_2 : ¬ (mQ z 12) ≤ i_ := fun h_ => c_2 ((nI_leI (by omega) (by omega)).mpr h_)
        refine lv_aload_n hx hcb dX10_deals_57 rfl (lv_at hl 0 rfl) ?_
        refine x_getR hx hcb hts hown hK xc10 hR (hw.lo (by decide)) (hw.s0 rfl) 9 (by decide) rfl q_1175 dX10_deals_58 ?_
        refine lv_iload hx hcb dX10_deals_61 (lv_at hl 3 rfl) ?_
        refine lv_aload_n hx hcb dX10_deals_63 rfl (lv_at hl 0 rfl) ?_
        refine x_getR hx hcb hts hown hK xc10 hR (hw.lo (by decide)) (hw.s0 rfl) 5 (by decide) rfl q_1171 dX10_deals_64 ?_
        refine lv_bipush (v := (nI 29)) hx hcb dX10_deals_67 (by decide) ?_
        refine lv_iconst (v := (nI 4)) hx hcb dX10_deals_69 (by decide) ?_
        refine lv_iload hx hcb dX10_deals_70 (lv_at hl 3 rfl) ?_
        refine x_imulN hx hcb dX10_deals_72 ?_
        refine x_iaddN hx hcb dX10_deals_73 ?_
        refine lv_iload_n hx hcb dX10_deals_74 rfl (lv_at hl 1 rfl) ?_
        refine x_iaddN hx hcb dX10_deals_75 ?_
        refine x_iald hx hcb hK hR (hw.lo (by decide)) (hw.s0 rfl) (k := ((29 + (4 * i_)) + d)) (by omega) (by decide) dX10_deals_76 ?_
        refine x_top (show ((w7 (u1 z 0 15 (z.1 0 15 + kpQ z d)) d i_).1 4 ((29 + (4 * i_)) + d)) = (z.1 4 (29 + 4 * i_ + d)) from rfl) ?_
        refine lv_i2l hx hcb dX10_deals_77 rfl ?_
        refine x_last hx hcb hK hR hS (hw.lo (by decide)) (hw.s0 rfl) (k := i_) (v := ((z.1 4 (29 + 4 * i_ + d)).toInt64)) (by omega) (by decide) dX10_deals_78 (fun H locs hR hS => ?_)
        refine lv_iinc (v := (nI (i_ + 1))) (lv' := [(5, .int (nI (i_ + 1))), (0, .ref (w.2.2 0)), (1, .int (nI d)), (4, .int (rsQ z d))]) hx hcb dX10_deals_79 hl (k := 3) rfl (x_iinc1 _) (by decide) rfl (fun ls hl => ?_)
        refine lv_goto (tgt := 45) hx hcb dX10_deals_82 (by decide) ?_
        rw [show (u2 (w7 (u1 z 0 15 (z.1 0 15 + kpQ z d)) d i_) 7 i_ ((z.1 4 (29 + 4 * i_ + d)).toInt64)) = (w7 (u1 z 0 15 (z.1 0 15 + kpQ z d)) d (i_ + 1)) from w7_s ..] at hR
        exact ih_45 (i_ + 1) (by omega) (by omega) _ _ _ hR hS (lv_sub hl [1, 2, 3, 0] rfl)
  · skip
    have hk_ : 0 < z.1 10 d := Int32.not_le.mp c_1
    refine lv_iload_n hx hcb dX10_deals_11 rfl (lv_at hl 0 rfl) ?_
    refine lv_aload_n hx hcb dX10_deals_12 rfl (lv_at hl 1 rfl) ?_
    refine x_getR hx hcb hts hown hK xc10 hR (hw.lo (by decide)) (hw.s0 rfl) 5 (by decide) rfl q_1171 dX10_deals_13 ?_
    refine lv_iconst (v := (nI 1)) hx hcb dX10_deals_16 (by decide) ?_
    refine x_iald hx hcb hK hR (hw.lo (by decide)) (hw.s0 rfl) (k := 1) (by omega) (by decide) dX10_deals_17 ?_
    refine lv_imul hx hcb dX10_deals_18 ?_
    refine lv_bipush (v := (nI 100)) hx hcb dX10_deals_19 (by decide) ?_
    refine lv_idiv hx hcb dX10_deals_21 (by decide) ?_
    refine lv_goto (tgt := 26) hx hcb dX10_deals_22 (by decide) ?_
    refine x_top (show (((z.1 10 d) * (z.1 4 1)) / (nI 100)) = kpQ z d from by unfold kpQ; first | rw [if_pos hk_] | rw [if_neg hk_]) ?_
    refine lv_istore_n (lv' := [(3, .int (kpQ z d)), (2, .int (z.1 10 d)), (0, .ref (w.2.2 0)), (1, .int (nI d))]) hx hcb dX10_deals_26 rfl hl (by decide) rfl (fun ls hl => ?_)
    refine lv_iload_n hx hcb dX10_deals_27 rfl (lv_at hl 1 rfl) ?_
    refine lv_iload_n hx hcb dX10_deals_28 rfl (lv_at hl 0 rfl) ?_
    refine lv_isub hx hcb dX10_deals_29 ?_
    refine x_top (show ((z.1 10 d) - (kpQ z d)) = (rsQ z d) from rfl) ?_
    refine lv_istore (lv' := [(4, .int (rsQ z d)), (3, .int (kpQ z d)), (2, .int (z.1 10 d)), (0, .ref (w.2.2 0)), (1, .int (nI d))]) hx hcb dX10_deals_30 hl (by decide) rfl (fun ls hl => ?_)
    refine lv_aload_n hx hcb dX10_deals_32 rfl (lv_at hl 3 rfl) ?_
    refine lv_dup hx hcb dX10_deals_33 rfl ?_
    refine x_getI hx hcb hts hown hK xc10 hR (hw.lo (by decide)) (hw.s0 rfl) 15 (by decide) rfl q_1181 dX10_deals_34 ?_
    refine lv_iload_n hx hcb dX10_deals_37 rfl (lv_at hl 1 rfl) ?_
    refine lv_iadd hx hcb dX10_deals_38 ?_
    refine x_putI hx hcb hts hown hK xc10 hR hS (hw.lo (by decide)) (hw.s0 rfl) 15 (by decide) rfl q_1181 rfl (v := ((z.1 0 15) + (kpQ z d))) rfl rfl dX10_deals_39 (fun H locs hR hS => ?_)
    refine lv_iconst (v := (nI 0)) hx hcb dX10_deals_42 (by decide) ?_
    refine lv_istore (lv' := [(5, .int (nI 0)), (4, .int (rsQ z d)), (3, .int (kpQ z d)), (2, .int (z.1 10 d)), (0, .ref (w.2.2 0)), (1, .int (nI d))]) hx hcb dX10_deals_43 hl (by decide) rfl (fun ls hl => ?_)
    rw [← w7_0 (u1 z 0 15 (z.1 0 15 + kpQ z d)) d] at hR
    suffices LP_45 : ∀ (nn : Nat) (i_ : Nat) (_ : mQ z 12 - i_ < nn) (hi_ : i_ ≤ mQ z 12) (H : Heap) (locs : List Loc) (ls : Array Slot), Rh G w (w7 (u1 z 0 15 (z.1 0 15 + kpQ z d)) d i_) H → va_S (xA w s.heap.size) s.heap H locs → lv_has ls 6 [(0, .ref (w.2.2 0)), (1, .int (nI d)), (4, .int (rsQ z d)), (5, .int (nI i_))] → W p l e rm_X10_deals s mt args below meth c H locs 0 0 Q (F0 mt 45 ls []) from LP_45 ((_) + 1) 0 (Nat.lt_succ_self _) (Nat.zero_le _) _ _ _ hR hS (lv_sub hl [4, 5, 1, 0] rfl)
    intro nn
    induction nn with
    | zero => intro i_ hm_ ; exact absurd hm_ (Nat.not_lt_zero _)
    | succ nn ih_45 =>
      intro i_ hm_45 hi_ H locs ls hR hS hl
      refine lv_iload hx hcb dX10_deals_45 (lv_at hl 3 rfl) ?_
      refine lv_aload_n hx hcb dX10_deals_47 rfl (lv_at hl 0 rfl) ?_
      refine x_getR hx hcb hts hown hK xc10 hR (hw.lo (by decide)) (hw.s0 rfl) 3 (by decide) rfl q_1169 dX10_deals_48 ?_
      refine lv_bipush (v := (nI 12)) hx hcb dX10_deals_51 (by decide) ?_
      refine x_iald hx hcb hK hR (hw.lo (by decide)) (hw.s0 rfl) (k := 12) (by omega) (by decide) dX10_deals_53 ?_
      refine x_top (show ((w7 (u1 z 0 15 (z.1 0 15 + kpQ z d)) d i_).1 2 12) = (nI (mQ z 12)) from hO.1) ?_
      refine lv_icmp_ge (tgt := 85) hx hcb dX10_deals_54 (by decide) (fun c_9 => ?_) (fun c_9 => ?_)
      · skip
        have c_9 : (mQ z 12) ≤ i_ := (nI_leI (by omega) (by omega)).mp c_9
        obtain rfl : mQ z 12 = i_ := by omega
        refine lv_aload_n hx hcb dX10_deals_85 rfl (lv_at hl 0 rfl) ?_
        refine lv_aload_n hx hcb dX10_deals_86 rfl (lv_at hl 0 rfl) ?_
        refine x_getR hx hcb hts hown hK xc10 hR (hw.lo (by decide)) (hw.s0 rfl) 3 (by decide) rfl q_1169 dX10_deals_87 ?_
        refine lv_bipush (v := (nI 12)) hx hcb dX10_deals_90 (by decide) ?_
        refine x_iald hx hcb hK hR (hw.lo (by decide)) (hw.s0 rfl) (k := 12) (by omega) (by decide) dX10_deals_92 ?_
        refine x_top (show ((w7 (u1 z 0 15 (z.1 0 15 + kpQ z d)) d (mQ z 12)).1 2 12) = (nI (mQ z 12)) from hO.1) ?_
        refine lv_iload hx hcb dX10_deals_93 (lv_at hl 2 rfl) ?_
        refine x_abs hx hcb hml hown hts hl.1 q_1366 (by decide) (Nat.le_of_ble_eq_true rfl) (by decide) (by decide) dX10_deals_95 ?_
        refine x_top (show (if 0 ≤ (rsQ z d) then (rsQ z d) else 0 - (rsQ z d)) = (abQ z d) from rfl) ?_
        refine lv_i2l hx hcb dX10_deals_98 rfl ?_
        refine x_topl (show ((abQ z d).toInt64) = ((abQ z d).toInt64) from rfl) ?_
        refine x_ci0 rfl rfl (x_runV hx hcb hml hown hts (c_X10_shares l G w hw (w7 (u1 z 0 15 (z.1 0 15 + kpQ z d)) d (mQ z 12)) _ (mQ z 12) ((abQ z d).toInt64) (jQ ((abQ z d).toInt64) ((w7 (u1 z 0 15 (z.1 0 15 + kpQ z d)) d (mQ z 12)).2 7) (mQ z 12)) (by omega) hsh) mv_X10_shares q_1369 hK hZ hR hS (hw.lo (by decide)) xc10 (hw.s0 rfl) rfl hl.1 rfl (Nat.le_of_ble_eq_true rfl) dX10_deals_99 ⟨by decide, by decide⟩ ⟨by decide, by decide⟩) hS (fun r_10 z_11 H locs hp_12 hR hS => ?_)
        have hps_ := hp_12
        refine lv_if_ne (tgt := 117) hx hcb dX10_deals_102 (by decide) (fun c_13 => ?_) (fun c_13 => ?_)
        · skip
          have hT_ : ¬ xls ((w7 (u1 z 0 15 (z.1 0 15 + kpQ z d)) d (mQ z 12)).2 7) (mQ z 12) = 0 := fun q_ => c_13 (by rw [if_pos q_] at hps_; exact (Prod.mk.inj hps_).1)
          rw [if_neg hT_] at hps_
          have hz_ := (Prod.mk.inj hps_).2
          rw [hz_] at hR
          rw [show (zLL (w7 (u1 z 0 15 (z.1 0 15 + kpQ z d)) d (mQ z 12)) (gvQ (mQ z 12) (jQ ((abQ z d).toInt64) ((w7 (u1 z 0 15 (z.1 0 15 + kpQ z d)) d (mQ z 12)).2 7) (mQ z 12)) (pre (mQ z 12) (gQ ((abQ z d).toInt64) ((w7 (u1 z 0 15 (z.1 0 15 + kpQ z d)) d (mQ z 12)).2 7) (xls ((w7 (u1 z 0 15 (z.1 0 15 + kpQ z d)) d (mQ z 12)).2 7) (mQ z 12))) ((w7 (u1 z 0 15 (z.1 0 15 + kpQ z d)) d (mQ z 12)).2 8), pre (mQ z 12) (rQ ((abQ z d).toInt64) ((w7 (u1 z 0 15 (z.1 0 15 + kpQ z d)) d (mQ z 12)).2 7) (xls ((w7 (u1 z 0 15 (z.1 0 15 + kpQ z d)) d (mQ z 12)).2 7) (mQ z 12))) ((w7 (u1 z 0 15 (z.1 0 15 + kpQ z d)) d (mQ z 12)).2 9)))) = dgQ z d from rfl] at hR
          refine lv_aload_n hx hcb dX10_deals_117 rfl (lv_at hl 0 rfl) ?_
          refine x_getR hx hcb hts hown hK xc10 hR (hw.lo (by decide)) (hw.s0 rfl) 14 (by decide) rfl q_1180 dX10_deals_118 ?_
          refine lv_iload_n hx hcb dX10_deals_121 rfl (lv_at hl 1 rfl) ?_
          refine lv_iload hx hcb dX10_deals_122 (lv_at hl 2 rfl) ?_
          refine x_iast hx hcb hK hR hS (hw.lo (by decide)) (hw.s0 rfl) (k := d) (v := (rsQ z d)) (by omega) (by decide) dX10_deals_124 (fun H locs hR hS => ?_)
          refine lv_iconst (v := (nI 0)) hx hcb dX10_deals_125 (by decide) ?_
          refine lv_istore (lv' := [(5, .int (nI 0)), (0, .ref (w.2.2 0)), (1, .int (nI d)), (4, .int (rsQ z d))]) hx hcb dX10_deals_126 hl (by decide) rfl (fun ls hl => ?_)
          rw [← d11_0 (u1 (dgQ z d) 12 d (rsQ z d)) (rsQ z d)] at hR
          suffices LP_128 : ∀ (nn : Nat) (i_ : Nat) (_ : mQ z 12 - i_ < nn) (hi_ : i_ ≤ mQ z 12) (H : Heap) (locs : List Loc) (ls : Array Slot), Rh G w (d11 (u1 (dgQ z d) 12 d (rsQ z d)) (rsQ z d) i_) H → va_S (xA w s.heap.size) s.heap H locs → lv_has ls 6 [(0, .ref (w.2.2 0)), (4, .int (rsQ z d)), (5, .int (nI i_))] → W p l e rm_X10_deals s mt args below meth c H locs 0 0 Q (F0 mt 128 ls []) from LP_128 ((_) + 1) 0 (Nat.lt_succ_self _) (Nat.zero_le _) _ _ _ hR hS (lv_sub hl [1, 3, 0] rfl)
          intro nn
          induction nn with
          | zero => intro i_ hm_ ; exact absurd hm_ (Nat.not_lt_zero _)
          | succ nn ih_128 =>
            intro i_ hm_128 hi_ H locs ls hR hS hl
            refine lv_iload hx hcb dX10_deals_128 (lv_at hl 2 rfl) ?_
            refine lv_aload_n hx hcb dX10_deals_130 rfl (lv_at hl 0 rfl) ?_
            refine x_getR hx hcb hts hown hK xc10 hR (hw.lo (by decide)) (hw.s0 rfl) 3 (by decide) rfl q_1169 dX10_deals_131 ?_
            refine lv_bipush (v := (nI 12)) hx hcb dX10_deals_134 (by decide) ?_
            refine x_iald hx hcb hK hR (hw.lo (by decide)) (hw.s0 rfl) (k := 12) (by omega) (by decide) dX10_deals_136 ?_
            refine x_top (show ((d11 (u1 (dgQ z d) 12 d (rsQ z d)) (rsQ z d) i_).1 2 12) = (nI (mQ z 12)) from dgQ_m (z := z) (d := d) hO) ?_
            refine lv_icmp_ge (tgt := 175) hx hcb dX10_deals_137 (by decide) (fun c_14 => ?_) (fun c_14 => ?_)
            · skip
              have c_14 : (mQ z 12) ≤ i_ := (nI_leI (by omega) (by omega)).mp c_14
              obtain rfl : mQ z 12 = i_ := by omega
              exact hret (d11 (u1 (dgQ z d) 12 d (rsQ z d)) (rsQ z d) (mQ z 12)) _ _ _ _ dX10_deals_175 hR hS (by unfold dlQ; rw [if_neg hT_])
            · skip
              have c_14 : ¬ (mQ z 12) ≤ i_ := fun h_ => c_14 ((nI_leI (by omega) (by omega)).mpr h_)
              refine lv_aload_n hx hcb dX10_deals_140 rfl (lv_at hl 0 rfl) ?_
              refine x_getR hx hcb hts hown hK xc10 hR (hw.lo (by decide)) (hw.s0 rfl) 13 (by decide) rfl q_1179 dX10_deals_141 ?_
              refine lv_iload hx hcb dX10_deals_144 (lv_at hl 2 rfl) ?_
              refine lv_dup2_11 hx hcb dX10_deals_146 rfl rfl ?_
              refine x_iald hx hcb hK hR (hw.lo (by decide)) (hw.s0 rfl) (k := i_) (by omega) (by decide) dX10_deals_147 ?_
              refine x_top (show ((d11 (u1 (dgQ z d) 12 d (rsQ z d)) (rsQ z d) i_).1 11 i_) = ((u1 (dgQ z d) 12 d (rsQ z d)).1 11 i_) from by unfold d11; rw [ur_at]; exact if_neg (Nat.lt_irrefl _)) ?_
              refine lv_aload_n hx hcb dX10_deals_148 rfl (lv_at hl 0 rfl) ?_
              refine x_getR hx hcb hts hown hK xc10 hR (hw.lo (by decide)) (hw.s0 rfl) 10 (by decide) rfl q_1176 dX10_deals_149 ?_
              refine lv_iload hx hcb dX10_deals_152 (lv_at hl 2 rfl) ?_
              refine x_lald hx hcb hK hR (hw.lo (by decide)) (hw.s0 rfl) (k := i_) (by omega) (by decide) dX10_deals_154 ?_
              refine x_topl (show ((d11 (u1 (dgQ z d) 12 d (rsQ z d)) (rsQ z d) i_).2 8 i_) = ((u1 (dgQ z d) 12 d (rsQ z d)).2 8 i_) from rfl) ?_
              refine lv_l2i hx hcb dX10_deals_155 rfl ?_
              refine lv_iload hx hcb dX10_deals_156 (lv_at hl 1 rfl) ?_
              refine lv_if_ge (tgt := 165) hx hcb dX10_deals_158 (by decide) (fun c_15 => ?_) (fun c_15 => ?_)
              · skip
                have hs_ : ¬ rsQ z d < 0 := Int32.not_lt.mpr c_15
                refine lv_iconst (v := (nI 1)) hx hcb dX10_deals_165 (by decide) ?_
                refine x_top (show (nI 1) = sgQ (rsQ z d) from by unfold sgQ; first | rw [if_pos hs_] | rw [if_neg hs_]) ?_
                refine lv_imul hx hcb dX10_deals_166 ?_
                refine lv_iadd hx hcb dX10_deals_167 ?_
                refine x_iast hx hcb hK hR hS (hw.lo (by decide)) (hw.s0 rfl) (k := i_) (v := (((u1 (dgQ z d) 12 d (rsQ z d)).1 11 i_) + ((((u1 (dgQ z d) 12 d (rsQ z d)).2 8 i_).toInt32) * (sgQ (rsQ z d))))) (by omega) (by decide) dX10_deals_168 (fun H locs hR hS => ?_)
                refine lv_iinc (v := (nI (i_ + 1))) (lv' := [(5, .int (nI (i_ + 1))), (0, .ref (w.2.2 0)), (4, .int (rsQ z d))]) hx hcb dX10_deals_169 hl (k := 2) rfl (x_iinc1 _) (by decide) rfl (fun ls hl => ?_)
                refine lv_goto (tgt := 128) hx hcb dX10_deals_172 (by decide) ?_
                rw [show (u1 (d11 (u1 (dgQ z d) 12 d (rsQ z d)) (rsQ z d) i_) 11 i_ (((u1 (dgQ z d) 12 d (rsQ z d)).1 11 i_) + ((((u1 (dgQ z d) 12 d (rsQ z d)).2 8 i_).toInt32) * (sgQ (rsQ z d))))) = (d11 (u1 (dgQ z d) 12 d (rsQ z d)) (rsQ z d) (i_ + 1)) from d11_s ..] at hR
                exact ih_128 (i_ + 1) (by omega) (by omega) _ _ _ hR hS (lv_sub hl [1, 2, 0] rfl)
              · skip
                have hs_ : rsQ z d < 0 := Int32.not_le.mp c_15
                refine lv_iconst (v := (-1)) hx hcb dX10_deals_161 (by decide) ?_
                refine lv_goto (tgt := 166) hx hcb dX10_deals_162 (by decide) ?_
                refine x_top (show (-1) = sgQ (rsQ z d) from by unfold sgQ; first | rw [if_pos hs_] | rw [if_neg hs_]) ?_
                refine lv_imul hx hcb dX10_deals_166 ?_
                refine lv_iadd hx hcb dX10_deals_167 ?_
                refine x_iast hx hcb hK hR hS (hw.lo (by decide)) (hw.s0 rfl) (k := i_) (v := (((u1 (dgQ z d) 12 d (rsQ z d)).1 11 i_) + ((((u1 (dgQ z d) 12 d (rsQ z d)).2 8 i_).toInt32) * (sgQ (rsQ z d))))) (by omega) (by decide) dX10_deals_168 (fun H locs hR hS => ?_)
                refine lv_iinc (v := (nI (i_ + 1))) (lv' := [(5, .int (nI (i_ + 1))), (0, .ref (w.2.2 0)), (4, .int (rsQ z d))]) hx hcb dX10_deals_169 hl (k := 2) rfl (x_iinc1 _) (by decide) rfl (fun ls hl => ?_)
                refine lv_goto (tgt := 128) hx hcb dX10_deals_172 (by decide) ?_
                rw [show (u1 (d11 (u1 (dgQ z d) 12 d (rsQ z d)) (rsQ z d) i_) 11 i_ (((u1 (dgQ z d) 12 d (rsQ z d)).1 11 i_) + ((((u1 (dgQ z d) 12 d (rsQ z d)).2 8 i_).toInt32) * (sgQ (rsQ z d))))) = (d11 (u1 (dgQ z d) 12 d (rsQ z d)) (rsQ z d) (i_ + 1)) from d11_s ..] at hR
                exact ih_128 (i_ + 1) (by omega) (by omega) _ _ _ hR hS (lv_sub hl [1, 2, 0] rfl)
        · skip
          have hT_ : xls ((w7 (u1 z 0 15 (z.1 0 15 + kpQ z d)) d (mQ z 12)).2 7) (mQ z 12) = 0 := Classical.byContradiction (fun q_ => by rw [if_neg q_] at hps_; rw [c_13] at hps_; exact absurd (Prod.mk.inj hps_).1 (by decide))
          rw [if_pos hT_] at hps_
          have hz_ := (Prod.mk.inj hps_).2
          rw [hz_] at hR
          refine lv_aload_n hx hcb dX10_deals_105 rfl (lv_at hl 0 rfl) ?_
          refine lv_dup hx hcb dX10_deals_106 rfl ?_
          refine x_getI hx hcb hts hown hK xc10 hR (hw.lo (by decide)) (hw.s0 rfl) 15 (by decide) rfl q_1181 dX10_deals_107 ?_
          refine lv_iload hx hcb dX10_deals_110 (lv_at hl 2 rfl) ?_
          refine lv_iadd hx hcb dX10_deals_112 ?_
          refine x_putI hx hcb hts hown hK xc10 hR hS (hw.lo (by decide)) (hw.s0 rfl) 15 (by decide) rfl q_1181 rfl (v := (((w7 (u1 z 0 15 (z.1 0 15 + kpQ z d)) d (mQ z 12)).1 0 15) + (rsQ z d))) rfl rfl dX10_deals_113 (fun H locs hR hS => ?_)
          exact hret (u1 (w7 (u1 z 0 15 (z.1 0 15 + kpQ z d)) d (mQ z 12)) 0 15 (((w7 (u1 z 0 15 (z.1 0 15 + kpQ z d)) d (mQ z 12)).1 0 15) + (rsQ z d))) _ _ _ _ dX10_deals_116 hR hS (by unfold dlQ; rw [if_pos hT_])
      · skip
        have c_9 : ¬ (mQ z 12) ≤ i_ := fun h_ => c_9 ((nI_leI (by omega) (by omega)).mpr h_)
        refine lv_aload_n hx hcb dX10_deals_57 rfl (lv_at hl 0 rfl) ?_
        refine x_getR hx hcb hts hown hK xc10 hR (hw.lo (by decide)) (hw.s0 rfl) 9 (by decide) rfl q_1175 dX10_deals_58 ?_
        refine lv_iload hx hcb dX10_deals_61 (lv_at hl 3 rfl) ?_
        refine lv_aload_n hx hcb dX10_deals_63 rfl (lv_at hl 0 rfl) ?_
        refine x_getR hx hcb hts hown hK xc10 hR (hw.lo (by decide)) (hw.s0 rfl) 5 (by decide) rfl q_1171 dX10_deals_64 ?_
        refine lv_bipush (v := (nI 29)) hx hcb dX10_deals_67 (by decide) ?_
        refine lv_iconst (v := (nI 4)) hx hcb dX10_deals_69 (by decide) ?_
        refine lv_iload hx hcb dX10_deals_70 (lv_at hl 3 rfl) ?_
        refine x_imulN hx hcb dX10_deals_72 ?_
        refine x_iaddN hx hcb dX10_deals_73 ?_
        refine lv_iload_n hx hcb dX10_deals_74 rfl (lv_at hl 1 rfl) ?_
        refine x_iaddN hx hcb dX10_deals_75 ?_
        refine x_iald hx hcb hK hR (hw.lo (by decide)) (hw.s0 rfl) (k := ((29 + (4 * i_)) + d)) (by omega) (by decide) dX10_deals_76 ?_
        refine x_top (show ((w7 (u1 z 0 15 (z.1 0 15 + kpQ z d)) d i_).1 4 ((29 + (4 * i_)) + d)) = (z.1 4 (29 + 4 * i_ + d)) from rfl) ?_
        refine lv_i2l hx hcb dX10_deals_77 rfl ?_
        refine x_last hx hcb hK hR hS (hw.lo (by decide)) (hw.s0 rfl) (k := i_) (v := ((z.1 4 (29 + 4 * i_ + d)).toInt64)) (by omega) (by decide) dX10_deals_78 (fun H locs hR hS => ?_)
        refine lv_iinc (v := (nI (i_ + 1))) (lv' := [(5, .int (nI (i_ + 1))), (0, .ref (w.2.2 0)), (1, .int (nI d)), (4, .int (rsQ z d))]) hx hcb dX10_deals_79 hl (k := 3) rfl (x_iinc1 _) (by decide) rfl (fun ls hl => ?_)
        refine lv_goto (tgt := 45) hx hcb dX10_deals_82 (by decide) ?_
        rw [show (u2 (w7 (u1 z 0 15 (z.1 0 15 + kpQ z d)) d i_) 7 i_ ((z.1 4 (29 + 4 * i_ + d)).toInt64)) = (w7 (u1 z 0 15 (z.1 0 15 + kpQ z d)) d (i_ + 1)) from w7_s ..] at hR
        exact ih_45 (i_ + 1) (by omega) (by omega) _ _ _ hR hS (lv_sub hl [1, 2, 3, 0] rfl)
