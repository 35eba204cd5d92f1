/-! THE REFERENCE: tokens -/
def aQ (z : xSt) : Nat := (z.1 0 21).toNatClampNeg
def sQ (z : xSt) : Nat := (z.1 0 20).toNatClampNeg
def zPr (z : xSt) : Prop := z.1 0 21 = nI (aQ z) ∧ z.1 0 20 = nI (sQ z) ∧ aQ z ≤ sQ z ∧ sQ z ≤ 900
def RQr (z : xSt) (a p t v : Int32) : xSt := ur z 0 (va_up (va_up (va_up (va_up (z.1 0) 21 a) 22 p) 23 t) 24 v)
theorem rq_0 {z : xSt} {n : Nat} (h : z.1 0 21 = nI n) : z = RQr z (nI n) (z.1 0 22) (z.1 0 23) (z.1 0 24) := by
  unfold RQr
  rw [← h, va_up_id, va_up_id, va_up_id, va_up_id, ur_id]
theorem rq_24 (z : xSt) (a p t v x : Int32) : u1 (RQr z a p t v) 0 24 x = RQr z a p t x := by unfold RQr; rw [u1_ur, up_up]
theorem rq_23 (z : xSt) (a p t v x : Int32) : u1 (RQr z a p t v) 0 23 x = RQr z a p x v := by unfold RQr; rw [u1_ur, up_sw (by omega), up_up]
theorem rq_22 (z : xSt) (a p t v x : Int32) : u1 (RQr z a p t v) 0 22 x = RQr z a x t v := by unfold RQr; rw [u1_ur, up_sw (by omega), up_sw (f := va_up _ 22 p) (by omega), up_up]
theorem rq_21 (z : xSt) (a p t v x : Int32) : u1 (RQr z a p t v) 0 21 x = RQr z x p t v := by unfold RQr; rw [u1_ur, up_sw (by omega), up_sw (f := va_up (va_up _ 21 a) 22 p) (by omega), up_sw (f := va_up _ 21 a) (by omega), up_up]
def wsQ (r : Nat → Int32) (n : Nat) : Nat → Nat → Nat
  | 0, a => a
  | k + 1, a => if hQ r n a = nI 10 ∨ hQ r n a = nI 32 then wsQ r n k (a + 1) else a
theorem wsQ_s {r : Nat → Int32} {n m k a : Nat} (h : m = k + 1) : wsQ r n m a = if hQ r n a = nI 10 ∨ hQ r n a = nI 32 then wsQ r n k (a + 1) else a := by rw [h]; rfl
def smQ (r : Nat → Int32) (n : Nat) : Nat → Nat → Nat
  | 0, a => a
  | k + 1, a => if iSm (hQ r n a) then smQ r n k (a + 1) else a
theorem smQ_s {r : Nat → Int32} {n m k a : Nat} (h : m = k + 1) : smQ r n m a = if iSm (hQ r n a) then smQ r n k (a + 1) else a := by rw [h]; rfl
def dgR (r : Nat → Int32) (n : Nat) : Nat → Nat → Int32 → Nat × Int32
  | 0, a, v => (a, v)
  | k + 1, a, v => if iDg (hQ r n a) then dgR r n k (a + 1) (if v ≤ nI 10000000 then nI 10 * v + hQ r n a - nI 48 else v) else (a, v)
theorem dgR_s {r : Nat → Int32} {n m k a : Nat} {v : Int32} (h : m = k + 1) : dgR r n m a v = if iDg (hQ r n a) then dgR r n k (a + 1) (if v ≤ nI 10000000 then nI 10 * v + hQ r n a - nI 48 else v) else (a, v) := by rw [h]; rfl
theorem hQ_lt {r : Nat → Int32} {n a : Nat} (h : hQ r n a ≠ (-1)) : a < n := Classical.byContradiction (fun q => h (if_neg q))
theorem iSm_m1 {x : Int32} (h : iSm x) : x ≠ (-1) := fun q => by rw [q] at h; exact absurd h (by decide)
theorem iDg_m1 {x : Int32} (h : iDg x) : x ≠ (-1) := fun q => by rw [q] at h; exact absurd h (by decide)
theorem wsQ_x {r : Nat → Int32} {n a x : Nat} (h : x = wsQ r n (n - a) a) (ha : a ≤ n) (hb : ¬ (hQ r n a = nI 10 ∨ hQ r n a = nI 32)) : x = a := by
  rw [h]
  by_cases e : a = n
  · rw [show n - a = 0 by omega]; rfl
  · rw [wsQ_s (k := n - (a + 1)) (by omega), if_neg hb]
theorem smQ_x {r : Nat → Int32} {n a x : Nat} (h : x = smQ r n (n - a) a) (ha : a ≤ n) (hb : ¬ iSm (hQ r n a)) : x = a := by
  rw [h]
  by_cases e : a = n
  · rw [show n - a = 0 by omega]; rfl
  · rw [smQ_s (k := n - (a + 1)) (by omega), if_neg hb]
theorem dgR_x {r : Nat → Int32} {n a : Nat} {v : Int32} {x : Nat × Int32} (h : x = dgR r n (n - a) a v) (ha : a ≤ n) (hb : ¬ iDg (hQ r n a)) : x = (a, v) := by
  rw [h]
  by_cases e : a = n
  · rw [show n - a = 0 by omega]; rfl
  · rw [dgR_s (k := n - (a + 1)) (by omega), if_neg hb]
/-- where the next token begins -/
def nqS (z : xSt) : Nat := wsQ (z.1 1) (sQ z) (sQ z - aQ z) (aQ z)
def nqC (z : xSt) : Int32 := hQ (z.1 1) (sQ z) (nqS z)
def nqW (z : xSt) : Nat := smQ (z.1 1) (sQ z) (sQ z - nqS z) (nqS z)
def nqD (z : xSt) : Nat × Int32 := dgR (z.1 1) (sQ z) (sQ z - nqS z) (nqS z) (nI 0)
def nqZ (z : xSt) : xSt :=
  if nqC z = (-1) then RQr z (nI (nqS z)) (nI (nqS z)) 4 (z.1 0 24)
  else if iSm (nqC z) then RQr z (nI (nqW z)) (nI (nqS z)) 0 (wdQ (z.1 1) (nqS z) (nqW z) 71 0 0)
  else if iDg (nqC z) then RQr z (nI (nqD z).1) (nI (nqS z)) (nI 1) (nqD z).2
  else RQr z (nI (nqS z + 1)) (nI (nqS z)) (if nqC z = nI 59 then 2 else if nqC z = nI 45 then 3 else 5) (z.1 0 24)
section
variable {z : xSt} {a b : Nat} {v : Int32}
theorem nq_end (h : wsQ (z.1 1) (sQ z) (sQ z - aQ z) (aQ z) = a) (hc : hQ (z.1 1) (sQ z) a = (-1)) : RQr z (nI a) (nI a) 4 (z.1 0 24) = nqZ z := by
  have e : nqS z = a := h
  unfold nqZ nqC; rw [e, if_pos hc]
theorem nq_w (h : wsQ (z.1 1) (sQ z) (sQ z - aQ z) (aQ z) = a) (hc : ¬ hQ (z.1 1) (sQ z) a = (-1)) (hs : iSm (hQ (z.1 1) (sQ z) a)) (hb : smQ (z.1 1) (sQ z) (sQ z - a) a = b) : RQr z (nI b) (nI a) 0 (wdQ (z.1 1) a b 71 0 0) = nqZ z := by
  have e : nqS z = a := h
  have e2 : nqW z = b := by unfold nqW; rw [e]; exact hb
  unfold nqZ nqC; rw [e2, e, if_neg hc, if_pos hs]
theorem nq_d (h : wsQ (z.1 1) (sQ z) (sQ z - aQ z) (aQ z) = a) (hc : ¬ hQ (z.1 1) (sQ z) a = (-1)) (hs : ¬ iSm (hQ (z.1 1) (sQ z) a)) (hd : iDg (hQ (z.1 1) (sQ z) a)) (hb : dgR (z.1 1) (sQ z) (sQ z - a) a (nI 0) = (b, v)) : RQr z (nI b) (nI a) (nI 1) v = nqZ z := by
  have e : nqS z = a := h
  have e2 : nqD z = (b, v) := by unfold nqD; rw [e]; exact hb
  unfold nqZ nqC; rw [e2, e, if_neg hc, if_neg hs, if_pos hd]
theorem nq_o1 (h : wsQ (z.1 1) (sQ z) (sQ z - aQ z) (aQ z) = a) (hc : ¬ hQ (z.1 1) (sQ z) a = (-1)) (hs : ¬ iSm (hQ (z.1 1) (sQ z) a)) (hd : ¬ iDg (hQ (z.1 1) (sQ z) a)) (h5 : hQ (z.1 1) (sQ z) a = nI 59) : u1 (u1 (RQr z (nI a) (nI a) (z.1 0 23) (z.1 0 24)) 0 23 2) 0 21 (nI (a + 1)) = nqZ z := by
  have e : nqS z = a := h
  unfold nqZ nqC; rw [rq_23, rq_21, e, if_neg hc, if_neg hs, if_neg hd, if_pos h5]
theorem nq_o2 (h : wsQ (z.1 1) (sQ z) (sQ z - aQ z) (aQ z) = a) (hc : ¬ hQ (z.1 1) (sQ z) a = (-1)) (hs : ¬ iSm (hQ (z.1 1) (sQ z) a)) (hd : ¬ iDg (hQ (z.1 1) (sQ z) a)) (h5 : ¬ hQ (z.1 1) (sQ z) a = nI 59) (h4 : hQ (z.1 1) (sQ z) a = nI 45) : u1 (u1 (RQr z (nI a) (nI a) (z.1 0 23) (z.1 0 24)) 0 23 3) 0 21 (nI (a + 1)) = nqZ z := by
  have e : nqS z = a := h
  unfold nqZ nqC; rw [rq_23, rq_21, e, if_neg hc, if_neg hs, if_neg hd, if_neg h5, if_pos h4]
theorem nq_o3 (h : wsQ (z.1 1) (sQ z) (sQ z - aQ z) (aQ z) = a) (hc : ¬ hQ (z.1 1) (sQ z) a = (-1)) (hs : ¬ iSm (hQ (z.1 1) (sQ z) a)) (hd : ¬ iDg (hQ (z.1 1) (sQ z) a)) (h5 : ¬ hQ (z.1 1) (sQ z) a = nI 59) (h4 : ¬ hQ (z.1 1) (sQ z) a = nI 45) : u1 (u1 (RQr z (nI a) (nI a) (z.1 0 23) (z.1 0 24)) 0 23 5) 0 21 (nI (a + 1)) = nqZ z := by
  have e : nqS z = a := h
  unfold nqZ nqC; rw [rq_23, rq_21, e, if_neg hc, if_neg hs, if_neg hd, if_neg h5, if_neg h4]
end
def fiZ (z : xSt) (P : Prop) [Decidable P] (k : Int32) : xSt := if z.1 0 26 = 0 ∧ P then u1 (u1 z 0 26 k) 0 27 (z.1 0 22) else z
def goZ (z : xSt) : xSt := if z.1 0 26 = 0 then nqZ z else z
def rm_X10_next : Room := { frames := 5, cells := 0, slots := 0, locals := 108 }
set_option maxRecDepth 100000 in
set_option maxHeartbeats 4000000 in
theorem c_X10_next (l : Launch) (G : xGl) (w : xWd) (hw : isM w) (z : xSt) (sz : Nat)  (hP : zPr z) : xMv l yX10_next cX10_next 2 rm_X10_next G w z sz [.ref (w.2.2 0)] (fun z1 => z1 = nqZ z) := by
  refine x_mv (by decide) (Nat.le_of_ble_eq_true rfl) ?_
  intro p e s mt args below meth c ls Q hsz X hR hS hl hret
  obtain ⟨hx, hcb, hml, hown, hts, hlk, hK, hZ⟩ := X
  have hl : lv_has ls 2 [(0, .ref (w.2.2 0))] := hl
  have ha0_ := hP.1
  have hn_ := hP.2.1
  have han_ := hP.2.2.1
  have hn9_ := hP.2.2.2
  rw [rq_0 ha0_] at hR
  suffices LP_0 : ∀ (nn : Nat) (a_ : Nat) (_ : sQ z - a_ < nn) (ha1_ : aQ z ≤ a_) (ha2_ : a_ ≤ sQ z) (hf_ : wsQ (z.1 1) (sQ z) (sQ z - aQ z) (aQ z) = wsQ (z.1 1) (sQ z) (sQ z - a_) a_) (H : Heap) (locs : List Loc) (ls : Array Slot), Rh G w (RQr z (nI a_) (z.1 0 22) (z.1 0 23) (z.1 0 24)) H → va_S (xA w s.heap.size) s.heap H locs → lv_has ls 2 [(0, .ref (w.2.2 0))] → W p l e rm_X10_next s mt args below meth c H locs 0 0 Q (F0 mt 0 ls []) from LP_0 ((_) + 1) (aQ z) (Nat.lt_succ_self _) (Nat.le_refl _) han_ rfl _ _ _ hR hS (lv_sub hl [0] rfl)
  intro nn
  induction nn with
  | zero => intro a_ hm_ ; exact absurd hm_ (Nat.not_lt_zero _)
  | succ nn ih_0 =>
    intro a_ hm_0 ha1_ ha2_ hf_ H locs ls hR hS hl
    refine lv_aload_n hx hcb dX10_next_0 rfl (lv_at hl 0 rfl) ?_
    refine x_ci0 rfl rfl (x_runV hx hcb hml hown hts (c_X10_here l G w hw (RQr z (nI a_) (z.1 0 22) (z.1 0 23) (z.1 0 24)) _ a_ (sQ z) rfl hn_ hn9_ (by omega)) mv_X10_here q_1282 hK hZ hR hS (hw.lo (by decide)) xc10 (hw.s0 rfl) rfl hl.1 rfl (Nat.le_of_ble_eq_true rfl) dX10_next_1 ⟨by decide, by decide⟩ ⟨by decide, by decide⟩) hS (fun r_1 z_2 H locs hp_3 hR hS => ?_)
    rw [hp_3.2] at hR; rw [hp_3.1]
    refine x_top (show (hQ ((RQr z (nI a_) (z.1 0 22) (z.1 0 23) (z.1 0 24)).1 1) (sQ z) a_) = (hQ (z.1 1) (sQ z) a_) from rfl) ?_
    refine lv_bipush (v := (nI 10)) hx hcb dX10_next_4 (by decide) ?_
    refine lv_icmp_eq (tgt := 18) hx hcb dX10_next_6 (by decide) (fun c_4 => ?_) (fun c_4 => ?_)
    · skip
      have hb_ : (hQ (z.1 1) (sQ z) a_ = nI 10 ∨ hQ (z.1 1) (sQ z) a_ = nI 32) := Or.inl c_4
      have hlt_ := hQ_lt (show hQ (z.1 1) (sQ z) a_ ≠ (-1) by rw [c_4]; decide)
      refine lv_aload_n hx hcb dX10_next_18 rfl (lv_at hl 0 rfl) ?_
      refine lv_dup hx hcb dX10_next_19 rfl ?_
      refine x_getI hx hcb hts hown hK xc10 hR (hw.lo (by decide)) (hw.s0 rfl) 21 (by decide) rfl q_1187 dX10_next_20 ?_
      refine x_top (show ((RQr z (nI a_) (z.1 0 22) (z.1 0 23) (z.1 0 24)).1 0 21) = (nI a_) from rfl) ?_
      refine lv_iconst (v := (nI 1)) hx hcb dX10_next_23 (by decide) ?_
      refine x_iaddN hx hcb dX10_next_24 ?_
      refine x_putI hx hcb hts hown hK xc10 hR hS (hw.lo (by decide)) (hw.s0 rfl) 21 (by decide) rfl q_1187 rfl (v := (nI (a_ + 1))) rfl rfl dX10_next_25 (fun H locs hR hS => ?_)
      refine lv_goto (tgt := 0) hx hcb dX10_next_28 (by decide) ?_
      rw [show (u1 (RQr z (nI a_) (z.1 0 22) (z.1 0 23) (z.1 0 24)) 0 21 (nI (a_ + 1))) = (RQr z (nI (a_ + 1)) (z.1 0 22) (z.1 0 23) (z.1 0 24)) from rq_21 ..] at hR
      exact ih_0 (a_ + 1) (by omega) (by omega) (by omega) (by rw [hf_, wsQ_s (k := sQ z - (a_ + 1)) (by omega), if_pos hb_]) _ _ _ hR hS (lv_sub hl [0] rfl)
    · skip
      have hb0_ := c_4
      refine lv_aload_n hx hcb dX10_next_9 rfl (lv_at hl 0 rfl) ?_
      refine x_ci0 rfl rfl (x_runV hx hcb hml hown hts (c_X10_here l G w hw (RQr z (nI a_) (z.1 0 22) (z.1 0 23) (z.1 0 24)) _ a_ (sQ z) rfl hn_ hn9_ (by omega)) mv_X10_here q_1282 hK hZ hR hS (hw.lo (by decide)) xc10 (hw.s0 rfl) rfl hl.1 rfl (Nat.le_of_ble_eq_true rfl) dX10_next_10 ⟨by decide, by decide⟩ ⟨by decide, by decide⟩) hS (fun r_5 z_6 H locs hp_7 hR hS => ?_)
      rw [hp_7.2] at hR; rw [hp_7.1]
      refine x_top (show (hQ ((RQr z (nI a_) (z.1 0 22) (z.1 0 23) (z.1 0 24)).1 1) (sQ z) a_) = (hQ (z.1 1) (sQ z) a_) from rfl) ?_
      refine lv_bipush (v := (nI 32)) hx hcb dX10_next_13 (by decide) ?_
      refine lv_icmp_ne (tgt := 31) hx hcb dX10_next_15 (by decide) (fun c_8 => ?_) (fun c_8 => ?_)
      · skip
        have hb_ : ¬ (hQ (z.1 1) (sQ z) a_ = nI 10 ∨ hQ (z.1 1) (sQ z) a_ = nI 32) := fun q_ => q_.elim hb0_ c_8
        have hs_ : wsQ (z.1 1) (sQ z) (sQ z - aQ z) (aQ z) = a_ := wsQ_x hf_ ha2_ hb_
        refine lv_aload_n hx hcb dX10_next_31 rfl (lv_at hl 0 rfl) ?_
        refine lv_aload_n hx hcb dX10_next_32 rfl (lv_at hl 0 rfl) ?_
        refine x_getI hx hcb hts hown hK xc10 hR (hw.lo (by decide)) (hw.s0 rfl) 21 (by decide) rfl q_1187 dX10_next_33 ?_
        refine x_top (show ((RQr z (nI a_) (z.1 0 22) (z.1 0 23) (z.1 0 24)).1 0 21) = (nI a_) from rfl) ?_
        refine x_putI hx hcb hts hown hK xc10 hR hS (hw.lo (by decide)) (hw.s0 rfl) 22 (by decide) rfl q_1188 rfl (v := (nI a_)) rfl rfl dX10_next_36 (fun H locs hR hS => ?_)
        rw [show u1 (RQr z (nI a_) (z.1 0 22) (z.1 0 23) (z.1 0 24)) 0 22 (nI a_) = RQr z (nI a_) (nI a_) (z.1 0 23) (z.1 0 24) from rq_22 ..] at hR
        refine lv_aload_n hx hcb dX10_next_39 rfl (lv_at hl 0 rfl) ?_
        refine x_ci0 rfl rfl (x_runV hx hcb hml hown hts (c_X10_here l G w hw (RQr z (nI a_) (nI a_) (z.1 0 23) (z.1 0 24)) _ a_ (sQ z) rfl hn_ hn9_ (by omega)) mv_X10_here q_1282 hK hZ hR hS (hw.lo (by decide)) xc10 (hw.s0 rfl) rfl hl.1 rfl (Nat.le_of_ble_eq_true rfl) dX10_next_40 ⟨by decide, by decide⟩ ⟨by decide, by decide⟩) hS (fun r_9 z_10 H locs hp_11 hR hS => ?_)
        rw [hp_11.2] at hR; rw [hp_11.1]
        refine x_top (show (hQ ((RQr z (nI a_) (nI a_) (z.1 0 23) (z.1 0 24)).1 1) (sQ z) a_) = (hQ (z.1 1) (sQ z) a_) from rfl) ?_
        refine lv_istore_n (lv' := [(1, .int (hQ (z.1 1) (sQ z) a_)), (0, .ref (w.2.2 0))]) hx hcb dX10_next_43 rfl hl (by decide) rfl (fun ls hl => ?_)
        refine lv_iload_n hx hcb dX10_next_44 rfl (lv_at hl 0 rfl) ?_
        refine lv_iconst (v := (-1)) hx hcb dX10_next_45 (by decide) ?_
        refine lv_icmp_ne (tgt := 57) hx hcb dX10_next_46 (by decide) (fun c_12 => ?_) (fun c_12 => ?_)
        · skip
          have hm1_ : ¬ hQ (z.1 1) (sQ z) a_ = (-1) := c_12
          have hlt_ := hQ_lt hm1_
          refine lv_iload_n hx hcb dX10_next_57 rfl (lv_at hl 0 rfl) ?_
          refine x_ci0 rfl rfl (x_runS hx hcb hml hown hts (c_X10_isSmall l G w hw (RQr z (nI a_) (nI a_) (z.1 0 23) (z.1 0 24)) _ (hQ (z.1 1) (sQ z) a_)) ms_X10_isSmall q_1286 hK hZ hR hS rfl hl.1 rfl (Nat.le_of_ble_eq_true rfl) dX10_next_58 ⟨by decide, by decide⟩ ⟨by decide, by decide⟩) hS (fun r_13 z_14 H locs hp_15 hR hS => ?_)
          rw [hp_15.2] at hR; rw [hp_15.1]
          refine lv_if_eq (tgt := 103) hx hcb dX10_next_61 (by decide) (fun c_16 => ?_) (fun c_16 => ?_)
          · skip
            have hsm_ : ¬ (iSm (hQ (z.1 1) (sQ z) a_)) := fun q_ => absurd c_16 (by rw [if_pos q_]; decide)
            refine lv_iload_n hx hcb dX10_next_103 rfl (lv_at hl 0 rfl) ?_
            refine x_ci0 rfl rfl (x_runS hx hcb hml hown hts (c_X10_isDigit l G w hw (RQr z (nI a_) (nI a_) (z.1 0 23) (z.1 0 24)) _ (hQ (z.1 1) (sQ z) a_)) ms_X10_isDigit q_1296 hK hZ hR hS rfl hl.1 rfl (Nat.le_of_ble_eq_true rfl) dX10_next_104 ⟨by decide, by decide⟩ ⟨by decide, by decide⟩) hS (fun r_17 z_18 H locs hp_19 hR hS => ?_)
            rw [hp_19.2] at hR; rw [hp_19.1]
            refine lv_if_eq (tgt := 178) hx hcb dX10_next_107 (by decide) (fun c_20 => ?_) (fun c_20 => ?_)
            · skip
              have hdg_ : ¬ (iDg (hQ (z.1 1) (sQ z) a_)) := fun q_ => absurd c_20 (by rw [if_pos q_]; decide)
              refine lv_aload_n hx hcb dX10_next_178 rfl (lv_at hl 1 rfl) ?_
              refine lv_iload_n hx hcb dX10_next_179 rfl (lv_at hl 0 rfl) ?_
              refine lv_bipush (v := (nI 59)) hx hcb dX10_next_180 (by decide) ?_
              refine lv_icmp_ne (tgt := 189) hx hcb dX10_next_182 (by decide) (fun c_21 => ?_) (fun c_21 => ?_)
              · skip
                have h59_ : ¬ (hQ (z.1 1) (sQ z) a_) = nI 59 := c_21
                refine lv_iload_n hx hcb dX10_next_189 rfl (lv_at hl 0 rfl) ?_
                refine lv_bipush (v := (nI 45)) hx hcb dX10_next_190 (by decide) ?_
                refine lv_icmp_ne (tgt := 199) hx hcb dX10_next_192 (by decide) (fun c_22 => ?_) (fun c_22 => ?_)
                · skip
                  have h45_ : ¬ (hQ (z.1 1) (sQ z) a_) = nI 45 := c_22
                  refine lv_iconst (v := (nI 5)) hx hcb dX10_next_199 (by decide) ?_
                  refine x_putI hx hcb hts hown hK xc10 hR hS (hw.lo (by decide)) (hw.s0 rfl) 23 (by decide) rfl q_1189 rfl (v := 5) rfl rfl dX10_next_200 (fun H locs hR hS => ?_)
                  refine lv_aload_n hx hcb dX10_next_203 rfl (lv_at hl 1 rfl) ?_
                  refine lv_dup hx hcb dX10_next_204 rfl ?_
                  refine x_getI hx hcb hts hown hK xc10 hR (hw.lo (by decide)) (hw.s0 rfl) 21 (by decide) rfl q_1187 dX10_next_205 ?_
                  refine x_top (show ((u1 (RQr z (nI a_) (nI a_) (z.1 0 23) (z.1 0 24)) 0 23 5).1 0 21) = (nI a_) from rfl) ?_
                  refine lv_iconst (v := (nI 1)) hx hcb dX10_next_208 (by decide) ?_
                  refine x_iaddN hx hcb dX10_next_209 ?_
                  refine x_putI hx hcb hts hown hK xc10 hR hS (hw.lo (by decide)) (hw.s0 rfl) 21 (by decide) rfl q_1187 rfl (v := (nI (a_ + 1))) rfl rfl dX10_next_210 (fun H locs hR hS => ?_)
                  exact hret (u1 (u1 (RQr z (nI a_) (nI a_) (z.1 0 23) (z.1 0 24)) 0 23 5) 0 21 (nI (a_ + 1))) _ _ _ _ dX10_next_213 hR hS (by first | exact nq_end hs_ hm1_ | exact nq_w hs_ hm1_ hsm_ he_ | exact nq_d hs_ hm1_ hsm_ hdg_ he_ | exact nq_o1 hs_ hm1_ hsm_ hdg_ h59_ | exact nq_o2 hs_ hm1_ hsm_ hdg_ h59_ h45_ | exact nq_o3 hs_ hm1_ hsm_ hdg_ h59_ h45_)
                · skip
                  have h45_ : (hQ (z.1 1) (sQ z) a_) = nI 45 := c_22
                  refine lv_iconst (v := (nI 3)) hx hcb dX10_next_195 (by decide) ?_
                  refine lv_goto (tgt := 200) hx hcb dX10_next_196 (by decide) ?_
                  refine x_putI hx hcb hts hown hK xc10 hR hS (hw.lo (by decide)) (hw.s0 rfl) 23 (by decide) rfl q_1189 rfl (v := 3) rfl rfl dX10_next_200 (fun H locs hR hS => ?_)
                  refine lv_aload_n hx hcb dX10_next_203 rfl (lv_at hl 1 rfl) ?_
                  refine lv_dup hx hcb dX10_next_204 rfl ?_
                  refine x_getI hx hcb hts hown hK xc10 hR (hw.lo (by decide)) (hw.s0 rfl) 21 (by decide) rfl q_1187 dX10_next_205 ?_
                  refine x_top (show ((u1 (RQr z (nI a_) (nI a_) (z.1 0 23) (z.1 0 24)) 0 23 3).1 0 21) = (nI a_) from rfl) ?_
                  refine lv_iconst (v := (nI 1)) hx hcb dX10_next_208 (by decide) ?_
                  refine x_iaddN hx hcb dX10_next_209 ?_
                  refine x_putI hx hcb hts hown hK xc10 hR hS (hw.lo (by decide)) (hw.s0 rfl) 21 (by decide) rfl q_1187 rfl (v := (nI (a_ + 1))) rfl rfl dX10_next_210 (fun H locs hR hS => ?_)
                  exact hret (u1 (u1 (RQr z (nI a_) (nI a_) (z.1 0 23) (z.1 0 24)) 0 23 3) 0 21 (nI (a_ + 1))) _ _ _ _ dX10_next_213 hR hS (by first | exact nq_end hs_ hm1_ | exact nq_w hs_ hm1_ hsm_ he_ | exact nq_d hs_ hm1_ hsm_ hdg_ he_ | exact nq_o1 hs_ hm1_ hsm_ hdg_ h59_ | exact nq_o2 hs_ hm1_ hsm_ hdg_ h59_ h45_ | exact nq_o3 hs_ hm1_ hsm_ hdg_ h59_ h45_)
              · skip
                have h59_ : (hQ (z.1 1) (sQ z) a_) = nI 59 := c_21
                refine lv_iconst (v := (nI 2)) hx hcb dX10_next_185 (by decide) ?_
                refine lv_goto (tgt := 200) hx hcb dX10_next_186 (by decide) ?_
                refine x_putI hx hcb hts hown hK xc10 hR hS (hw.lo (by decide)) (hw.s0 rfl) 23 (by decide) rfl q_1189 rfl (v := 2) rfl rfl dX10_next_200 (fun H locs hR hS => ?_)
                refine lv_aload_n hx hcb dX10_next_203 rfl (lv_at hl 1 rfl) ?_
                refine lv_dup hx hcb dX10_next_204 rfl ?_
                refine x_getI hx hcb hts hown hK xc10 hR (hw.lo (by decide)) (hw.s0 rfl) 21 (by decide) rfl q_1187 dX10_next_205 ?_
                refine x_top (show ((u1 (RQr z (nI a_) (nI a_) (z.1 0 23) (z.1 0 24)) 0 23 2).1 0 21) = (nI a_) from rfl) ?_
                refine lv_iconst (v := (nI 1)) hx hcb dX10_next_208 (by decide) ?_
                refine x_iaddN hx hcb dX10_next_209 ?_
                refine x_putI hx hcb hts hown hK xc10 hR hS (hw.lo (by decide)) (hw.s0 rfl) 21 (by decide) rfl q_1187 rfl (v := (nI (a_ + 1))) rfl rfl dX10_next_210 (fun H locs hR hS => ?_)
                exact hret (u1 (u1 (RQr z (nI a_) (nI a_) (z.1 0 23) (z.1 0 24)) 0 23 2) 0 21 (nI (a_ + 1))) _ _ _ _ dX10_next_213 hR hS (by first | exact nq_end hs_ hm1_ | exact nq_w hs_ hm1_ hsm_ he_ | exact nq_d hs_ hm1_ hsm_ hdg_ he_ | exact nq_o1 hs_ hm1_ hsm_ hdg_ h59_ | exact nq_o2 hs_ hm1_ hsm_ hdg_ h59_ h45_ | exact nq_o3 hs_ hm1_ hsm_ hdg_ h59_ h45_)
            · skip
              have hdg_ : iDg (hQ (z.1 1) (sQ z) a_) := Classical.byContradiction (fun q_ => c_20 (if_neg q_))
              refine lv_aload_n hx hcb dX10_next_110 rfl (lv_at hl 1 rfl) ?_
              refine lv_iconst (v := (nI 1)) hx hcb dX10_next_111 (by decide) ?_
              refine x_putI hx hcb hts hown hK xc10 hR hS (hw.lo (by decide)) (hw.s0 rfl) 23 (by decide) rfl q_1189 rfl (v := 1) rfl rfl dX10_next_112 (fun H locs hR hS => ?_)
              rw [show u1 (RQr z (nI a_) (nI a_) (z.1 0 23) (z.1 0 24)) 0 23 1 = RQr z (nI a_) (nI a_) 1 (z.1 0 24) from rq_23 ..] at hR
              refine lv_aload_n hx hcb dX10_next_115 rfl (lv_at hl 1 rfl) ?_
              refine lv_iconst (v := (nI 0)) hx hcb dX10_next_116 (by decide) ?_
              refine x_putI hx hcb hts hown hK xc10 hR hS (hw.lo (by decide)) (hw.s0 rfl) 24 (by decide) rfl q_1190 rfl (v := 0) rfl rfl dX10_next_117 (fun H locs hR hS => ?_)
              rw [show u1 (RQr z (nI a_) (nI a_) 1 (z.1 0 24)) 0 24 0 = RQr z (nI a_) (nI a_) (nI 1) (nI 0) from rq_24 ..] at hR
              suffices LP_120 : ∀ (nn : Nat) (b_ : Nat) (v_ : Int32) (_ : sQ z - b_ < nn) (hb1_ : a_ ≤ b_) (hb2_ : b_ ≤ sQ z) (hg_ : dgR (z.1 1) (sQ z) (sQ z - a_) a_ (nI 0) = dgR (z.1 1) (sQ z) (sQ z - b_) b_ v_) (H : Heap) (locs : List Loc) (ls : Array Slot), Rh G w (RQr z (nI b_) (nI a_) (nI 1) v_) H → va_S (xA w s.heap.size) s.heap H locs → lv_has ls 2 [(0, .ref (w.2.2 0))] → W p l e rm_X10_next s mt args below meth c H locs 0 0 Q (F0 mt 120 ls []) from LP_120 ((_) + 1) a_ (nI 0) (Nat.lt_succ_self _) (Nat.le_refl _) (by omega) rfl _ _ _ hR hS (lv_sub hl [1] rfl)
              intro nn
              induction nn with
              | zero => intro b_ v_ hm_ ; exact absurd hm_ (Nat.not_lt_zero _)
              | succ nn ih_120 =>
                intro b_ v_ hm_120 hb1_ hb2_ hg_ H locs ls hR hS hl
                refine lv_aload_n hx hcb dX10_next_120 rfl (lv_at hl 0 rfl) ?_
                refine x_ci0 rfl rfl (x_runV hx hcb hml hown hts (c_X10_here l G w hw (RQr z (nI b_) (nI a_) (nI 1) v_) _ b_ (sQ z) rfl hn_ hn9_ (by omega)) mv_X10_here q_1282 hK hZ hR hS (hw.lo (by decide)) xc10 (hw.s0 rfl) rfl hl.1 rfl (Nat.le_of_ble_eq_true rfl) dX10_next_121 ⟨by decide, by decide⟩ ⟨by decide, by decide⟩) hS (fun r_23 z_24 H locs hp_25 hR hS => ?_)
                rw [hp_25.2] at hR; rw [hp_25.1]
                refine x_top (show (hQ ((RQr z (nI b_) (nI a_) (nI 1) v_).1 1) (sQ z) b_) = (hQ (z.1 1) (sQ z) b_) from rfl) ?_
                refine x_ci0 rfl rfl (x_runS hx hcb hml hown hts (c_X10_isDigit l G w hw (RQr z (nI b_) (nI a_) (nI 1) v_) _ (hQ (z.1 1) (sQ z) b_)) ms_X10_isDigit q_1296 hK hZ hR hS rfl hl.1 rfl (Nat.le_of_ble_eq_true rfl) dX10_next_124 ⟨by decide, by decide⟩ ⟨by decide, by decide⟩) hS (fun r_26 z_27 H locs hp_28 hR hS => ?_)
                rw [hp_28.2] at hR; rw [hp_28.1]
                refine lv_if_eq (tgt := 213) hx hcb dX10_next_127 (by decide) (fun c_29 => ?_) (fun c_29 => ?_)
                · skip
                  have hc_ : ¬ (iDg (hQ (z.1 1) (sQ z) b_)) := fun q_ => absurd c_29 (by rw [if_pos q_]; decide)
                  have he_ : dgR (z.1 1) (sQ z) (sQ z - a_) a_ (nI 0) = (b_, v_) := dgR_x hg_ hb2_ hc_
                  exact hret (RQr z (nI b_) (nI a_) (nI 1) v_) _ _ _ _ dX10_next_213 hR hS (by first | exact nq_end hs_ hm1_ | exact nq_w hs_ hm1_ hsm_ he_ | exact nq_d hs_ hm1_ hsm_ hdg_ he_ | exact nq_o1 hs_ hm1_ hsm_ hdg_ h59_ | exact nq_o2 hs_ hm1_ hsm_ hdg_ h59_ h45_ | exact nq_o3 hs_ hm1_ hsm_ hdg_ h59_ h45_)
                · skip
                  have hc_ : iDg (hQ (z.1 1) (sQ z) b_) := Classical.byContradiction (fun q_ => c_29 (if_neg q_))
                  have hlt2_ := hQ_lt (iDg_m1 hc_)
                  refine lv_aload_n hx hcb dX10_next_130 rfl (lv_at hl 0 rfl) ?_
                  refine lv_aload_n hx hcb dX10_next_131 rfl (lv_at hl 0 rfl) ?_
                  refine x_getI hx hcb hts hown hK xc10 hR (hw.lo (by decide)) (hw.s0 rfl) 24 (by decide) rfl q_1190 dX10_next_132 ?_
                  refine x_top (show ((RQr z (nI b_) (nI a_) (nI 1) v_).1 0 24) = v_ from rfl) ?_
                  refine lv_ldc (v := (nI 10000000)) hx hcb hown (hts _ q_1299) dX10_next_135 ?_
                  refine lv_icmp_le (tgt := 147) hx hcb dX10_next_137 (by decide) (fun c_30 => ?_) (fun c_30 => ?_)
                  · skip
                    have hv_ : v_ ≤ nI 10000000 := c_30
                    refine lv_bipush (v := (nI 10)) hx hcb dX10_next_147 (by decide) ?_
                    refine lv_aload_n hx hcb dX10_next_149 rfl (lv_at hl 0 rfl) ?_
                    refine x_getI hx hcb hts hown hK xc10 hR (hw.lo (by decide)) (hw.s0 rfl) 24 (by decide) rfl q_1190 dX10_next_150 ?_
                    refine x_top (show ((RQr z (nI b_) (nI a_) (nI 1) v_).1 0 24) = v_ from rfl) ?_
                    refine lv_imul hx hcb dX10_next_153 ?_
                    refine lv_aload_n hx hcb dX10_next_154 rfl (lv_at hl 0 rfl) ?_
                    refine x_ci0 rfl rfl (x_runV hx hcb hml hown hts (c_X10_here l G w hw (RQr z (nI b_) (nI a_) (nI 1) v_) _ b_ (sQ z) rfl hn_ hn9_ (by omega)) mv_X10_here q_1282 hK hZ hR hS (hw.lo (by decide)) xc10 (hw.s0 rfl) rfl hl.1 rfl (Nat.le_of_ble_eq_true rfl) dX10_next_155 ⟨by decide, by decide⟩ ⟨by decide, by decide⟩) hS (fun r_31 z_32 H locs hp_33 hR hS => ?_)
                    rw [hp_33.2] at hR; rw [hp_33.1]
                    refine x_top (show (hQ ((RQr z (nI b_) (nI a_) (nI 1) v_).1 1) (sQ z) b_) = (hQ (z.1 1) (sQ z) b_) from rfl) ?_
                    refine lv_iadd hx hcb dX10_next_158 ?_
                    refine lv_bipush (v := (nI 48)) hx hcb dX10_next_159 (by decide) ?_
                    refine lv_isub hx hcb dX10_next_161 ?_
                    refine x_putI hx hcb hts hown hK xc10 hR hS (hw.lo (by decide)) (hw.s0 rfl) 24 (by decide) rfl q_1190 rfl (v := ((((nI 10) * v_) + (hQ (z.1 1) (sQ z) b_)) - (nI 48))) rfl rfl dX10_next_162 (fun H locs hR hS => ?_)
                    refine lv_aload_n hx hcb dX10_next_165 rfl (lv_at hl 0 rfl) ?_
                    refine lv_dup hx hcb dX10_next_166 rfl ?_
                    refine x_getI hx hcb hts hown hK xc10 hR (hw.lo (by decide)) (hw.s0 rfl) 21 (by decide) rfl q_1187 dX10_next_167 ?_
                    refine x_top (show ((u1 (RQr z (nI b_) (nI a_) (nI 1) v_) 0 24 ((((nI 10) * v_) + (hQ (z.1 1) (sQ z) b_)) - (nI 48))).1 0 21) = (nI b_) from rfl) ?_
                    refine lv_iconst (v := (nI 1)) hx hcb dX10_next_170 (by decide) ?_
                    refine x_iaddN hx hcb dX10_next_171 ?_
                    refine x_putI hx hcb hts hown hK xc10 hR hS (hw.lo (by decide)) (hw.s0 rfl) 21 (by decide) rfl q_1187 rfl (v := (nI (b_ + 1))) rfl rfl dX10_next_172 (fun H locs hR hS => ?_)
                    refine lv_goto (tgt := 120) hx hcb dX10_next_175 (by decide) ?_
                    rw [show (u1 (u1 (RQr z (nI b_) (nI a_) (nI 1) v_) 0 24 ((((nI 10) * v_) + (hQ (z.1 1) (sQ z) b_)) - (nI 48))) 0 21 (nI (b_ + 1))) = (RQr z (nI (b_ + 1)) (nI a_) (nI 1) (if v_ ≤ nI 10000000 then nI 10 * v_ + hQ (z.1 1) (sQ z) b_ - nI 48 else v_)) from by rw [rq_24, rq_21]; first | rw [if_pos hv_] | rw [if_neg hv_]] at hR
                    exact ih_120 (b_ + 1) (if v_ ≤ nI 10000000 then nI 10 * v_ + hQ (z.1 1) (sQ z) b_ - nI 48 else v_) (by omega) (by omega) (by omega) (by rw [hg_, dgR_s (k := sQ z - (b_ + 1)) (by omega), if_pos hc_]) _ _ _ hR hS (lv_sub hl [0] rfl)
                  · skip
                    have hv_ : ¬ v_ ≤ nI 10000000 := c_30
                    refine lv_aload_n hx hcb dX10_next_140 rfl (lv_at hl 0 rfl) ?_
                    refine x_getI hx hcb hts hown hK xc10 hR (hw.lo (by decide)) (hw.s0 rfl) 24 (by decide) rfl q_1190 dX10_next_141 ?_
                    refine x_top (show ((RQr z (nI b_) (nI a_) (nI 1) v_).1 0 24) = v_ from rfl) ?_
                    refine lv_goto (tgt := 162) hx hcb dX10_next_144 (by decide) ?_
                    refine x_putI hx hcb hts hown hK xc10 hR hS (hw.lo (by decide)) (hw.s0 rfl) 24 (by decide) rfl q_1190 rfl (v := v_) rfl rfl dX10_next_162 (fun H locs hR hS => ?_)
                    refine lv_aload_n hx hcb dX10_next_165 rfl (lv_at hl 0 rfl) ?_
                    refine lv_dup hx hcb dX10_next_166 rfl ?_
                    refine x_getI hx hcb hts hown hK xc10 hR (hw.lo (by decide)) (hw.s0 rfl) 21 (by decide) rfl q_1187 dX10_next_167 ?_
                    refine x_top (show ((u1 (RQr z (nI b_) (nI a_) (nI 1) v_) 0 24 v_).1 0 21) = (nI b_) from rfl) ?_
                    refine lv_iconst (v := (nI 1)) hx hcb dX10_next_170 (by decide) ?_
                    refine x_iaddN hx hcb dX10_next_171 ?_
                    refine x_putI hx hcb hts hown hK xc10 hR hS (hw.lo (by decide)) (hw.s0 rfl) 21 (by decide) rfl q_1187 rfl (v := (nI (b_ + 1))) rfl rfl dX10_next_172 (fun H locs hR hS => ?_)
                    refine lv_goto (tgt := 120) hx hcb dX10_next_175 (by decide) ?_
                    rw [show (u1 (u1 (RQr z (nI b_) (nI a_) (nI 1) v_) 0 24 v_) 0 21 (nI (b_ + 1))) = (RQr z (nI (b_ + 1)) (nI a_) (nI 1) (if v_ ≤ nI 10000000 then nI 10 * v_ + hQ (z.1 1) (sQ z) b_ - nI 48 else v_)) from by rw [rq_24, rq_21]; first | rw [if_pos hv_] | rw [if_neg hv_]] at hR
                    exact ih_120 (b_ + 1) (if v_ ≤ nI 10000000 then nI 10 * v_ + hQ (z.1 1) (sQ z) b_ - nI 48 else v_) (by omega) (by omega) (by omega) (by rw [hg_, dgR_s (k := sQ z - (b_ + 1)) (by omega), if_pos hc_]) _ _ _ hR hS (lv_sub hl [0] rfl)
          · skip
            have hsm_ : iSm (hQ (z.1 1) (sQ z) a_) := Classical.byContradiction (fun q_ => c_16 (if_neg q_))
            suffices LP_64 : ∀ (nn : Nat) (b_ : Nat) (_ : sQ z - b_ < nn) (hb1_ : a_ ≤ b_) (hb2_ : b_ ≤ sQ z) (hg_ : smQ (z.1 1) (sQ z) (sQ z - a_) a_ = smQ (z.1 1) (sQ z) (sQ z - b_) b_) (H : Heap) (locs : List Loc) (ls : Array Slot), Rh G w (RQr z (nI b_) (nI a_) (z.1 0 23) (z.1 0 24)) H → va_S (xA w s.heap.size) s.heap H locs → lv_has ls 2 [(0, .ref (w.2.2 0))] → W p l e rm_X10_next s mt args below meth c H locs 0 0 Q (F0 mt 64 ls []) from LP_64 ((_) + 1) a_ (Nat.lt_succ_self _) (Nat.le_refl _) (by omega) rfl _ _ _ hR hS (lv_sub hl [1] rfl)
            intro nn
            induction nn with
            | zero => intro b_ hm_ ; exact absurd hm_ (Nat.not_lt_zero _)
            | succ nn ih_64 =>
              intro b_ hm_64 hb1_ hb2_ hg_ H locs ls hR hS hl
              refine lv_aload_n hx hcb dX10_next_64 rfl (lv_at hl 0 rfl) ?_
              refine x_ci0 rfl rfl (x_runV hx hcb hml hown hts (c_X10_here l G w hw (RQr z (nI b_) (nI a_) (z.1 0 23) (z.1 0 24)) _ b_ (sQ z) rfl hn_ hn9_ (by omega)) mv_X10_here q_1282 hK hZ hR hS (hw.lo (by decide)) xc10 (hw.s0 rfl) rfl hl.1 rfl (Nat.le_of_ble_eq_true rfl) dX10_next_65 ⟨by decide, by decide⟩ ⟨by decide, by decide⟩) hS (fun r_34 z_35 H locs hp_36 hR hS => ?_)
              rw [hp_36.2] at hR; rw [hp_36.1]
              refine x_top (show (hQ ((RQr z (nI b_) (nI a_) (z.1 0 23) (z.1 0 24)).1 1) (sQ z) b_) = (hQ (z.1 1) (sQ z) b_) from rfl) ?_
              refine x_ci0 rfl rfl (x_runS hx hcb hml hown hts (c_X10_isSmall l G w hw (RQr z (nI b_) (nI a_) (z.1 0 23) (z.1 0 24)) _ (hQ (z.1 1) (sQ z) b_)) ms_X10_isSmall q_1286 hK hZ hR hS rfl hl.1 rfl (Nat.le_of_ble_eq_true rfl) dX10_next_68 ⟨by decide, by decide⟩ ⟨by decide, by decide⟩) hS (fun r_37 z_38 H locs hp_39 hR hS => ?_)
              rw [hp_39.2] at hR; rw [hp_39.1]
              refine lv_if_eq (tgt := 87) hx hcb dX10_next_71 (by decide) (fun c_40 => ?_) (fun c_40 => ?_)
              · skip
                have hc_ : ¬ (iSm (hQ (z.1 1) (sQ z) b_)) := fun q_ => absurd c_40 (by rw [if_pos q_]; decide)
                have he_ : smQ (z.1 1) (sQ z) (sQ z - a_) a_ = b_ := smQ_x hg_ hb2_ hc_
                refine lv_aload_n hx hcb dX10_next_87 rfl (lv_at hl 0 rfl) ?_
                refine lv_iconst (v := (nI 0)) hx hcb dX10_next_88 (by decide) ?_
                refine x_putI hx hcb hts hown hK xc10 hR hS (hw.lo (by decide)) (hw.s0 rfl) 23 (by decide) rfl q_1189 rfl (v := 0) rfl rfl dX10_next_89 (fun H locs hR hS => ?_)
                rw [show u1 (RQr z (nI b_) (nI a_) (z.1 0 23) (z.1 0 24)) 0 23 0 = RQr z (nI b_) (nI a_) 0 (z.1 0 24) from rq_23 ..] at hR
                refine lv_aload_n hx hcb dX10_next_92 rfl (lv_at hl 0 rfl) ?_
                refine lv_aload_n hx hcb dX10_next_93 rfl (lv_at hl 0 rfl) ?_
                refine x_ci0 rfl rfl (x_runV hx hcb hml hown hts (c_X10_wordHere l G w hw (RQr z (nI b_) (nI a_) 0 (z.1 0 24)) _ a_ b_ rfl rfl (by omega) (by omega)) mv_X10_wordHere q_1289 hK hZ hR hS (hw.lo (by decide)) xc10 (hw.s0 rfl) rfl hl.1 rfl (Nat.le_of_ble_eq_true rfl) dX10_next_94 ⟨by decide, by decide⟩ ⟨by decide, by decide⟩) hS (fun r_41 z_42 H locs hp_43 hR hS => ?_)
                rw [hp_43.2] at hR; rw [hp_43.1]
                refine x_top (show (wdQ ((RQr z (nI b_) (nI a_) 0 (z.1 0 24)).1 1) a_ b_ 71 0 0) = (wdQ (z.1 1) a_ b_ 71 0 0) from rfl) ?_
                refine x_putI hx hcb hts hown hK xc10 hR hS (hw.lo (by decide)) (hw.s0 rfl) 24 (by decide) rfl q_1190 rfl (v := (wdQ (z.1 1) a_ b_ 71 0 0)) rfl rfl dX10_next_97 (fun H locs hR hS => ?_)
                rw [show u1 (RQr z (nI b_) (nI a_) 0 (z.1 0 24)) 0 24 (wdQ (z.1 1) a_ b_ 71 0 0) = RQr z (nI b_) (nI a_) 0 (wdQ (z.1 1) a_ b_ 71 0 0) from rq_24 ..] at hR
                refine lv_goto (tgt := 213) hx hcb dX10_next_100 (by decide) ?_
                exact hret (RQr z (nI b_) (nI a_) 0 (wdQ (z.1 1) a_ b_ 71 0 0)) _ _ _ _ dX10_next_213 hR hS (by first | exact nq_end hs_ hm1_ | exact nq_w hs_ hm1_ hsm_ he_ | exact nq_d hs_ hm1_ hsm_ hdg_ he_ | exact nq_o1 hs_ hm1_ hsm_ hdg_ h59_ | exact nq_o2 hs_ hm1_ hsm_ hdg_ h59_ h45_ | exact nq_o3 hs_ hm1_ hsm_ hdg_ h59_ h45_)
              · skip
                have hc_ : iSm (hQ (z.1 1) (sQ z) b_) := Classical.byContradiction (fun q_ => c_40 (if_neg q_))
                have hlt2_ := hQ_lt (iSm_m1 hc_)
                refine lv_aload_n hx hcb dX10_next_74 rfl (lv_at hl 0 rfl) ?_
                refine lv_dup hx hcb dX10_next_75 rfl ?_
                refine x_getI hx hcb hts hown hK xc10 hR (hw.lo (by decide)) (hw.s0 rfl) 21 (by decide) rfl q_1187 dX10_next_76 ?_
                refine x_top (show ((RQr z (nI b_) (nI a_) (z.1 0 23) (z.1 0 24)).1 0 21) = (nI b_) from rfl) ?_
                refine lv_iconst (v := (nI 1)) hx hcb dX10_next_79 (by decide) ?_
                refine x_iaddN hx hcb dX10_next_80 ?_
                refine x_putI hx hcb hts hown hK xc10 hR hS (hw.lo (by decide)) (hw.s0 rfl) 21 (by decide) rfl q_1187 rfl (v := (nI (b_ + 1))) rfl rfl dX10_next_81 (fun H locs hR hS => ?_)
                refine lv_goto (tgt := 64) hx hcb dX10_next_84 (by decide) ?_
                rw [show (u1 (RQr z (nI b_) (nI a_) (z.1 0 23) (z.1 0 24)) 0 21 (nI (b_ + 1))) = (RQr z (nI (b_ + 1)) (nI a_) (z.1 0 23) (z.1 0 24)) from rq_21 ..] at hR
                exact ih_64 (b_ + 1) (by omega) (by omega) (by omega) (by rw [hg_, smQ_s (k := sQ z - (b_ + 1)) (by omega), if_pos hc_]) _ _ _ hR hS (lv_sub hl [0] rfl)
        · skip
          have hm1_ : hQ (z.1 1) (sQ z) a_ = (-1) := c_12
          refine lv_aload_n hx hcb dX10_next_49 rfl (lv_at hl 1 rfl) ?_
          refine lv_iconst (v := (nI 4)) hx hcb dX10_next_50 (by decide) ?_
          refine x_putI hx hcb hts hown hK xc10 hR hS (hw.lo (by decide)) (hw.s0 rfl) 23 (by decide) rfl q_1189 rfl (v := 4) rfl rfl dX10_next_51 (fun H locs hR hS => ?_)
          rw [show u1 (RQr z (nI a_) (nI a_) (z.1 0 23) (z.1 0 24)) 0 23 4 = RQr z (nI a_) (nI a_) 4 (z.1 0 24) from rq_23 ..] at hR
          refine lv_goto (tgt := 213) hx hcb dX10_next_54 (by decide) ?_
          exact hret (RQr z (nI a_) (nI a_) 4 (z.1 0 24)) _ _ _ _ dX10_next_213 hR hS (by first | exact nq_end hs_ hm1_ | exact nq_w hs_ hm1_ hsm_ he_ | exact nq_d hs_ hm1_ hsm_ hdg_ he_ | exact nq_o1 hs_ hm1_ hsm_ hdg_ h59_ | exact nq_o2 hs_ hm1_ hsm_ hdg_ h59_ h45_ | exact nq_o3 hs_ hm1_ hsm_ hdg_ h59_ h45_)
      · skip
        have hb_ : (hQ (z.1 1) (sQ z) a_ = nI 10 ∨ hQ (z.1 1) (sQ z) a_ = nI 32) := Or.inr c_8
        have hlt_ := hQ_lt (show hQ (z.1 1) (sQ z) a_ ≠ (-1) by rw [c_8]; decide)
        refine lv_aload_n hx hcb dX10_next_18 rfl (lv_at hl 0 rfl) ?_
        refine lv_dup hx hcb dX10_next_19 rfl ?_
        refine x_getI hx hcb hts hown hK xc10 hR (hw.lo (by decide)) (hw.s0 rfl) 21 (by decide) rfl q_1187 dX10_next_20 ?_
        refine x_top (show ((RQr z (nI a_) (z.1 0 22) (z.1 0 23) (z.1 0 24)).1 0 21) = (nI a_) from rfl) ?_
        refine lv_iconst (v := (nI 1)) hx hcb dX10_next_23 (by decide) ?_
        refine x_iaddN hx hcb dX10_next_24 ?_
        refine x_putI hx hcb hts hown hK xc10 hR hS (hw.lo (by decide)) (hw.s0 rfl) 21 (by decide) rfl q_1187 rfl (v := (nI (a_ + 1))) rfl rfl dX10_next_25 (fun H locs hR hS => ?_)
        refine lv_goto (tgt := 0) hx hcb dX10_next_28 (by decide) ?_
        rw [show (u1 (RQr z (nI a_) (z.1 0 22) (z.1 0 23) (z.1 0 24)) 0 21 (nI (a_ + 1))) = (RQr z (nI (a_ + 1)) (z.1 0 22) (z.1 0 23) (z.1 0 24)) from rq_21 ..] at hR
        exact ih_0 (a_ + 1) (by omega) (by omega) (by omega) (by rw [hf_, wsQ_s (k := sQ z - (a_ + 1)) (by omega), if_pos hb_]) _ _ _ hR hS (lv_sub hl [0] rfl)
def rm_X10_failsIf : Room := { frames := 0, cells := 0, slots := 0, locals := 0 }
set_option maxRecDepth 100000 in
set_option maxHeartbeats 4000000 in
theorem c_X10_failsIf (l : Launch) (G : xGl) (w : xWd) (hw : isM w) (z : xSt) (sz : Nat) (b : Int32) (k : Int32) (P : Prop) [Decidable P] (hb : b = if P then 1 else 0) : xMv l yX10_failsIf cX10_failsIf 3 rm_X10_failsIf G w z sz [.ref (w.2.2 0), .int b, .int k] (fun z1 => z1 = fiZ z P k) := by
  refine x_mv (by decide) (Nat.le_of_ble_eq_true rfl) ?_
  intro p e s mt args below meth c ls Q hsz X hR hS hl hret
  obtain ⟨hx, hcb, hml, hown, hts, hlk, hK, hZ⟩ := X
  have hl : lv_has ls 3 [(0, .ref (w.2.2 0)), (1, .int b), (2, .int k)] := hl
  refine lv_aload_n hx hcb dX10_failsIf_0 rfl (lv_at hl 0 rfl) ?_
  refine x_getI hx hcb hts hown hK xc10 hR (hw.lo (by decide)) (hw.s0 rfl) 26 (by decide) rfl q_1192 dX10_failsIf_1 ?_
  refine lv_if_ne (tgt := 11) hx hcb dX10_failsIf_4 (by decide) (fun c_1 => ?_) (fun c_1 => ?_)
  · skip
    have h_ : ¬ (z.1 0 26 = 0 ∧ P) := fun q_ => c_1 q_.1
    exact hret z _ _ _ _ dX10_failsIf_11 hR hS (by unfold fiZ; first | (rw [if_pos h_]; done) | (rw [if_neg h_]; done) | (rw [if_pos h_]; rfl))
  · skip
    have h0_ : z.1 0 26 = 0 := c_1
    refine lv_iload_n hx hcb dX10_failsIf_7 rfl (lv_at hl 1 rfl) ?_
    refine lv_if_ne (tgt := 12) hx hcb dX10_failsIf_8 (by decide) (fun c_2 => ?_) (fun c_2 => ?_)
    · skip
      have h_ : z.1 0 26 = 0 ∧ P := ⟨h0_, Classical.byContradiction (fun q_ => c_2 (by rw [hb, if_neg q_]))⟩
      refine lv_aload_n hx hcb dX10_failsIf_12 rfl (lv_at hl 0 rfl) ?_
      refine lv_iload_n hx hcb dX10_failsIf_13 rfl (lv_at hl 2 rfl) ?_
      refine x_putI hx hcb hts hown hK xc10 hR hS (hw.lo (by decide)) (hw.s0 rfl) 26 (by decide) rfl q_1192 rfl (v := k) rfl rfl dX10_failsIf_14 (fun H locs hR hS => ?_)
      refine lv_aload_n hx hcb dX10_failsIf_17 rfl (lv_at hl 0 rfl) ?_
      refine lv_aload_n hx hcb dX10_failsIf_18 rfl (lv_at hl 0 rfl) ?_
      refine x_getI hx hcb hts hown hK xc10 hR (hw.lo (by decide)) (hw.s0 rfl) 22 (by decide) rfl q_1188 dX10_failsIf_19 ?_
      refine x_putI hx hcb hts hown hK xc10 hR hS (hw.lo (by decide)) (hw.s0 rfl) 27 (by decide) rfl q_1193 rfl (v := ((u1 z 0 26 k).1 0 22)) rfl rfl dX10_failsIf_22 (fun H locs hR hS => ?_)
      exact hret (u1 (u1 z 0 26 k) 0 27 ((u1 z 0 26 k).1 0 22)) _ _ _ _ dX10_failsIf_25 hR hS (by unfold fiZ; first | (rw [if_pos h_]; done) | (rw [if_neg h_]; done) | (rw [if_pos h_]; rfl))
    · skip
      have h_ : ¬ (z.1 0 26 = 0 ∧ P) := fun q_ => absurd c_2 (by rw [hb, if_pos q_.2]; decide)
      exact hret z _ _ _ _ dX10_failsIf_11 hR hS (by unfold fiZ; first | (rw [if_pos h_]; done) | (rw [if_neg h_]; done) | (rw [if_pos h_]; rfl))
def rm_X10_goOn : Room := { frames := 6, cells := 0, slots := 0, locals := 129 }
set_option maxRecDepth 100000 in
set_option maxHeartbeats 4000000 in
theorem c_X10_goOn (l : Launch) (G : xGl) (w : xWd) (hw : isM w) (z : xSt) (sz : Nat)  (hP : zPr z) : xMv l yX10_goOn cX10_goOn 1 rm_X10_goOn G w z sz [.ref (w.2.2 0)] (fun z1 => z1 = goZ z) := by
  refine x_mv (by decide) (Nat.le_of_ble_eq_true rfl) ?_
  intro p e s mt args below meth c ls Q hsz X hR hS hl hret
  obtain ⟨hx, hcb, hml, hown, hts, hlk, hK, hZ⟩ := X
  have hl : lv_has ls 1 [(0, .ref (w.2.2 0))] := hl
  refine lv_aload_n hx hcb dX10_goOn_0 rfl (lv_at hl 0 rfl) ?_
  refine x_getI hx hcb hts hown hK xc10 hR (hw.lo (by decide)) (hw.s0 rfl) 26 (by decide) rfl q_1192 dX10_goOn_1 ?_
  refine lv_if_ne (tgt := 11) hx hcb dX10_goOn_4 (by decide) (fun c_1 => ?_) (fun c_1 => ?_)
  · skip
    have h_ : ¬ z.1 0 26 = 0 := c_1
    exact hret z _ _ _ _ dX10_goOn_11 hR hS (by unfold goZ; first | rw [if_pos h_] | rw [if_neg h_])
  · skip
    have h_ : z.1 0 26 = 0 := c_1
    refine lv_aload_n hx hcb dX10_goOn_7 rfl (lv_at hl 0 rfl) ?_
    refine x_cv0 rfl rfl (x_runV hx hcb hml hown hts (c_X10_next l G w hw z _ (by assumption)) mv_X10_next q_1278 hK hZ hR hS (hw.lo (by decide)) xc10 (hw.s0 rfl) rfl hl.1 rfl (Nat.le_of_ble_eq_true rfl) dX10_goOn_8 ⟨by decide, by decide⟩ ⟨by decide, by decide⟩) hS (fun z_3 H locs hp_4 hR hS => ?_)
    rw [hp_4] at hR
    exact hret (nqZ z) _ _ _ _ dX10_goOn_11 hR hS (by unfold goZ; first | rw [if_pos h_] | rw [if_neg h_])
