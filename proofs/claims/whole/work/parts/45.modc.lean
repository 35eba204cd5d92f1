/-! THE REFERENCE: payments by a policy -/
theorem shG_1 (z : xSt) (n : Nat) (a : Int64) : (shG z n a).1 = z.1 := rfl
theorem saQ_1 {z : xSt} {L : List (Nat × Nat)} {f t : Nat} {bu : Int32} {o : Nat} (h : o ≠ 13) : (saQ z L f t bu).1 o = z.1 o := by
  unfold saQ
  split
  · rfl
  · rw [ur_ne _ _ h]; rfl
theorem laid.of {z z2 : xSt} {L : List (Nat × Nat)} (h : laid z L) (e0 : z2.1 0 17 = z.1 0 17) (e1 : z2.1 14 = z.1 14) (e2 : z2.1 15 = z.1 15) : laid z2 L := by
  unfold laid at h ⊢
  rw [e0, e1, e2]; exact h
theorem saQ_laid {z : xSt} {L : List (Nat × Nat)} {f t : Nat} {bu : Int32} (h : laid z L) : laid (saQ z L f t bu) L := h.of (by rw [saQ_1 (by decide)]) (saQ_1 (by decide)) (saQ_1 (by decide))
def pbT (y : xSt) (L : List (Nat × Nat)) (f : Nat) : Nat := seg (y.1 15) (y.1 15 f) (L.length - f) f
def pbS (y : xSt) (L : List (Nat × Nat)) (f : Nat) : Int32 := bx_sum (fun i => amt y L (f + i)) (pbT y L f - f)
theorem pbT_gt {y : xSt} {L : List (Nat × Nat)} {f : Nat} (h : f < L.length) : f < pbT y L f := by
  unfold pbT
  rw [seg_s (k := L.length - (f + 1)) (by omega), if_pos rfl]
  exact seg_ge _ _ _ _
theorem pbT_le (y : xSt) (L : List (Nat × Nat)) (f : Nat) (h : f ≤ L.length) : pbT y L f ≤ L.length := by
  have := seg_le (y.1 15) (y.1 15 f) (L.length - f) f
  unfold pbT; omega
def pbQ (L : List (Nat × Nat)) : Nat → xSt → Nat → Int32 → xSt
  | 0, y, _, _ => y
  | k + 1, y, f, r => if f < L.length then (if r < pbS y L f then saQ y L f (pbT y L f) (imin r (pbS y L f)) else pbQ L k (saQ y L f (pbT y L f) (imin r (pbS y L f))) (pbT y L f) (r - pbS y L f)) else y
theorem pbQ_s {L : List (Nat × Nat)} {n k : Nat} {y : xSt} {f : Nat} {r : Int32} (h : n = k + 1) : pbQ L n y f r = if f < L.length then (if r < pbS y L f then saQ y L f (pbT y L f) (imin r (pbS y L f)) else pbQ L k (saQ y L f (pbT y L f) (imin r (pbS y L f))) (pbT y L f) (r - pbS y L f)) else y := by rw [h]; rfl
theorem pbQ_e {L : List (Nat × Nat)} {n : Nat} {y : xSt} {f : Nat} {r : Int32} (h : ¬ f < L.length) : pbQ L n y f r = y := by
  cases n with
  | zero => rfl
  | succ k => exact if_neg h
def pbOk (L : List (Nat × Nat)) : Nat → xSt → Nat → Int32 → Prop
  | 0, _, _, _ => True
  | k + 1, y, f, r => f < L.length → shA y L f (pbT y L f) (imin r (pbS y L f)) ∧ (¬ r < pbS y L f → pbOk L k (saQ y L f (pbT y L f) (imin r (pbS y L f))) (pbT y L f) (r - pbS y L f))
theorem pbOk_s {L : List (Nat × Nat)} {n k : Nat} {y : xSt} {f : Nat} {r : Int32} (h : n = k + 1) (g : pbOk L n y f r) : f < L.length → shA y L f (pbT y L f) (imin r (pbS y L f)) ∧ (¬ r < pbS y L f → pbOk L k (saQ y L f (pbT y L f) (imin r (pbS y L f))) (pbT y L f) (r - pbS y L f)) := by
  rw [h] at g; exact g
theorem pbQ_1 {L : List (Nat × Nat)} {o : Nat} (h : o ≠ 13) : ∀ (n : Nat) (y : xSt) (f : Nat) (r : Int32), (pbQ L n y f r).1 o = y.1 o
  | 0, _, _, _ => rfl
  | k + 1, y, f, r => by
    unfold pbQ
    split
    · split
      · exact saQ_1 h
      · rw [pbQ_1 h k, saQ_1 h]
    · rfl
theorem smi_y {am p : Nat → Int32} {i : Nat} (h : p i = 0 ∧ (smi am p i = 0 ∨ am i < am (smi am p i - 1))) : smi am p (i + 1) = i + 1 := if_pos h
theorem smi_n {am p : Nat → Int32} {i : Nat} (h : ¬ (p i = 0 ∧ (smi am p i = 0 ∨ am i < am (smi am p i - 1)))) : smi am p (i + 1) = smi am p i := if_neg h
theorem smi_k (am p : Nat → Int32) : ∀ {n b : Nat}, smi am p n = b + 1 → p b = 0 ∧ b < n
  | 0, b, h => absurd h (by show ¬ 0 = b + 1; omega)
  | n + 1, b, h => by
    by_cases q : p n = 0 ∧ (smi am p n = 0 ∨ am n < am (smi am p n - 1))
    · rw [smi_y q] at h
      have e : n = b := by omega
      rw [← e]; exact ⟨q.1, Nat.lt_succ_self n⟩
    · rw [smi_n q] at h
      have := smi_k am p h
      exact ⟨this.1, by omega⟩
theorem smi_m1 {s : Nat} (h : s ≤ 200) : nI s - 1 = (-1) ↔ s = 0 := by
  cases s with
  | zero => exact ⟨fun _ => rfl, fun _ => by decide⟩
  | succ k =>
    rw [nI_pred]
    exact ⟨fun q => absurd (by rw [q]; decide : nI k < 0) (nI_pos (by omega)), fun q => absurd q (by omega)⟩
theorem psm_z {am : Nat → Int32} {n m : Nat} {p : Nat → Int32} {o : Int32} (h : smi am p n = 0) : psm am n m p o = (p, o) := by
  cases m with
  | zero => rfl
  | succ k =>
    rw [psm_s (k := k) rfl, if_pos h]
    split <;> rfl
theorem ctN_ext {p q : Nat → Bool} : ∀ {n : Nat}, (∀ i, i < n → p i = q i) → ctN p n = ctN q n
  | 0, _ => rfl
  | n + 1, h => by
    show (if p n = true then ctN p n + 1 else ctN p n) = (if q n = true then ctN q n + 1 else ctN q n)
    rw [h n (Nat.lt_succ_self n), ctN_ext (fun i hi => h i (Nat.lt_succ_of_lt hi))]
theorem ctN_va {p : Nat → Int32} {v : Int32} {b : Nat} : ∀ {n : Nat}, b < n → p b = 0 → v ≠ 0 → ctN (fun i => decide (va_up p b v i = 0)) n + 1 = ctN (fun i => decide (p i = 0)) n
  | 0, h, _, _ => absurd h (Nat.not_lt_zero b)
  | n + 1, h, hp, hv => by
    by_cases e : b = n
    · rw [ctN_n (k := n) (by rw [e, va_up_self]; simp [hv]), ctN_y (k := n) (by rw [← e]; simp [hp])]
      refine congrArg (· + 1) (ctN_ext (fun i hi => ?_))
      rw [va_up_ne _ _ (by omega)]
    · have ih := ctN_va (p := p) (v := v) (b := b) (n := n) (by omega) hp hv
      have e2 : va_up p b v n = p n := va_up_ne _ _ (fun q => e q.symm)
      by_cases q : p n = 0
      · rw [ctN_y (k := n) (by rw [e2]; simp [q]), ctN_y (k := n) (by simp [q]), ih]
      · rw [ctN_n (k := n) (by rw [e2]; simp [q]), ctN_n (k := n) (by simp [q]), ih]
theorem imin_nz {a b : Int32} (ha : 0 < a) (hb : 0 < b) : imin a b ≠ 0 := by
  unfold imin
  split
  · intro q; rw [q] at hb; exact absurd hb (by decide)
  · intro q; rw [q] at ha; exact absurd ha (by decide)
def rm_X10_paysByYears : Room := { frames := 3, cells := 0, slots := 0, locals := 68 }
set_option maxRecDepth 100000 in
set_option maxHeartbeats 4000000 in
theorem c_X10_paysByYears (l : Launch) (G : xGl) (w : xWd) (hw : isM w) (z : xSt) (sz : Nat) (bu : Int32) (L : List (Nat × Nat)) (hLd : laid z L) (hok : pbOk L L.length z 0 bu) : xMv l yX10_paysByYears cX10_paysByYears 6 rm_X10_paysByYears G w z sz [.ref (w.2.2 0), .int bu] (fun z1 => z1 = pbQ L L.length z 0 bu) := by
  refine x_mv (by decide) (Nat.le_of_ble_eq_true rfl) ?_
  intro p e s mt args below meth c ls Q hsz X hR hS hl hret
  obtain ⟨hx, hcb, hml, hown, hts, hlk, hK, hZ⟩ := X
  have hl : lv_has ls 6 [(0, .ref (w.2.2 0)), (1, .int bu)] := hl
  have hLn_ := hLd.2.1
  refine lv_iload_n hx hcb dX10_paysByYears_0 rfl (lv_at hl 1 rfl) ?_
  refine lv_istore_n (lv' := [(2, .int bu), (0, .ref (w.2.2 0)), (1, .int bu)]) hx hcb dX10_paysByYears_1 rfl hl (by decide) rfl (fun ls hl => ?_)
  refine lv_iconst (v := (nI 0)) hx hcb dX10_paysByYears_2 (by decide) ?_
  refine lv_istore_n (lv' := [(3, .int (nI 0)), (2, .int bu), (0, .ref (w.2.2 0)), (1, .int bu)]) hx hcb dX10_paysByYears_3 rfl hl (by decide) rfl (fun ls hl => ?_)
  suffices LP_4 : ∀ (nn : Nat) (f_ : Nat) (r_ : Int32) (y_ : xSt) (k_ : Nat) (_ : L.length - f_ < nn) (hLy_ : laid y_ L) (hfn_ : f_ ≤ L.length) (hk_ : L.length - f_ ≤ k_) (hok_ : pbOk L k_ y_ f_ r_) (hf_ : pbQ L L.length z 0 bu = pbQ L k_ y_ f_ r_) (H : Heap) (locs : List Loc) (ls : Array Slot), Rh G w y_ H → va_S (xA w s.heap.size) s.heap H locs → lv_has ls 6 [(0, .ref (w.2.2 0)), (2, .int r_), (3, .int (nI f_))] → W p l e rm_X10_paysByYears s mt args below meth c H locs 0 0 Q (F0 mt 4 ls []) from LP_4 ((_) + 1) 0 bu z L.length (Nat.lt_succ_self _) hLd (Nat.zero_le _) (by omega) hok rfl _ _ _ hR hS (lv_sub hl [2, 1, 0] rfl)
  intro nn
  induction nn with
  | zero => intro f_ r_ y_ k_ hm_ ; exact absurd hm_ (Nat.not_lt_zero _)
  | succ nn ih_4 =>
    intro f_ r_ y_ k_ hm_4 hLy_ hfn_ hk_ hok_ hf_ H locs ls hR hS hl
    refine lv_iload_n hx hcb dX10_paysByYears_4 rfl (lv_at hl 2 rfl) ?_
    refine lv_aload_n hx hcb dX10_paysByYears_5 rfl (lv_at hl 0 rfl) ?_
    refine x_getI hx hcb hts hown hK xc10 hR (hw.lo (by decide)) (hw.s0 rfl) 17 (by decide) rfl q_1183 dX10_paysByYears_6 ?_
    refine x_top (show (y_.1 0 17) = (nI L.length) from hLy_.1) ?_
    refine lv_icmp_ge (tgt := 91) hx hcb dX10_paysByYears_9 (by decide) (fun c_1 => ?_) (fun c_1 => ?_)
    · skip
      have c_1 : L.length ≤ f_ := (nI_leI (by omega) (by omega)).mp c_1
      have hfl_ : ¬ f_ < L.length := by omega
      exact hret y_ _ _ _ _ dX10_paysByYears_91 hR hS (by rw [hf_, pbQ_e hfl_])
    · skip
      have c_1 : ¬ L.length ≤ f_ := fun h_ => c_1 ((nI_leI (by omega) (by omega)).mpr h_)
      have hfl_ : f_ < L.length := by omega
      refine lv_iload_n hx hcb dX10_paysByYears_12 rfl (lv_at hl 2 rfl) ?_
      refine lv_istore (lv' := [(4, .int (nI f_)), (0, .ref (w.2.2 0)), (2, .int r_), (3, .int (nI f_))]) hx hcb dX10_paysByYears_13 hl (by decide) rfl (fun ls hl => ?_)
      refine lv_iconst (v := (nI 0)) hx hcb dX10_paysByYears_15 (by decide) ?_
      refine lv_istore (lv' := [(5, .int (nI 0)), (4, .int (nI f_)), (0, .ref (w.2.2 0)), (2, .int r_), (3, .int (nI f_))]) hx hcb dX10_paysByYears_16 hl (by decide) rfl (fun ls hl => ?_)
      rw [show (nI f_) = (nI (f_ + 0)) from rfl] at hl
      rw [show (nI 0) = (bx_sum (fun i => amt y_ L (f_ + i)) 0) from rfl] at hl
      suffices LP_18 : ∀ (nn : Nat) (i_ : Nat) (_ : L.length - (f_ + i_) < nn) (hi_ : f_ + i_ ≤ L.length) (hg_ : pbT y_ L f_ = seg (y_.1 15) (y_.1 15 f_) (L.length - (f_ + i_)) (f_ + i_)) (H : Heap) (locs : List Loc) (ls : Array Slot), Rh G w y_ H → va_S (xA w s.heap.size) s.heap H locs → lv_has ls 6 [(0, .ref (w.2.2 0)), (2, .int r_), (3, .int (nI f_)), (4, .int (nI (f_ + i_))), (5, .int (bx_sum (fun i => amt y_ L (f_ + i)) i_))] → W p l e rm_X10_paysByYears s mt args below meth c H locs 0 0 Q (F0 mt 18 ls []) from LP_18 ((_) + 1) 0 (Nat.lt_succ_self _) (by omega) rfl _ _ _ hR hS (lv_sub hl [2, 3, 4, 1, 0] rfl)
      intro nn
      induction nn with
      | zero => intro i_ hm_ ; exact absurd hm_ (Nat.not_lt_zero _)
      | succ nn ih_18 =>
        intro i_ hm_18 hi_ hg_ H locs ls hR hS hl
        refine lv_iload hx hcb dX10_paysByYears_18 (lv_at hl 3 rfl) ?_
        refine lv_aload_n hx hcb dX10_paysByYears_20 rfl (lv_at hl 0 rfl) ?_
        refine x_getI hx hcb hts hown hK xc10 hR (hw.lo (by decide)) (hw.s0 rfl) 17 (by decide) rfl q_1183 dX10_paysByYears_21 ?_
        refine x_top (show (y_.1 0 17) = (nI L.length) from hLy_.1) ?_
        refine lv_icmp_ge (tgt := 60) hx hcb dX10_paysByYears_24 (by decide) (fun c_2 => ?_) (fun c_2 => ?_)
        · skip
          have c_2 : L.length ≤ (f_ + i_) := (nI_leI (by omega) (by omega)).mp c_2
          have he_ : pbT y_ L f_ = f_ + i_ := by rw [hg_, show L.length - (f_ + i_) = 0 by omega]; rfl
          have es_ : pbS y_ L f_ = bx_sum (fun i => amt y_ L (f_ + i)) i_ := by unfold pbS; rw [he_, Nat.add_sub_cancel_left]
          rw [← es_, ← he_] at hl
          have hgt_ := pbT_gt (y := y_) (L := L) (f := f_) hfl_
          have hle_ := pbT_le y_ L f_ (by omega)
          obtain ⟨k1_, hk1_⟩ : ∃ q_, k_ = q_ + 1 := ⟨k_ - 1, by omega⟩
          have hso_ := pbOk_s hk1_ hok_ hfl_
          refine lv_aload_n hx hcb dX10_paysByYears_60 rfl (lv_at hl 0 rfl) ?_
          refine lv_iload_n hx hcb dX10_paysByYears_61 rfl (lv_at hl 2 rfl) ?_
          refine lv_iload hx hcb dX10_paysByYears_62 (lv_at hl 3 rfl) ?_
          refine lv_iload_n hx hcb dX10_paysByYears_64 rfl (lv_at hl 1 rfl) ?_
          refine lv_iload hx hcb dX10_paysByYears_65 (lv_at hl 4 rfl) ?_
          refine x_min hx hcb hml hown hts hl.1 q_1394 (by decide) (Nat.le_of_ble_eq_true rfl) (by decide) (by decide) dX10_paysByYears_67 ?_
          refine x_top (show (if (pbS y_ L f_) < r_ then (pbS y_ L f_) else r_) = (imin r_ (pbS y_ L f_)) from rfl) ?_
          refine x_cv0 rfl rfl (x_runV hx hcb hml hown hts (c_X10_sharesAmong l G w hw y_ _ f_ (pbT y_ L f_) (imin r_ (pbS y_ L f_)) L hLy_ (by omega) (by omega) hso_.1) mv_X10_sharesAmong q_1591 hK hZ hR hS (hw.lo (by decide)) xc10 (hw.s0 rfl) rfl hl.1 rfl (Nat.le_of_ble_eq_true rfl) dX10_paysByYears_70 ⟨by decide, by decide⟩ ⟨by decide, by decide⟩) hS (fun z_4 H locs hp_5 hR hS => ?_)
          rw [hp_5] at hR
          refine lv_iload_n hx hcb dX10_paysByYears_73 rfl (lv_at hl 1 rfl) ?_
          refine lv_iload hx hcb dX10_paysByYears_74 (lv_at hl 4 rfl) ?_
          refine lv_icmp_ge (tgt := 80) hx hcb dX10_paysByYears_76 (by decide) (fun c_6 => ?_) (fun c_6 => ?_)
          · skip
            have hrs_ : ¬ r_ < pbS y_ L f_ := Int32.not_lt.mpr c_6
            refine lv_iload_n hx hcb dX10_paysByYears_80 rfl (lv_at hl 1 rfl) ?_
            refine lv_iload hx hcb dX10_paysByYears_81 (lv_at hl 4 rfl) ?_
            refine lv_isub hx hcb dX10_paysByYears_83 ?_
            refine lv_istore_n (lv' := [(2, .int (r_ - (pbS y_ L f_))), (0, .ref (w.2.2 0)), (3, .int (nI f_)), (4, .int (nI (pbT y_ L f_))), (5, .int (pbS y_ L f_))]) hx hcb dX10_paysByYears_84 rfl hl (by decide) rfl (fun ls hl => ?_)
            refine lv_iload hx hcb dX10_paysByYears_85 (lv_at hl 3 rfl) ?_
            refine lv_istore_n (lv' := [(3, .int (nI (pbT y_ L f_))), (2, .int (r_ - (pbS y_ L f_))), (0, .ref (w.2.2 0)), (4, .int (nI (pbT y_ L f_))), (5, .int (pbS y_ L f_))]) hx hcb dX10_paysByYears_87 rfl hl (by decide) rfl (fun ls hl => ?_)
            refine lv_goto (tgt := 4) hx hcb dX10_paysByYears_88 (by decide) ?_
            exact ih_4 (pbT y_ L f_) (r_ - (pbS y_ L f_)) (saQ y_ L f_ (pbT y_ L f_) (imin r_ (pbS y_ L f_))) k1_ (by omega) (saQ_laid hLy_) hle_ (by omega) (hso_.2 hrs_) (by rw [hf_, pbQ_s hk1_, if_pos hfl_, if_neg hrs_]) _ _ _ hR hS (lv_sub hl [2, 1, 0] rfl)
          · skip
            have hrs_ : r_ < pbS y_ L f_ := Int32.not_le.mp c_6
            exact hret (saQ y_ L f_ (pbT y_ L f_) (imin r_ (pbS y_ L f_))) _ _ _ _ dX10_paysByYears_79 hR hS (by rw [hf_, pbQ_s hk1_, if_pos hfl_, if_pos hrs_])
        · skip
          have c_2 : ¬ L.length ≤ (f_ + i_) := fun h_ => c_2 ((nI_leI (by omega) (by omega)).mpr h_)
          refine lv_aload_n hx hcb dX10_paysByYears_27 rfl (lv_at hl 0 rfl) ?_
          refine x_getR hx hcb hts hown hK xc10 hR (hw.lo (by decide)) (hw.s0 rfl) 19 (by decide) rfl q_1185 dX10_paysByYears_28 ?_
          refine lv_iload hx hcb dX10_paysByYears_31 (lv_at hl 3 rfl) ?_
          refine x_iald hx hcb hK hR (hw.lo (by decide)) (hw.s0 rfl) (k := (f_ + i_)) (by omega) (by decide) dX10_paysByYears_33 ?_
          refine lv_aload_n hx hcb dX10_paysByYears_34 rfl (lv_at hl 0 rfl) ?_
          refine x_getR hx hcb hts hown hK xc10 hR (hw.lo (by decide)) (hw.s0 rfl) 19 (by decide) rfl q_1185 dX10_paysByYears_35 ?_
          refine lv_iload_n hx hcb dX10_paysByYears_38 rfl (lv_at hl 2 rfl) ?_
          refine x_iald hx hcb hK hR (hw.lo (by decide)) (hw.s0 rfl) (k := f_) (by omega) (by decide) dX10_paysByYears_39 ?_
          refine lv_icmp_ne (tgt := 60) hx hcb dX10_paysByYears_40 (by decide) (fun c_7 => ?_) (fun c_7 => ?_)
          · skip
            have he_ : pbT y_ L f_ = f_ + i_ := by rw [hg_, seg_s (k := L.length - (f_ + (i_ + 1))) (by omega), if_neg c_7]
            have es_ : pbS y_ L f_ = bx_sum (fun i => amt y_ L (f_ + i)) i_ := by unfold pbS; rw [he_, Nat.add_sub_cancel_left]
            rw [← es_, ← he_] at hl
            have hgt_ := pbT_gt (y := y_) (L := L) (f := f_) hfl_
            have hle_ := pbT_le y_ L f_ (by omega)
            obtain ⟨k1_, hk1_⟩ : ∃ q_, k_ = q_ + 1 := ⟨k_ - 1, by omega⟩
            have hso_ := pbOk_s hk1_ hok_ hfl_
            refine lv_aload_n hx hcb dX10_paysByYears_60 rfl (lv_at hl 0 rfl) ?_
            refine lv_iload_n hx hcb dX10_paysByYears_61 rfl (lv_at hl 2 rfl) ?_
            refine lv_iload hx hcb dX10_paysByYears_62 (lv_at hl 3 rfl) ?_
            refine lv_iload_n hx hcb dX10_paysByYears_64 rfl (lv_at hl 1 rfl) ?_
            refine lv_iload hx hcb dX10_paysByYears_65 (lv_at hl 4 rfl) ?_
            refine x_min hx hcb hml hown hts hl.1 q_1394 (by decide) (Nat.le_of_ble_eq_true rfl) (by decide) (by decide) dX10_paysByYears_67 ?_
            refine x_top (show (if (pbS y_ L f_) < r_ then (pbS y_ L f_) else r_) = (imin r_ (pbS y_ L f_)) from rfl) ?_
            refine x_cv0 rfl rfl (x_runV hx hcb hml hown hts (c_X10_sharesAmong l G w hw y_ _ f_ (pbT y_ L f_) (imin r_ (pbS y_ L f_)) L hLy_ (by omega) (by omega) hso_.1) mv_X10_sharesAmong q_1591 hK hZ hR hS (hw.lo (by decide)) xc10 (hw.s0 rfl) rfl hl.1 rfl (Nat.le_of_ble_eq_true rfl) dX10_paysByYears_70 ⟨by decide, by decide⟩ ⟨by decide, by decide⟩) hS (fun z_9 H locs hp_10 hR hS => ?_)
            rw [hp_10] at hR
            refine lv_iload_n hx hcb dX10_paysByYears_73 rfl (lv_at hl 1 rfl) ?_
            refine lv_iload hx hcb dX10_paysByYears_74 (lv_at hl 4 rfl) ?_
            refine lv_icmp_ge (tgt := 80) hx hcb dX10_paysByYears_76 (by decide) (fun c_11 => ?_) (fun c_11 => ?_)
            · skip
              have hrs_ : ¬ r_ < pbS y_ L f_ := Int32.not_lt.mpr c_11
              refine lv_iload_n hx hcb dX10_paysByYears_80 rfl (lv_at hl 1 rfl) ?_
              refine lv_iload hx hcb dX10_paysByYears_81 (lv_at hl 4 rfl) ?_
              refine lv_isub hx hcb dX10_paysByYears_83 ?_
              refine lv_istore_n (lv' := [(2, .int (r_ - (pbS y_ L f_))), (0, .ref (w.2.2 0)), (3, .int (nI f_)), (4, .int (nI (pbT y_ L f_))), (5, .int (pbS y_ L f_))]) hx hcb dX10_paysByYears_84 rfl hl (by decide) rfl (fun ls hl => ?_)
              refine lv_iload hx hcb dX10_paysByYears_85 (lv_at hl 3 rfl) ?_
              refine lv_istore_n (lv' := [(3, .int (nI (pbT y_ L f_))), (2, .int (r_ - (pbS y_ L f_))), (0, .ref (w.2.2 0)), (4, .int (nI (pbT y_ L f_))), (5, .int (pbS y_ L f_))]) hx hcb dX10_paysByYears_87 rfl hl (by decide) rfl (fun ls hl => ?_)
              refine lv_goto (tgt := 4) hx hcb dX10_paysByYears_88 (by decide) ?_
              exact ih_4 (pbT y_ L f_) (r_ - (pbS y_ L f_)) (saQ y_ L f_ (pbT y_ L f_) (imin r_ (pbS y_ L f_))) k1_ (by omega) (saQ_laid hLy_) hle_ (by omega) (hso_.2 hrs_) (by rw [hf_, pbQ_s hk1_, if_pos hfl_, if_neg hrs_]) _ _ _ hR hS (lv_sub hl [2, 1, 0] rfl)
            · skip
              have hrs_ : r_ < pbS y_ L f_ := Int32.not_le.mp c_11
              exact hret (saQ y_ L f_ (pbT y_ L f_) (imin r_ (pbS y_ L f_))) _ _ _ _ dX10_paysByYears_79 hR hS (by rw [hf_, pbQ_s hk1_, if_pos hfl_, if_pos hrs_])
          · skip
            have hq_ := c_7
            refine lv_iload hx hcb dX10_paysByYears_43 (lv_at hl 4 rfl) ?_
            refine lv_aload_n hx hcb dX10_paysByYears_45 rfl (lv_at hl 0 rfl) ?_
            refine lv_iload hx hcb dX10_paysByYears_46 (lv_at hl 3 rfl) ?_
            refine x_ci0 rfl rfl (x_runV hx hcb hml hown hts (c_X10_amountOf l G w hw y_ _ (f_ + i_) ((L.getD (f_ + i_) (0, 0)).2) ((L.getD (f_ + i_) (0, 0)).1) (by omega) ((hLy_.2.2 (f_ + i_) (by omega)).1) ((hLy_.2.2 (f_ + i_) (by omega)).2.1) ((hLy_.2.2 (f_ + i_) (by omega)).2.2.1) ((hLy_.2.2 (f_ + i_) (by omega)).2.2.2)) mv_X10_amountOf q_1587 hK hZ hR hS (hw.lo (by decide)) xc10 (hw.s0 rfl) rfl hl.1 rfl (Nat.le_of_ble_eq_true rfl) dX10_paysByYears_48 ⟨by decide, by decide⟩ ⟨by decide, by decide⟩) hS (fun r_12 z_13 H locs hp_14 hR hS => ?_)
            rw [hp_14.2] at hR; rw [hp_14.1]
            refine x_top (show (lfQ y_ ((L.getD (f_ + i_) (0, 0)).2) ((L.getD (f_ + i_) (0, 0)).1)) = (amt y_ L (f_ + i_)) from rfl) ?_
            refine lv_iadd hx hcb dX10_paysByYears_51 ?_
            refine lv_istore (lv' := [(5, .int ((bx_sum (fun i => amt y_ L (f_ + i)) i_) + (amt y_ L (f_ + i_)))), (0, .ref (w.2.2 0)), (2, .int r_), (3, .int (nI f_)), (4, .int (nI (f_ + i_)))]) hx hcb dX10_paysByYears_52 hl (by decide) rfl (fun ls hl => ?_)
            refine lv_iinc (v := (nI ((f_ + i_) + 1))) (lv' := [(4, .int (nI ((f_ + i_) + 1))), (5, .int ((bx_sum (fun i => amt y_ L (f_ + i)) i_) + (amt y_ L (f_ + i_)))), (0, .ref (w.2.2 0)), (2, .int r_), (3, .int (nI f_))]) hx hcb dX10_paysByYears_54 hl (k := 4) rfl (x_iinc1 _) (by decide) rfl (fun ls hl => ?_)
            refine lv_goto (tgt := 18) hx hcb dX10_paysByYears_57 (by decide) ?_
            rw [show (nI ((f_ + i_) + 1)) = (nI (f_ + (i_ + 1))) from rfl] at hl
            exact ih_18 (i_ + 1) (by omega) (by omega) (by rw [hg_, seg_s (k := L.length - (f_ + (i_ + 1))) (by omega), if_pos hq_]; rfl) _ _ _ hR hS (lv_sub hl [2, 3, 4, 0, 1] rfl)
def rm_X10_paysSmallest : Room := { frames := 2, cells := 0, slots := 0, locals := 43 }
set_option maxRecDepth 100000 in
set_option maxHeartbeats 4000000 in
theorem c_X10_paysSmallest (l : Launch) (G : xGl) (w : xWd) (hw : isM w) (z : xSt) (sz : Nat) (bu : Int32) (L : List (Nat × Nat)) (hLd : laid z L) (hpos : ∀ k, k < L.length → 0 < amt z L k) : xMv l yX10_paysSmallest cX10_paysSmallest 5 rm_X10_paysSmallest G w z sz [.ref (w.2.2 0), .int bu] (fun z1 => z1 = ur z 13 (psm (amt z L) L.length L.length (z.1 13) bu).1) := by
  refine x_mv (by decide) (Nat.le_of_ble_eq_true rfl) ?_
  intro p e s mt args below meth c ls Q hsz X hR hS hl hret
  obtain ⟨hx, hcb, hml, hown, hts, hlk, hK, hZ⟩ := X
  have hl : lv_has ls 5 [(0, .ref (w.2.2 0)), (1, .int bu)] := hl
  have hLn_ := hLd.2.1
  refine lv_iload_n hx hcb dX10_paysSmallest_0 rfl (lv_at hl 1 rfl) ?_
  refine lv_istore_n (lv' := [(2, .int bu), (0, .ref (w.2.2 0)), (1, .int bu)]) hx hcb dX10_paysSmallest_1 rfl hl (by decide) rfl (fun ls hl => ?_)
  rw [show z = ur z 13 (z.1 13) from (ur_id ..).symm] at hR
  suffices LP_2 : ∀ (nn : Nat) (p_ : Nat → Int32) (o_ : Int32) (k_ : Nat) (_ : k_ < nn) (hz_ : ctN (fun i => decide (p_ i = 0)) L.length ≤ k_) (hf_ : psm (amt z L) L.length L.length (z.1 13) bu = psm (amt z L) L.length k_ p_ o_) (H : Heap) (locs : List Loc) (ls : Array Slot), Rh G w (ur z 13 p_) H → va_S (xA w s.heap.size) s.heap H locs → lv_has ls 5 [(0, .ref (w.2.2 0)), (2, .int o_)] → W p l e rm_X10_paysSmallest s mt args below meth c H locs 0 0 Q (F0 mt 2 ls []) from LP_2 ((_) + 1) (z.1 13) bu L.length (Nat.lt_succ_self _) (ctN_le _ _) rfl _ _ _ hR hS (lv_sub hl [1, 0] rfl)
  intro nn
  induction nn with
  | zero => intro p_ o_ k_ hm_ ; exact absurd hm_ (Nat.not_lt_zero _)
  | succ nn ih_2 =>
    intro p_ o_ k_ hm_2 hz_ hf_ H locs ls hR hS hl
    refine lv_iload_n hx hcb dX10_paysSmallest_2 rfl (lv_at hl 1 rfl) ?_
    refine lv_if_le (tgt := 91) hx hcb dX10_paysSmallest_3 (by decide) (fun c_1 => ?_) (fun c_1 => ?_)
    · skip
      have ho_ : ¬ 0 < o_ := Int32.not_lt.mpr c_1
      exact hret (ur z 13 p_) _ _ _ _ dX10_paysSmallest_91 hR hS (by rw [hf_, psm_no ho_])
    · skip
      have ho_ : 0 < o_ := Int32.not_le.mp c_1
      refine lv_iconst (v := (-1)) hx hcb dX10_paysSmallest_6 (by decide) ?_
      refine lv_istore_n (lv' := [(3, .int (-1)), (0, .ref (w.2.2 0)), (2, .int o_)]) hx hcb dX10_paysSmallest_7 rfl hl (by decide) rfl (fun ls hl => ?_)
      refine lv_iconst (v := (nI 0)) hx hcb dX10_paysSmallest_8 (by decide) ?_
      refine lv_istore (lv' := [(4, .int (nI 0)), (3, .int (-1)), (0, .ref (w.2.2 0)), (2, .int o_)]) hx hcb dX10_paysSmallest_9 hl (by decide) rfl (fun ls hl => ?_)
      rw [show (-1) = (nI (smi (amt z L) p_ 0) - 1) from (by decide : (-1 : Int32) = nI 0 - 1)] at hl
      suffices LP_11 : ∀ (nn : Nat) (j_ : Nat) (_ : L.length - j_ < nn) (hj_ : j_ ≤ L.length) (H : Heap) (locs : List Loc) (ls : Array Slot), Rh G w (ur z 13 p_) H → va_S (xA w s.heap.size) s.heap H locs → lv_has ls 5 [(0, .ref (w.2.2 0)), (2, .int o_), (3, .int (nI (smi (amt z L) p_ j_) - 1)), (4, .int (nI j_))] → W p l e rm_X10_paysSmallest s mt args below meth c H locs 0 0 Q (F0 mt 11 ls []) from LP_11 ((_) + 1) 0 (Nat.lt_succ_self _) (Nat.zero_le _) _ _ _ hR hS (lv_sub hl [2, 3, 1, 0] rfl)
      intro nn
      induction nn with
      | zero => intro j_ hm_ ; exact absurd hm_ (Nat.not_lt_zero _)
      | succ nn ih_11 =>
        intro j_ hm_11 hj_ H locs ls hR hS hl
        refine lv_iload hx hcb dX10_paysSmallest_11 (lv_at hl 3 rfl) ?_
        refine lv_aload_n hx hcb dX10_paysSmallest_13 rfl (lv_at hl 0 rfl) ?_
        refine x_getI hx hcb hts hown hK xc10 hR (hw.lo (by decide)) (hw.s0 rfl) 17 (by decide) rfl q_1183 dX10_paysSmallest_14 ?_
        refine x_top (show ((ur z 13 p_).1 0 17) = (nI L.length) from hLd.1) ?_
        refine lv_icmp_ge (tgt := 58) hx hcb dX10_paysSmallest_17 (by decide) (fun c_2 => ?_) (fun c_2 => ?_)
        · skip
          have c_2 : L.length ≤ j_ := (nI_leI (by omega) (by omega)).mp c_2
          obtain rfl : L.length = j_ := by omega
          refine lv_iload_n hx hcb dX10_paysSmallest_58 rfl (lv_at hl 2 rfl) ?_
          refine lv_iconst (v := (-1)) hx hcb dX10_paysSmallest_59 (by decide) ?_
          refine lv_icmp_ne (tgt := 64) hx hcb dX10_paysSmallest_60 (by decide) (fun c_3 => ?_) (fun c_3 => ?_)
          · skip
            have hn0_ : ¬ smi (amt z L) p_ L.length = 0 := fun q_ => c_3 ((smi_m1 (by have := smi_le (amt z L) p_ L.length; omega)).mpr q_)
            obtain ⟨b_, hb_⟩ : ∃ q_, smi (amt z L) p_ L.length = q_ + 1 := ⟨smi (amt z L) p_ L.length - 1, by omega⟩
            have hbb_ := smi_k (amt z L) p_ hb_
            have hbl_ := hbb_.2
            have hct_ := ctN_va (v := imin o_ ((amt z L) b_)) hbb_.2 hbb_.1 (imin_nz ho_ (hpos b_ hbb_.2))
            rw [hb_, nI_pred] at hl
            refine lv_aload_n hx hcb dX10_paysSmallest_64 rfl (lv_at hl 0 rfl) ?_
            refine x_getR hx hcb hts hown hK xc10 hR (hw.lo (by decide)) (hw.s0 rfl) 16 (by decide) rfl q_1182 dX10_paysSmallest_65 ?_
            refine lv_iload_n hx hcb dX10_paysSmallest_68 rfl (lv_at hl 2 rfl) ?_
            refine lv_iload_n hx hcb dX10_paysSmallest_69 rfl (lv_at hl 1 rfl) ?_
            refine lv_aload_n hx hcb dX10_paysSmallest_70 rfl (lv_at hl 0 rfl) ?_
            refine lv_iload_n hx hcb dX10_paysSmallest_71 rfl (lv_at hl 2 rfl) ?_
            refine x_ci0 rfl rfl (x_runV hx hcb hml hown hts (c_X10_amountOf l G w hw (ur z 13 p_) _ b_ ((L.getD (b_) (0, 0)).2) ((L.getD (b_) (0, 0)).1) (by omega) ((hLd.2.2 (b_) (by omega)).1) ((hLd.2.2 (b_) (by omega)).2.1) ((hLd.2.2 (b_) (by omega)).2.2.1) ((hLd.2.2 (b_) (by omega)).2.2.2)) mv_X10_amountOf q_1587 hK hZ hR hS (hw.lo (by decide)) xc10 (hw.s0 rfl) rfl hl.1 rfl (Nat.le_of_ble_eq_true rfl) dX10_paysSmallest_72 ⟨by decide, by decide⟩ ⟨by decide, by decide⟩) hS (fun r_4 z_5 H locs hp_6 hR hS => ?_)
            rw [hp_6.2] at hR; rw [hp_6.1]
            refine x_top (show (lfQ (ur z 13 p_) ((L.getD (b_) (0, 0)).2) ((L.getD (b_) (0, 0)).1)) = (amt z L b_) from rfl) ?_
            refine x_min hx hcb hml hown hts hl.1 q_1394 (by decide) (Nat.le_of_ble_eq_true rfl) (by decide) (by decide) dX10_paysSmallest_75 ?_
            refine x_top (show (if (amt z L b_) < o_ then (amt z L b_) else o_) = (imin o_ ((amt z L) b_)) from rfl) ?_
            refine x_iast hx hcb hK hR hS (hw.lo (by decide)) (hw.s0 rfl) (k := b_) (v := (imin o_ ((amt z L) b_))) (by omega) (by decide) dX10_paysSmallest_78 (fun H locs hR hS => ?_)
            rw [show u1 (ur z 13 p_) 13 b_ (imin o_ ((amt z L) b_)) = ur z 13 (va_up p_ b_ (imin o_ ((amt z L) b_))) from u1_ur ..] at hR
            refine lv_iload_n hx hcb dX10_paysSmallest_79 rfl (lv_at hl 1 rfl) ?_
            refine lv_aload_n hx hcb dX10_paysSmallest_80 rfl (lv_at hl 0 rfl) ?_
            refine x_getR hx hcb hts hown hK xc10 hR (hw.lo (by decide)) (hw.s0 rfl) 16 (by decide) rfl q_1182 dX10_paysSmallest_81 ?_
            refine lv_iload_n hx hcb dX10_paysSmallest_84 rfl (lv_at hl 2 rfl) ?_
            refine x_iald hx hcb hK hR (hw.lo (by decide)) (hw.s0 rfl) (k := b_) (by omega) (by decide) dX10_paysSmallest_85 ?_
            refine x_top (show ((ur z 13 (va_up p_ b_ (imin o_ ((amt z L) b_)))).1 13 b_) = (imin o_ ((amt z L) b_)) from by rw [ur_at, va_up_self]) ?_
            refine lv_isub hx hcb dX10_paysSmallest_86 ?_
            refine lv_istore_n (lv' := [(2, .int (o_ - (imin o_ ((amt z L) b_)))), (0, .ref (w.2.2 0)), (3, .int (nI b_)), (4, .int (nI L.length))]) hx hcb dX10_paysSmallest_87 rfl hl (by decide) rfl (fun ls hl => ?_)
            refine lv_goto (tgt := 2) hx hcb dX10_paysSmallest_88 (by decide) ?_
            exact ih_2 (va_up p_ b_ (imin o_ ((amt z L) b_))) (o_ - (imin o_ ((amt z L) b_))) (k_ - 1) (by omega) (by omega) (by rw [hf_, psm_s (k := k_ - 1) (by omega), if_pos ho_, if_neg (by omega), hb_, Nat.add_sub_cancel]) _ _ _ hR hS (lv_sub hl [1, 0] rfl)
          · skip
            have hn0_ : smi (amt z L) p_ L.length = 0 := (smi_m1 (by have := smi_le (amt z L) p_ L.length; omega)).mp c_3
            exact hret (ur z 13 p_) _ _ _ _ dX10_paysSmallest_63 hR hS (by rw [hf_, psm_z hn0_])
        · skip
          have c_2 : ¬ L.length ≤ j_ := fun h_ => c_2 ((nI_leI (by omega) (by omega)).mpr h_)
          refine lv_aload_n hx hcb dX10_paysSmallest_20 rfl (lv_at hl 0 rfl) ?_
          refine x_getR hx hcb hts hown hK xc10 hR (hw.lo (by decide)) (hw.s0 rfl) 16 (by decide) rfl q_1182 dX10_paysSmallest_21 ?_
          refine lv_iload hx hcb dX10_paysSmallest_24 (lv_at hl 3 rfl) ?_
          refine x_iald hx hcb hK hR (hw.lo (by decide)) (hw.s0 rfl) (k := j_) (by omega) (by decide) dX10_paysSmallest_26 ?_
          refine x_top (show ((ur z 13 p_).1 13 j_) = (p_ j_) from by rw [ur_at]) ?_
          refine lv_if_ne (tgt := 52) hx hcb dX10_paysSmallest_27 (by decide) (fun c_7 => ?_) (fun c_7 => ?_)
          · skip
            have hq_ : ¬ (p_ j_ = 0 ∧ (smi (amt z L) p_ j_ = 0 ∨ (amt z L) j_ < (amt z L) (smi (amt z L) p_ j_ - 1))) := fun q_ => c_7 q_.1
            refine lv_iinc (v := (nI (j_ + 1))) (lv' := [(4, .int (nI (j_ + 1))), (0, .ref (w.2.2 0)), (2, .int o_), (3, .int (nI (smi (amt z L) p_ j_) - 1))]) hx hcb dX10_paysSmallest_52 hl (k := 3) rfl (x_iinc1 _) (by decide) rfl (fun ls hl => ?_)
            refine lv_goto (tgt := 11) hx hcb dX10_paysSmallest_55 (by decide) ?_
            rw [show (nI (smi (amt z L) p_ j_) - 1) = (nI (smi (amt z L) p_ (j_ + 1)) - 1) from by first | (rw [smi_n hq_]; done) | (rw [smi_n hq_, ek_, nI_pred]; done) | (rw [smi_y hq_, nI_pred])] at hl
            exact ih_11 (j_ + 1) (by omega) (by omega) _ _ _ hR hS (lv_sub hl [1, 2, 3, 0] rfl)
          · skip
            have hp0_ := c_7
            refine lv_iload_n hx hcb dX10_paysSmallest_30 rfl (lv_at hl 2 rfl) ?_
            refine lv_iconst (v := (-1)) hx hcb dX10_paysSmallest_31 (by decide) ?_
            refine lv_icmp_eq (tgt := 49) hx hcb dX10_paysSmallest_32 (by decide) (fun c_8 => ?_) (fun c_8 => ?_)
            · skip
              have hq_ : (p_ j_ = 0 ∧ (smi (amt z L) p_ j_ = 0 ∨ (amt z L) j_ < (amt z L) (smi (amt z L) p_ j_ - 1))) := ⟨hp0_, Or.inl ((smi_m1 (by have := smi_le (amt z L) p_ j_; omega)).mp c_8)⟩
              refine lv_iload hx hcb dX10_paysSmallest_49 (lv_at hl 3 rfl) ?_
              refine lv_istore_n (lv' := [(3, .int (nI j_)), (0, .ref (w.2.2 0)), (2, .int o_), (4, .int (nI j_))]) hx hcb dX10_paysSmallest_51 rfl hl (by decide) rfl (fun ls hl => ?_)
              refine lv_iinc (v := (nI (j_ + 1))) (lv' := [(4, .int (nI (j_ + 1))), (3, .int (nI j_)), (0, .ref (w.2.2 0)), (2, .int o_)]) hx hcb dX10_paysSmallest_52 hl (k := 3) rfl (x_iinc1 _) (by decide) rfl (fun ls hl => ?_)
              refine lv_goto (tgt := 11) hx hcb dX10_paysSmallest_55 (by decide) ?_
              rw [show (nI j_) = (nI (smi (amt z L) p_ (j_ + 1)) - 1) from by first | (rw [smi_n hq_]; done) | (rw [smi_n hq_, ek_, nI_pred]; done) | (rw [smi_y hq_, nI_pred])] at hl
              exact ih_11 (j_ + 1) (by omega) (by omega) _ _ _ hR hS (lv_sub hl [2, 3, 1, 0] rfl)
            · skip
              have hn0_ : ¬ smi (amt z L) p_ j_ = 0 := fun q_ => c_8 ((smi_m1 (by have := smi_le (amt z L) p_ j_; omega)).mpr q_)
              have hsl_ := smi_le (amt z L) p_ j_
              obtain ⟨c_, ek_⟩ : ∃ q_, smi (amt z L) p_ j_ = q_ + 1 := ⟨smi (amt z L) p_ j_ - 1, by omega⟩
              rw [ek_, nI_pred] at hl
              refine lv_aload_n hx hcb dX10_paysSmallest_35 rfl (lv_at hl 0 rfl) ?_
              refine lv_iload hx hcb dX10_paysSmallest_36 (lv_at hl 3 rfl) ?_
              refine x_ci0 rfl rfl (x_runV hx hcb hml hown hts (c_X10_amountOf l G w hw (ur z 13 p_) _ j_ ((L.getD (j_) (0, 0)).2) ((L.getD (j_) (0, 0)).1) (by omega) ((hLd.2.2 (j_) (by omega)).1) ((hLd.2.2 (j_) (by omega)).2.1) ((hLd.2.2 (j_) (by omega)).2.2.1) ((hLd.2.2 (j_) (by omega)).2.2.2)) mv_X10_amountOf q_1587 hK hZ hR hS (hw.lo (by decide)) xc10 (hw.s0 rfl) rfl hl.1 rfl (Nat.le_of_ble_eq_true rfl) dX10_paysSmallest_38 ⟨by decide, by decide⟩ ⟨by decide, by decide⟩) hS (fun r_9 z_10 H locs hp_11 hR hS => ?_)
              rw [hp_11.2] at hR; rw [hp_11.1]
              refine x_top (show (lfQ (ur z 13 p_) ((L.getD (j_) (0, 0)).2) ((L.getD (j_) (0, 0)).1)) = (amt z L j_) from rfl) ?_
              refine lv_aload_n hx hcb dX10_paysSmallest_41 rfl (lv_at hl 0 rfl) ?_
              refine lv_iload_n hx hcb dX10_paysSmallest_42 rfl (lv_at hl 2 rfl) ?_
              refine x_ci0 rfl rfl (x_runV hx hcb hml hown hts (c_X10_amountOf l G w hw (ur z 13 p_) _ c_ ((L.getD (c_) (0, 0)).2) ((L.getD (c_) (0, 0)).1) (by omega) ((hLd.2.2 (c_) (by omega)).1) ((hLd.2.2 (c_) (by omega)).2.1) ((hLd.2.2 (c_) (by omega)).2.2.1) ((hLd.2.2 (c_) (by omega)).2.2.2)) mv_X10_amountOf q_1587 hK hZ hR hS (hw.lo (by decide)) xc10 (hw.s0 rfl) rfl hl.1 rfl (Nat.le_of_ble_eq_true rfl) dX10_paysSmallest_43 ⟨by decide, by decide⟩ ⟨by decide, by decide⟩) hS (fun r_12 z_13 H locs hp_14 hR hS => ?_)
              rw [hp_14.2] at hR; rw [hp_14.1]
              refine x_top (show (lfQ (ur z 13 p_) ((L.getD (c_) (0, 0)).2) ((L.getD (c_) (0, 0)).1)) = (amt z L c_) from rfl) ?_
              refine lv_icmp_ge (tgt := 52) hx hcb dX10_paysSmallest_46 (by decide) (fun c_15 => ?_) (fun c_15 => ?_)
              · skip
                have hq_ : ¬ (p_ j_ = 0 ∧ (smi (amt z L) p_ j_ = 0 ∨ (amt z L) j_ < (amt z L) (smi (amt z L) p_ j_ - 1))) := fun q_ => q_.2.elim hn0_ (fun t_ => absurd c_15 (Int32.not_le.mpr (by rw [ek_, Nat.add_sub_cancel] at t_; exact t_)))
                refine lv_iinc (v := (nI (j_ + 1))) (lv' := [(4, .int (nI (j_ + 1))), (0, .ref (w.2.2 0)), (2, .int o_), (3, .int (nI c_))]) hx hcb dX10_paysSmallest_52 hl (k := 3) rfl (x_iinc1 _) (by decide) rfl (fun ls hl => ?_)
                refine lv_goto (tgt := 11) hx hcb dX10_paysSmallest_55 (by decide) ?_
                rw [show (nI c_) = (nI (smi (amt z L) p_ (j_ + 1)) - 1) from by first | (rw [smi_n hq_]; done) | (rw [smi_n hq_, ek_, nI_pred]; done) | (rw [smi_y hq_, nI_pred])] at hl
                exact ih_11 (j_ + 1) (by omega) (by omega) _ _ _ hR hS (lv_sub hl [1, 2, 3, 0] rfl)
              · skip
                have hq_ : (p_ j_ = 0 ∧ (smi (amt z L) p_ j_ = 0 ∨ (amt z L) j_ < (amt z L) (smi (amt z L) p_ j_ - 1))) := ⟨hp0_, Or.inr (by rw [ek_, Nat.add_sub_cancel]; exact Int32.not_le.mp c_15)⟩
                refine lv_iload hx hcb dX10_paysSmallest_49 (lv_at hl 3 rfl) ?_
                refine lv_istore_n (lv' := [(3, .int (nI j_)), (0, .ref (w.2.2 0)), (2, .int o_), (4, .int (nI j_))]) hx hcb dX10_paysSmallest_51 rfl hl (by decide) rfl (fun ls hl => ?_)
                refine lv_iinc (v := (nI (j_ + 1))) (lv' := [(4, .int (nI (j_ + 1))), (3, .int (nI j_)), (0, .ref (w.2.2 0)), (2, .int o_)]) hx hcb dX10_paysSmallest_52 hl (k := 3) rfl (x_iinc1 _) (by decide) rfl (fun ls hl => ?_)
                refine lv_goto (tgt := 11) hx hcb dX10_paysSmallest_55 (by decide) ?_
                rw [show (nI j_) = (nI (smi (amt z L) p_ (j_ + 1)) - 1) from by first | (rw [smi_n hq_]; done) | (rw [smi_n hq_, ek_, nI_pred]; done) | (rw [smi_y hq_, nI_pred])] at hl
                exact ih_11 (j_ + 1) (by omega) (by omega) _ _ _ hR hS (lv_sub hl [2, 3, 1, 0] rfl)
