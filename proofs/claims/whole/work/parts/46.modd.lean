/-! THE REFERENCE: redemption -/
def lpL (z : xSt) (Y : Nat) : List (Nat × Nat) := lcs z (mQ z 12) (yst z (min Y 24) 0)
def lpZ (z : xSt) (Y : Nat) (bu : Int32) : xSt :=
  if z.1 4 4 = 0 then pbQ (lpL z Y) (lpL z Y).length (lS z (lpL z Y)) 0 (imin (lSum z (lpL z Y)) bu)
  else if z.1 4 4 = nI 1 then saQ (lS z (lpL z Y)) (lpL z Y) 0 (lpL z Y).length (imin (lSum z (lpL z Y)) bu)
  else ur (lS z (lpL z Y)) 13 (psm (amt z (lpL z Y)) (lpL z Y).length (lpL z Y).length ((lS z (lpL z Y)).1 13) (imin (lSum z (lpL z Y)) bu)).1
def lpOk (z : xSt) (Y : Nat) (bu : Int32) : Prop :=
  (z.1 4 4 = 0 → pbOk (lpL z Y) (lpL z Y).length (lS z (lpL z Y)) 0 (imin (lSum z (lpL z Y)) bu)) ∧
  (¬ z.1 4 4 = 0 → z.1 4 4 = nI 1 → shA (lS z (lpL z Y)) (lpL z Y) 0 (lpL z Y).length (imin (lSum z (lpL z Y)) bu)) ∧
  (¬ z.1 4 4 = 0 → ¬ z.1 4 4 = nI 1 → ∀ k, k < (lpL z Y).length → 0 < amt (lS z (lpL z Y)) (lpL z Y) k)
theorem lcM_mem {z : xSt} {y : Nat} {q : Nat × Nat} : ∀ {m : Nat}, q ∈ lcM z y m → q.1 = y ∧ q.2 < m
  | 0, h => absurd h (List.not_mem_nil)
  | m + 1, h => by
    have h0 : q ∈ (if z.1 4 (5 + m) = 0 ∧ lfQ z m y ≠ 0 then lcM z y m ++ [(y, m)] else lcM z y m) := h
    split at h0
    · rcases List.mem_append.mp h0 with h1 | h1
      · have := lcM_mem h1; omega
      · rw [List.mem_singleton.mp h1]; exact ⟨rfl, Nat.lt_succ_self _⟩
    · have := lcM_mem h0; omega
theorem lcs_mem {z : xSt} {mc : Nat} {q : Nat × Nat} : ∀ {y : Nat}, q ∈ lcs z mc y → q.1 < y ∧ q.2 < mc
  | 0, h => absurd h (List.not_mem_nil)
  | y + 1, h => by
    have h0 : q ∈ lcs z mc y ++ lcM z y mc := h
    rcases List.mem_append.mp h0 with h1 | h1
    · have := lcs_mem h1; omega
    · have := lcM_mem h1; omega
theorem getD_mem {L : List (Nat × Nat)} {k : Nat} (h : k < L.length) : L.getD k (0, 0) ∈ L := by
  rw [List.getD_eq_getElem?_getD, List.getElem?_eq_getElem h]
  exact List.getElem_mem h
theorem lS_laid0 {z : xSt} {mc y : Nat} (hm : mc ≤ 8) (hy : y ≤ 24) : laid (lS z (lcs z mc y)) (lcs z mc y) := by
  refine ⟨rfl, ?_, fun k hk => ?_⟩
  · have := lcs_len z hm y; omega
  · have h := lcs_mem (getD_mem hk)
    refine ⟨?_, ?_, by omega, by omega⟩
    · exact pre_lt (f := cOw (lcs z mc y)) hk
    · exact pre_lt (f := cYr (lcs z mc y)) hk
theorem lS_laid {z : xSt} {Y : Nat} (hm : mQ z 12 ≤ 8) : laid (lS z (lpL z Y)) (lpL z Y) := lS_laid0 hm (by have := yst_le z (min Y 24) 0; omega)
theorem lpZ_1 {z : xSt} {Y : Nat} {bu : Int32} {o : Nat} (h : o ≠ 13) : (lpZ z Y bu).1 o = (lS z (lpL z Y)).1 o := by
  unfold lpZ
  split
  · exact pbQ_1 h _ _ _ _
  · split
    · exact saQ_1 h
    · exact ur_ne _ _ h
theorem lpZ_laid {z : xSt} {Y : Nat} {bu : Int32} (hm : mQ z 12 ≤ 8) : laid (lpZ z Y bu) (lpL z Y) := (lS_laid hm).of (by rw [lpZ_1 (by decide)]) (lpZ_1 (by decide)) (lpZ_1 (by decide))
theorem lpZ_0 {z : xSt} {Y : Nat} {bu : Int32} : (lpZ z Y bu).1 0 8 = z.1 0 8 := by rw [lpZ_1 (by decide)]; rfl
theorem lpZ_4 {z : xSt} {Y : Nat} {bu : Int32} : (lpZ z Y bu).1 4 = z.1 4 := lpZ_1 (by decide)
theorem lpZ_2 {z : xSt} {Y : Nat} {bu : Int32} : (lpZ z Y bu).1 2 = z.1 2 := lpZ_1 (by decide)
theorem kpS_laid {z : xSt} {u : Nat} {L : List (Nat × Nat)} (h : laid z L) : laid (kpS z u) L := h.of (by unfold kpS; split <;> rfl) (by unfold kpS; split <;> rfl) (by unfold kpS; split <;> rfl)
theorem yst_of {z z2 : xSt} (h : z2.1 4 = z.1 4) : ∀ k i, yst z2 k i = yst z k i
  | 0, _ => rfl
  | k + 1, i => by unfold yst; rw [h, yst_of h k]
theorem lcM_of {z z2 : xSt} (h : z2.1 4 = z.1 4) (y : Nat) : ∀ m, lcM z2 y m = lcM z y m
  | 0 => rfl
  | m + 1 => by unfold lcM lfQ; rw [h, lcM_of h y m]
theorem lcs_of {z z2 : xSt} (h : z2.1 4 = z.1 4) (mc : Nat) : ∀ y, lcs z2 mc y = lcs z mc y
  | 0 => rfl
  | y + 1 => by unfold lcs; rw [lcs_of h mc y, lcM_of h y mc]
theorem yst_0 (z : xSt) (v : Int32) (k i : Nat) : yst (u1 z 0 0 v) k i = yst z k i := yst_of (z := z) (z2 := u1 z 0 0 v) rfl k i
theorem lcs_0 (z : xSt) (v : Int32) (mc y : Nat) : lcs (u1 z 0 0 v) mc y = lcs z mc y := lcs_of (z := z) (z2 := u1 z 0 0 v) rfl mc y
def paQ (z : xSt) (L : List (Nat × Nat)) : Nat → xSt
  | 0 => z
  | i + 1 => u1 (u1 (paQ z L i) 4 (61 + 24 * (L.getD i (0, 0)).2 + (L.getD i (0, 0)).1) (lfQ (paQ z L i) (L.getD i (0, 0)).2 (L.getD i (0, 0)).1 - (paQ z L i).1 13 i)) 4 (445 + 3 * (L.getD i (0, 0)).2 + 1) ((u1 (paQ z L i) 4 (61 + 24 * (L.getD i (0, 0)).2 + (L.getD i (0, 0)).1) (lfQ (paQ z L i) (L.getD i (0, 0)).2 (L.getD i (0, 0)).1 - (paQ z L i).1 13 i)).1 4 (445 + 3 * (L.getD i (0, 0)).2 + 1) + (paQ z L i).1 13 i)
theorem paQ_1 {z : xSt} {L : List (Nat × Nat)} {o : Nat} (h : o ≠ 4) : ∀ i, (paQ z L i).1 o = z.1 o
  | 0 => rfl
  | i + 1 => by
    unfold paQ
    rw [u1_ne _ h, u1_ne _ h]
    exact paQ_1 h i
def rm_X10_laysPayments : Room := { frames := 4, cells := 0, slots := 0, locals := 93 }
set_option maxRecDepth 100000 in
set_option maxHeartbeats 4000000 in
theorem c_X10_laysPayments (l : Launch) (G : xGl) (w : xWd) (hw : isM w) (z : xSt) (sz : Nat) (bu : Int32) (Y : Nat) (hmq : z.1 2 12 = nI (mQ z 12)) (hm8_ : mQ z 12 ≤ 8) (hY : z.1 4 494 = nI Y) (hY2 : Y < 200) (hok : lpOk z Y bu) : xMi l yX10_laysPayments cX10_laysPayments 4 (some FieldType.int) rm_X10_laysPayments G w z sz [.ref (w.2.2 0), .int bu] (fun r z1 => r = imin (lSum z (lpL z Y)) bu ∧ z1 = lpZ z Y bu) := by
  refine x_mi (by decide) (Nat.le_of_ble_eq_true rfl) ?_
  intro p e s mt args below meth c ls Q hsz X hR hS hl hret
  obtain ⟨hx, hcb, hml, hown, hts, hlk, hK, hZ⟩ := X
  have hl : lv_has ls 4 [(0, .ref (w.2.2 0)), (1, .int bu)] := hl
  have hlaid_ := lS_laid (z := z) (Y := Y) hm8_
  refine lv_aload_n hx hcb dX10_laysPayments_0 rfl (lv_at hl 0 rfl) ?_
  refine lv_aload_n hx hcb dX10_laysPayments_1 rfl (lv_at hl 0 rfl) ?_
  refine x_ci0 rfl rfl (x_runV hx hcb hml hown hts (c_X10_lastYear l G w hw z _ ) mv_X10_lastYear q_1579 hK hZ hR hS (hw.lo (by decide)) xc10 (hw.s0 rfl) rfl hl.1 rfl (Nat.le_of_ble_eq_true rfl) dX10_laysPayments_2 ⟨by decide, by decide⟩ ⟨by decide, by decide⟩) hS (fun r_1 z_2 H locs hp_3 hR hS => ?_)
  rw [hp_3.2] at hR; rw [hp_3.1]
  refine x_ci0 rfl rfl (x_runV hx hcb hml hown hts (c_X10_laysCertificates l G w hw z _ (imin (z.1 4 494) (nI 24) - nI 1) (min Y 24) hmq hm8_ (by rw [hY]; exact congrArg (· - 1) (nI_min (by omega) (by omega))) (by omega)) mv_X10_laysCertificates q_1567 hK hZ hR hS (hw.lo (by decide)) xc10 (hw.s0 rfl) rfl hl.1 rfl (Nat.le_of_ble_eq_true rfl) dX10_laysPayments_5 ⟨by decide, by decide⟩ ⟨by decide, by decide⟩) hS (fun r_4 z_5 H locs hp_6 hR hS => ?_)
  rw [hp_6.2] at hR; rw [hp_6.1]
  refine x_top (show (lSum z (lcs z (mQ z 12) (yst z (min Y 24) 0))) = (lSum z (lpL z Y)) from rfl) ?_
  rw [show lS z (lcs z (mQ z 12) (yst z (min Y 24) 0)) = lS z (lpL z Y) from rfl] at hR
  refine lv_istore_n (lv' := [(2, .int (lSum z (lpL z Y))), (0, .ref (w.2.2 0)), (1, .int bu)]) hx hcb dX10_laysPayments_8 rfl hl (by decide) rfl (fun ls hl => ?_)
  refine lv_iload_n hx hcb dX10_laysPayments_9 rfl (lv_at hl 0 rfl) ?_
  refine lv_iload_n hx hcb dX10_laysPayments_10 rfl (lv_at hl 2 rfl) ?_
  refine x_min hx hcb hml hown hts hl.1 q_1394 (by decide) (Nat.le_of_ble_eq_true rfl) (by decide) (by decide) dX10_laysPayments_11 ?_
  refine x_top (show (if bu < (lSum z (lpL z Y)) then bu else (lSum z (lpL z Y))) = (imin (lSum z (lpL z Y)) bu) from rfl) ?_
  refine lv_istore_n (lv' := [(3, .int (imin (lSum z (lpL z Y)) bu)), (2, .int (lSum z (lpL z Y))), (0, .ref (w.2.2 0)), (1, .int bu)]) hx hcb dX10_laysPayments_14 rfl hl (by decide) rfl (fun ls hl => ?_)
  refine lv_aload_n hx hcb dX10_laysPayments_15 rfl (lv_at hl 2 rfl) ?_
  refine x_getR hx hcb hts hown hK xc10 hR (hw.lo (by decide)) (hw.s0 rfl) 5 (by decide) rfl q_1171 dX10_laysPayments_16 ?_
  refine lv_iconst (v := (nI 4)) hx hcb dX10_laysPayments_19 (by decide) ?_
  refine x_iald hx hcb hK hR (hw.lo (by decide)) (hw.s0 rfl) (k := 4) (by omega) (by decide) dX10_laysPayments_20 ?_
  refine x_top (show ((lS z (lpL z Y)).1 4 4) = (z.1 4 4) from rfl) ?_
  refine lv_if_ne (tgt := 32) hx hcb dX10_laysPayments_21 (by decide) (fun c_7 => ?_) (fun c_7 => ?_)
  · skip
    have h_ : ¬ z.1 4 4 = 0 := c_7
    refine lv_aload_n hx hcb dX10_laysPayments_32 rfl (lv_at hl 2 rfl) ?_
    refine x_getR hx hcb hts hown hK xc10 hR (hw.lo (by decide)) (hw.s0 rfl) 5 (by decide) rfl q_1171 dX10_laysPayments_33 ?_
    refine lv_iconst (v := (nI 4)) hx hcb dX10_laysPayments_36 (by decide) ?_
    refine x_iald hx hcb hK hR (hw.lo (by decide)) (hw.s0 rfl) (k := 4) (by omega) (by decide) dX10_laysPayments_37 ?_
    refine x_top (show ((lS z (lpL z Y)).1 4 4) = (z.1 4 4) from rfl) ?_
    refine lv_iconst (v := (nI 1)) hx hcb dX10_laysPayments_38 (by decide) ?_
    refine lv_icmp_ne (tgt := 55) hx hcb dX10_laysPayments_39 (by decide) (fun c_8 => ?_) (fun c_8 => ?_)
    · skip
      have h2_ : ¬ z.1 4 4 = nI 1 := c_8
      refine lv_aload_n hx hcb dX10_laysPayments_55 rfl (lv_at hl 2 rfl) ?_
      refine lv_iload_n hx hcb dX10_laysPayments_56 rfl (lv_at hl 0 rfl) ?_
      refine x_cv0 rfl rfl (x_runV hx hcb hml hown hts (c_X10_paysSmallest l G w hw (lS z (lpL z Y)) _ (imin (lSum z (lpL z Y)) bu) (lpL z Y) hlaid_ (hok.2.2 h_ h2_)) mv_X10_paysSmallest q_1595 hK hZ hR hS (hw.lo (by decide)) xc10 (hw.s0 rfl) rfl hl.1 rfl (Nat.le_of_ble_eq_true rfl) dX10_laysPayments_57 ⟨by decide, by decide⟩ ⟨by decide, by decide⟩) hS (fun z_10 H locs hp_11 hR hS => ?_)
      rw [hp_11] at hR
      refine lv_iload_n hx hcb dX10_laysPayments_60 rfl (lv_at hl 0 rfl) ?_
      exact hret (imin (lSum z (lpL z Y)) bu) (ur (lS z (lpL z Y)) 13 (psm (amt (lS z (lpL z Y)) (lpL z Y)) (lpL z Y).length (lpL z Y).length ((lS z (lpL z Y)).1 13) (imin (lSum z (lpL z Y)) bu)).1) _ _ _ _ dX10_laysPayments_61 rfl hR hS (⟨rfl, by unfold lpZ; first | (rw [if_pos h_]; done) | (rw [if_neg h_, if_pos h2_]; done) | (rw [if_neg h_, if_neg h2_]; rfl)⟩)
    · skip
      have h2_ : z.1 4 4 = nI 1 := c_8
      refine lv_aload_n hx hcb dX10_laysPayments_42 rfl (lv_at hl 2 rfl) ?_
      refine lv_iconst (v := (nI 0)) hx hcb dX10_laysPayments_43 (by decide) ?_
      refine lv_aload_n hx hcb dX10_laysPayments_44 rfl (lv_at hl 2 rfl) ?_
      refine x_getI hx hcb hts hown hK xc10 hR (hw.lo (by decide)) (hw.s0 rfl) 17 (by decide) rfl q_1183 dX10_laysPayments_45 ?_
      refine x_top (show ((lS z (lpL z Y)).1 0 17) = (nI ((lpL z Y).length)) from rfl) ?_
      refine lv_iload_n hx hcb dX10_laysPayments_48 rfl (lv_at hl 0 rfl) ?_
      refine x_cv0 rfl rfl (x_runV hx hcb hml hown hts (c_X10_sharesAmong l G w hw (lS z (lpL z Y)) _ 0 ((lpL z Y).length) (imin (lSum z (lpL z Y)) bu) (lpL z Y) hlaid_ (by omega) (by omega) (hok.2.1 h_ h2_)) mv_X10_sharesAmong q_1591 hK hZ hR hS (hw.lo (by decide)) xc10 (hw.s0 rfl) rfl hl.1 rfl (Nat.le_of_ble_eq_true rfl) dX10_laysPayments_49 ⟨by decide, by decide⟩ ⟨by decide, by decide⟩) hS (fun z_13 H locs hp_14 hR hS => ?_)
      rw [hp_14] at hR
      refine lv_goto (tgt := 60) hx hcb dX10_laysPayments_52 (by decide) ?_
      refine lv_iload_n hx hcb dX10_laysPayments_60 rfl (lv_at hl 0 rfl) ?_
      exact hret (imin (lSum z (lpL z Y)) bu) (saQ (lS z (lpL z Y)) (lpL z Y) 0 ((lpL z Y).length) (imin (lSum z (lpL z Y)) bu)) _ _ _ _ dX10_laysPayments_61 rfl hR hS (⟨rfl, by unfold lpZ; first | (rw [if_pos h_]; done) | (rw [if_neg h_, if_pos h2_]; done) | (rw [if_neg h_, if_neg h2_]; rfl)⟩)
  · skip
    have h_ : z.1 4 4 = 0 := c_7
    refine lv_aload_n hx hcb dX10_laysPayments_24 rfl (lv_at hl 2 rfl) ?_
    refine lv_iload_n hx hcb dX10_laysPayments_25 rfl (lv_at hl 0 rfl) ?_
    refine x_cv0 rfl rfl (x_runV hx hcb hml hown hts (c_X10_paysByYears l G w hw (lS z (lpL z Y)) _ (imin (lSum z (lpL z Y)) bu) (lpL z Y) hlaid_ (hok.1 h_)) mv_X10_paysByYears q_1583 hK hZ hR hS (hw.lo (by decide)) xc10 (hw.s0 rfl) rfl hl.1 rfl (Nat.le_of_ble_eq_true rfl) dX10_laysPayments_26 ⟨by decide, by decide⟩ ⟨by decide, by decide⟩) hS (fun z_16 H locs hp_17 hR hS => ?_)
    rw [hp_17] at hR
    refine lv_goto (tgt := 60) hx hcb dX10_laysPayments_29 (by decide) ?_
    refine lv_iload_n hx hcb dX10_laysPayments_60 rfl (lv_at hl 0 rfl) ?_
    exact hret (imin (lSum z (lpL z Y)) bu) (pbQ (lpL z Y) (lpL z Y).length (lS z (lpL z Y)) 0 (imin (lSum z (lpL z Y)) bu)) _ _ _ _ dX10_laysPayments_61 rfl hR hS (⟨rfl, by unfold lpZ; first | (rw [if_pos h_]; done) | (rw [if_neg h_, if_pos h2_]; done) | (rw [if_neg h_, if_neg h2_]; rfl)⟩)
def rm_X10_paysAll : Room := { frames := 1, cells := 0, slots := 0, locals := 23 }
set_option maxRecDepth 100000 in
set_option maxHeartbeats 4000000 in
theorem c_X10_paysAll (l : Launch) (G : xGl) (w : xWd) (hw : isM w) (z : xSt) (sz : Nat)  (L : List (Nat × Nat)) (hLd : laid z L) : xMv l yX10_paysAll cX10_paysAll 2 rm_X10_paysAll G w z sz [.ref (w.2.2 0)] (fun z1 => z1 = paQ z L L.length) := by
  refine x_mv (by decide) (Nat.le_of_ble_eq_true rfl) ?_
  intro p e s mt args below meth c ls Q hsz X hR hS hl hret
  obtain ⟨hx, hcb, hml, hown, hts, hlk, hK, hZ⟩ := X
  have hl : lv_has ls 2 [(0, .ref (w.2.2 0))] := hl
  have hLn_ := hLd.2.1
  have hke_ := fun i o (ho : o ≠ 4) => paQ_1 (z := z) (L := L) ho i
  refine lv_iconst (v := (nI 0)) hx hcb dX10_paysAll_0 (by decide) ?_
  refine lv_istore_n (lv' := [(1, .int (nI 0)), (0, .ref (w.2.2 0))]) hx hcb dX10_paysAll_1 rfl hl (by decide) rfl (fun ls hl => ?_)
  rw [show z = paQ z L 0 from rfl] at hR
  suffices LP_2 : ∀ (nn : Nat) (i_ : Nat) (_ : L.length - i_ < nn) (hi_ : i_ ≤ L.length) (H : Heap) (locs : List Loc) (ls : Array Slot), Rh G w (paQ z L i_) H → va_S (xA w s.heap.size) s.heap H locs → lv_has ls 2 [(0, .ref (w.2.2 0)), (1, .int (nI i_))] → W p l e rm_X10_paysAll s mt args below meth c H locs 0 0 Q (F0 mt 2 ls []) from LP_2 ((_) + 1) 0 (Nat.lt_succ_self _) (Nat.zero_le _) _ _ _ hR hS (lv_sub hl [1, 0] rfl)
  intro nn
  induction nn with
  | zero => intro i_ hm_ ; exact absurd hm_ (Nat.not_lt_zero _)
  | succ nn ih_2 =>
    intro i_ hm_2 hi_ H locs ls hR hS hl
    refine lv_iload_n hx hcb dX10_paysAll_2 rfl (lv_at hl 1 rfl) ?_
    refine lv_aload_n hx hcb dX10_paysAll_3 rfl (lv_at hl 0 rfl) ?_
    refine x_getI hx hcb hts hown hK xc10 hR (hw.lo (by decide)) (hw.s0 rfl) 17 (by decide) rfl q_1183 dX10_paysAll_4 ?_
    refine x_top (show ((paQ z L i_).1 0 17) = (nI L.length) from by rw [hke_ i_ 0 (by decide)]; exact hLd.1) ?_
    refine lv_icmp_ge (tgt := 55) hx hcb dX10_paysAll_7 (by decide) (fun c_1 => ?_) (fun c_1 => ?_)
    · skip
      have c_1 : L.length ≤ i_ := (nI_leI (by omega) (by omega)).mp c_1
      obtain rfl : L.length = i_ := by omega
      exact hret (paQ z L L.length) _ _ _ _ dX10_paysAll_55 hR hS rfl
    · skip
      have c_1 : ¬ L.length ≤ i_ := fun h_ => c_1 ((nI_leI (by omega) (by omega)).mpr h_)
      refine lv_aload_n hx hcb dX10_paysAll_10 rfl (lv_at hl 0 rfl) ?_
      refine lv_aload_n hx hcb dX10_paysAll_11 rfl (lv_at hl 0 rfl) ?_
      refine x_getR hx hcb hts hown hK xc10 hR (hw.lo (by decide)) (hw.s0 rfl) 18 (by decide) rfl q_1184 dX10_paysAll_12 ?_
      refine lv_iload_n hx hcb dX10_paysAll_15 rfl (lv_at hl 1 rfl) ?_
      refine x_iald hx hcb hK hR (hw.lo (by decide)) (hw.s0 rfl) (k := i_) (by omega) (by decide) dX10_paysAll_16 ?_
      refine x_top (show ((paQ z L i_).1 14 i_) = (nI ((L.getD (i_) (0, 0)).2)) from by rw [hke_ i_ 14 (by decide)]; exact (hLd.2.2 i_ (by omega)).1) ?_
      refine lv_aload_n hx hcb dX10_paysAll_17 rfl (lv_at hl 0 rfl) ?_
      refine x_getR hx hcb hts hown hK xc10 hR (hw.lo (by decide)) (hw.s0 rfl) 19 (by decide) rfl q_1185 dX10_paysAll_18 ?_
      refine lv_iload_n hx hcb dX10_paysAll_21 rfl (lv_at hl 1 rfl) ?_
      refine x_iald hx hcb hK hR (hw.lo (by decide)) (hw.s0 rfl) (k := i_) (by omega) (by decide) dX10_paysAll_22 ?_
      refine x_top (show ((paQ z L i_).1 15 i_) = (nI ((L.getD (i_) (0, 0)).1)) from by rw [hke_ i_ 15 (by decide)]; exact (hLd.2.2 i_ (by omega)).2.1) ?_
      refine lv_aload_n hx hcb dX10_paysAll_23 rfl (lv_at hl 0 rfl) ?_
      refine x_getR hx hcb hts hown hK xc10 hR (hw.lo (by decide)) (hw.s0 rfl) 16 (by decide) rfl q_1182 dX10_paysAll_24 ?_
      refine lv_iload_n hx hcb dX10_paysAll_27 rfl (lv_at hl 1 rfl) ?_
      refine x_iald hx hcb hK hR (hw.lo (by decide)) (hw.s0 rfl) (k := i_) (by omega) (by decide) dX10_paysAll_28 ?_
      refine x_top (show ((paQ z L i_).1 13 i_) = ((paQ z L i_).1 13 i_) from rfl) ?_
      refine x_cv0 rfl rfl (x_runV hx hcb hml hown hts (c_X10_takes l G w hw (paQ z L i_) _ ((L.getD (i_) (0, 0)).2) ((L.getD (i_) (0, 0)).1) ((paQ z L i_).1 13 i_) ((hLd.2.2 i_ (by omega)).2.2.1) ((hLd.2.2 i_ (by omega)).2.2.2)) mv_X10_takes q_1395 hK hZ hR hS (hw.lo (by decide)) xc10 (hw.s0 rfl) rfl hl.1 rfl (Nat.le_of_ble_eq_true rfl) dX10_paysAll_29 ⟨by decide, by decide⟩ ⟨by decide, by decide⟩) hS (fun z_3 H locs hp_4 hR hS => ?_)
      rw [hp_4] at hR
      refine lv_aload_n hx hcb dX10_paysAll_32 rfl (lv_at hl 0 rfl) ?_
      refine lv_aload_n hx hcb dX10_paysAll_33 rfl (lv_at hl 0 rfl) ?_
      refine x_getR hx hcb hts hown hK xc10 hR (hw.lo (by decide)) (hw.s0 rfl) 18 (by decide) rfl q_1184 dX10_paysAll_34 ?_
      refine lv_iload_n hx hcb dX10_paysAll_37 rfl (lv_at hl 1 rfl) ?_
      refine x_iald hx hcb hK hR (hw.lo (by decide)) (hw.s0 rfl) (k := i_) (by omega) (by decide) dX10_paysAll_38 ?_
      refine x_top (show ((u1 (paQ z L i_) 4 (61 + 24 * ((L.getD (i_) (0, 0)).2) + ((L.getD (i_) (0, 0)).1)) (lfQ (paQ z L i_) ((L.getD (i_) (0, 0)).2) ((L.getD (i_) (0, 0)).1) - ((paQ z L i_).1 13 i_))).1 14 i_) = (nI ((L.getD (i_) (0, 0)).2)) from by show ((paQ z L i_)).1 14 i_ = _; rw [hke_ i_ 14 (by decide)]; exact (hLd.2.2 i_ (by omega)).1) ?_
      refine lv_iconst (v := (nI 1)) hx hcb dX10_paysAll_39 (by decide) ?_
      refine lv_aload_n hx hcb dX10_paysAll_40 rfl (lv_at hl 0 rfl) ?_
      refine x_getR hx hcb hts hown hK xc10 hR (hw.lo (by decide)) (hw.s0 rfl) 16 (by decide) rfl q_1182 dX10_paysAll_41 ?_
      refine lv_iload_n hx hcb dX10_paysAll_44 rfl (lv_at hl 1 rfl) ?_
      refine x_iald hx hcb hK hR (hw.lo (by decide)) (hw.s0 rfl) (k := i_) (by omega) (by decide) dX10_paysAll_45 ?_
      refine x_top (show ((u1 (paQ z L i_) 4 (61 + 24 * ((L.getD (i_) (0, 0)).2) + ((L.getD (i_) (0, 0)).1)) (lfQ (paQ z L i_) ((L.getD (i_) (0, 0)).2) ((L.getD (i_) (0, 0)).1) - ((paQ z L i_).1 13 i_))).1 13 i_) = ((paQ z L i_).1 13 i_) from rfl) ?_
      refine x_cv0 rfl rfl (x_runV hx hcb hml hown hts (c_X10_pays l G w hw (u1 (paQ z L i_) 4 (61 + 24 * ((L.getD (i_) (0, 0)).2) + ((L.getD (i_) (0, 0)).1)) (lfQ (paQ z L i_) ((L.getD (i_) (0, 0)).2) ((L.getD (i_) (0, 0)).1) - ((paQ z L i_).1 13 i_))) _ ((L.getD (i_) (0, 0)).2) 1 ((paQ z L i_).1 13 i_) ((hLd.2.2 i_ (by omega)).2.2.1) (by omega)) mv_X10_pays q_1382 hK hZ hR hS (hw.lo (by decide)) xc10 (hw.s0 rfl) rfl hl.1 rfl (Nat.le_of_ble_eq_true rfl) dX10_paysAll_46 ⟨by decide, by decide⟩ ⟨by decide, by decide⟩) hS (fun z_6 H locs hp_7 hR hS => ?_)
      rw [hp_7] at hR
      refine lv_iinc (v := (nI (i_ + 1))) (lv' := [(1, .int (nI (i_ + 1))), (0, .ref (w.2.2 0))]) hx hcb dX10_paysAll_49 hl (k := 1) rfl (x_iinc1 _) (by decide) rfl (fun ls hl => ?_)
      refine lv_goto (tgt := 2) hx hcb dX10_paysAll_52 (by decide) ?_
      rw [show (u1 (u1 (paQ z L i_) 4 (61 + 24 * ((L.getD (i_) (0, 0)).2) + ((L.getD (i_) (0, 0)).1)) (lfQ (paQ z L i_) ((L.getD (i_) (0, 0)).2) ((L.getD (i_) (0, 0)).1) - ((paQ z L i_).1 13 i_))) 4 (445 + 3 * ((L.getD (i_) (0, 0)).2) + 1) ((u1 (paQ z L i_) 4 (61 + 24 * ((L.getD (i_) (0, 0)).2) + ((L.getD (i_) (0, 0)).1)) (lfQ (paQ z L i_) ((L.getD (i_) (0, 0)).2) ((L.getD (i_) (0, 0)).1) - ((paQ z L i_).1 13 i_))).1 4 (445 + 3 * ((L.getD (i_) (0, 0)).2) + 1) + ((paQ z L i_).1 13 i_))) = (paQ z L (i_ + 1)) from rfl] at hR
      exact ih_2 (i_ + 1) (by omega) (by omega) _ _ _ hR hS (lv_sub hl [1, 0] rfl)
def rm_X10_redeemable : Room := { frames := 2, cells := 0, slots := 0, locals := 46 }
set_option maxRecDepth 100000 in
set_option maxHeartbeats 4000000 in
theorem c_X10_redeemable (l : Launch) (G : xGl) (w : xWd) (hw : isM w) (z : xSt) (sz : Nat)  (hO : rOk z) : xMi l yX10_redeemable cX10_redeemable 1 (some FieldType.int) rm_X10_redeemable G w z sz [.ref (w.2.2 0)] (fun r z1 => r = lSum z (lcs z (mQ z 12) (yst z (yQ z) 0)) ∧ z1 = lS (u1 z 0 0 0) (lcs z (mQ z 12) (yst z (yQ z) 0))) := by
  refine x_mi (by decide) (Nat.le_of_ble_eq_true rfl) ?_
  intro p e s mt args below meth c ls Q hsz X hR hS hl hret
  obtain ⟨hx, hcb, hml, hown, hts, hlk, hK, hZ⟩ := X
  have hl : lv_has ls 1 [(0, .ref (w.2.2 0))] := hl
  have hm8_ := hO.2.1
  have hd4_ := hO.2.2.2.1
  have hy24_ := hO.2.2.2.2.2
  refine lv_aload_n hx hcb dX10_redeemable_0 rfl (lv_at hl 0 rfl) ?_
  refine lv_iconst (v := (nI 0)) hx hcb dX10_redeemable_1 (by decide) ?_
  refine x_putI hx hcb hts hown hK xc10 hR hS (hw.lo (by decide)) (hw.s0 rfl) 0 (by decide) rfl q_1166 rfl (v := 0) rfl rfl dX10_redeemable_2 (fun H locs hR hS => ?_)
  refine lv_aload_n hx hcb dX10_redeemable_5 rfl (lv_at hl 0 rfl) ?_
  refine lv_aload_n hx hcb dX10_redeemable_6 rfl (lv_at hl 0 rfl) ?_
  refine x_getR hx hcb hts hown hK xc10 hR (hw.lo (by decide)) (hw.s0 rfl) 5 (by decide) rfl q_1171 dX10_redeemable_7 ?_
  refine lv_sipush (v := (nI 494)) hx hcb dX10_redeemable_10 (by decide) ?_
  refine x_iald hx hcb hK hR (hw.lo (by decide)) (hw.s0 rfl) (k := 494) (by omega) (by decide) dX10_redeemable_13 ?_
  refine x_top (show ((u1 z 0 0 0).1 4 494) = (nI (yQ z)) from hO.2.2.2.2.1) ?_
  refine lv_iconst (v := (nI 1)) hx hcb dX10_redeemable_14 (by decide) ?_
  refine lv_isub hx hcb dX10_redeemable_15 ?_
  refine x_ci0 rfl rfl (x_runV hx hcb hml hown hts (c_X10_laysCertificates l G w hw (u1 z 0 0 0) _ ((nI (yQ z)) - (nI 1)) (yQ z) hO.1 hm8_ rfl hy24_) mv_X10_laysCertificates q_1567 hK hZ hR hS (hw.lo (by decide)) xc10 (hw.s0 rfl) rfl hl.1 rfl (Nat.le_of_ble_eq_true rfl) dX10_redeemable_16 ⟨by decide, by decide⟩ ⟨by decide, by decide⟩) hS (fun r_1 z_2 H locs hp_3 hR hS => ?_)
  rw [hp_3.2] at hR; rw [hp_3.1]
  exact hret (lSum (u1 z 0 0 0) (lcs (u1 z 0 0 0) (mQ (u1 z 0 0 0) 12) (yst (u1 z 0 0 0) (yQ z) 0))) (lS (u1 z 0 0 0) (lcs (u1 z 0 0 0) (mQ (u1 z 0 0 0) 12) (yst (u1 z 0 0 0) (yQ z) 0))) _ _ _ _ dX10_redeemable_19 rfl hR hS (⟨by rw [lcs_0, yst_0]; rfl, by rw [lcs_0, yst_0]; rfl⟩)
def rm_X10_budgetThrough : Room := { frames := 2, cells := 0, slots := 0, locals := 46 }
set_option maxRecDepth 100000 in
set_option maxHeartbeats 4000000 in
theorem c_X10_budgetThrough (l : Launch) (G : xGl) (w : xWd) (hw : isM w) (z : xSt) (sz : Nat) (x : Int32) (hO : rOk z) : xMi l yX10_budgetThrough cX10_budgetThrough 2 (some FieldType.int) rm_X10_budgetThrough G w z sz [.ref (w.2.2 0), .int x] (fun r z1 => (r, z1) = if inR x (yQ z) then (lSum z (lcs z (mQ z 12) (yst z (x.toNatClampNeg + 1) 0)), lS (u1 z 0 0 0) (lcs z (mQ z 12) (yst z (x.toNatClampNeg + 1) 0))) else ((-2), u1 z 0 0 0)) := by
  refine x_mi (by decide) (Nat.le_of_ble_eq_true rfl) ?_
  intro p e s mt args below meth c ls Q hsz X hR hS hl hret
  obtain ⟨hx, hcb, hml, hown, hts, hlk, hK, hZ⟩ := X
  have hl : lv_has ls 2 [(0, .ref (w.2.2 0)), (1, .int x)] := hl
  have hm8_ := hO.2.1
  have hd4_ := hO.2.2.2.1
  have hy24_ := hO.2.2.2.2.2
  refine lv_aload_n hx hcb dX10_budgetThrough_0 rfl (lv_at hl 0 rfl) ?_
  refine lv_iconst (v := (nI 0)) hx hcb dX10_budgetThrough_1 (by decide) ?_
  refine x_putI hx hcb hts hown hK xc10 hR hS (hw.lo (by decide)) (hw.s0 rfl) 0 (by decide) rfl q_1166 rfl (v := 0) rfl rfl dX10_budgetThrough_2 (fun H locs hR hS => ?_)
  refine lv_aload_n hx hcb dX10_budgetThrough_5 rfl (lv_at hl 0 rfl) ?_
  refine lv_iload_n hx hcb dX10_budgetThrough_6 rfl (lv_at hl 1 rfl) ?_
  refine x_ci0 rfl rfl (x_runV hx hcb hml hown hts (c_X10_isClosed l G w hw (u1 z 0 0 0) _ x hO) mv_X10_isClosed q_1484 hK hZ hR hS (hw.lo (by decide)) xc10 (hw.s0 rfl) rfl hl.1 rfl (Nat.le_of_ble_eq_true rfl) dX10_budgetThrough_7 ⟨by decide, by decide⟩ ⟨by decide, by decide⟩) hS (fun r_1 z_2 H locs hp_3 hR hS => ?_)
  rw [hp_3.2] at hR; rw [hp_3.1]
  refine x_top (show (if inR x (yQ (u1 z 0 0 0)) then 1 else 0) = (if inR x (yQ z) then 1 else 0) from rfl) ?_
  refine lv_if_eq (tgt := 21) hx hcb dX10_budgetThrough_10 (by decide) (fun c_4 => ?_) (fun c_4 => ?_)
  · skip
    have h_ : ¬ (inR x (yQ z)) := fun q_ => absurd c_4 (by rw [if_pos q_]; decide)
    refine lv_bipush (v := (-2)) hx hcb dX10_budgetThrough_21 (by decide) ?_
    exact hret (-2) (u1 z 0 0 0) _ _ _ _ dX10_budgetThrough_23 rfl hR hS (by first | (rw [if_pos h_, ← ek_]; first | done | (rw [lcs_0, yst_0]; rfl)) | (rw [if_neg h_]; done))
  · skip
    have h_ : inR x (yQ z) := Classical.byContradiction (fun q_ => c_4 (if_neg q_))
    have hxk_ := inR_k (n := yQ z) (by omega) h_
    obtain ⟨k_, ek_⟩ : ∃ q_, q_ = x.toNatClampNeg := ⟨_, rfl⟩
    rw [← ek_] at hxk_
    have hltk_ := hxk_.2
    rw [hxk_.1] at hl
    refine lv_aload_n hx hcb dX10_budgetThrough_13 rfl (lv_at hl 0 rfl) ?_
    refine lv_iload_n hx hcb dX10_budgetThrough_14 rfl (lv_at hl 1 rfl) ?_
    refine x_ci0 rfl rfl (x_runV hx hcb hml hown hts (c_X10_laysCertificates l G w hw (u1 z 0 0 0) _ (nI k_) (k_ + 1) hO.1 hm8_ ((nI_pred k_).symm) (by omega)) mv_X10_laysCertificates q_1567 hK hZ hR hS (hw.lo (by decide)) xc10 (hw.s0 rfl) rfl hl.1 rfl (Nat.le_of_ble_eq_true rfl) dX10_budgetThrough_15 ⟨by decide, by decide⟩ ⟨by decide, by decide⟩) hS (fun r_5 z_6 H locs hp_7 hR hS => ?_)
    rw [hp_7.2] at hR; rw [hp_7.1]
    refine lv_goto (tgt := 23) hx hcb dX10_budgetThrough_18 (by decide) ?_
    exact hret (lSum (u1 z 0 0 0) (lcs (u1 z 0 0 0) (mQ (u1 z 0 0 0) 12) (yst (u1 z 0 0 0) (k_ + 1) 0))) (lS (u1 z 0 0 0) (lcs (u1 z 0 0 0) (mQ (u1 z 0 0 0) 12) (yst (u1 z 0 0 0) (k_ + 1) 0))) _ _ _ _ dX10_budgetThrough_23 rfl hR hS (by first | (rw [if_pos h_, ← ek_]; first | done | (rw [lcs_0, yst_0]; rfl)) | (rw [if_neg h_]; done))
def rm_X10_wouldRedeem : Room := { frames := 5, cells := 0, slots := 0, locals := 116 }
set_option maxRecDepth 100000 in
set_option maxHeartbeats 4000000 in
theorem c_X10_wouldRedeem (l : Launch) (G : xGl) (w : xWd) (hw : isM w) (z : xSt) (sz : Nat) (x : Int32) (bu : Int32) (Y : Nat) (hO : rOk z) (hY : z.1 4 494 = nI Y) (hY2 : Y < 200) (hok : inR x (mQ z 12) → ¬ (bu < 0 ∨ ¬ bu ≤ nI 10000000) → lpOk (ck z (inR x (mQ z 12))) Y bu) : xMi l yX10_wouldRedeem cX10_wouldRedeem 6 (some FieldType.int) rm_X10_wouldRedeem G w z sz [.ref (w.2.2 0), .int x, .int bu] (fun r z1 => (r, z1) = if inR x (mQ z 12) then (if (bu < 0 ∨ ¬ bu ≤ nI 10000000) then ((-2), (ck z (inR x (mQ z 12)))) else (if 0 < imin (lSum (ck z (inR x (mQ z 12))) (lpL (ck z (inR x (mQ z 12))) Y)) bu then bx_sum (fun k => if (lpZ (ck z (inR x (mQ z 12))) Y bu).1 14 k = nI x.toNatClampNeg then (lpZ (ck z (inR x (mQ z 12))) Y bu).1 13 k else 0) (lpL (ck z (inR x (mQ z 12))) Y).length else 0, (lpZ (ck z (inR x (mQ z 12))) Y bu))) else (0, (ck z (inR x (mQ z 12))))) := by
  refine x_mi (by decide) (Nat.le_of_ble_eq_true rfl) ?_
  intro p e s mt args below meth c ls Q hsz X hR hS hl hret
  obtain ⟨hx, hcb, hml, hown, hts, hlk, hK, hZ⟩ := X
  have hl : lv_has ls 6 [(0, .ref (w.2.2 0)), (1, .int x), (2, .int bu)] := hl
  have hm8_ := hO.2.1
  have hd4_ := hO.2.2.2.1
  have hy24_ := hO.2.2.2.2.2
  have hlp_ := lpZ_laid (z := (ck z (inR x (mQ z 12)))) (Y := Y) (bu := bu) hm8_
  have hLn_ := hlp_.2.1
  refine lv_aload_n hx hcb dX10_wouldRedeem_0 rfl (lv_at hl 0 rfl) ?_
  refine lv_aload_n hx hcb dX10_wouldRedeem_1 rfl (lv_at hl 0 rfl) ?_
  refine lv_iload_n hx hcb dX10_wouldRedeem_2 rfl (lv_at hl 1 rfl) ?_
  refine x_ci0 rfl rfl (x_runV hx hcb hml hown hts (c_X10_isMember l G w hw z _ x hO) mv_X10_isMember q_1456 hK hZ hR hS (hw.lo (by decide)) xc10 (hw.s0 rfl) rfl hl.1 rfl (Nat.le_of_ble_eq_true rfl) dX10_wouldRedeem_3 ⟨by decide, by decide⟩ ⟨by decide, by decide⟩) hS (fun r_1 z_2 H locs hp_3 hR hS => ?_)
  rw [hp_3.2] at hR; rw [hp_3.1]
  refine x_ci0 rfl rfl (x_runV hx hcb hml hown hts (c_X10_checks l G w hw z _ (if inR x (mQ z 12) then 1 else 0) (inR x (mQ z 12)) rfl) mv_X10_checks q_1460 hK hZ hR hS (hw.lo (by decide)) xc10 (hw.s0 rfl) rfl hl.1 rfl (Nat.le_of_ble_eq_true rfl) dX10_wouldRedeem_6 ⟨by decide, by decide⟩ ⟨by decide, by decide⟩) hS (fun r_4 z_5 H locs hp_6 hR hS => ?_)
  rw [hp_6.2] at hR; rw [hp_6.1]
  refine lv_if_ne (tgt := 14) hx hcb dX10_wouldRedeem_9 (by decide) (fun c_7 => ?_) (fun c_7 => ?_)
  · skip
    have h_ : inR x (mQ z 12) := Classical.byContradiction (fun q_ => c_7 (if_neg q_))
    have hxk_ := inR_k (n := mQ z 12) (by omega) h_
    obtain ⟨k_, ek_⟩ : ∃ q_, q_ = x.toNatClampNeg := ⟨_, rfl⟩
    rw [← ek_] at hxk_
    have hltk_ := hxk_.2
    rw [hxk_.1] at hl
    refine lv_iload_n hx hcb dX10_wouldRedeem_14 rfl (lv_at hl 2 rfl) ?_
    refine lv_if_lt (tgt := 24) hx hcb dX10_wouldRedeem_15 (by decide) (fun c_8 => ?_) (fun c_8 => ?_)
    · skip
      have hb_ : (bu < 0 ∨ ¬ bu ≤ nI 10000000) := Or.inl c_8
      refine lv_bipush (v := (-2)) hx hcb dX10_wouldRedeem_24 (by decide) ?_
      exact hret (-2) (ck z (inR x (mQ z 12))) _ _ _ _ dX10_wouldRedeem_26 rfl hR hS (by rw [if_pos h_, if_pos hb_])
    · skip
      have hb0_ := c_8
      refine lv_iload_n hx hcb dX10_wouldRedeem_18 rfl (lv_at hl 2 rfl) ?_
      refine lv_ldc (v := (nI 10000000)) hx hcb hown (hts _ q_1299) dX10_wouldRedeem_19 ?_
      refine lv_icmp_le (tgt := 27) hx hcb dX10_wouldRedeem_21 (by decide) (fun c_9 => ?_) (fun c_9 => ?_)
      · skip
        have hb_ : ¬ (bu < 0 ∨ ¬ bu ≤ nI 10000000) := fun q_ => q_.elim hb0_ (fun t_ => t_ c_9)
        refine lv_aload_n hx hcb dX10_wouldRedeem_27 rfl (lv_at hl 0 rfl) ?_
        refine lv_iload_n hx hcb dX10_wouldRedeem_28 rfl (lv_at hl 2 rfl) ?_
        refine x_ci0 rfl rfl (x_runV hx hcb hml hown hts (c_X10_laysPayments l G w hw (ck z (inR x (mQ z 12))) _ bu Y hO.1 hm8_ hY hY2 (hok h_ hb_)) mv_X10_laysPayments q_1575 hK hZ hR hS (hw.lo (by decide)) xc10 (hw.s0 rfl) rfl hl.1 rfl (Nat.le_of_ble_eq_true rfl) dX10_wouldRedeem_29 ⟨by decide, by decide⟩ ⟨by decide, by decide⟩) hS (fun r_10 z_11 H locs hp_12 hR hS => ?_)
        rw [hp_12.2] at hR; rw [hp_12.1]
        refine x_top (show (imin (lSum (ck z (inR x (mQ z 12))) (lpL (ck z (inR x (mQ z 12))) Y)) bu) = (imin (lSum (ck z (inR x (mQ z 12))) (lpL (ck z (inR x (mQ z 12))) Y)) bu) from rfl) ?_
        refine lv_istore_n (lv' := [(3, .int (imin (lSum (ck z (inR x (mQ z 12))) (lpL (ck z (inR x (mQ z 12))) Y)) bu)), (0, .ref (w.2.2 0)), (1, .int (nI k_)), (2, .int bu)]) hx hcb dX10_wouldRedeem_32 rfl hl (by decide) rfl (fun ls hl => ?_)
        refine lv_iconst (v := (nI 0)) hx hcb dX10_wouldRedeem_33 (by decide) ?_
        refine lv_istore (lv' := [(4, .int (nI 0)), (3, .int (imin (lSum (ck z (inR x (mQ z 12))) (lpL (ck z (inR x (mQ z 12))) Y)) bu)), (0, .ref (w.2.2 0)), (1, .int (nI k_)), (2, .int bu)]) hx hcb dX10_wouldRedeem_34 hl (by decide) rfl (fun ls hl => ?_)
        refine lv_iconst (v := (nI 0)) hx hcb dX10_wouldRedeem_36 (by decide) ?_
        refine lv_istore (lv' := [(5, .int (nI 0)), (4, .int (nI 0)), (3, .int (imin (lSum (ck z (inR x (mQ z 12))) (lpL (ck z (inR x (mQ z 12))) Y)) bu)), (0, .ref (w.2.2 0)), (1, .int (nI k_)), (2, .int bu)]) hx hcb dX10_wouldRedeem_37 hl (by decide) rfl (fun ls hl => ?_)
        rw [show (nI 0) = (bx_sum (fun k => if (lpZ (ck z (inR x (mQ z 12))) Y bu).1 14 k = nI k_ then (lpZ (ck z (inR x (mQ z 12))) Y bu).1 13 k else 0) 0) from rfl] at hl
        suffices LP_39 : ∀ (nn : Nat) (i_ : Nat) (_ : (lpL (ck z (inR x (mQ z 12))) Y).length - i_ < nn) (hi_ : i_ ≤ (lpL (ck z (inR x (mQ z 12))) Y).length) (hal_ : i_ = 0 ∨ 0 < imin (lSum (ck z (inR x (mQ z 12))) (lpL (ck z (inR x (mQ z 12))) Y)) bu) (H : Heap) (locs : List Loc) (ls : Array Slot), Rh G w (lpZ (ck z (inR x (mQ z 12))) Y bu) H → va_S (xA w s.heap.size) s.heap H locs → lv_has ls 6 [(0, .ref (w.2.2 0)), (1, .int (nI k_)), (3, .int (imin (lSum (ck z (inR x (mQ z 12))) (lpL (ck z (inR x (mQ z 12))) Y)) bu)), (4, .int (bx_sum (fun k => if (lpZ (ck z (inR x (mQ z 12))) Y bu).1 14 k = nI k_ then (lpZ (ck z (inR x (mQ z 12))) Y bu).1 13 k else 0) i_)), (5, .int (nI i_))] → W p l e rm_X10_wouldRedeem s mt args below meth c H locs 0 0 Q (F0 mt 39 ls []) from LP_39 ((_) + 1) 0 (Nat.lt_succ_self _) (Nat.zero_le _) (Or.inl rfl) _ _ _ hR hS (lv_sub hl [3, 4, 2, 1, 0] rfl)
        intro nn
        induction nn with
        | zero => intro i_ hm_ ; exact absurd hm_ (Nat.not_lt_zero _)
        | succ nn ih_39 =>
          intro i_ hm_39 hi_ hal_ H locs ls hR hS hl
          refine lv_iload hx hcb dX10_wouldRedeem_39 (lv_at hl 4 rfl) ?_
          refine lv_aload_n hx hcb dX10_wouldRedeem_41 rfl (lv_at hl 0 rfl) ?_
          refine x_getI hx hcb hts hown hK xc10 hR (hw.lo (by decide)) (hw.s0 rfl) 17 (by decide) rfl q_1183 dX10_wouldRedeem_42 ?_
          refine x_top (show ((lpZ (ck z (inR x (mQ z 12))) Y bu).1 0 17) = (nI ((lpL (ck z (inR x (mQ z 12))) Y).length)) from hlp_.1) ?_
          refine lv_icmp_ge (tgt := 85) hx hcb dX10_wouldRedeem_45 (by decide) (fun c_13 => ?_) (fun c_13 => ?_)
          · skip
            have c_13 : ((lpL (ck z (inR x (mQ z 12))) Y).length) ≤ i_ := (nI_leI (by omega) (by omega)).mp c_13
            have hie_ : i_ = (lpL (ck z (inR x (mQ z 12))) Y).length := by omega
            have hfin_ : bx_sum (fun k => if (lpZ (ck z (inR x (mQ z 12))) Y bu).1 14 k = nI k_ then (lpZ (ck z (inR x (mQ z 12))) Y bu).1 13 k else 0) i_ = (if 0 < imin (lSum (ck z (inR x (mQ z 12))) (lpL (ck z (inR x (mQ z 12))) Y)) bu then bx_sum (fun k => if (lpZ (ck z (inR x (mQ z 12))) Y bu).1 14 k = nI k_ then (lpZ (ck z (inR x (mQ z 12))) Y bu).1 13 k else 0) (lpL (ck z (inR x (mQ z 12))) Y).length else 0) := by (split; · rw [hie_]); · (rename_i hn_; rw [hal_.resolve_right hn_]; rfl)
            refine lv_iload hx hcb dX10_wouldRedeem_85 (lv_at hl 3 rfl) ?_
            exact hret (bx_sum (fun k => if (lpZ (ck z (inR x (mQ z 12))) Y bu).1 14 k = nI k_ then (lpZ (ck z (inR x (mQ z 12))) Y bu).1 13 k else 0) i_) (lpZ (ck z (inR x (mQ z 12))) Y bu) _ _ _ _ dX10_wouldRedeem_87 rfl hR hS (by rw [if_pos h_, if_neg hb_, hfin_, ← ek_])
          · skip
            have c_13 : ¬ ((lpL (ck z (inR x (mQ z 12))) Y).length) ≤ i_ := fun h_ => c_13 ((nI_leI (by omega) (by omega)).mpr h_)
            refine lv_iload_n hx hcb dX10_wouldRedeem_48 rfl (lv_at hl 2 rfl) ?_
            refine lv_if_le (tgt := 85) hx hcb dX10_wouldRedeem_49 (by decide) (fun c_14 => ?_) (fun c_14 => ?_)
            · skip
              have ha_ : ¬ 0 < imin (lSum (ck z (inR x (mQ z 12))) (lpL (ck z (inR x (mQ z 12))) Y)) bu := Int32.not_lt.mpr c_14
              have hfin_ : bx_sum (fun k => if (lpZ (ck z (inR x (mQ z 12))) Y bu).1 14 k = nI k_ then (lpZ (ck z (inR x (mQ z 12))) Y bu).1 13 k else 0) i_ = (if 0 < imin (lSum (ck z (inR x (mQ z 12))) (lpL (ck z (inR x (mQ z 12))) Y)) bu then bx_sum (fun k => if (lpZ (ck z (inR x (mQ z 12))) Y bu).1 14 k = nI k_ then (lpZ (ck z (inR x (mQ z 12))) Y bu).1 13 k else 0) (lpL (ck z (inR x (mQ z 12))) Y).length else 0) := by rw [if_neg ha_, hal_.resolve_right ha_]; rfl
              refine lv_iload hx hcb dX10_wouldRedeem_85 (lv_at hl 3 rfl) ?_
              exact hret (bx_sum (fun k => if (lpZ (ck z (inR x (mQ z 12))) Y bu).1 14 k = nI k_ then (lpZ (ck z (inR x (mQ z 12))) Y bu).1 13 k else 0) i_) (lpZ (ck z (inR x (mQ z 12))) Y bu) _ _ _ _ dX10_wouldRedeem_87 rfl hR hS (by rw [if_pos h_, if_neg hb_, hfin_, ← ek_])
            · skip
              have ha_ : 0 < imin (lSum (ck z (inR x (mQ z 12))) (lpL (ck z (inR x (mQ z 12))) Y)) bu := Int32.not_le.mp c_14
              refine lv_iload hx hcb dX10_wouldRedeem_52 (lv_at hl 3 rfl) ?_
              refine lv_aload_n hx hcb dX10_wouldRedeem_54 rfl (lv_at hl 0 rfl) ?_
              refine x_getR hx hcb hts hown hK xc10 hR (hw.lo (by decide)) (hw.s0 rfl) 18 (by decide) rfl q_1184 dX10_wouldRedeem_55 ?_
              refine lv_iload hx hcb dX10_wouldRedeem_58 (lv_at hl 4 rfl) ?_
              refine x_iald hx hcb hK hR (hw.lo (by decide)) (hw.s0 rfl) (k := i_) (by omega) (by decide) dX10_wouldRedeem_60 ?_
              refine lv_iload_n hx hcb dX10_wouldRedeem_61 rfl (lv_at hl 1 rfl) ?_
              refine lv_icmp_ne (tgt := 75) hx hcb dX10_wouldRedeem_62 (by decide) (fun c_15 => ?_) (fun c_15 => ?_)
              · skip
                have hq_ : ¬ (lpZ (ck z (inR x (mQ z 12))) Y bu).1 14 i_ = nI k_ := c_15
                refine lv_iconst (v := (nI 0)) hx hcb dX10_wouldRedeem_75 (by decide) ?_
                refine lv_iadd hx hcb dX10_wouldRedeem_76 ?_
                refine lv_istore (lv' := [(4, .int ((bx_sum (fun k => if (lpZ (ck z (inR x (mQ z 12))) Y bu).1 14 k = nI k_ then (lpZ (ck z (inR x (mQ z 12))) Y bu).1 13 k else 0) i_) + (nI 0))), (0, .ref (w.2.2 0)), (1, .int (nI k_)), (3, .int (imin (lSum (ck z (inR x (mQ z 12))) (lpL (ck z (inR x (mQ z 12))) Y)) bu)), (5, .int (nI i_))]) hx hcb dX10_wouldRedeem_77 hl (by decide) rfl (fun ls hl => ?_)
                refine lv_iinc (v := (nI (i_ + 1))) (lv' := [(5, .int (nI (i_ + 1))), (4, .int ((bx_sum (fun k => if (lpZ (ck z (inR x (mQ z 12))) Y bu).1 14 k = nI k_ then (lpZ (ck z (inR x (mQ z 12))) Y bu).1 13 k else 0) i_) + (nI 0))), (0, .ref (w.2.2 0)), (1, .int (nI k_)), (3, .int (imin (lSum (ck z (inR x (mQ z 12))) (lpL (ck z (inR x (mQ z 12))) Y)) bu))]) hx hcb dX10_wouldRedeem_79 hl (k := 4) rfl (x_iinc1 _) (by decide) rfl (fun ls hl => ?_)
                refine lv_goto (tgt := 39) hx hcb dX10_wouldRedeem_82 (by decide) ?_
                rw [show ((bx_sum (fun k => if (lpZ (ck z (inR x (mQ z 12))) Y bu).1 14 k = nI k_ then (lpZ (ck z (inR x (mQ z 12))) Y bu).1 13 k else 0) i_) + (nI 0)) = (bx_sum (fun k => if (lpZ (ck z (inR x (mQ z 12))) Y bu).1 14 k = nI k_ then (lpZ (ck z (inR x (mQ z 12))) Y bu).1 13 k else 0) (i_ + 1)) from by show _ = bx_sum (fun k => if (lpZ (ck z (inR x (mQ z 12))) Y bu).1 14 k = nI k_ then (lpZ (ck z (inR x (mQ z 12))) Y bu).1 13 k else 0) i_ + (fun k => if (lpZ (ck z (inR x (mQ z 12))) Y bu).1 14 k = nI k_ then (lpZ (ck z (inR x (mQ z 12))) Y bu).1 13 k else 0) i_; first | (dsimp only; rw [if_pos hq_]; done) | (dsimp only; rw [if_neg hq_]; rfl)] at hl
                exact ih_39 (i_ + 1) (by omega) (by omega) (Or.inr ha_) _ _ _ hR hS (lv_sub hl [2, 3, 4, 1, 0] rfl)
              · skip
                have hq_ : (lpZ (ck z (inR x (mQ z 12))) Y bu).1 14 i_ = nI k_ := c_15
                refine lv_aload_n hx hcb dX10_wouldRedeem_65 rfl (lv_at hl 0 rfl) ?_
                refine x_getR hx hcb hts hown hK xc10 hR (hw.lo (by decide)) (hw.s0 rfl) 16 (by decide) rfl q_1182 dX10_wouldRedeem_66 ?_
                refine lv_iload hx hcb dX10_wouldRedeem_69 (lv_at hl 4 rfl) ?_
                refine x_iald hx hcb hK hR (hw.lo (by decide)) (hw.s0 rfl) (k := i_) (by omega) (by decide) dX10_wouldRedeem_71 ?_
                refine x_top (show ((lpZ (ck z (inR x (mQ z 12))) Y bu).1 13 i_) = ((lpZ (ck z (inR x (mQ z 12))) Y bu).1 13 i_) from rfl) ?_
                refine lv_goto (tgt := 76) hx hcb dX10_wouldRedeem_72 (by decide) ?_
                refine lv_iadd hx hcb dX10_wouldRedeem_76 ?_
                refine lv_istore (lv' := [(4, .int ((bx_sum (fun k => if (lpZ (ck z (inR x (mQ z 12))) Y bu).1 14 k = nI k_ then (lpZ (ck z (inR x (mQ z 12))) Y bu).1 13 k else 0) i_) + ((lpZ (ck z (inR x (mQ z 12))) Y bu).1 13 i_))), (0, .ref (w.2.2 0)), (1, .int (nI k_)), (3, .int (imin (lSum (ck z (inR x (mQ z 12))) (lpL (ck z (inR x (mQ z 12))) Y)) bu)), (5, .int (nI i_))]) hx hcb dX10_wouldRedeem_77 hl (by decide) rfl (fun ls hl => ?_)
                refine lv_iinc (v := (nI (i_ + 1))) (lv' := [(5, .int (nI (i_ + 1))), (4, .int ((bx_sum (fun k => if (lpZ (ck z (inR x (mQ z 12))) Y bu).1 14 k = nI k_ then (lpZ (ck z (inR x (mQ z 12))) Y bu).1 13 k else 0) i_) + ((lpZ (ck z (inR x (mQ z 12))) Y bu).1 13 i_))), (0, .ref (w.2.2 0)), (1, .int (nI k_)), (3, .int (imin (lSum (ck z (inR x (mQ z 12))) (lpL (ck z (inR x (mQ z 12))) Y)) bu))]) hx hcb dX10_wouldRedeem_79 hl (k := 4) rfl (x_iinc1 _) (by decide) rfl (fun ls hl => ?_)
                refine lv_goto (tgt := 39) hx hcb dX10_wouldRedeem_82 (by decide) ?_
                rw [show ((bx_sum (fun k => if (lpZ (ck z (inR x (mQ z 12))) Y bu).1 14 k = nI k_ then (lpZ (ck z (inR x (mQ z 12))) Y bu).1 13 k else 0) i_) + ((lpZ (ck z (inR x (mQ z 12))) Y bu).1 13 i_)) = (bx_sum (fun k => if (lpZ (ck z (inR x (mQ z 12))) Y bu).1 14 k = nI k_ then (lpZ (ck z (inR x (mQ z 12))) Y bu).1 13 k else 0) (i_ + 1)) from by show _ = bx_sum (fun k => if (lpZ (ck z (inR x (mQ z 12))) Y bu).1 14 k = nI k_ then (lpZ (ck z (inR x (mQ z 12))) Y bu).1 13 k else 0) i_ + (fun k => if (lpZ (ck z (inR x (mQ z 12))) Y bu).1 14 k = nI k_ then (lpZ (ck z (inR x (mQ z 12))) Y bu).1 13 k else 0) i_; first | (dsimp only; rw [if_pos hq_]; done) | (dsimp only; rw [if_neg hq_]; rfl)] at hl
                exact ih_39 (i_ + 1) (by omega) (by omega) (Or.inr ha_) _ _ _ hR hS (lv_sub hl [2, 3, 4, 1, 0] rfl)
      · skip
        have hb_ : (bu < 0 ∨ ¬ bu ≤ nI 10000000) := Or.inr c_9
        refine lv_bipush (v := (-2)) hx hcb dX10_wouldRedeem_24 (by decide) ?_
        exact hret (-2) (ck z (inR x (mQ z 12))) _ _ _ _ dX10_wouldRedeem_26 rfl hR hS (by rw [if_pos h_, if_pos hb_])
  · skip
    have h_ : ¬ (inR x (mQ z 12)) := fun q_ => absurd c_7 (by rw [if_pos q_]; decide)
    refine lv_iconst (v := (nI 0)) hx hcb dX10_wouldRedeem_12 (by decide) ?_
    exact hret (nI 0) (ck z (inR x (mQ z 12))) _ _ _ _ dX10_wouldRedeem_13 rfl hR hS (by rw [if_neg h_]; rfl)
def rm_X10_nextInLine : Room := { frames := 5, cells := 0, slots := 0, locals := 116 }
set_option maxRecDepth 100000 in
set_option maxHeartbeats 4000000 in
theorem c_X10_nextInLine (l : Launch) (G : xGl) (w : xWd) (hw : isM w) (z : xSt) (sz : Nat)  (Y : Nat) (hO : rOk z) (hY : z.1 4 494 = nI Y) (hY2 : Y < 200) (hok : lpOk (u1 z 0 0 0) Y (nI 1)) : xMi l yX10_nextInLine cX10_nextInLine 3 (some FieldType.int) rm_X10_nextInLine G w z sz [.ref (w.2.2 0)] (fun r z1 => r = (if 0 < imin (lSum (u1 z 0 0 0) (lpL (u1 z 0 0 0) Y)) (nI 1) then fpd ((lpZ (u1 z 0 0 0) Y (nI 1)).1 13) ((lpZ (u1 z 0 0 0) Y (nI 1)).1 14) (lpL (u1 z 0 0 0) Y).length 0 else (-1)) ∧ z1 = (lpZ (u1 z 0 0 0) Y (nI 1))) := by
  refine x_mi (by decide) (Nat.le_of_ble_eq_true rfl) ?_
  intro p e s mt args below meth c ls Q hsz X hR hS hl hret
  obtain ⟨hx, hcb, hml, hown, hts, hlk, hK, hZ⟩ := X
  have hl : lv_has ls 3 [(0, .ref (w.2.2 0))] := hl
  have hm8_ := hO.2.1
  have hd4_ := hO.2.2.2.1
  have hy24_ := hO.2.2.2.2.2
  have hlp_ := lpZ_laid (z := (u1 z 0 0 0)) (Y := Y) (bu := nI 1) hm8_
  have hLn_ := hlp_.2.1
  refine lv_aload_n hx hcb dX10_nextInLine_0 rfl (lv_at hl 0 rfl) ?_
  refine lv_iconst (v := (nI 0)) hx hcb dX10_nextInLine_1 (by decide) ?_
  refine x_putI hx hcb hts hown hK xc10 hR hS (hw.lo (by decide)) (hw.s0 rfl) 0 (by decide) rfl q_1166 rfl (v := 0) rfl rfl dX10_nextInLine_2 (fun H locs hR hS => ?_)
  refine lv_aload_n hx hcb dX10_nextInLine_5 rfl (lv_at hl 0 rfl) ?_
  refine lv_iconst (v := (nI 1)) hx hcb dX10_nextInLine_6 (by decide) ?_
  refine x_ci0 rfl rfl (x_runV hx hcb hml hown hts (c_X10_laysPayments l G w hw (u1 z 0 0 0) _ 1 Y hO.1 hm8_ hY hY2 hok) mv_X10_laysPayments q_1575 hK hZ hR hS (hw.lo (by decide)) xc10 (hw.s0 rfl) rfl hl.1 rfl (Nat.le_of_ble_eq_true rfl) dX10_nextInLine_7 ⟨by decide, by decide⟩ ⟨by decide, by decide⟩) hS (fun r_1 z_2 H locs hp_3 hR hS => ?_)
  rw [hp_3.2] at hR; rw [hp_3.1]
  refine x_top (show (imin (lSum (u1 z 0 0 0) (lpL (u1 z 0 0 0) Y)) 1) = (imin (lSum (u1 z 0 0 0) (lpL (u1 z 0 0 0) Y)) (nI 1)) from rfl) ?_
  refine lv_istore_n (lv' := [(1, .int (imin (lSum (u1 z 0 0 0) (lpL (u1 z 0 0 0) Y)) (nI 1))), (0, .ref (w.2.2 0))]) hx hcb dX10_nextInLine_10 rfl hl (by decide) rfl (fun ls hl => ?_)
  refine lv_iconst (v := (nI 0)) hx hcb dX10_nextInLine_11 (by decide) ?_
  refine lv_istore_n (lv' := [(2, .int (nI 0)), (1, .int (imin (lSum (u1 z 0 0 0) (lpL (u1 z 0 0 0) Y)) (nI 1))), (0, .ref (w.2.2 0))]) hx hcb dX10_nextInLine_12 rfl hl (by decide) rfl (fun ls hl => ?_)
  suffices LP_13 : ∀ (nn : Nat) (i_ : Nat) (_ : (lpL (u1 z 0 0 0) Y).length - i_ < nn) (hi_ : i_ ≤ (lpL (u1 z 0 0 0) Y).length) (hf_ : fpd ((lpZ (u1 z 0 0 0) Y (nI 1)).1 13) ((lpZ (u1 z 0 0 0) Y (nI 1)).1 14) (lpL (u1 z 0 0 0) Y).length 0 = fpd ((lpZ (u1 z 0 0 0) Y (nI 1)).1 13) ((lpZ (u1 z 0 0 0) Y (nI 1)).1 14) ((lpL (u1 z 0 0 0) Y).length - i_) i_) (H : Heap) (locs : List Loc) (ls : Array Slot), Rh G w (lpZ (u1 z 0 0 0) Y (nI 1)) H → va_S (xA w s.heap.size) s.heap H locs → lv_has ls 3 [(0, .ref (w.2.2 0)), (1, .int (imin (lSum (u1 z 0 0 0) (lpL (u1 z 0 0 0) Y)) (nI 1))), (2, .int (nI i_))] → W p l e rm_X10_nextInLine s mt args below meth c H locs 0 0 Q (F0 mt 13 ls []) from LP_13 ((_) + 1) 0 (Nat.lt_succ_self _) (Nat.zero_le _) rfl _ _ _ hR hS (lv_sub hl [2, 1, 0] rfl)
  intro nn
  induction nn with
  | zero => intro i_ hm_ ; exact absurd hm_ (Nat.not_lt_zero _)
  | succ nn ih_13 =>
    intro i_ hm_13 hi_ hf_ H locs ls hR hS hl
    refine lv_iload_n hx hcb dX10_nextInLine_13 rfl (lv_at hl 2 rfl) ?_
    refine lv_aload_n hx hcb dX10_nextInLine_14 rfl (lv_at hl 0 rfl) ?_
    refine x_getI hx hcb hts hown hK xc10 hR (hw.lo (by decide)) (hw.s0 rfl) 17 (by decide) rfl q_1183 dX10_nextInLine_15 ?_
    refine x_top (show ((lpZ (u1 z 0 0 0) Y (nI 1)).1 0 17) = (nI ((lpL (u1 z 0 0 0) Y).length)) from hlp_.1) ?_
    refine lv_icmp_ge (tgt := 47) hx hcb dX10_nextInLine_18 (by decide) (fun c_4 => ?_) (fun c_4 => ?_)
    · skip
      have c_4 : ((lpL (u1 z 0 0 0) Y).length) ≤ i_ := (nI_leI (by omega) (by omega)).mp c_4
      have hr_ : (if 0 < imin (lSum (u1 z 0 0 0) (lpL (u1 z 0 0 0) Y)) (nI 1) then fpd ((lpZ (u1 z 0 0 0) Y (nI 1)).1 13) ((lpZ (u1 z 0 0 0) Y (nI 1)).1 14) (lpL (u1 z 0 0 0) Y).length 0 else (-1)) = (-1) := by rw [hf_, show (lpL (u1 z 0 0 0) Y).length - i_ = 0 by omega]; split <;> rfl
      refine lv_iconst (v := (-1)) hx hcb dX10_nextInLine_47 (by decide) ?_
      exact hret (-1) (lpZ (u1 z 0 0 0) Y (nI 1)) _ _ _ _ dX10_nextInLine_48 rfl hR hS (⟨hr_.symm, rfl⟩)
    · skip
      have c_4 : ¬ ((lpL (u1 z 0 0 0) Y).length) ≤ i_ := fun h_ => c_4 ((nI_leI (by omega) (by omega)).mpr h_)
      refine lv_iload_n hx hcb dX10_nextInLine_21 rfl (lv_at hl 1 rfl) ?_
      refine lv_if_le (tgt := 47) hx hcb dX10_nextInLine_22 (by decide) (fun c_5 => ?_) (fun c_5 => ?_)
      · skip
        have ha_ : ¬ 0 < imin (lSum (u1 z 0 0 0) (lpL (u1 z 0 0 0) Y)) (nI 1) := Int32.not_lt.mpr c_5
        have hr_ : (if 0 < imin (lSum (u1 z 0 0 0) (lpL (u1 z 0 0 0) Y)) (nI 1) then fpd ((lpZ (u1 z 0 0 0) Y (nI 1)).1 13) ((lpZ (u1 z 0 0 0) Y (nI 1)).1 14) (lpL (u1 z 0 0 0) Y).length 0 else (-1)) = (-1) := if_neg ha_
        refine lv_iconst (v := (-1)) hx hcb dX10_nextInLine_47 (by decide) ?_
        exact hret (-1) (lpZ (u1 z 0 0 0) Y (nI 1)) _ _ _ _ dX10_nextInLine_48 rfl hR hS (⟨hr_.symm, rfl⟩)
      · skip
        have ha_ : 0 < imin (lSum (u1 z 0 0 0) (lpL (u1 z 0 0 0) Y)) (nI 1) := Int32.not_le.mp c_5
        refine lv_aload_n hx hcb dX10_nextInLine_25 rfl (lv_at hl 0 rfl) ?_
        refine x_getR hx hcb hts hown hK xc10 hR (hw.lo (by decide)) (hw.s0 rfl) 16 (by decide) rfl q_1182 dX10_nextInLine_26 ?_
        refine lv_iload_n hx hcb dX10_nextInLine_29 rfl (lv_at hl 2 rfl) ?_
        refine x_iald hx hcb hK hR (hw.lo (by decide)) (hw.s0 rfl) (k := i_) (by omega) (by decide) dX10_nextInLine_30 ?_
        refine x_top (show ((lpZ (u1 z 0 0 0) Y (nI 1)).1 13 i_) = ((lpZ (u1 z 0 0 0) Y (nI 1)).1 13 i_) from rfl) ?_
        refine lv_if_le (tgt := 41) hx hcb dX10_nextInLine_31 (by decide) (fun c_6 => ?_) (fun c_6 => ?_)
        · skip
          have hq_ : ¬ 0 < (lpZ (u1 z 0 0 0) Y (nI 1)).1 13 i_ := Int32.not_lt.mpr c_6
          refine lv_iinc (v := (nI (i_ + 1))) (lv' := [(2, .int (nI (i_ + 1))), (0, .ref (w.2.2 0)), (1, .int (imin (lSum (u1 z 0 0 0) (lpL (u1 z 0 0 0) Y)) (nI 1)))]) hx hcb dX10_nextInLine_41 hl (k := 2) rfl (x_iinc1 _) (by decide) rfl (fun ls hl => ?_)
          refine lv_goto (tgt := 13) hx hcb dX10_nextInLine_44 (by decide) ?_
          exact ih_13 (i_ + 1) (by omega) (by omega) (by rw [hf_, fpd_s (k := (lpL (u1 z 0 0 0) Y).length - (i_ + 1)) (by omega), if_neg hq_]) _ _ _ hR hS (lv_sub hl [1, 2, 0] rfl)
        · skip
          have hq_ : 0 < (lpZ (u1 z 0 0 0) Y (nI 1)).1 13 i_ := Int32.not_le.mp c_6
          refine lv_aload_n hx hcb dX10_nextInLine_34 rfl (lv_at hl 0 rfl) ?_
          refine x_getR hx hcb hts hown hK xc10 hR (hw.lo (by decide)) (hw.s0 rfl) 18 (by decide) rfl q_1184 dX10_nextInLine_35 ?_
          refine lv_iload_n hx hcb dX10_nextInLine_38 rfl (lv_at hl 2 rfl) ?_
          refine x_iald hx hcb hK hR (hw.lo (by decide)) (hw.s0 rfl) (k := i_) (by omega) (by decide) dX10_nextInLine_39 ?_
          refine x_top (show ((lpZ (u1 z 0 0 0) Y (nI 1)).1 14 i_) = ((lpZ (u1 z 0 0 0) Y (nI 1)).1 14 i_) from rfl) ?_
          exact hret ((lpZ (u1 z 0 0 0) Y (nI 1)).1 14 i_) (lpZ (u1 z 0 0 0) Y (nI 1)) _ _ _ _ dX10_nextInLine_40 rfl hR hS (⟨by rw [if_pos ha_, hf_, fpd_s (k := (lpL (u1 z 0 0 0) Y).length - (i_ + 1)) (by omega), if_pos hq_], rfl⟩)
def rm_X10_redeem : Room := { frames := 5, cells := 0, slots := 0, locals := 116 }
set_option maxRecDepth 100000 in
set_option maxHeartbeats 4000000 in
theorem c_X10_redeem (l : Launch) (G : xGl) (w : xWd) (hw : isM w) (z : xSt) (sz : Nat) (bu : Int32) (Y u : Nat) (hO : rOk z) (hY : z.1 4 494 = nI Y) (hY2 : Y < 200) (hu : z.1 0 8 = nI u) (hu10 : u ≤ 10) (hok : ¬ (bu < 0 ∨ ¬ bu ≤ nI 10000000) → lpOk (u1 z 0 0 0) Y bu) : xMi l yX10_redeem cX10_redeem 3 (some FieldType.int) rm_X10_redeem G w z sz [.ref (w.2.2 0), .int bu] (fun r z1 => (r, z1) = if (bu < 0 ∨ ¬ bu ≤ nI 10000000) then ((-2), u1 z 0 0 0) else (if imin (lSum (u1 z 0 0 0) (lpL (u1 z 0 0 0) Y)) bu = 0 then (0, (lpZ (u1 z 0 0 0) Y bu)) else (imin (lSum (u1 z 0 0 0) (lpL (u1 z 0 0 0) Y)) bu, paQ (kpS (lpZ (u1 z 0 0 0) Y bu) u) (lpL (u1 z 0 0 0) Y) (lpL (u1 z 0 0 0) Y).length))) := by
  refine x_mi (by decide) (Nat.le_of_ble_eq_true rfl) ?_
  intro p e s mt args below meth c ls Q hsz X hR hS hl hret
  obtain ⟨hx, hcb, hml, hown, hts, hlk, hK, hZ⟩ := X
  have hl : lv_has ls 3 [(0, .ref (w.2.2 0)), (1, .int bu)] := hl
  have hm8_ := hO.2.1
  have hd4_ := hO.2.2.2.1
  have hy24_ := hO.2.2.2.2.2
  have hlp_ := lpZ_laid (z := (u1 z 0 0 0)) (Y := Y) (bu := bu) hm8_
  refine lv_aload_n hx hcb dX10_redeem_0 rfl (lv_at hl 0 rfl) ?_
  refine lv_iconst (v := (nI 0)) hx hcb dX10_redeem_1 (by decide) ?_
  refine x_putI hx hcb hts hown hK xc10 hR hS (hw.lo (by decide)) (hw.s0 rfl) 0 (by decide) rfl q_1166 rfl (v := 0) rfl rfl dX10_redeem_2 (fun H locs hR hS => ?_)
  refine lv_iload_n hx hcb dX10_redeem_5 rfl (lv_at hl 1 rfl) ?_
  refine lv_if_lt (tgt := 15) hx hcb dX10_redeem_6 (by decide) (fun c_1 => ?_) (fun c_1 => ?_)
  · skip
    have hb_ : (bu < 0 ∨ ¬ bu ≤ nI 10000000) := Or.inl c_1
    refine lv_bipush (v := (-2)) hx hcb dX10_redeem_15 (by decide) ?_
    exact hret (-2) (u1 z 0 0 0) _ _ _ _ dX10_redeem_17 rfl hR hS (by rw [if_pos hb_])
  · skip
    have hb0_ := c_1
    refine lv_iload_n hx hcb dX10_redeem_9 rfl (lv_at hl 1 rfl) ?_
    refine lv_ldc (v := (nI 10000000)) hx hcb hown (hts _ q_1299) dX10_redeem_10 ?_
    refine lv_icmp_le (tgt := 18) hx hcb dX10_redeem_12 (by decide) (fun c_2 => ?_) (fun c_2 => ?_)
    · skip
      have hb_ : ¬ (bu < 0 ∨ ¬ bu ≤ nI 10000000) := fun q_ => q_.elim hb0_ (fun t_ => t_ c_2)
      refine lv_aload_n hx hcb dX10_redeem_18 rfl (lv_at hl 0 rfl) ?_
      refine lv_iload_n hx hcb dX10_redeem_19 rfl (lv_at hl 1 rfl) ?_
      refine x_ci0 rfl rfl (x_runV hx hcb hml hown hts (c_X10_laysPayments l G w hw (u1 z 0 0 0) _ bu Y hO.1 hm8_ hY hY2 (hok hb_)) mv_X10_laysPayments q_1575 hK hZ hR hS (hw.lo (by decide)) xc10 (hw.s0 rfl) rfl hl.1 rfl (Nat.le_of_ble_eq_true rfl) dX10_redeem_20 ⟨by decide, by decide⟩ ⟨by decide, by decide⟩) hS (fun r_3 z_4 H locs hp_5 hR hS => ?_)
      rw [hp_5.2] at hR; rw [hp_5.1]
      refine x_top (show (imin (lSum (u1 z 0 0 0) (lpL (u1 z 0 0 0) Y)) bu) = (imin (lSum (u1 z 0 0 0) (lpL (u1 z 0 0 0) Y)) bu) from rfl) ?_
      refine lv_istore_n (lv' := [(2, .int (imin (lSum (u1 z 0 0 0) (lpL (u1 z 0 0 0) Y)) bu)), (0, .ref (w.2.2 0)), (1, .int bu)]) hx hcb dX10_redeem_23 rfl hl (by decide) rfl (fun ls hl => ?_)
      refine lv_iload_n hx hcb dX10_redeem_24 rfl (lv_at hl 0 rfl) ?_
      refine lv_if_ne (tgt := 30) hx hcb dX10_redeem_25 (by decide) (fun c_6 => ?_) (fun c_6 => ?_)
      · skip
        have h0_ : ¬ imin (lSum (u1 z 0 0 0) (lpL (u1 z 0 0 0) Y)) bu = 0 := c_6
        refine lv_aload_n hx hcb dX10_redeem_30 rfl (lv_at hl 1 rfl) ?_
        refine x_cv0 rfl rfl (x_runV hx hcb hml hown hts (c_X10_keeps l G w hw (lpZ (u1 z 0 0 0) Y bu) _ u (by rw [lpZ_0]; exact hu) hu10) mv_X10_keeps q_1669 hK hZ hR hS (hw.lo (by decide)) xc10 (hw.s0 rfl) rfl hl.1 rfl (Nat.le_of_ble_eq_true rfl) dX10_redeem_31 ⟨by decide, by decide⟩ ⟨by decide, by decide⟩) hS (fun z_8 H locs hp_9 hR hS => ?_)
        rw [hp_9] at hR
        refine lv_aload_n hx hcb dX10_redeem_34 rfl (lv_at hl 1 rfl) ?_
        refine x_cv0 rfl rfl (x_runV hx hcb hml hown hts (c_X10_paysAll l G w hw (kpS (lpZ (u1 z 0 0 0) Y bu) u) _ (lpL (u1 z 0 0 0) Y) (kpS_laid hlp_)) mv_X10_paysAll q_1657 hK hZ hR hS (hw.lo (by decide)) xc10 (hw.s0 rfl) rfl hl.1 rfl (Nat.le_of_ble_eq_true rfl) dX10_redeem_35 ⟨by decide, by decide⟩ ⟨by decide, by decide⟩) hS (fun z_11 H locs hp_12 hR hS => ?_)
        rw [hp_12] at hR
        refine lv_iload_n hx hcb dX10_redeem_38 rfl (lv_at hl 0 rfl) ?_
        exact hret (imin (lSum (u1 z 0 0 0) (lpL (u1 z 0 0 0) Y)) bu) (paQ (kpS (lpZ (u1 z 0 0 0) Y bu) u) (lpL (u1 z 0 0 0) Y) (lpL (u1 z 0 0 0) Y).length) _ _ _ _ dX10_redeem_39 rfl hR hS (by rw [if_neg hb_, if_neg h0_])
      · skip
        have h0_ : imin (lSum (u1 z 0 0 0) (lpL (u1 z 0 0 0) Y)) bu = 0 := c_6
        refine lv_iconst (v := (nI 0)) hx hcb dX10_redeem_28 (by decide) ?_
        exact hret (nI 0) (lpZ (u1 z 0 0 0) Y bu) _ _ _ _ dX10_redeem_29 rfl hR hS (by rw [if_neg hb_, if_pos h0_]; rfl)
    · skip
      have hb_ : (bu < 0 ∨ ¬ bu ≤ nI 10000000) := Or.inr c_2
      refine lv_bipush (v := (-2)) hx hcb dX10_redeem_15 (by decide) ?_
      exact hret (-2) (u1 z 0 0 0) _ _ _ _ dX10_redeem_17 rfl hR hS (by rw [if_pos hb_])
