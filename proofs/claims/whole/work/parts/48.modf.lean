/-! THE REFERENCE: reading -/
def wTx : String := "member section trade close set consent cash reserve years keep policy "
set_option maxRecDepth 100000 in
theorem wTx_len : slen wTx = 70 := by decide
set_option maxRecDepth 100000 in
theorem wTx_ok : txOk wTx := tx_of (by decide) (by decide)
set_option maxRecDepth 100000 in
theorem wTx_last : sch wTx 69 = nI 32 := by decide
def hQ (r : Nat → Int32) (n a : Nat) : Int32 := if a < n then r a else (-1)
abbrev iSm (x : Int32) : Prop := nI 97 ≤ x ∧ x ≤ nI 122
abbrev iDg (x : Int32) : Prop := nI 48 ≤ x ∧ x ≤ nI 57
def mtI (r : Nat → Int32) (p a k : Nat) : Nat → Nat → Nat
  | 0, i => i
  | f + 1, i => if sch wTx (k + i) ≠ nI 32 ∧ p + i < a ∧ r (p + i) = sch wTx (k + i) then mtI r p a k f (i + 1) else i
theorem mtI_s {r : Nat → Int32} {p a b n k i : Nat} (h : n = k + 1) : mtI r p a b n i = if sch wTx (b + i) ≠ nI 32 ∧ p + i < a ∧ r (p + i) = sch wTx (b + i) then mtI r p a b k (i + 1) else i := by rw [h]; rfl
def skS : Nat → Nat → Nat
  | 0, k => k
  | f + 1, k => if sch wTx k = nI 32 then k else skS f (k + 1)
theorem skS_s {n k i : Nat} (h : n = k + 1) : skS n i = if sch wTx i = nI 32 then i else skS k (i + 1) := by rw [h]; rfl
def wdQ (r : Nat → Int32) (p a : Nat) : Nat → Nat → Nat → Int32
  | 0, _, _ => (-1)
  | f + 1, n, k => if k < 70 then (if sch wTx (k + mtI r p a k (70 - k) 0) = nI 32 ∧ p + mtI r p a k (70 - k) 0 = a then nI n else wdQ r p a f (n + 1) (skS (70 - k) k + 1)) else (-1)
theorem wdQ_s {r : Nat → Int32} {p a m k n b : Nat} (h : m = k + 1) : wdQ r p a m n b = if b < 70 then (if sch wTx (b + mtI r p a b (70 - b) 0) = nI 32 ∧ p + mtI r p a b (70 - b) 0 = a then nI n else wdQ r p a k (n + 1) (skS (70 - b) b + 1)) else (-1) := by rw [h]; rfl
theorem wdQ_e {r : Nat → Int32} {p a m n b : Nat} (h : ¬ b < 70) : wdQ r p a m n b = (-1) := by
  cases m with
  | zero => rfl
  | succ k => exact if_neg h
theorem wt_in {k i : Nat} (h : k + i ≤ 69) (h2 : sch wTx (k + i) ≠ nI 32) : k + (i + 1) ≤ 69 := by
  by_cases e : k + i = 69
  · rw [e] at h2; exact absurd wTx_last h2
  · omega
theorem wt_in0 {i : Nat} (h : i ≤ 69) (h2 : ¬ sch wTx i = nI 32) : i + 1 ≤ 69 := by
  by_cases e : i = 69
  · rw [e] at h2; exact absurd wTx_last h2
  · omega
def rm_X10_here : Room := { frames := 0, cells := 0, slots := 0, locals := 0 }
set_option maxRecDepth 100000 in
set_option maxHeartbeats 4000000 in
theorem c_X10_here (l : Launch) (G : xGl) (w : xWd) (hw : isM w) (z : xSt) (sz : Nat)  (a n : Nat) (ha : z.1 0 21 = nI a) (hn : z.1 0 20 = nI n) (hn9 : n ≤ 900) (han : a ≤ n) : xMi l yX10_here cX10_here 1 (some FieldType.int) rm_X10_here G w z sz [.ref (w.2.2 0)] (fun r z1 => r = hQ (z.1 1) n a ∧ z1 = z) := by
  refine x_mi (by decide) (Nat.le_of_ble_eq_true rfl) ?_
  intro p e s mt args below meth c ls Q hsz X hR hS hl hret
  obtain ⟨hx, hcb, hml, hown, hts, hlk, hK, hZ⟩ := X
  have hl : lv_has ls 1 [(0, .ref (w.2.2 0))] := hl
  refine lv_aload_n hx hcb dX10_here_0 rfl (lv_at hl 0 rfl) ?_
  refine x_getI hx hcb hts hown hK xc10 hR (hw.lo (by decide)) (hw.s0 rfl) 21 (by decide) rfl q_1187 dX10_here_1 ?_
  refine x_top (show (z.1 0 21) = (nI a) from ha) ?_
  refine lv_aload_n hx hcb dX10_here_4 rfl (lv_at hl 0 rfl) ?_
  refine x_getI hx hcb hts hown hK xc10 hR (hw.lo (by decide)) (hw.s0 rfl) 20 (by decide) rfl q_1186 dX10_here_5 ?_
  refine x_top (show (z.1 0 20) = (nI n) from hn) ?_
  refine lv_icmp_ge (tgt := 23) hx hcb dX10_here_8 (by decide) (fun c_1 => ?_) (fun c_1 => ?_)
  · skip
    have c_1 : n ≤ a := (nI_leI (by omega) (by omega)).mp c_1
    have h_ : ¬ a < n := by omega
    refine lv_iconst (v := (-1)) hx hcb dX10_here_23 (by decide) ?_
    exact hret (-1) z _ _ _ _ dX10_here_24 rfl hR hS (⟨by unfold hQ; first | rw [if_pos h_] | rw [if_neg h_], rfl⟩)
  · skip
    have c_1 : ¬ n ≤ a := fun h_ => c_1 ((nI_leI (by omega) (by omega)).mpr h_)
    have h_ : a < n := by omega
    refine lv_aload_n hx hcb dX10_here_11 rfl (lv_at hl 0 rfl) ?_
    refine x_getR hx hcb hts hown hK xc10 hR (hw.lo (by decide)) (hw.s0 rfl) 1 (by decide) rfl q_1167 dX10_here_12 ?_
    refine lv_aload_n hx hcb dX10_here_15 rfl (lv_at hl 0 rfl) ?_
    refine x_getI hx hcb hts hown hK xc10 hR (hw.lo (by decide)) (hw.s0 rfl) 21 (by decide) rfl q_1187 dX10_here_16 ?_
    refine x_top (show (z.1 0 21) = (nI a) from ha) ?_
    refine x_iald hx hcb hK hR (hw.lo (by decide)) (hw.s0 rfl) (k := a) (by omega) (by decide) dX10_here_19 ?_
    refine lv_goto (tgt := 24) hx hcb dX10_here_20 (by decide) ?_
    exact hret (z.1 1 a) z _ _ _ _ dX10_here_24 rfl hR hS (⟨by unfold hQ; first | rw [if_pos h_] | rw [if_neg h_], rfl⟩)
def rm_X10_isSmall : Room := { frames := 0, cells := 0, slots := 0, locals := 0 }
set_option maxRecDepth 100000 in
set_option maxHeartbeats 4000000 in
theorem c_X10_isSmall (l : Launch) (G : xGl) (w : xWd) (hw : isM w) (z : xSt) (sz : Nat) (x : Int32)  : xMi l yX10_isSmall cX10_isSmall 1 (some FieldType.boolean) rm_X10_isSmall G w z sz [.int x] (fun r z1 => r = (if iSm x then 1 else 0) ∧ z1 = z) := by
  refine x_mi (by decide) (Nat.le_of_ble_eq_true rfl) ?_
  intro p e s mt args below meth c ls Q hsz X hR hS hl hret
  obtain ⟨hx, hcb, hml, hown, hts, hlk, hK, hZ⟩ := X
  have hl : lv_has ls 1 [(0, .int x)] := hl
  refine lv_iload_n hx hcb dX10_isSmall_0 rfl (lv_at hl 0 rfl) ?_
  refine lv_bipush (v := (nI 97)) hx hcb dX10_isSmall_1 (by decide) ?_
  refine lv_icmp_lt (tgt := 16) hx hcb dX10_isSmall_3 (by decide) (fun c_1 => ?_) (fun c_1 => ?_)
  · skip
    have h_ : ¬ iSm x := fun q_ => absurd c_1 (Int32.not_lt.mpr q_.1)
    refine lv_iconst (v := (nI 0)) hx hcb dX10_isSmall_16 (by decide) ?_
    exact hret (nI 0) z _ _ _ _ dX10_isSmall_17 rfl hR hS (⟨by first | (rw [if_pos h_]; first | done | rfl) | (rw [if_neg h_]; first | done | rfl), rfl⟩)
  · skip
    have h0_ := Int32.not_lt.mp c_1
    refine lv_iload_n hx hcb dX10_isSmall_6 rfl (lv_at hl 0 rfl) ?_
    refine lv_bipush (v := (nI 122)) hx hcb dX10_isSmall_7 (by decide) ?_
    refine lv_icmp_gt (tgt := 16) hx hcb dX10_isSmall_9 (by decide) (fun c_2 => ?_) (fun c_2 => ?_)
    · skip
      have h_ : ¬ iSm x := fun q_ => absurd c_2 (Int32.not_lt.mpr q_.2)
      refine lv_iconst (v := (nI 0)) hx hcb dX10_isSmall_16 (by decide) ?_
      exact hret (nI 0) z _ _ _ _ dX10_isSmall_17 rfl hR hS (⟨by first | (rw [if_pos h_]; first | done | rfl) | (rw [if_neg h_]; first | done | rfl), rfl⟩)
    · skip
      have h_ : iSm x := ⟨h0_, Int32.not_lt.mp c_2⟩
      refine lv_iconst (v := (nI 1)) hx hcb dX10_isSmall_12 (by decide) ?_
      refine lv_goto (tgt := 17) hx hcb dX10_isSmall_13 (by decide) ?_
      exact hret (nI 1) z _ _ _ _ dX10_isSmall_17 rfl hR hS (⟨by first | (rw [if_pos h_]; first | done | rfl) | (rw [if_neg h_]; first | done | rfl), rfl⟩)
def rm_X10_isDigit : Room := { frames := 0, cells := 0, slots := 0, locals := 0 }
set_option maxRecDepth 100000 in
set_option maxHeartbeats 4000000 in
theorem c_X10_isDigit (l : Launch) (G : xGl) (w : xWd) (hw : isM w) (z : xSt) (sz : Nat) (x : Int32)  : xMi l yX10_isDigit cX10_isDigit 1 (some FieldType.boolean) rm_X10_isDigit G w z sz [.int x] (fun r z1 => r = (if iDg x then 1 else 0) ∧ z1 = z) := by
  refine x_mi (by decide) (Nat.le_of_ble_eq_true rfl) ?_
  intro p e s mt args below meth c ls Q hsz X hR hS hl hret
  obtain ⟨hx, hcb, hml, hown, hts, hlk, hK, hZ⟩ := X
  have hl : lv_has ls 1 [(0, .int x)] := hl
  refine lv_iload_n hx hcb dX10_isDigit_0 rfl (lv_at hl 0 rfl) ?_
  refine lv_bipush (v := (nI 48)) hx hcb dX10_isDigit_1 (by decide) ?_
  refine lv_icmp_lt (tgt := 16) hx hcb dX10_isDigit_3 (by decide) (fun c_1 => ?_) (fun c_1 => ?_)
  · skip
    have h_ : ¬ iDg x := fun q_ => absurd c_1 (Int32.not_lt.mpr q_.1)
    refine lv_iconst (v := (nI 0)) hx hcb dX10_isDigit_16 (by decide) ?_
    exact hret (nI 0) z _ _ _ _ dX10_isDigit_17 rfl hR hS (⟨by first | (rw [if_pos h_]; first | done | rfl) | (rw [if_neg h_]; first | done | rfl), rfl⟩)
  · skip
    have h0_ := Int32.not_lt.mp c_1
    refine lv_iload_n hx hcb dX10_isDigit_6 rfl (lv_at hl 0 rfl) ?_
    refine lv_bipush (v := (nI 57)) hx hcb dX10_isDigit_7 (by decide) ?_
    refine lv_icmp_gt (tgt := 16) hx hcb dX10_isDigit_9 (by decide) (fun c_2 => ?_) (fun c_2 => ?_)
    · skip
      have h_ : ¬ iDg x := fun q_ => absurd c_2 (Int32.not_lt.mpr q_.2)
      refine lv_iconst (v := (nI 0)) hx hcb dX10_isDigit_16 (by decide) ?_
      exact hret (nI 0) z _ _ _ _ dX10_isDigit_17 rfl hR hS (⟨by first | (rw [if_pos h_]; first | done | rfl) | (rw [if_neg h_]; first | done | rfl), rfl⟩)
    · skip
      have h_ : iDg x := ⟨h0_, Int32.not_lt.mp c_2⟩
      refine lv_iconst (v := (nI 1)) hx hcb dX10_isDigit_12 (by decide) ?_
      refine lv_goto (tgt := 17) hx hcb dX10_isDigit_13 (by decide) ?_
      exact hret (nI 1) z _ _ _ _ dX10_isDigit_17 rfl hR hS (⟨by first | (rw [if_pos h_]; first | done | rfl) | (rw [if_neg h_]; first | done | rfl), rfl⟩)
def rm_X10_wordHere : Room := { frames := 4, cells := 0, slots := 0, locals := 85 }
set_option maxRecDepth 100000 in
set_option maxHeartbeats 4000000 in
theorem c_X10_wordHere (l : Launch) (G : xGl) (w : xWd) (hw : isM w) (z : xSt) (sz : Nat)  (pl a : Nat) (hp : z.1 0 22 = nI pl) (ha : z.1 0 21 = nI a) (hpa : pl ≤ a) (ha9 : a ≤ 900) : xMi l yX10_wordHere cX10_wordHere 4 (some FieldType.int) rm_X10_wordHere G w z sz [.ref (w.2.2 0)] (fun r z1 => r = wdQ (z.1 1) pl a 71 0 0 ∧ z1 = z) := by
  refine x_mi (by decide) (Nat.le_of_ble_eq_true rfl) ?_
  intro p e s mt args below meth c ls Q hsz X hR hS hl hret
  obtain ⟨hx, hcb, hml, hown, hts, hlk, hK, hZ⟩ := X
  have hl : lv_has ls 4 [(0, .ref (w.2.2 0))] := hl
  refine lv_iconst (v := (nI 0)) hx hcb dX10_wordHere_0 (by decide) ?_
  refine lv_istore_n (lv' := [(1, .int (nI 0)), (0, .ref (w.2.2 0))]) hx hcb dX10_wordHere_1 rfl hl (by decide) rfl (fun ls hl => ?_)
  refine lv_iconst (v := (nI 0)) hx hcb dX10_wordHere_2 (by decide) ?_
  refine lv_istore_n (lv' := [(2, .int (nI 0)), (1, .int (nI 0)), (0, .ref (w.2.2 0))]) hx hcb dX10_wordHere_3 rfl hl (by decide) rfl (fun ls hl => ?_)
  suffices LP_4 : ∀ (nn : Nat) (n_ : Nat) (k_ : Nat) (g_ : Nat) (_ : 71 - k_ < nn) (hk70_ : k_ ≤ 70) (hnk_ : n_ ≤ k_) (hg_ : 71 - k_ ≤ g_) (hf_ : wdQ (z.1 1) pl a 71 0 0 = wdQ (z.1 1) pl a g_ n_ k_) (H : Heap) (locs : List Loc) (ls : Array Slot), Rh G w z H → va_S (xA w s.heap.size) s.heap H locs → lv_has ls 4 [(0, .ref (w.2.2 0)), (1, .int (nI n_)), (2, .int (nI k_))] → W p l e rm_X10_wordHere s mt args below meth c H locs 0 0 Q (F0 mt 4 ls []) from LP_4 ((_) + 1) 0 0 71 (Nat.lt_succ_self _) (by omega) (by omega) (by omega) rfl _ _ _ hR hS (lv_sub hl [2, 1, 0] rfl)
  intro nn
  induction nn with
  | zero => intro n_ k_ g_ hm_ ; exact absurd hm_ (Nat.not_lt_zero _)
  | succ nn ih_4 =>
    intro n_ k_ g_ hm_4 hk70_ hnk_ hg_ hf_ H locs ls hR hS hl
    refine lv_iload_n hx hcb dX10_wordHere_4 rfl (lv_at hl 2 rfl) ?_
    obtain ⟨aq_1, hvq_1, hsq_1⟩ := xS_of hZ (q := (RX10, 175, "member section trade close set consent cash reserve years keep policy ")) (List.mem_of_getElem? (i := 21) rfl)
    refine va_ldcS hx hcb hown hvq_1 dX10_wordHere_5 ?_
    refine x_ci0 rfl rfl (x_runVS isS_mv hsq_1 hx hcb hml hown hts (c_J0_length_8abf5 l G w  z _ "member section trade close set consent cash reserve years keep policy " aq_1) mv_J0_length_8abf5 q_1294 hK hZ hR hS hsq_1.choose_spec.1 rfl hl.1 rfl (Nat.le_of_ble_eq_true rfl) dX10_wordHere_7 ⟨by decide, by decide⟩ ⟨by decide, by decide⟩) hS (fun r_2 z_3 H locs hp_4 hR hS => ?_)
    rw [hp_4.2] at hR; rw [hp_4.1]
    refine x_top (show (nI (slen "member section trade close set consent cash reserve years keep policy ")) = (nI 70) from congrArg nI wTx_len) ?_
    refine lv_icmp_ge (tgt := 123) hx hcb dX10_wordHere_10 (by decide) (fun c_5 => ?_) (fun c_5 => ?_)
    · skip
      have c_5 : 70 ≤ k_ := (nI_leI (by omega) (by omega)).mp c_5
      have he_ : wdQ (z.1 1) pl a 71 0 0 = (-1) := by rw [hf_, wdQ_e (by omega)]
      refine lv_iconst (v := (-1)) hx hcb dX10_wordHere_123 (by decide) ?_
      exact hret (-1) z _ _ _ _ dX10_wordHere_124 rfl hR hS (⟨he_.symm, rfl⟩)
    · skip
      have c_5 : ¬ 70 ≤ k_ := fun h_ => c_5 ((nI_leI (by omega) (by omega)).mpr h_)
      have hk7_ : k_ < 70 := by omega
      refine lv_iconst (v := (nI 0)) hx hcb dX10_wordHere_13 (by decide) ?_
      refine lv_istore_n (lv' := [(3, .int (nI 0)), (0, .ref (w.2.2 0)), (1, .int (nI n_)), (2, .int (nI k_))]) hx hcb dX10_wordHere_14 rfl hl (by decide) rfl (fun ls hl => ?_)
      suffices LP_15 : ∀ (nn : Nat) (i_ : Nat) (_ : 70 - k_ - i_ < nn) (hki_ : k_ + i_ ≤ 69) (hpi_ : pl + i_ ≤ a) (hm_ : mtI (z.1 1) pl a k_ (70 - k_) 0 = mtI (z.1 1) pl a k_ (70 - k_ - i_) i_) (H : Heap) (locs : List Loc) (ls : Array Slot), Rh G w z H → va_S (xA w s.heap.size) s.heap H locs → lv_has ls 4 [(0, .ref (w.2.2 0)), (1, .int (nI n_)), (2, .int (nI k_)), (3, .int (nI i_))] → W p l e rm_X10_wordHere s mt args below meth c H locs 0 0 Q (F0 mt 15 ls []) from LP_15 ((_) + 1) 0 (Nat.lt_succ_self _) (by omega) (by omega) rfl _ _ _ hR hS (lv_sub hl [1, 2, 3, 0] rfl)
      intro nn
      induction nn with
      | zero => intro i_ hm_ ; exact absurd hm_ (Nat.not_lt_zero _)
      | succ nn ih_15 =>
        intro i_ hm_15 hki_ hpi_ hm_ H locs ls hR hS hl
        obtain ⟨aq_6, hvq_6, hsq_6⟩ := xS_of hZ (q := (RX10, 175, "member section trade close set consent cash reserve years keep policy ")) (List.mem_of_getElem? (i := 21) rfl)
        refine va_ldcS hx hcb hown hvq_6 dX10_wordHere_15 ?_
        refine lv_iload_n hx hcb dX10_wordHere_17 rfl (lv_at hl 2 rfl) ?_
        refine lv_iload_n hx hcb dX10_wordHere_18 rfl (lv_at hl 3 rfl) ?_
        refine x_iaddN hx hcb dX10_wordHere_19 ?_
        refine x_ci0 rfl rfl (x_runVS isS_mv hsq_6 hx hcb hml hown hts (c_J0_charAt_5068e l G w  z _ "member section trade close set consent cash reserve years keep policy " aq_6 (k_ + i_) (show _ < slen wTx by rw [wTx_len]; omega) wTx_ok) mv_J0_charAt_5068e q_1295 hK hZ hR hS hsq_6.choose_spec.1 rfl hl.1 rfl (Nat.le_of_ble_eq_true rfl) dX10_wordHere_20 ⟨by decide, by decide⟩ ⟨by decide, by decide⟩) hS (fun r_7 z_8 H locs hp_9 hR hS => ?_)
        rw [hp_9.2] at hR; rw [hp_9.1]
        refine x_top (show (sch "member section trade close set consent cash reserve years keep policy " (k_ + i_)) = (sch wTx (k_ + i_)) from rfl) ?_
        refine lv_bipush (v := (nI 32)) hx hcb dX10_wordHere_23 (by decide) ?_
        refine lv_icmp_eq (tgt := 69) hx hcb dX10_wordHere_25 (by decide) (fun c_10 => ?_) (fun c_10 => ?_)
        · skip
          have hC1_ : sch wTx (k_ + i_) = nI 32 := c_10
          have he_ : mtI (z.1 1) pl a k_ (70 - k_) 0 = i_ := by rw [hm_, mtI_s (k := 70 - k_ - (i_ + 1)) (by omega), if_neg (fun q_ => q_.1 c_10)]
          obtain ⟨aq_11, hvq_11, hsq_11⟩ := xS_of hZ (q := (RX10, 175, "member section trade close set consent cash reserve years keep policy ")) (List.mem_of_getElem? (i := 21) rfl)
          refine va_ldcS hx hcb hown hvq_11 dX10_wordHere_69 ?_
          refine lv_iload_n hx hcb dX10_wordHere_71 rfl (lv_at hl 2 rfl) ?_
          refine lv_iload_n hx hcb dX10_wordHere_72 rfl (lv_at hl 3 rfl) ?_
          refine x_iaddN hx hcb dX10_wordHere_73 ?_
          refine x_ci0 rfl rfl (x_runVS isS_mv hsq_11 hx hcb hml hown hts (c_J0_charAt_5068e l G w  z _ "member section trade close set consent cash reserve years keep policy " aq_11 (k_ + i_) (show _ < slen wTx by rw [wTx_len]; omega) wTx_ok) mv_J0_charAt_5068e q_1295 hK hZ hR hS hsq_11.choose_spec.1 rfl hl.1 rfl (Nat.le_of_ble_eq_true rfl) dX10_wordHere_74 ⟨by decide, by decide⟩ ⟨by decide, by decide⟩) hS (fun r_12 z_13 H locs hp_14 hR hS => ?_)
          rw [hp_14.2] at hR; rw [hp_14.1]
          refine x_top (show (sch "member section trade close set consent cash reserve years keep policy " (k_ + i_)) = (sch wTx (k_ + i_)) from rfl) ?_
          refine lv_bipush (v := (nI 32)) hx hcb dX10_wordHere_77 (by decide) ?_
          refine lv_icmp_ne (tgt := 97) hx hcb dX10_wordHere_79 (by decide) (fun c_15 => ?_) (fun c_15 => ?_)
          · skip
            have hC_ : ¬ (sch wTx (k_ + mtI (z.1 1) pl a k_ (70 - k_) 0) = nI 32 ∧ pl + mtI (z.1 1) pl a k_ (70 - k_) 0 = a) := fun q_ => c_15 (by rw [he_] at q_; exact q_.1)
            suffices LP_97 : ∀ (nn : Nat) (j_ : Nat) (_ : 70 - j_ < nn) (hj0_ : k_ ≤ j_) (hj_ : j_ ≤ 69) (hs0_ : skS (70 - k_) k_ = skS (70 - j_) j_) (H : Heap) (locs : List Loc) (ls : Array Slot), Rh G w z H → va_S (xA w s.heap.size) s.heap H locs → lv_has ls 4 [(0, .ref (w.2.2 0)), (1, .int (nI n_)), (2, .int (nI j_))] → W p l e rm_X10_wordHere s mt args below meth c H locs 0 0 Q (F0 mt 97 ls []) from LP_97 ((_) + 1) k_ (Nat.lt_succ_self _) (Nat.le_refl _) (by omega) rfl _ _ _ hR hS (lv_sub hl [0, 1, 2] rfl)
            intro nn
            induction nn with
            | zero => intro j_ hm_ ; exact absurd hm_ (Nat.not_lt_zero _)
            | succ nn ih_97 =>
              intro j_ hm_97 hj0_ hj_ hs0_ H locs ls hR hS hl
              obtain ⟨aq_16, hvq_16, hsq_16⟩ := xS_of hZ (q := (RX10, 175, "member section trade close set consent cash reserve years keep policy ")) (List.mem_of_getElem? (i := 21) rfl)
              refine va_ldcS hx hcb hown hvq_16 dX10_wordHere_97 ?_
              refine lv_iload_n hx hcb dX10_wordHere_99 rfl (lv_at hl 2 rfl) ?_
              refine x_ci0 rfl rfl (x_runVS isS_mv hsq_16 hx hcb hml hown hts (c_J0_charAt_5068e l G w  z _ "member section trade close set consent cash reserve years keep policy " aq_16 j_ (show _ < slen wTx by rw [wTx_len]; omega) wTx_ok) mv_J0_charAt_5068e q_1295 hK hZ hR hS hsq_16.choose_spec.1 rfl hl.1 rfl (Nat.le_of_ble_eq_true rfl) dX10_wordHere_100 ⟨by decide, by decide⟩ ⟨by decide, by decide⟩) hS (fun r_17 z_18 H locs hp_19 hR hS => ?_)
              rw [hp_19.2] at hR; rw [hp_19.1]
              refine x_top (show (sch "member section trade close set consent cash reserve years keep policy " j_) = (sch wTx j_) from rfl) ?_
              refine lv_bipush (v := (nI 32)) hx hcb dX10_wordHere_103 (by decide) ?_
              refine lv_icmp_eq (tgt := 114) hx hcb dX10_wordHere_105 (by decide) (fun c_20 => ?_) (fun c_20 => ?_)
              · skip
                have hs_ : skS (70 - k_) k_ = j_ := by rw [hs0_, skS_s (k := 70 - (j_ + 1)) (by omega), if_pos c_20]
                refine lv_iinc (v := (nI (j_ + 1))) (lv' := [(2, .int (nI (j_ + 1))), (0, .ref (w.2.2 0)), (1, .int (nI n_))]) hx hcb dX10_wordHere_114 hl (k := 2) rfl (x_iinc1 _) (by decide) rfl (fun ls hl => ?_)
                refine lv_iinc (v := (nI (n_ + 1))) (lv' := [(1, .int (nI (n_ + 1))), (2, .int (nI (j_ + 1))), (0, .ref (w.2.2 0))]) hx hcb dX10_wordHere_117 hl (k := 2) rfl (x_iinc1 _) (by decide) rfl (fun ls hl => ?_)
                refine lv_goto (tgt := 4) hx hcb dX10_wordHere_120 (by decide) ?_
                exact ih_4 (n_ + 1) (j_ + 1) (g_ - 1) (by omega) (by omega) (by omega) (by omega) (by rw [hf_, wdQ_s (k := g_ - 1) (by omega), if_pos hk7_, if_neg hC_, hs_]) _ _ _ hR hS (lv_sub hl [2, 0, 1] rfl)
              · skip
                have hj32_ : ¬ sch wTx j_ = nI 32 := c_20
                refine lv_iinc (v := (nI (j_ + 1))) (lv' := [(2, .int (nI (j_ + 1))), (0, .ref (w.2.2 0)), (1, .int (nI n_))]) hx hcb dX10_wordHere_108 hl (k := 2) rfl (x_iinc1 _) (by decide) rfl (fun ls hl => ?_)
                refine lv_goto (tgt := 97) hx hcb dX10_wordHere_111 (by decide) ?_
                exact ih_97 (j_ + 1) (by omega) (by omega) (wt_in0 (by omega) hj32_) (by rw [hs0_, skS_s (k := 70 - (j_ + 1)) (by omega), if_neg hj32_]) _ _ _ hR hS (lv_sub hl [1, 2, 0] rfl)
          · skip
            have hD_ : sch wTx (k_ + i_) = nI 32 := c_15
            refine lv_aload_n hx hcb dX10_wordHere_82 rfl (lv_at hl 0 rfl) ?_
            refine x_getI hx hcb hts hown hK xc10 hR (hw.lo (by decide)) (hw.s0 rfl) 22 (by decide) rfl q_1188 dX10_wordHere_83 ?_
            refine x_top (show (z.1 0 22) = (nI pl) from hp) ?_
            refine lv_iload_n hx hcb dX10_wordHere_86 rfl (lv_at hl 3 rfl) ?_
            refine x_iaddN hx hcb dX10_wordHere_87 ?_
            refine lv_aload_n hx hcb dX10_wordHere_88 rfl (lv_at hl 0 rfl) ?_
            refine x_getI hx hcb hts hown hK xc10 hR (hw.lo (by decide)) (hw.s0 rfl) 21 (by decide) rfl q_1187 dX10_wordHere_89 ?_
            refine x_top (show (z.1 0 21) = (nI a) from ha) ?_
            refine lv_icmp_ne (tgt := 97) hx hcb dX10_wordHere_92 (by decide) (fun c_21 => ?_) (fun c_21 => ?_)
            · skip
              have c_21 : ¬ (pl + i_) = a := fun h_ => c_21 ((nI_eq (by omega) (by omega)).mpr h_)
              have hC_ : ¬ (sch wTx (k_ + mtI (z.1 1) pl a k_ (70 - k_) 0) = nI 32 ∧ pl + mtI (z.1 1) pl a k_ (70 - k_) 0 = a) := fun q_ => c_21 (by rw [he_] at q_; exact q_.2)
              suffices LP_97 : ∀ (nn : Nat) (j_ : Nat) (_ : 70 - j_ < nn) (hj0_ : k_ ≤ j_) (hj_ : j_ ≤ 69) (hs0_ : skS (70 - k_) k_ = skS (70 - j_) j_) (H : Heap) (locs : List Loc) (ls : Array Slot), Rh G w z H → va_S (xA w s.heap.size) s.heap H locs → lv_has ls 4 [(0, .ref (w.2.2 0)), (1, .int (nI n_)), (2, .int (nI j_))] → W p l e rm_X10_wordHere s mt args below meth c H locs 0 0 Q (F0 mt 97 ls []) from LP_97 ((_) + 1) k_ (Nat.lt_succ_self _) (Nat.le_refl _) (by omega) rfl _ _ _ hR hS (lv_sub hl [0, 1, 2] rfl)
              intro nn
              induction nn with
              | zero => intro j_ hm_ ; exact absurd hm_ (Nat.not_lt_zero _)
              | succ nn ih_97 =>
                intro j_ hm_97 hj0_ hj_ hs0_ H locs ls hR hS hl
                obtain ⟨aq_22, hvq_22, hsq_22⟩ := xS_of hZ (q := (RX10, 175, "member section trade close set consent cash reserve years keep policy ")) (List.mem_of_getElem? (i := 21) rfl)
                refine va_ldcS hx hcb hown hvq_22 dX10_wordHere_97 ?_
                refine lv_iload_n hx hcb dX10_wordHere_99 rfl (lv_at hl 2 rfl) ?_
                refine x_ci0 rfl rfl (x_runVS isS_mv hsq_22 hx hcb hml hown hts (c_J0_charAt_5068e l G w  z _ "member section trade close set consent cash reserve years keep policy " aq_22 j_ (show _ < slen wTx by rw [wTx_len]; omega) wTx_ok) mv_J0_charAt_5068e q_1295 hK hZ hR hS hsq_22.choose_spec.1 rfl hl.1 rfl (Nat.le_of_ble_eq_true rfl) dX10_wordHere_100 ⟨by decide, by decide⟩ ⟨by decide, by decide⟩) hS (fun r_23 z_24 H locs hp_25 hR hS => ?_)
                rw [hp_25.2] at hR; rw [hp_25.1]
                refine x_top (show (sch "member section trade close set consent cash reserve years keep policy " j_) = (sch wTx j_) from rfl) ?_
                refine lv_bipush (v := (nI 32)) hx hcb dX10_wordHere_103 (by decide) ?_
                refine lv_icmp_eq (tgt := 114) hx hcb dX10_wordHere_105 (by decide) (fun c_26 => ?_) (fun c_26 => ?_)
                · skip
                  have hs_ : skS (70 - k_) k_ = j_ := by rw [hs0_, skS_s (k := 70 - (j_ + 1)) (by omega), if_pos c_26]
                  refine lv_iinc (v := (nI (j_ + 1))) (lv' := [(2, .int (nI (j_ + 1))), (0, .ref (w.2.2 0)), (1, .int (nI n_))]) hx hcb dX10_wordHere_114 hl (k := 2) rfl (x_iinc1 _) (by decide) rfl (fun ls hl => ?_)
                  refine lv_iinc (v := (nI (n_ + 1))) (lv' := [(1, .int (nI (n_ + 1))), (2, .int (nI (j_ + 1))), (0, .ref (w.2.2 0))]) hx hcb dX10_wordHere_117 hl (k := 2) rfl (x_iinc1 _) (by decide) rfl (fun ls hl => ?_)
                  refine lv_goto (tgt := 4) hx hcb dX10_wordHere_120 (by decide) ?_
                  exact ih_4 (n_ + 1) (j_ + 1) (g_ - 1) (by omega) (by omega) (by omega) (by omega) (by rw [hf_, wdQ_s (k := g_ - 1) (by omega), if_pos hk7_, if_neg hC_, hs_]) _ _ _ hR hS (lv_sub hl [2, 0, 1] rfl)
                · skip
                  have hj32_ : ¬ sch wTx j_ = nI 32 := c_26
                  refine lv_iinc (v := (nI (j_ + 1))) (lv' := [(2, .int (nI (j_ + 1))), (0, .ref (w.2.2 0)), (1, .int (nI n_))]) hx hcb dX10_wordHere_108 hl (k := 2) rfl (x_iinc1 _) (by decide) rfl (fun ls hl => ?_)
                  refine lv_goto (tgt := 97) hx hcb dX10_wordHere_111 (by decide) ?_
                  exact ih_97 (j_ + 1) (by omega) (by omega) (wt_in0 (by omega) hj32_) (by rw [hs0_, skS_s (k := 70 - (j_ + 1)) (by omega), if_neg hj32_]) _ _ _ hR hS (lv_sub hl [1, 2, 0] rfl)
            · skip
              have c_21 : (pl + i_) = a := (nI_eq (by omega) (by omega)).mp c_21
              have hC_ : (sch wTx (k_ + mtI (z.1 1) pl a k_ (70 - k_) 0) = nI 32 ∧ pl + mtI (z.1 1) pl a k_ (70 - k_) 0 = a) := by rw [he_]; exact ⟨hD_, c_21⟩
              have hr_ : wdQ (z.1 1) pl a 71 0 0 = nI n_ := by rw [hf_, wdQ_s (k := g_ - 1) (by omega), if_pos hk7_, if_pos hC_]
              refine lv_iload_n hx hcb dX10_wordHere_95 rfl (lv_at hl 1 rfl) ?_
              exact hret (nI n_) z _ _ _ _ dX10_wordHere_96 rfl hR hS (⟨hr_.symm, rfl⟩)
        · skip
          have hc32_ : sch wTx (k_ + i_) ≠ nI 32 := c_10
          refine lv_aload_n hx hcb dX10_wordHere_28 rfl (lv_at hl 0 rfl) ?_
          refine x_getI hx hcb hts hown hK xc10 hR (hw.lo (by decide)) (hw.s0 rfl) 22 (by decide) rfl q_1188 dX10_wordHere_29 ?_
          refine x_top (show (z.1 0 22) = (nI pl) from hp) ?_
          refine lv_iload_n hx hcb dX10_wordHere_32 rfl (lv_at hl 3 rfl) ?_
          refine x_iaddN hx hcb dX10_wordHere_33 ?_
          refine lv_aload_n hx hcb dX10_wordHere_34 rfl (lv_at hl 0 rfl) ?_
          refine x_getI hx hcb hts hown hK xc10 hR (hw.lo (by decide)) (hw.s0 rfl) 21 (by decide) rfl q_1187 dX10_wordHere_35 ?_
          refine x_top (show (z.1 0 21) = (nI a) from ha) ?_
          refine lv_icmp_ge (tgt := 69) hx hcb dX10_wordHere_38 (by decide) (fun c_27 => ?_) (fun c_27 => ?_)
          · skip
            have c_27 : a ≤ (pl + i_) := (nI_leI (by omega) (by omega)).mp c_27
            have he_ : mtI (z.1 1) pl a k_ (70 - k_) 0 = i_ := by rw [hm_, mtI_s (k := 70 - k_ - (i_ + 1)) (by omega), if_neg (fun q_ => absurd q_.2.1 (by omega))]
            obtain ⟨aq_28, hvq_28, hsq_28⟩ := xS_of hZ (q := (RX10, 175, "member section trade close set consent cash reserve years keep policy ")) (List.mem_of_getElem? (i := 21) rfl)
            refine va_ldcS hx hcb hown hvq_28 dX10_wordHere_69 ?_
            refine lv_iload_n hx hcb dX10_wordHere_71 rfl (lv_at hl 2 rfl) ?_
            refine lv_iload_n hx hcb dX10_wordHere_72 rfl (lv_at hl 3 rfl) ?_
            refine x_iaddN hx hcb dX10_wordHere_73 ?_
            refine x_ci0 rfl rfl (x_runVS isS_mv hsq_28 hx hcb hml hown hts (c_J0_charAt_5068e l G w  z _ "member section trade close set consent cash reserve years keep policy " aq_28 (k_ + i_) (show _ < slen wTx by rw [wTx_len]; omega) wTx_ok) mv_J0_charAt_5068e q_1295 hK hZ hR hS hsq_28.choose_spec.1 rfl hl.1 rfl (Nat.le_of_ble_eq_true rfl) dX10_wordHere_74 ⟨by decide, by decide⟩ ⟨by decide, by decide⟩) hS (fun r_29 z_30 H locs hp_31 hR hS => ?_)
            rw [hp_31.2] at hR; rw [hp_31.1]
            refine x_top (show (sch "member section trade close set consent cash reserve years keep policy " (k_ + i_)) = (sch wTx (k_ + i_)) from rfl) ?_
            refine lv_bipush (v := (nI 32)) hx hcb dX10_wordHere_77 (by decide) ?_
            refine lv_icmp_ne (tgt := 97) hx hcb dX10_wordHere_79 (by decide) (fun c_32 => ?_) (fun c_32 => ?_)
            · skip
              have hC_ : ¬ (sch wTx (k_ + mtI (z.1 1) pl a k_ (70 - k_) 0) = nI 32 ∧ pl + mtI (z.1 1) pl a k_ (70 - k_) 0 = a) := fun q_ => c_32 (by rw [he_] at q_; exact q_.1)
              suffices LP_97 : ∀ (nn : Nat) (j_ : Nat) (_ : 70 - j_ < nn) (hj0_ : k_ ≤ j_) (hj_ : j_ ≤ 69) (hs0_ : skS (70 - k_) k_ = skS (70 - j_) j_) (H : Heap) (locs : List Loc) (ls : Array Slot), Rh G w z H → va_S (xA w s.heap.size) s.heap H locs → lv_has ls 4 [(0, .ref (w.2.2 0)), (1, .int (nI n_)), (2, .int (nI j_))] → W p l e rm_X10_wordHere s mt args below meth c H locs 0 0 Q (F0 mt 97 ls []) from LP_97 ((_) + 1) k_ (Nat.lt_succ_self _) (Nat.le_refl _) (by omega) rfl _ _ _ hR hS (lv_sub hl [0, 1, 2] rfl)
              intro nn
              induction nn with
              | zero => intro j_ hm_ ; exact absurd hm_ (Nat.not_lt_zero _)
              | succ nn ih_97 =>
                intro j_ hm_97 hj0_ hj_ hs0_ H locs ls hR hS hl
                obtain ⟨aq_33, hvq_33, hsq_33⟩ := xS_of hZ (q := (RX10, 175, "member section trade close set consent cash reserve years keep policy ")) (List.mem_of_getElem? (i := 21) rfl)
                refine va_ldcS hx hcb hown hvq_33 dX10_wordHere_97 ?_
                refine lv_iload_n hx hcb dX10_wordHere_99 rfl (lv_at hl 2 rfl) ?_
                refine x_ci0 rfl rfl (x_runVS isS_mv hsq_33 hx hcb hml hown hts (c_J0_charAt_5068e l G w  z _ "member section trade close set consent cash reserve years keep policy " aq_33 j_ (show _ < slen wTx by rw [wTx_len]; omega) wTx_ok) mv_J0_charAt_5068e q_1295 hK hZ hR hS hsq_33.choose_spec.1 rfl hl.1 rfl (Nat.le_of_ble_eq_true rfl) dX10_wordHere_100 ⟨by decide, by decide⟩ ⟨by decide, by decide⟩) hS (fun r_34 z_35 H locs hp_36 hR hS => ?_)
                rw [hp_36.2] at hR; rw [hp_36.1]
                refine x_top (show (sch "member section trade close set consent cash reserve years keep policy " j_) = (sch wTx j_) from rfl) ?_
                refine lv_bipush (v := (nI 32)) hx hcb dX10_wordHere_103 (by decide) ?_
                refine lv_icmp_eq (tgt := 114) hx hcb dX10_wordHere_105 (by decide) (fun c_37 => ?_) (fun c_37 => ?_)
                · skip
                  have hs_ : skS (70 - k_) k_ = j_ := by rw [hs0_, skS_s (k := 70 - (j_ + 1)) (by omega), if_pos c_37]
                  refine lv_iinc (v := (nI (j_ + 1))) (lv' := [(2, .int (nI (j_ + 1))), (0, .ref (w.2.2 0)), (1, .int (nI n_))]) hx hcb dX10_wordHere_114 hl (k := 2) rfl (x_iinc1 _) (by decide) rfl (fun ls hl => ?_)
                  refine lv_iinc (v := (nI (n_ + 1))) (lv' := [(1, .int (nI (n_ + 1))), (2, .int (nI (j_ + 1))), (0, .ref (w.2.2 0))]) hx hcb dX10_wordHere_117 hl (k := 2) rfl (x_iinc1 _) (by decide) rfl (fun ls hl => ?_)
                  refine lv_goto (tgt := 4) hx hcb dX10_wordHere_120 (by decide) ?_
                  exact ih_4 (n_ + 1) (j_ + 1) (g_ - 1) (by omega) (by omega) (by omega) (by omega) (by rw [hf_, wdQ_s (k := g_ - 1) (by omega), if_pos hk7_, if_neg hC_, hs_]) _ _ _ hR hS (lv_sub hl [2, 0, 1] rfl)
                · skip
                  have hj32_ : ¬ sch wTx j_ = nI 32 := c_37
                  refine lv_iinc (v := (nI (j_ + 1))) (lv' := [(2, .int (nI (j_ + 1))), (0, .ref (w.2.2 0)), (1, .int (nI n_))]) hx hcb dX10_wordHere_108 hl (k := 2) rfl (x_iinc1 _) (by decide) rfl (fun ls hl => ?_)
                  refine lv_goto (tgt := 97) hx hcb dX10_wordHere_111 (by decide) ?_
                  exact ih_97 (j_ + 1) (by omega) (by omega) (wt_in0 (by omega) hj32_) (by rw [hs0_, skS_s (k := 70 - (j_ + 1)) (by omega), if_neg hj32_]) _ _ _ hR hS (lv_sub hl [1, 2, 0] rfl)
            · skip
              have hD_ : sch wTx (k_ + i_) = nI 32 := c_32
              refine lv_aload_n hx hcb dX10_wordHere_82 rfl (lv_at hl 0 rfl) ?_
              refine x_getI hx hcb hts hown hK xc10 hR (hw.lo (by decide)) (hw.s0 rfl) 22 (by decide) rfl q_1188 dX10_wordHere_83 ?_
              refine x_top (show (z.1 0 22) = (nI pl) from hp) ?_
              refine lv_iload_n hx hcb dX10_wordHere_86 rfl (lv_at hl 3 rfl) ?_
              refine x_iaddN hx hcb dX10_wordHere_87 ?_
              refine lv_aload_n hx hcb dX10_wordHere_88 rfl (lv_at hl 0 rfl) ?_
              refine x_getI hx hcb hts hown hK xc10 hR (hw.lo (by decide)) (hw.s0 rfl) 21 (by decide) rfl q_1187 dX10_wordHere_89 ?_
              refine x_top (show (z.1 0 21) = (nI a) from ha) ?_
              refine lv_icmp_ne (tgt := 97) hx hcb dX10_wordHere_92 (by decide) (fun c_38 => ?_) (fun c_38 => ?_)
              · skip
                have c_38 : ¬ (pl + i_) = a := fun h_ => c_38 ((nI_eq (by omega) (by omega)).mpr h_)
                have hC_ : ¬ (sch wTx (k_ + mtI (z.1 1) pl a k_ (70 - k_) 0) = nI 32 ∧ pl + mtI (z.1 1) pl a k_ (70 - k_) 0 = a) := fun q_ => c_38 (by rw [he_] at q_; exact q_.2)
                suffices LP_97 : ∀ (nn : Nat) (j_ : Nat) (_ : 70 - j_ < nn) (hj0_ : k_ ≤ j_) (hj_ : j_ ≤ 69) (hs0_ : skS (70 - k_) k_ = skS (70 - j_) j_) (H : Heap) (locs : List Loc) (ls : Array Slot), Rh G w z H → va_S (xA w s.heap.size) s.heap H locs → lv_has ls 4 [(0, .ref (w.2.2 0)), (1, .int (nI n_)), (2, .int (nI j_))] → W p l e rm_X10_wordHere s mt args below meth c H locs 0 0 Q (F0 mt 97 ls []) from LP_97 ((_) + 1) k_ (Nat.lt_succ_self _) (Nat.le_refl _) (by omega) rfl _ _ _ hR hS (lv_sub hl [0, 1, 2] rfl)
                intro nn
                induction nn with
                | zero => intro j_ hm_ ; exact absurd hm_ (Nat.not_lt_zero _)
                | succ nn ih_97 =>
                  intro j_ hm_97 hj0_ hj_ hs0_ H locs ls hR hS hl
                  obtain ⟨aq_39, hvq_39, hsq_39⟩ := xS_of hZ (q := (RX10, 175, "member section trade close set consent cash reserve years keep policy ")) (List.mem_of_getElem? (i := 21) rfl)
                  refine va_ldcS hx hcb hown hvq_39 dX10_wordHere_97 ?_
                  refine lv_iload_n hx hcb dX10_wordHere_99 rfl (lv_at hl 2 rfl) ?_
                  refine x_ci0 rfl rfl (x_runVS isS_mv hsq_39 hx hcb hml hown hts (c_J0_charAt_5068e l G w  z _ "member section trade close set consent cash reserve years keep policy " aq_39 j_ (show _ < slen wTx by rw [wTx_len]; omega) wTx_ok) mv_J0_charAt_5068e q_1295 hK hZ hR hS hsq_39.choose_spec.1 rfl hl.1 rfl (Nat.le_of_ble_eq_true rfl) dX10_wordHere_100 ⟨by decide, by decide⟩ ⟨by decide, by decide⟩) hS (fun r_40 z_41 H locs hp_42 hR hS => ?_)
                  rw [hp_42.2] at hR; rw [hp_42.1]
                  refine x_top (show (sch "member section trade close set consent cash reserve years keep policy " j_) = (sch wTx j_) from rfl) ?_
                  refine lv_bipush (v := (nI 32)) hx hcb dX10_wordHere_103 (by decide) ?_
                  refine lv_icmp_eq (tgt := 114) hx hcb dX10_wordHere_105 (by decide) (fun c_43 => ?_) (fun c_43 => ?_)
                  · skip
                    have hs_ : skS (70 - k_) k_ = j_ := by rw [hs0_, skS_s (k := 70 - (j_ + 1)) (by omega), if_pos c_43]
                    refine lv_iinc (v := (nI (j_ + 1))) (lv' := [(2, .int (nI (j_ + 1))), (0, .ref (w.2.2 0)), (1, .int (nI n_))]) hx hcb dX10_wordHere_114 hl (k := 2) rfl (x_iinc1 _) (by decide) rfl (fun ls hl => ?_)
                    refine lv_iinc (v := (nI (n_ + 1))) (lv' := [(1, .int (nI (n_ + 1))), (2, .int (nI (j_ + 1))), (0, .ref (w.2.2 0))]) hx hcb dX10_wordHere_117 hl (k := 2) rfl (x_iinc1 _) (by decide) rfl (fun ls hl => ?_)
                    refine lv_goto (tgt := 4) hx hcb dX10_wordHere_120 (by decide) ?_
                    exact ih_4 (n_ + 1) (j_ + 1) (g_ - 1) (by omega) (by omega) (by omega) (by omega) (by rw [hf_, wdQ_s (k := g_ - 1) (by omega), if_pos hk7_, if_neg hC_, hs_]) _ _ _ hR hS (lv_sub hl [2, 0, 1] rfl)
                  · skip
                    have hj32_ : ¬ sch wTx j_ = nI 32 := c_43
                    refine lv_iinc (v := (nI (j_ + 1))) (lv' := [(2, .int (nI (j_ + 1))), (0, .ref (w.2.2 0)), (1, .int (nI n_))]) hx hcb dX10_wordHere_108 hl (k := 2) rfl (x_iinc1 _) (by decide) rfl (fun ls hl => ?_)
                    refine lv_goto (tgt := 97) hx hcb dX10_wordHere_111 (by decide) ?_
                    exact ih_97 (j_ + 1) (by omega) (by omega) (wt_in0 (by omega) hj32_) (by rw [hs0_, skS_s (k := 70 - (j_ + 1)) (by omega), if_neg hj32_]) _ _ _ hR hS (lv_sub hl [1, 2, 0] rfl)
              · skip
                have c_38 : (pl + i_) = a := (nI_eq (by omega) (by omega)).mp c_38
                have hC_ : (sch wTx (k_ + mtI (z.1 1) pl a k_ (70 - k_) 0) = nI 32 ∧ pl + mtI (z.1 1) pl a k_ (70 - k_) 0 = a) := by rw [he_]; exact ⟨hD_, c_38⟩
                have hr_ : wdQ (z.1 1) pl a 71 0 0 = nI n_ := by rw [hf_, wdQ_s (k := g_ - 1) (by omega), if_pos hk7_, if_pos hC_]
                refine lv_iload_n hx hcb dX10_wordHere_95 rfl (lv_at hl 1 rfl) ?_
                exact hret (nI n_) z _ _ _ _ dX10_wordHere_96 rfl hR hS (⟨hr_.symm, rfl⟩)
          · skip
            have c_27 : ¬ a ≤ (pl + i_) := fun h_ => c_27 ((nI_leI (by omega) (by omega)).mpr h_)
            refine lv_aload_n hx hcb dX10_wordHere_41 rfl (lv_at hl 0 rfl) ?_
            refine x_getR hx hcb hts hown hK xc10 hR (hw.lo (by decide)) (hw.s0 rfl) 1 (by decide) rfl q_1167 dX10_wordHere_42 ?_
            refine lv_aload_n hx hcb dX10_wordHere_45 rfl (lv_at hl 0 rfl) ?_
            refine x_getI hx hcb hts hown hK xc10 hR (hw.lo (by decide)) (hw.s0 rfl) 22 (by decide) rfl q_1188 dX10_wordHere_46 ?_
            refine x_top (show (z.1 0 22) = (nI pl) from hp) ?_
            refine lv_iload_n hx hcb dX10_wordHere_49 rfl (lv_at hl 3 rfl) ?_
            refine x_iaddN hx hcb dX10_wordHere_50 ?_
            refine x_iald hx hcb hK hR (hw.lo (by decide)) (hw.s0 rfl) (k := (pl + i_)) (by omega) (by decide) dX10_wordHere_51 ?_
            refine x_top (show (z.1 1 (pl + i_)) = (z.1 1 (pl + i_)) from rfl) ?_
            obtain ⟨aq_44, hvq_44, hsq_44⟩ := xS_of hZ (q := (RX10, 175, "member section trade close set consent cash reserve years keep policy ")) (List.mem_of_getElem? (i := 21) rfl)
            refine va_ldcS hx hcb hown hvq_44 dX10_wordHere_52 ?_
            refine lv_iload_n hx hcb dX10_wordHere_54 rfl (lv_at hl 2 rfl) ?_
            refine lv_iload_n hx hcb dX10_wordHere_55 rfl (lv_at hl 3 rfl) ?_
            refine x_iaddN hx hcb dX10_wordHere_56 ?_
            refine x_ci0 rfl rfl (x_runVS isS_mv hsq_44 hx hcb hml hown hts (c_J0_charAt_5068e l G w  z _ "member section trade close set consent cash reserve years keep policy " aq_44 (k_ + i_) (show _ < slen wTx by rw [wTx_len]; omega) wTx_ok) mv_J0_charAt_5068e q_1295 hK hZ hR hS hsq_44.choose_spec.1 rfl hl.1 rfl (Nat.le_of_ble_eq_true rfl) dX10_wordHere_57 ⟨by decide, by decide⟩ ⟨by decide, by decide⟩) hS (fun r_45 z_46 H locs hp_47 hR hS => ?_)
            rw [hp_47.2] at hR; rw [hp_47.1]
            refine x_top (show (sch "member section trade close set consent cash reserve years keep policy " (k_ + i_)) = (sch wTx (k_ + i_)) from rfl) ?_
            refine lv_icmp_ne (tgt := 69) hx hcb dX10_wordHere_60 (by decide) (fun c_48 => ?_) (fun c_48 => ?_)
            · skip
              have he_ : mtI (z.1 1) pl a k_ (70 - k_) 0 = i_ := by rw [hm_, mtI_s (k := 70 - k_ - (i_ + 1)) (by omega), if_neg (fun q_ => c_48 q_.2.2)]
              obtain ⟨aq_49, hvq_49, hsq_49⟩ := xS_of hZ (q := (RX10, 175, "member section trade close set consent cash reserve years keep policy ")) (List.mem_of_getElem? (i := 21) rfl)
              refine va_ldcS hx hcb hown hvq_49 dX10_wordHere_69 ?_
              refine lv_iload_n hx hcb dX10_wordHere_71 rfl (lv_at hl 2 rfl) ?_
              refine lv_iload_n hx hcb dX10_wordHere_72 rfl (lv_at hl 3 rfl) ?_
              refine x_iaddN hx hcb dX10_wordHere_73 ?_
              refine x_ci0 rfl rfl (x_runVS isS_mv hsq_49 hx hcb hml hown hts (c_J0_charAt_5068e l G w  z _ "member section trade close set consent cash reserve years keep policy " aq_49 (k_ + i_) (show _ < slen wTx by rw [wTx_len]; omega) wTx_ok) mv_J0_charAt_5068e q_1295 hK hZ hR hS hsq_49.choose_spec.1 rfl hl.1 rfl (Nat.le_of_ble_eq_true rfl) dX10_wordHere_74 ⟨by decide, by decide⟩ ⟨by decide, by decide⟩) hS (fun r_50 z_51 H locs hp_52 hR hS => ?_)
              rw [hp_52.2] at hR; rw [hp_52.1]
              refine x_top (show (sch "member section trade close set consent cash reserve years keep policy " (k_ + i_)) = (sch wTx (k_ + i_)) from rfl) ?_
              refine lv_bipush (v := (nI 32)) hx hcb dX10_wordHere_77 (by decide) ?_
              refine lv_icmp_ne (tgt := 97) hx hcb dX10_wordHere_79 (by decide) (fun c_53 => ?_) (fun c_53 => ?_)
              · skip
                have hC_ : ¬ (sch wTx (k_ + mtI (z.1 1) pl a k_ (70 - k_) 0) = nI 32 ∧ pl + mtI (z.1 1) pl a k_ (70 - k_) 0 = a) := fun q_ => c_53 (by rw [he_] at q_; exact q_.1)
                suffices LP_97 : ∀ (nn : Nat) (j_ : Nat) (_ : 70 - j_ < nn) (hj0_ : k_ ≤ j_) (hj_ : j_ ≤ 69) (hs0_ : skS (70 - k_) k_ = skS (70 - j_) j_) (H : Heap) (locs : List Loc) (ls : Array Slot), Rh G w z H → va_S (xA w s.heap.size) s.heap H locs → lv_has ls 4 [(0, .ref (w.2.2 0)), (1, .int (nI n_)), (2, .int (nI j_))] → W p l e rm_X10_wordHere s mt args below meth c H locs 0 0 Q (F0 mt 97 ls []) from LP_97 ((_) + 1) k_ (Nat.lt_succ_self _) (Nat.le_refl _) (by omega) rfl _ _ _ hR hS (lv_sub hl [0, 1, 2] rfl)
                intro nn
                induction nn with
                | zero => intro j_ hm_ ; exact absurd hm_ (Nat.not_lt_zero _)
                | succ nn ih_97 =>
                  intro j_ hm_97 hj0_ hj_ hs0_ H locs ls hR hS hl
                  obtain ⟨aq_54, hvq_54, hsq_54⟩ := xS_of hZ (q := (RX10, 175, "member section trade close set consent cash reserve years keep policy ")) (List.mem_of_getElem? (i := 21) rfl)
                  refine va_ldcS hx hcb hown hvq_54 dX10_wordHere_97 ?_
                  refine lv_iload_n hx hcb dX10_wordHere_99 rfl (lv_at hl 2 rfl) ?_
                  refine x_ci0 rfl rfl (x_runVS isS_mv hsq_54 hx hcb hml hown hts (c_J0_charAt_5068e l G w  z _ "member section trade close set consent cash reserve years keep policy " aq_54 j_ (show _ < slen wTx by rw [wTx_len]; omega) wTx_ok) mv_J0_charAt_5068e q_1295 hK hZ hR hS hsq_54.choose_spec.1 rfl hl.1 rfl (Nat.le_of_ble_eq_true rfl) dX10_wordHere_100 ⟨by decide, by decide⟩ ⟨by decide, by decide⟩) hS (fun r_55 z_56 H locs hp_57 hR hS => ?_)
                  rw [hp_57.2] at hR; rw [hp_57.1]
                  refine x_top (show (sch "member section trade close set consent cash reserve years keep policy " j_) = (sch wTx j_) from rfl) ?_
                  refine lv_bipush (v := (nI 32)) hx hcb dX10_wordHere_103 (by decide) ?_
                  refine lv_icmp_eq (tgt := 114) hx hcb dX10_wordHere_105 (by decide) (fun c_58 => ?_) (fun c_58 => ?_)
                  · skip
                    have hs_ : skS (70 - k_) k_ = j_ := by rw [hs0_, skS_s (k := 70 - (j_ + 1)) (by omega), if_pos c_58]
                    refine lv_iinc (v := (nI (j_ + 1))) (lv' := [(2, .int (nI (j_ + 1))), (0, .ref (w.2.2 0)), (1, .int (nI n_))]) hx hcb dX10_wordHere_114 hl (k := 2) rfl (x_iinc1 _) (by decide) rfl (fun ls hl => ?_)
                    refine lv_iinc (v := (nI (n_ + 1))) (lv' := [(1, .int (nI (n_ + 1))), (2, .int (nI (j_ + 1))), (0, .ref (w.2.2 0))]) hx hcb dX10_wordHere_117 hl (k := 2) rfl (x_iinc1 _) (by decide) rfl (fun ls hl => ?_)
                    refine lv_goto (tgt := 4) hx hcb dX10_wordHere_120 (by decide) ?_
                    exact ih_4 (n_ + 1) (j_ + 1) (g_ - 1) (by omega) (by omega) (by omega) (by omega) (by rw [hf_, wdQ_s (k := g_ - 1) (by omega), if_pos hk7_, if_neg hC_, hs_]) _ _ _ hR hS (lv_sub hl [2, 0, 1] rfl)
                  · skip
                    have hj32_ : ¬ sch wTx j_ = nI 32 := c_58
                    refine lv_iinc (v := (nI (j_ + 1))) (lv' := [(2, .int (nI (j_ + 1))), (0, .ref (w.2.2 0)), (1, .int (nI n_))]) hx hcb dX10_wordHere_108 hl (k := 2) rfl (x_iinc1 _) (by decide) rfl (fun ls hl => ?_)
                    refine lv_goto (tgt := 97) hx hcb dX10_wordHere_111 (by decide) ?_
                    exact ih_97 (j_ + 1) (by omega) (by omega) (wt_in0 (by omega) hj32_) (by rw [hs0_, skS_s (k := 70 - (j_ + 1)) (by omega), if_neg hj32_]) _ _ _ hR hS (lv_sub hl [1, 2, 0] rfl)
              · skip
                have hD_ : sch wTx (k_ + i_) = nI 32 := c_53
                refine lv_aload_n hx hcb dX10_wordHere_82 rfl (lv_at hl 0 rfl) ?_
                refine x_getI hx hcb hts hown hK xc10 hR (hw.lo (by decide)) (hw.s0 rfl) 22 (by decide) rfl q_1188 dX10_wordHere_83 ?_
                refine x_top (show (z.1 0 22) = (nI pl) from hp) ?_
                refine lv_iload_n hx hcb dX10_wordHere_86 rfl (lv_at hl 3 rfl) ?_
                refine x_iaddN hx hcb dX10_wordHere_87 ?_
                refine lv_aload_n hx hcb dX10_wordHere_88 rfl (lv_at hl 0 rfl) ?_
                refine x_getI hx hcb hts hown hK xc10 hR (hw.lo (by decide)) (hw.s0 rfl) 21 (by decide) rfl q_1187 dX10_wordHere_89 ?_
                refine x_top (show (z.1 0 21) = (nI a) from ha) ?_
                refine lv_icmp_ne (tgt := 97) hx hcb dX10_wordHere_92 (by decide) (fun c_59 => ?_) (fun c_59 => ?_)
                · skip
                  have c_59 : ¬ (pl + i_) = a := fun h_ => c_59 ((nI_eq (by omega) (by omega)).mpr h_)
                  have hC_ : ¬ (sch wTx (k_ + mtI (z.1 1) pl a k_ (70 - k_) 0) = nI 32 ∧ pl + mtI (z.1 1) pl a k_ (70 - k_) 0 = a) := fun q_ => c_59 (by rw [he_] at q_; exact q_.2)
                  suffices LP_97 : ∀ (nn : Nat) (j_ : Nat) (_ : 70 - j_ < nn) (hj0_ : k_ ≤ j_) (hj_ : j_ ≤ 69) (hs0_ : skS (70 - k_) k_ = skS (70 - j_) j_) (H : Heap) (locs : List Loc) (ls : Array Slot), Rh G w z H → va_S (xA w s.heap.size) s.heap H locs → lv_has ls 4 [(0, .ref (w.2.2 0)), (1, .int (nI n_)), (2, .int (nI j_))] → W p l e rm_X10_wordHere s mt args below meth c H locs 0 0 Q (F0 mt 97 ls []) from LP_97 ((_) + 1) k_ (Nat.lt_succ_self _) (Nat.le_refl _) (by omega) rfl _ _ _ hR hS (lv_sub hl [0, 1, 2] rfl)
                  intro nn
                  induction nn with
                  | zero => intro j_ hm_ ; exact absurd hm_ (Nat.not_lt_zero _)
                  | succ nn ih_97 =>
                    intro j_ hm_97 hj0_ hj_ hs0_ H locs ls hR hS hl
                    obtain ⟨aq_60, hvq_60, hsq_60⟩ := xS_of hZ (q := (RX10, 175, "member section trade close set consent cash reserve years keep policy ")) (List.mem_of_getElem? (i := 21) rfl)
                    refine va_ldcS hx hcb hown hvq_60 dX10_wordHere_97 ?_
                    refine lv_iload_n hx hcb dX10_wordHere_99 rfl (lv_at hl 2 rfl) ?_
                    refine x_ci0 rfl rfl (x_runVS isS_mv hsq_60 hx hcb hml hown hts (c_J0_charAt_5068e l G w  z _ "member section trade close set consent cash reserve years keep policy " aq_60 j_ (show _ < slen wTx by rw [wTx_len]; omega) wTx_ok) mv_J0_charAt_5068e q_1295 hK hZ hR hS hsq_60.choose_spec.1 rfl hl.1 rfl (Nat.le_of_ble_eq_true rfl) dX10_wordHere_100 ⟨by decide, by decide⟩ ⟨by decide, by decide⟩) hS (fun r_61 z_62 H locs hp_63 hR hS => ?_)
                    rw [hp_63.2] at hR; rw [hp_63.1]
                    refine x_top (show (sch "member section trade close set consent cash reserve years keep policy " j_) = (sch wTx j_) from rfl) ?_
                    refine lv_bipush (v := (nI 32)) hx hcb dX10_wordHere_103 (by decide) ?_
                    refine lv_icmp_eq (tgt := 114) hx hcb dX10_wordHere_105 (by decide) (fun c_64 => ?_) (fun c_64 => ?_)
                    · skip
                      have hs_ : skS (70 - k_) k_ = j_ := by rw [hs0_, skS_s (k := 70 - (j_ + 1)) (by omega), if_pos c_64]
                      refine lv_iinc (v := (nI (j_ + 1))) (lv' := [(2, .int (nI (j_ + 1))), (0, .ref (w.2.2 0)), (1, .int (nI n_))]) hx hcb dX10_wordHere_114 hl (k := 2) rfl (x_iinc1 _) (by decide) rfl (fun ls hl => ?_)
                      refine lv_iinc (v := (nI (n_ + 1))) (lv' := [(1, .int (nI (n_ + 1))), (2, .int (nI (j_ + 1))), (0, .ref (w.2.2 0))]) hx hcb dX10_wordHere_117 hl (k := 2) rfl (x_iinc1 _) (by decide) rfl (fun ls hl => ?_)
                      refine lv_goto (tgt := 4) hx hcb dX10_wordHere_120 (by decide) ?_
                      exact ih_4 (n_ + 1) (j_ + 1) (g_ - 1) (by omega) (by omega) (by omega) (by omega) (by rw [hf_, wdQ_s (k := g_ - 1) (by omega), if_pos hk7_, if_neg hC_, hs_]) _ _ _ hR hS (lv_sub hl [2, 0, 1] rfl)
                    · skip
                      have hj32_ : ¬ sch wTx j_ = nI 32 := c_64
                      refine lv_iinc (v := (nI (j_ + 1))) (lv' := [(2, .int (nI (j_ + 1))), (0, .ref (w.2.2 0)), (1, .int (nI n_))]) hx hcb dX10_wordHere_108 hl (k := 2) rfl (x_iinc1 _) (by decide) rfl (fun ls hl => ?_)
                      refine lv_goto (tgt := 97) hx hcb dX10_wordHere_111 (by decide) ?_
                      exact ih_97 (j_ + 1) (by omega) (by omega) (wt_in0 (by omega) hj32_) (by rw [hs0_, skS_s (k := 70 - (j_ + 1)) (by omega), if_neg hj32_]) _ _ _ hR hS (lv_sub hl [1, 2, 0] rfl)
                · skip
                  have c_59 : (pl + i_) = a := (nI_eq (by omega) (by omega)).mp c_59
                  have hC_ : (sch wTx (k_ + mtI (z.1 1) pl a k_ (70 - k_) 0) = nI 32 ∧ pl + mtI (z.1 1) pl a k_ (70 - k_) 0 = a) := by rw [he_]; exact ⟨hD_, c_59⟩
                  have hr_ : wdQ (z.1 1) pl a 71 0 0 = nI n_ := by rw [hf_, wdQ_s (k := g_ - 1) (by omega), if_pos hk7_, if_pos hC_]
                  refine lv_iload_n hx hcb dX10_wordHere_95 rfl (lv_at hl 1 rfl) ?_
                  exact hret (nI n_) z _ _ _ _ dX10_wordHere_96 rfl hR hS (⟨hr_.symm, rfl⟩)
            · skip
              have hb_ := c_48
              refine lv_iinc (v := (nI (i_ + 1))) (lv' := [(3, .int (nI (i_ + 1))), (0, .ref (w.2.2 0)), (1, .int (nI n_)), (2, .int (nI k_))]) hx hcb dX10_wordHere_63 hl (k := 3) rfl (x_iinc1 _) (by decide) rfl (fun ls hl => ?_)
              refine lv_goto (tgt := 15) hx hcb dX10_wordHere_66 (by decide) ?_
              exact ih_15 (i_ + 1) (by omega) (wt_in (by omega) hc32_) (by omega) (by rw [hm_, mtI_s (k := 70 - k_ - (i_ + 1)) (by omega), if_pos ⟨hc32_, by omega, hb_⟩]) _ _ _ hR hS (lv_sub hl [1, 2, 3, 0] rfl)
