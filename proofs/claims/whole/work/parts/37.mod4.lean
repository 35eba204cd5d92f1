/-! THE REFERENCE: shares -/
def gQ (a : Int64) (f : Nat → Int64) (t : Int64) (i : Nat) : Int64 := a * f i / t
def rQ (a : Int64) (f : Nat → Int64) (t : Int64) (i : Nat) : Int64 := a * f i - a * f i / t * t
def lopn (a : Int64) (g : Nat → Int64) : Nat → Int64
  | 0 => a
  | k + 1 => lopn a g k - g k
def zLL (z : xSt) (s : (Nat → Int64) × (Nat → Int64)) : xSt := (z.1, va_up (va_up z.2 8 s.1) 9 s.2)
theorem zLL_id (z : xSt) : zLL z (z.2 8, z.2 9) = z := by unfold zLL; rw [va_up_id, va_up_id]
theorem zLL_u (z : xSt) (s : (Nat → Int64) × (Nat → Int64)) (i j : Nat) (v x : Int64) : u2 (u2 (zLL z s) 8 i v) 9 j x = zLL z (va_up s.1 i v, va_up s.2 j x) := by
  refine Prod.ext rfl (funext fun o => ?_)
  show va_up (va_up (va_up (va_up z.2 8 s.1) 9 s.2) 8 (va_up ((va_up (va_up z.2 8 s.1) 9 s.2) 8) i v)) 9 (va_up (va_up (va_up (va_up z.2 8 s.1) 9 s.2) 8 (va_up ((va_up (va_up z.2 8 s.1) 9 s.2) 8) i v) 9) j x) o = va_up (va_up z.2 8 (va_up s.1 i v)) 9 (va_up s.2 j x) o
  by_cases h9 : o = 9
  · subst h9; rfl
  · rw [va_up_ne _ _ h9, va_up_ne _ _ h9]
    by_cases h8 : o = 8
    · subst h8; rfl
    · rw [va_up_ne _ _ h8, va_up_ne _ _ h9, va_up_ne _ _ h8, va_up_ne _ _ h8]
def gvQ (n : Nat) : Nat → (Nat → Int64) × (Nat → Int64) → (Nat → Int64) × (Nat → Int64)
  | 0, s => s
  | k + 1, s => gvQ n k (va_up s.1 (am s.2 (n - 1)) (s.1 (am s.2 (n - 1)) + 1), va_up s.2 (am s.2 (n - 1)) (-1))
theorem gvQ_s {n m k : Nat} {s : (Nat → Int64) × (Nat → Int64)} (h : m = k + 1) : gvQ n m s = gvQ n k (va_up s.1 (am s.2 (n - 1)) (s.1 (am s.2 (n - 1)) + 1), va_up s.2 (am s.2 (n - 1)) (-1)) := by rw [h]; rfl
theorem i64_le0 {k : Nat} (hk : k < 1000) (h : Int64.ofNat k ≤ 0) : k = 0 := by
  have h2 : (Int64.ofNat k).toInt ≤ (0 : Int64).toInt := Int64.le_iff_toInt_le.mp h
  have h3 : (0 : Int64).toInt = 0 := rfl
  rw [Int64.toInt_ofNat_of_lt (by omega)] at h2
  omega
theorem i64_pred {k : Nat} (hk : k ≠ 0) : Int64.ofNat k - 1 = Int64.ofNat (k - 1) := by
  obtain ⟨m, rfl⟩ := Nat.exists_eq_succ_of_ne_zero hk
  rw [Nat.succ_sub_one, Nat.succ_eq_add_one, Int64.ofNat_add]
  exact Int64.add_sub_cancel _ _
theorem lc_eq {x : Int64} (h : lg_cmp x 0 = 0) : x = 0 := (lg_cmp_eq x 0).mp h
def rm_X10_shares : Room := { frames := 0, cells := 0, slots := 0, locals := 0 }
set_option maxRecDepth 100000 in
set_option maxHeartbeats 4000000 in
theorem c_X10_shares (l : Launch) (G : xGl) (w : xWd) (hw : isM w) (z : xSt) (sz : Nat) (n : Nat) (a : Int64) (j : Nat) (hn : n ≤ 192) (hj : xls (z.2 7) n ≠ 0 → lopn a (gQ a (z.2 7) (xls (z.2 7) n)) n = Int64.ofNat j ∧ j ≤ 192) : xMi l yX10_shares cX10_shares 10 (some FieldType.boolean) rm_X10_shares G w z sz [.ref (w.2.2 0), .int (nI n), .long a] (fun r z1 => (r, z1) = if xls (z.2 7) n = 0 then (0, z) else (1, zLL z (gvQ n j (pre n (gQ a (z.2 7) (xls (z.2 7) n)) (z.2 8), pre n (rQ a (z.2 7) (xls (z.2 7) n)) (z.2 9))))) := by
  refine x_mi (by decide) (Nat.le_of_ble_eq_true rfl) ?_
  intro p e s mt args below meth c ls Q hsz X hR hS hl hret
  obtain ⟨hx, hcb, hml, hown, hts, hlk, hK, hZ⟩ := X
  have hl : lv_has ls 10 [(0, .ref (w.2.2 0)), (1, .int (nI n)), (2, .long a)] := hl
  refine lv_lconst (v := 0) hx hcb dX10_shares_0 (by decide) ?_
  refine lv_lstore (lv' := [(4, .long 0), (0, .ref (w.2.2 0)), (1, .int (nI n)), (2, .long a)]) hx hcb dX10_shares_1 hl (by decide) rfl (fun ls hl => ?_)
  refine lv_iconst (v := (nI 0)) hx hcb dX10_shares_3 (by decide) ?_
  refine lv_istore (lv' := [(6, .int (nI 0)), (4, .long 0), (0, .ref (w.2.2 0)), (1, .int (nI n)), (2, .long a)]) hx hcb dX10_shares_4 hl (by decide) rfl (fun ls hl => ?_)
  suffices LP_6 : ∀ (nn : Nat) (i_ : Nat) (_ : n - i_ < nn) (hi_ : i_ ≤ n) (H : Heap) (locs : List Loc) (ls : Array Slot), Rh G w z H → va_S (xA w s.heap.size) s.heap H locs → lv_has ls 10 [(0, .ref (w.2.2 0)), (1, .int (nI n)), (2, .long a), (4, .long (xls (z.2 7) i_)), (6, .int (nI i_))] → W p l e rm_X10_shares s mt args below meth c H locs 0 0 Q (F0 mt 6 ls []) from LP_6 ((_) + 1) 0 (Nat.lt_succ_self _) (Nat.zero_le _) _ _ _ hR hS (lv_sub hl [2, 3, 4, 1, 0] rfl)
  intro nn
  induction nn with
  | zero => intro i_ hm_ ; exact absurd hm_ (Nat.not_lt_zero _)
  | succ nn ih_6 =>
    intro i_ hm_6 hi_ H locs ls hR hS hl
    refine lv_iload hx hcb dX10_shares_6 (lv_at hl 4 rfl) ?_
    refine lv_iload_n hx hcb dX10_shares_8 rfl (lv_at hl 1 rfl) ?_
    refine lv_icmp_ge (tgt := 30) hx hcb dX10_shares_9 (by decide) (fun c_1 => ?_) (fun c_1 => ?_)
    · skip
      have c_1 : n ≤ i_ := (nI_leI (by omega) (by omega)).mp c_1
      obtain rfl : n = i_ := by omega
      refine lv_lload hx hcb dX10_shares_30 (lv_at hl 3 rfl) ?_
      refine lv_lconst (v := 0) hx hcb dX10_shares_32 (by decide) ?_
      refine W.lcmp hx hcb dX10_shares_33 ?_
      refine lv_if_ne (tgt := 39) hx hcb dX10_shares_34 (by decide) (fun c_2 => ?_) (fun c_2 => ?_)
      · skip
        have hT : ¬ xls (z.2 7) n = 0 := fun q_ => c_2 (by rw [q_]; rfl)
        obtain ⟨hj1_, hj2_⟩ := hj hT
        have hn0_ : n ≠ 0 := fun q_ => hT (by rw [q_]; rfl)
        refine lv_lload_n hx hcb dX10_shares_39 rfl (lv_at hl 2 rfl) ?_
        refine lv_lstore (lv' := [(6, .long a), (0, .ref (w.2.2 0)), (1, .int (nI n)), (2, .long a), (4, .long (xls (z.2 7) n))]) hx hcb dX10_shares_40 hl (by decide) rfl (fun ls hl => ?_)
        refine lv_iconst (v := (nI 0)) hx hcb dX10_shares_42 (by decide) ?_
        refine lv_istore (lv' := [(8, .int (nI 0)), (6, .long a), (0, .ref (w.2.2 0)), (1, .int (nI n)), (2, .long a), (4, .long (xls (z.2 7) n))]) hx hcb dX10_shares_43 hl (by decide) rfl (fun ls hl => ?_)
        rw [show z = zLL z (pre 0 (gQ a (z.2 7) (xls (z.2 7) n)) (z.2 8), pre 0 (rQ a (z.2 7) (xls (z.2 7) n)) (z.2 9)) from by rw [pre_0, pre_0, zLL_id]] at hR
        suffices LP_45 : ∀ (nn : Nat) (i_ : Nat) (_ : n - i_ < nn) (hi_ : i_ ≤ n) (H : Heap) (locs : List Loc) (ls : Array Slot), Rh G w (zLL z (pre i_ (gQ a (z.2 7) (xls (z.2 7) n)) (z.2 8), pre i_ (rQ a (z.2 7) (xls (z.2 7) n)) (z.2 9))) H → va_S (xA w s.heap.size) s.heap H locs → lv_has ls 10 [(0, .ref (w.2.2 0)), (1, .int (nI n)), (2, .long a), (4, .long (xls (z.2 7) n)), (6, .long (lopn a (gQ a (z.2 7) (xls (z.2 7) n)) i_)), (8, .int (nI i_))] → W p l e rm_X10_shares s mt args below meth c H locs 0 0 Q (F0 mt 45 ls []) from LP_45 ((_) + 1) 0 (Nat.lt_succ_self _) (Nat.zero_le _) _ _ _ hR hS (lv_sub hl [2, 3, 4, 5, 1, 0] rfl)
        intro nn
        induction nn with
        | zero => intro i_ hm_ ; exact absurd hm_ (Nat.not_lt_zero _)
        | succ nn ih_45 =>
          intro i_ hm_45 hi_ H locs ls hR hS hl
          refine lv_iload hx hcb dX10_shares_45 (lv_at hl 5 rfl) ?_
          refine lv_iload_n hx hcb dX10_shares_47 rfl (lv_at hl 1 rfl) ?_
          refine lv_icmp_ge (tgt := 107) hx hcb dX10_shares_48 (by decide) (fun c_3 => ?_) (fun c_3 => ?_)
          · skip
            have c_3 : n ≤ i_ := (nI_leI (by omega) (by omega)).mp c_3
            obtain rfl : n = i_ := by omega
            rw [hj1_] at hl
            suffices LP_107 : ∀ (nn : Nat) (k_ : Nat) (s_ : (Nat → Int64) × (Nat → Int64)) (_ : k_ < nn) (hk_ : k_ ≤ 192) (hf_ : gvQ n j (pre n (gQ a (z.2 7) (xls (z.2 7) n)) (z.2 8), pre n (rQ a (z.2 7) (xls (z.2 7) n)) (z.2 9)) = gvQ n k_ s_) (H : Heap) (locs : List Loc) (ls : Array Slot), Rh G w (zLL z s_) H → va_S (xA w s.heap.size) s.heap H locs → lv_has ls 10 [(0, .ref (w.2.2 0)), (1, .int (nI n)), (6, .long (Int64.ofNat k_))] → W p l e rm_X10_shares s mt args below meth c H locs 0 0 Q (F0 mt 107 ls []) from LP_107 ((_) + 1) j (pre n (gQ a (z.2 7) (xls (z.2 7) n)) (z.2 8), pre n (rQ a (z.2 7) (xls (z.2 7) n)) (z.2 9)) (Nat.lt_succ_self _) hj2_ rfl _ _ _ hR hS (lv_sub hl [0, 1, 4] rfl)
            intro nn
            induction nn with
            | zero => intro k_ s_ hm_ ; exact absurd hm_ (Nat.not_lt_zero _)
            | succ nn ih_107 =>
              intro k_ s_ hm_107 hk_ hf_ H locs ls hR hS hl
              refine lv_lload hx hcb dX10_shares_107 (lv_at hl 2 rfl) ?_
              refine lv_lconst (v := 0) hx hcb dX10_shares_109 (by decide) ?_
              refine W.lcmp hx hcb dX10_shares_110 ?_
              refine lv_if_le (tgt := 184) hx hcb dX10_shares_111 (by decide) (fun c_4 => ?_) (fun c_4 => ?_)
              · skip
                have hk0_ : k_ = 0 := i64_le0 (by omega) ((lg_cmp_le _ _).mp c_4)
                refine lv_iconst (v := (nI 1)) hx hcb dX10_shares_184 (by decide) ?_
                exact hret (nI 1) (zLL z s_) _ _ _ _ dX10_shares_185 rfl hR hS (by rw [if_neg hT, hf_, hk0_]; rfl)
              · skip
                have hk0_ : k_ ≠ 0 := fun q_ => c_4 (by rw [q_]; decide)
                refine lv_iconst (v := (nI 0)) hx hcb dX10_shares_114 (by decide) ?_
                refine lv_istore (lv' := [(8, .int (nI 0)), (0, .ref (w.2.2 0)), (1, .int (nI n)), (6, .long (Int64.ofNat k_))]) hx hcb dX10_shares_115 hl (by decide) rfl (fun ls hl => ?_)
                refine lv_iconst (v := (nI 1)) hx hcb dX10_shares_117 (by decide) ?_
                refine lv_istore (lv' := [(9, .int (nI 1)), (8, .int (nI 0)), (0, .ref (w.2.2 0)), (1, .int (nI n)), (6, .long (Int64.ofNat k_))]) hx hcb dX10_shares_118 hl (by decide) rfl (fun ls hl => ?_)
                suffices LP_120 : ∀ (nn : Nat) (j_ : Nat) (_ : n - j_ < nn) (hj_ : j_ + 1 ≤ n) (H : Heap) (locs : List Loc) (ls : Array Slot), Rh G w (zLL z s_) H → va_S (xA w s.heap.size) s.heap H locs → lv_has ls 10 [(0, .ref (w.2.2 0)), (1, .int (nI n)), (6, .long (Int64.ofNat k_)), (8, .int (nI (am s_.2 j_))), (9, .int (nI (j_ + 1)))] → W p l e rm_X10_shares s mt args below meth c H locs 0 0 Q (F0 mt 120 ls []) from LP_120 ((_) + 1) 0 (Nat.lt_succ_self _) (by omega) _ _ _ hR hS (lv_sub hl [2, 3, 4, 1, 0] rfl)
                intro nn
                induction nn with
                | zero => intro j_ hm_ ; exact absurd hm_ (Nat.not_lt_zero _)
                | succ nn ih_120 =>
                  intro j_ hm_120 hj_ H locs ls hR hS hl
                  refine lv_iload hx hcb dX10_shares_120 (lv_at hl 4 rfl) ?_
                  refine lv_iload_n hx hcb dX10_shares_122 rfl (lv_at hl 1 rfl) ?_
                  refine lv_icmp_ge (tgt := 154) hx hcb dX10_shares_123 (by decide) (fun c_5 => ?_) (fun c_5 => ?_)
                  · skip
                    have c_5 : n ≤ (j_ + 1) := (nI_leI (by omega) (by omega)).mp c_5
                    obtain rfl : n - 1 = j_ := by omega
                    refine lv_aload_n hx hcb dX10_shares_154 rfl (lv_at hl 0 rfl) ?_
                    refine x_getR hx hcb hts hown hK xc10 hR (hw.lo (by decide)) (hw.s0 rfl) 10 (by decide) rfl q_1176 dX10_shares_155 ?_
                    refine lv_iload hx hcb dX10_shares_158 (lv_at hl 3 rfl) ?_
                    refine lv_dup2_11 hx hcb dX10_shares_160 rfl rfl ?_
                    refine x_lald hx hcb hK hR (hw.lo (by decide)) (hw.s0 rfl) (k := (am s_.2 (n - 1))) (by have := am_le s_.2 (n - 1); omega) (by decide) dX10_shares_161 ?_
                    refine x_topl (show ((zLL z s_).2 8 (am s_.2 (n - 1))) = (s_.1 (am s_.2 (n - 1))) from rfl) ?_
                    refine lv_lconst (v := 1) hx hcb dX10_shares_162 (by decide) ?_
                    refine lv_ladd hx hcb dX10_shares_163 ?_
                    refine x_topl (show ((s_.1 (am s_.2 (n - 1))) + 1) = (s_.1 (am s_.2 (n - 1)) + 1) from rfl) ?_
                    refine x_last hx hcb hK hR hS (hw.lo (by decide)) (hw.s0 rfl) (k := (am s_.2 (n - 1))) (v := (s_.1 (am s_.2 (n - 1)) + 1)) (by have := am_le s_.2 (n - 1); omega) (by decide) dX10_shares_164 (fun H locs hR hS => ?_)
                    refine lv_aload_n hx hcb dX10_shares_165 rfl (lv_at hl 0 rfl) ?_
                    refine x_getR hx hcb hts hown hK xc10 hR (hw.lo (by decide)) (hw.s0 rfl) 11 (by decide) rfl q_1177 dX10_shares_166 ?_
                    refine lv_iload hx hcb dX10_shares_169 (lv_at hl 3 rfl) ?_
                    refine lv_ldc2 (v := (-1)) hx hcb hown (hts _ q_1373) dX10_shares_171 ?_
                    refine x_last hx hcb hK hR hS (hw.lo (by decide)) (hw.s0 rfl) (k := (am s_.2 (n - 1))) (v := (-1)) (by have := am_le s_.2 (n - 1); omega) (by decide) dX10_shares_174 (fun H locs hR hS => ?_)
                    refine lv_lload hx hcb dX10_shares_175 (lv_at hl 2 rfl) ?_
                    refine lv_lconst (v := 1) hx hcb dX10_shares_177 (by decide) ?_
                    refine lv_lsub hx hcb dX10_shares_178 ?_
                    refine lv_lstore (lv' := [(6, .long ((Int64.ofNat k_) - 1)), (0, .ref (w.2.2 0)), (1, .int (nI n)), (8, .int (nI (am s_.2 (n - 1)))), (9, .int (nI ((n - 1) + 1)))]) hx hcb dX10_shares_179 hl (by decide) rfl (fun ls hl => ?_)
                    refine lv_goto (tgt := 107) hx hcb dX10_shares_181 (by decide) ?_
                    rw [show ((Int64.ofNat k_) - 1) = (Int64.ofNat (k_ - 1)) from i64_pred hk0_] at hl
                    rw [show (u2 (u2 (zLL z s_) 8 (am s_.2 (n - 1)) (s_.1 (am s_.2 (n - 1)) + 1)) 9 (am s_.2 (n - 1)) (-1)) = (zLL z (va_up s_.1 (am s_.2 (n - 1)) (s_.1 (am s_.2 (n - 1)) + 1), va_up s_.2 (am s_.2 (n - 1)) (-1))) from zLL_u ..] at hR
                    exact ih_107 (k_ - 1) (va_up s_.1 (am s_.2 (n - 1)) (s_.1 (am s_.2 (n - 1)) + 1), va_up s_.2 (am s_.2 (n - 1)) (-1)) (by omega) (by omega) (by rw [hf_, gvQ_s (k := k_ - 1) (by omega)]) _ _ _ hR hS (lv_sub hl [1, 2, 0] rfl)
                  · skip
                    have c_5 : ¬ n ≤ (j_ + 1) := fun h_ => c_5 ((nI_leI (by omega) (by omega)).mpr h_)
                    refine lv_aload_n hx hcb dX10_shares_126 rfl (lv_at hl 0 rfl) ?_
                    refine x_getR hx hcb hts hown hK xc10 hR (hw.lo (by decide)) (hw.s0 rfl) 11 (by decide) rfl q_1177 dX10_shares_127 ?_
                    refine lv_iload hx hcb dX10_shares_130 (lv_at hl 4 rfl) ?_
                    refine x_lald hx hcb hK hR (hw.lo (by decide)) (hw.s0 rfl) (k := (j_ + 1)) (by omega) (by decide) dX10_shares_132 ?_
                    refine x_topl (show ((zLL z s_).2 9 (j_ + 1)) = (s_.2 (j_ + 1)) from rfl) ?_
                    refine lv_aload_n hx hcb dX10_shares_133 rfl (lv_at hl 0 rfl) ?_
                    refine x_getR hx hcb hts hown hK xc10 hR (hw.lo (by decide)) (hw.s0 rfl) 11 (by decide) rfl q_1177 dX10_shares_134 ?_
                    refine lv_iload hx hcb dX10_shares_137 (lv_at hl 3 rfl) ?_
                    refine x_lald hx hcb hK hR (hw.lo (by decide)) (hw.s0 rfl) (k := (am s_.2 j_)) (by have := am_le s_.2 j_; omega) (by decide) dX10_shares_139 ?_
                    refine x_topl (show ((zLL z s_).2 9 (am s_.2 j_)) = (s_.2 (am s_.2 j_)) from rfl) ?_
                    refine W.lcmp hx hcb dX10_shares_140 ?_
                    refine lv_if_le (tgt := 148) hx hcb dX10_shares_141 (by decide) (fun c_6 => ?_) (fun c_6 => ?_)
                    · skip
                      have hq_ : ¬ s_.2 (am s_.2 j_) < s_.2 (j_ + 1) := Int64.not_lt.mpr ((lg_cmp_le _ _).mp c_6)
                      refine lv_iinc (v := (nI ((j_ + 1) + 1))) (lv' := [(9, .int (nI ((j_ + 1) + 1))), (0, .ref (w.2.2 0)), (1, .int (nI n)), (6, .long (Int64.ofNat k_)), (8, .int (nI (am s_.2 j_)))]) hx hcb dX10_shares_148 hl (k := 4) rfl (x_iinc1 _) (by decide) rfl (fun ls hl => ?_)
                      refine lv_goto (tgt := 120) hx hcb dX10_shares_151 (by decide) ?_
                      rw [show (nI (am s_.2 j_)) = (nI (am s_.2 (j_ + 1))) from by rw [show am s_.2 (j_ + 1) = if s_.2 (am s_.2 j_) < s_.2 (j_ + 1) then j_ + 1 else am s_.2 j_ from rfl]; first | rw [if_pos hq_] | rw [if_neg hq_]] at hl
                      exact ih_120 (j_ + 1) (by omega) (by omega) _ _ _ hR hS (lv_sub hl [1, 2, 3, 4, 0] rfl)
                    · skip
                      have hq_ : s_.2 (am s_.2 j_) < s_.2 (j_ + 1) := Int64.not_le.mp (fun h_ => c_6 ((lg_cmp_le _ _).mpr h_))
                      refine lv_iload hx hcb dX10_shares_144 (lv_at hl 4 rfl) ?_
                      refine lv_istore (lv' := [(8, .int (nI (j_ + 1))), (0, .ref (w.2.2 0)), (1, .int (nI n)), (6, .long (Int64.ofNat k_)), (9, .int (nI (j_ + 1)))]) hx hcb dX10_shares_146 hl (by decide) rfl (fun ls hl => ?_)
                      refine lv_iinc (v := (nI ((j_ + 1) + 1))) (lv' := [(9, .int (nI ((j_ + 1) + 1))), (8, .int (nI (j_ + 1))), (0, .ref (w.2.2 0)), (1, .int (nI n)), (6, .long (Int64.ofNat k_))]) hx hcb dX10_shares_148 hl (k := 4) rfl (x_iinc1 _) (by decide) rfl (fun ls hl => ?_)
                      refine lv_goto (tgt := 120) hx hcb dX10_shares_151 (by decide) ?_
                      rw [show (nI (j_ + 1)) = (nI (am s_.2 (j_ + 1))) from by rw [show am s_.2 (j_ + 1) = if s_.2 (am s_.2 j_) < s_.2 (j_ + 1) then j_ + 1 else am s_.2 j_ from rfl]; first | rw [if_pos hq_] | rw [if_neg hq_]] at hl
                      exact ih_120 (j_ + 1) (by omega) (by omega) _ _ _ hR hS (lv_sub hl [2, 3, 4, 1, 0] rfl)
          · skip
            have c_3 : ¬ n ≤ i_ := fun h_ => c_3 ((nI_leI (by omega) (by omega)).mpr h_)
            refine lv_aload_n hx hcb dX10_shares_51 rfl (lv_at hl 0 rfl) ?_
            refine x_getR hx hcb hts hown hK xc10 hR (hw.lo (by decide)) (hw.s0 rfl) 10 (by decide) rfl q_1176 dX10_shares_52 ?_
            refine lv_iload hx hcb dX10_shares_55 (lv_at hl 5 rfl) ?_
            refine lv_lload_n hx hcb dX10_shares_57 rfl (lv_at hl 2 rfl) ?_
            refine lv_aload_n hx hcb dX10_shares_58 rfl (lv_at hl 0 rfl) ?_
            refine x_getR hx hcb hts hown hK xc10 hR (hw.lo (by decide)) (hw.s0 rfl) 9 (by decide) rfl q_1175 dX10_shares_59 ?_
            refine lv_iload hx hcb dX10_shares_62 (lv_at hl 5 rfl) ?_
            refine x_lald hx hcb hK hR (hw.lo (by decide)) (hw.s0 rfl) (k := i_) (by omega) (by decide) dX10_shares_64 ?_
            refine x_topl (show ((zLL z (pre i_ (gQ a (z.2 7) (xls (z.2 7) n)) (z.2 8), pre i_ (rQ a (z.2 7) (xls (z.2 7) n)) (z.2 9))).2 7 i_) = (z.2 7 i_) from rfl) ?_
            refine lv_lmul hx hcb dX10_shares_65 ?_
            refine lv_lload hx hcb dX10_shares_66 (lv_at hl 3 rfl) ?_
            refine lv_ldiv hx hcb dX10_shares_68 hT ?_
            refine x_topl (show ((a * (z.2 7 i_)) / (xls (z.2 7) n)) = ((gQ a (z.2 7) (xls (z.2 7) n)) i_) from rfl) ?_
            refine x_last hx hcb hK hR hS (hw.lo (by decide)) (hw.s0 rfl) (k := i_) (v := ((gQ a (z.2 7) (xls (z.2 7) n)) i_)) (by omega) (by decide) dX10_shares_69 (fun H locs hR hS => ?_)
            refine lv_aload_n hx hcb dX10_shares_70 rfl (lv_at hl 0 rfl) ?_
            refine x_getR hx hcb hts hown hK xc10 hR (hw.lo (by decide)) (hw.s0 rfl) 11 (by decide) rfl q_1177 dX10_shares_71 ?_
            refine lv_iload hx hcb dX10_shares_74 (lv_at hl 5 rfl) ?_
            refine lv_lload_n hx hcb dX10_shares_76 rfl (lv_at hl 2 rfl) ?_
            refine lv_aload_n hx hcb dX10_shares_77 rfl (lv_at hl 0 rfl) ?_
            refine x_getR hx hcb hts hown hK xc10 hR (hw.lo (by decide)) (hw.s0 rfl) 9 (by decide) rfl q_1175 dX10_shares_78 ?_
            refine lv_iload hx hcb dX10_shares_81 (lv_at hl 5 rfl) ?_
            refine x_lald hx hcb hK hR (hw.lo (by decide)) (hw.s0 rfl) (k := i_) (by omega) (by decide) dX10_shares_83 ?_
            refine x_topl (show ((u2 (zLL z (pre i_ (gQ a (z.2 7) (xls (z.2 7) n)) (z.2 8), pre i_ (rQ a (z.2 7) (xls (z.2 7) n)) (z.2 9))) 8 i_ ((gQ a (z.2 7) (xls (z.2 7) n)) i_)).2 7 i_) = (z.2 7 i_) from rfl) ?_
            refine lv_lmul hx hcb dX10_shares_84 ?_
            refine lv_lload hx hcb dX10_shares_85 (lv_at hl 3 rfl) ?_
            refine lv_lrem hx hcb dX10_shares_87 hT ?_
            refine x_topl (show ((a * (z.2 7 i_)) - (a * (z.2 7 i_)) / (xls (z.2 7) n) * (xls (z.2 7) n)) = ((rQ a (z.2 7) (xls (z.2 7) n)) i_) from rfl) ?_
            refine x_last hx hcb hK hR hS (hw.lo (by decide)) (hw.s0 rfl) (k := i_) (v := ((rQ a (z.2 7) (xls (z.2 7) n)) i_)) (by omega) (by decide) dX10_shares_88 (fun H locs hR hS => ?_)
            refine lv_lload hx hcb dX10_shares_89 (lv_at hl 4 rfl) ?_
            refine lv_aload_n hx hcb dX10_shares_91 rfl (lv_at hl 0 rfl) ?_
            refine x_getR hx hcb hts hown hK xc10 hR (hw.lo (by decide)) (hw.s0 rfl) 10 (by decide) rfl q_1176 dX10_shares_92 ?_
            refine lv_iload hx hcb dX10_shares_95 (lv_at hl 5 rfl) ?_
            refine x_lald hx hcb hK hR (hw.lo (by decide)) (hw.s0 rfl) (k := i_) (by omega) (by decide) dX10_shares_97 ?_
            refine x_topl (show ((u2 (u2 (zLL z (pre i_ (gQ a (z.2 7) (xls (z.2 7) n)) (z.2 8), pre i_ (rQ a (z.2 7) (xls (z.2 7) n)) (z.2 9))) 8 i_ ((gQ a (z.2 7) (xls (z.2 7) n)) i_)) 9 i_ ((rQ a (z.2 7) (xls (z.2 7) n)) i_)).2 8 i_) = ((gQ a (z.2 7) (xls (z.2 7) n)) i_) from by rw [u2_rd, if_neg (by omega), u2_rd, if_pos ⟨rfl, rfl⟩]) ?_
            refine lv_lsub hx hcb dX10_shares_98 ?_
            refine lv_lstore (lv' := [(6, .long ((lopn a (gQ a (z.2 7) (xls (z.2 7) n)) i_) - ((gQ a (z.2 7) (xls (z.2 7) n)) i_))), (0, .ref (w.2.2 0)), (1, .int (nI n)), (2, .long a), (4, .long (xls (z.2 7) n)), (8, .int (nI i_))]) hx hcb dX10_shares_99 hl (by decide) rfl (fun ls hl => ?_)
            refine lv_iinc (v := (nI (i_ + 1))) (lv' := [(8, .int (nI (i_ + 1))), (6, .long ((lopn a (gQ a (z.2 7) (xls (z.2 7) n)) i_) - ((gQ a (z.2 7) (xls (z.2 7) n)) i_))), (0, .ref (w.2.2 0)), (1, .int (nI n)), (2, .long a), (4, .long (xls (z.2 7) n))]) hx hcb dX10_shares_101 hl (k := 5) rfl (x_iinc1 _) (by decide) rfl (fun ls hl => ?_)
            refine lv_goto (tgt := 45) hx hcb dX10_shares_104 (by decide) ?_
            rw [show (u2 (u2 (zLL z (pre i_ (gQ a (z.2 7) (xls (z.2 7) n)) (z.2 8), pre i_ (rQ a (z.2 7) (xls (z.2 7) n)) (z.2 9))) 8 i_ ((gQ a (z.2 7) (xls (z.2 7) n)) i_)) 9 i_ ((rQ a (z.2 7) (xls (z.2 7) n)) i_)) = (zLL z (pre (i_ + 1) (gQ a (z.2 7) (xls (z.2 7) n)) (z.2 8), pre (i_ + 1) (rQ a (z.2 7) (xls (z.2 7) n)) (z.2 9))) from by rw [zLL_u]; exact congrArg (zLL z) (Prod.ext (pre_s ..) (pre_s ..))] at hR
            exact ih_45 (i_ + 1) (by omega) (by omega) _ _ _ hR hS (lv_sub hl [2, 3, 4, 5, 1, 0] rfl)
      · skip
        have hT : xls (z.2 7) n = 0 := lc_eq c_2
        refine lv_iconst (v := (nI 0)) hx hcb dX10_shares_37 (by decide) ?_
        exact hret (nI 0) z _ _ _ _ dX10_shares_38 rfl hR hS (by rw [if_pos hT]; rfl)
    · skip
      have c_1 : ¬ n ≤ i_ := fun h_ => c_1 ((nI_leI (by omega) (by omega)).mpr h_)
      refine lv_lload hx hcb dX10_shares_12 (lv_at hl 3 rfl) ?_
      refine lv_aload_n hx hcb dX10_shares_14 rfl (lv_at hl 0 rfl) ?_
      refine x_getR hx hcb hts hown hK xc10 hR (hw.lo (by decide)) (hw.s0 rfl) 9 (by decide) rfl q_1175 dX10_shares_15 ?_
      refine lv_iload hx hcb dX10_shares_18 (lv_at hl 4 rfl) ?_
      refine x_lald hx hcb hK hR (hw.lo (by decide)) (hw.s0 rfl) (k := i_) (by omega) (by decide) dX10_shares_20 ?_
      refine lv_ladd hx hcb dX10_shares_21 ?_
      refine lv_lstore (lv' := [(4, .long ((xls (z.2 7) i_) + (z.2 7 i_))), (0, .ref (w.2.2 0)), (1, .int (nI n)), (2, .long a), (6, .int (nI i_))]) hx hcb dX10_shares_22 hl (by decide) rfl (fun ls hl => ?_)
      refine lv_iinc (v := (nI (i_ + 1))) (lv' := [(6, .int (nI (i_ + 1))), (4, .long ((xls (z.2 7) i_) + (z.2 7 i_))), (0, .ref (w.2.2 0)), (1, .int (nI n)), (2, .long a)]) hx hcb dX10_shares_24 hl (k := 4) rfl (x_iinc1 _) (by decide) rfl (fun ls hl => ?_)
      refine lv_goto (tgt := 6) hx hcb dX10_shares_27 (by decide) ?_
      exact ih_6 (i_ + 1) (by omega) (by omega) _ _ _ hR hS (lv_sub hl [2, 3, 4, 1, 0] rfl)
