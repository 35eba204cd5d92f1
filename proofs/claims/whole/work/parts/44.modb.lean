/-! THE REFERENCE: certificates laid -/
def lcM (z : xSt) (y : Nat) : Nat → List (Nat × Nat)
  | 0 => []
  | m + 1 => if z.1 4 (5 + m) = 0 ∧ lfQ z m y ≠ 0 then lcM z y m ++ [(y, m)] else lcM z y m
theorem lcM_y {z : xSt} {y m : Nat} (h : z.1 4 (5 + m) = 0 ∧ lfQ z m y ≠ 0) : lcM z y (m + 1) = lcM z y m ++ [(y, m)] := if_pos h
theorem lcM_n {z : xSt} {y m : Nat} (h : ¬ (z.1 4 (5 + m) = 0 ∧ lfQ z m y ≠ 0)) : lcM z y (m + 1) = lcM z y m := if_neg h
def lcs (z : xSt) (mc : Nat) : Nat → List (Nat × Nat)
  | 0 => []
  | y + 1 => lcs z mc y ++ lcM z y mc
theorem lcM_len (z : xSt) (y : Nat) : ∀ m, (lcM z y m).length ≤ m
  | 0 => Nat.le_refl 0
  | m + 1 => by
    have h := lcM_len z y m
    unfold lcM
    split
    · rw [List.length_append]; show _ + 1 ≤ _; omega
    · omega
theorem lcs_len (z : xSt) {mc : Nat} (hm : mc ≤ 8) : ∀ y, (lcs z mc y).length ≤ 8 * y
  | 0 => Nat.le_refl 0
  | y + 1 => by
    have h := lcs_len z hm y
    have h2 := lcM_len z y mc
    unfold lcs
    rw [List.length_append]; omega
def lSum (z : xSt) (L : List (Nat × Nat)) : Int32 := L.foldl (fun s q => s + lfQ z q.2 q.1) 0
theorem lSum_app (z : xSt) (L : List (Nat × Nat)) (y m : Nat) : lSum z L + lfQ z m y = lSum z (L ++ [(y, m)]) := by unfold lSum; rw [List.foldl_append]; rfl
def lS (z : xSt) (L : List (Nat × Nat)) : xSt := ur (ur (ur (u1 z 0 17 (nI L.length)) 14 (pre L.length (cOw L) (z.1 14))) 15 (pre L.length (cYr L) (z.1 15))) 13 (pre L.length (fun _ => 0) (z.1 13))
theorem lS_0 (z : xSt) : u1 z 0 17 0 = lS z [] := by
  unfold lS
  refine xz_ext (fun o => ?_) rfl
  show _ = (ur (ur (ur (u1 z 0 17 (nI 0)) 14 (pre 0 _ _)) 15 (pre 0 _ _)) 13 (pre 0 _ _)).1 o
  rw [pre_0, pre_0, pre_0, ur_1, ur_1, ur_1]
  by_cases h1 : o = 13
  · rw [if_pos h1, h1]; rfl
  by_cases h3 : o = 15
  · rw [if_neg h1, if_pos h3, h3]; rfl
  by_cases h4 : o = 14
  · rw [if_neg h1, if_neg h3, if_pos h4, h4]; rfl
  rw [if_neg h1, if_neg h3, if_neg h4]; rfl
theorem lS_s {z : xSt} {y m : Nat} {L : List (Nat × Nat)} : u1 (u1 (u1 (u1 (lS z L) 14 L.length (nI m)) 15 L.length (nI y)) 13 L.length 0) 0 17 (nI (L.length + 1)) = lS z (L ++ [(y, m)]) := by
  refine xz_ext (fun o => ?_) rfl
  have p1 : va_up (pre L.length (cOw L) (z.1 14)) L.length (nI m) = pre (L ++ [(y, m)]).length (cOw (L ++ [(y, m)])) (z.1 14) := pre_app (F := cOw) (by unfold cOw; rw [getD_last]) (fun i h => by unfold cOw; rw [getD_app h])
  have p2 : va_up (pre L.length (cYr L) (z.1 15)) L.length (nI y) = pre (L ++ [(y, m)]).length (cYr (L ++ [(y, m)])) (z.1 15) := pre_app (F := cYr) (by unfold cYr; rw [getD_last]) (fun i h => by unfold cYr; rw [getD_app h])
  have p4 : va_up (pre L.length (fun _ => (0 : Int32)) (z.1 13)) L.length 0 = pre (L ++ [(y, m)]).length (fun _ => (0 : Int32)) (z.1 13) := pre_app (F := fun _ _ => (0 : Int32)) rfl (fun _ _ => rfl)
  have e : (L ++ [(y, m)]).length = L.length + 1 := by simp
  unfold lS
  rw [← p1, ← p2, ← p4, e]
  by_cases h1 : o = 13
  · subst h1; rw [u1_ne _ (by omega), u1_at, u1_ne _ (by omega), u1_ne _ (by omega), ur_at, ur_at]
  by_cases h3 : o = 15
  · subst h3; rw [u1_ne _ (by omega), u1_ne _ (by omega), u1_at, u1_ne _ (by omega), ur_ne _ _ (by omega), ur_at, ur_ne _ _ (by omega), ur_at]
  by_cases h4 : o = 14
  · subst h4; rw [u1_ne _ (by omega), u1_ne _ (by omega), u1_ne _ (by omega), u1_at, ur_ne _ _ (by omega), ur_ne _ _ (by omega), ur_at, ur_ne _ _ (by omega), ur_ne _ _ (by omega), ur_at]
  rw [ur_ne _ _ h1, ur_ne _ _ h3, ur_ne _ _ h4]
  by_cases h5 : o = 0
  · subst h5
    rw [u1_at, u1_ne _ (by omega), u1_ne _ (by omega), u1_ne _ (by omega), ur_ne _ _ (by omega), ur_ne _ _ (by omega), ur_ne _ _ (by omega), u1_at, u1_at, bx_uu]
  · rw [u1_ne _ h5, u1_ne _ h1, u1_ne _ h3, u1_ne _ h4, ur_ne _ _ h1, ur_ne _ _ h3, ur_ne _ _ h4, u1_ne _ h5, u1_ne _ h5]
/-- how many years are old enough -/
def yst (z : xSt) : Nat → Nat → Nat
  | 0, i => i
  | k + 1, i => if z.1 4 494 - nI i < z.1 4 3 then i else yst z k (i + 1)
theorem yst_s {z : xSt} {n k i : Nat} (h : n = k + 1) : yst z n i = if z.1 4 494 - nI i < z.1 4 3 then i else yst z k (i + 1) := by rw [h]; rfl
theorem yst_le (z : xSt) : ∀ k i, yst z k i ≤ i + k
  | 0, i => Nat.le_refl i
  | k + 1, i => by
    unfold yst
    split
    · omega
    · have := yst_le z k (i + 1); omega
theorem gtT {t : Int32} {T i : Nat} (h : t = nI T - 1) (hT : T ≤ 24) (hi : i ≤ 24) : t < nI i ↔ T ≤ i := by
  subst h
  have : ∀ a b : Fin 25, nI a.1 - 1 < nI b.1 ↔ a.1 ≤ b.1 := by decide
  exact this ⟨T, by omega⟩ ⟨i, by omega⟩
/-- a list of certificates lies in the rows -/
def laid (z : xSt) (L : List (Nat × Nat)) : Prop := z.1 0 17 = nI L.length ∧ L.length ≤ 192 ∧ ∀ k, k < L.length → z.1 14 k = nI (L.getD k (0, 0)).2 ∧ z.1 15 k = nI (L.getD k (0, 0)).1 ∧ (L.getD k (0, 0)).2 < 8 ∧ (L.getD k (0, 0)).1 < 24
def amt (z : xSt) (L : List (Nat × Nat)) (k : Nat) : Int32 := lfQ z (L.getD k (0, 0)).2 (L.getD k (0, 0)).1
def w7g (z : xSt) (g : Nat → Int64) (n : Nat) : xSt := (z.1, va_up z.2 7 (pre n g (z.2 7)))
theorem w7g_0 (z : xSt) (g : Nat → Int64) : w7g z g 0 = z := by unfold w7g; rw [pre_0, va_up_id]
theorem w7g_s (z : xSt) (g : Nat → Int64) (i : Nat) : u2 (w7g z g i) 7 i (g i) = w7g z g (i + 1) := by
  refine Prod.ext rfl (funext fun o => ?_)
  show va_up (va_up z.2 7 _) 7 (va_up ((va_up z.2 7 (pre i g (z.2 7))) 7) i _) o = va_up z.2 7 (pre (i + 1) g (z.2 7)) o
  by_cases h : o = 7
  · subst h
    rw [va_up_self, va_up_self, va_up_self]
    exact pre_s i g (z.2 7)
  · rw [va_up_ne _ _ h, va_up_ne _ _ h, va_up_ne _ _ h]
def shG (z : xSt) (n : Nat) (a : Int64) : xSt := zLL z (gvQ n (jQ a (z.2 7) n) (pre n (gQ a (z.2 7) (xls (z.2 7) n)) (z.2 8), pre n (rQ a (z.2 7) (xls (z.2 7) n)) (z.2 9)))
def saW (z : xSt) (L : List (Nat × Nat)) (f t : Nat) : xSt := w7g z (fun i => (amt z L (f + i)).toInt64) (t - f)
def shA (z : xSt) (L : List (Nat × Nat)) (f t : Nat) (bu : Int32) : Prop := shOk ((saW z L f t).2 7) (t - f) bu.toInt64
def saQ (z : xSt) (L : List (Nat × Nat)) (f t : Nat) (bu : Int32) : xSt :=
  if xls ((saW z L f t).2 7) (t - f) = 0 then saW z L f t else ur (shG (saW z L f t) (t - f) bu.toInt64) 13 (rng f t (fun i => ((shG (saW z L f t) (t - f) bu.toInt64).2 8 i).toInt32) ((shG (saW z L f t) (t - f) bu.toInt64).1 13))
def rm_X10_laysCertificates : Room := { frames := 1, cells := 0, slots := 0, locals := 22 }
set_option maxRecDepth 100000 in
set_option maxHeartbeats 4000000 in
theorem c_X10_laysCertificates (l : Launch) (G : xGl) (w : xWd) (hw : isM w) (z : xSt) (sz : Nat) (t : Int32) (T : Nat) (hmq : z.1 2 12 = nI (mQ z 12)) (hm8_ : mQ z 12 ≤ 8) (ht : t = nI T - 1) (hT : T ≤ 24) : xMi l yX10_laysCertificates cX10_laysCertificates 5 (some FieldType.int) rm_X10_laysCertificates G w z sz [.ref (w.2.2 0), .int t] (fun r z1 => r = lSum z (lcs z (mQ z 12) (yst z T 0)) ∧ z1 = lS z (lcs z (mQ z 12) (yst z T 0))) := by
  refine x_mi (by decide) (Nat.le_of_ble_eq_true rfl) ?_
  intro p e s mt args below meth c ls Q hsz X hR hS hl hret
  obtain ⟨hx, hcb, hml, hown, hts, hlk, hK, hZ⟩ := X
  have hl : lv_has ls 5 [(0, .ref (w.2.2 0)), (1, .int t)] := hl
  refine lv_aload_n hx hcb dX10_laysCertificates_0 rfl (lv_at hl 0 rfl) ?_
  refine lv_iconst (v := (nI 0)) hx hcb dX10_laysCertificates_1 (by decide) ?_
  refine x_putI hx hcb hts hown hK xc10 hR hS (hw.lo (by decide)) (hw.s0 rfl) 17 (by decide) rfl q_1183 rfl (v := 0) rfl rfl dX10_laysCertificates_2 (fun H locs hR hS => ?_)
  refine lv_iconst (v := (nI 0)) hx hcb dX10_laysCertificates_5 (by decide) ?_
  refine lv_istore_n (lv' := [(2, .int (nI 0)), (0, .ref (w.2.2 0)), (1, .int t)]) hx hcb dX10_laysCertificates_6 rfl hl (by decide) rfl (fun ls hl => ?_)
  refine lv_iconst (v := (nI 0)) hx hcb dX10_laysCertificates_7 (by decide) ?_
  refine lv_istore_n (lv' := [(3, .int (nI 0)), (2, .int (nI 0)), (0, .ref (w.2.2 0)), (1, .int t)]) hx hcb dX10_laysCertificates_8 rfl hl (by decide) rfl (fun ls hl => ?_)
  rw [lS_0 z] at hR
  rw [show (nI 0) = (lSum z (lcs z (mQ z 12) 0)) from rfl] at hl
  suffices LP_9 : ∀ (nn : Nat) (i_ : Nat) (_ : T - i_ < nn) (hi_ : i_ ≤ T) (hf_ : yst z T 0 = yst z (T - i_) i_) (H : Heap) (locs : List Loc) (ls : Array Slot), Rh G w (lS z (lcs z (mQ z 12) i_)) H → va_S (xA w s.heap.size) s.heap H locs → lv_has ls 5 [(0, .ref (w.2.2 0)), (1, .int t), (2, .int (lSum z (lcs z (mQ z 12) i_))), (3, .int (nI i_))] → W p l e rm_X10_laysCertificates s mt args below meth c H locs 0 0 Q (F0 mt 9 ls []) from LP_9 ((_) + 1) 0 (Nat.lt_succ_self _) (Nat.zero_le _) rfl _ _ _ hR hS (lv_sub hl [2, 3, 1, 0] rfl)
  intro nn
  induction nn with
  | zero => intro i_ hm_ ; exact absurd hm_ (Nat.not_lt_zero _)
  | succ nn ih_9 =>
    intro i_ hm_9 hi_ hf_ H locs ls hR hS hl
    refine lv_iload_n hx hcb dX10_laysCertificates_9 rfl (lv_at hl 3 rfl) ?_
    refine lv_iload_n hx hcb dX10_laysCertificates_10 rfl (lv_at hl 1 rfl) ?_
    refine lv_icmp_gt (tgt := 136) hx hcb dX10_laysCertificates_11 (by decide) (fun c_1 => ?_) (fun c_1 => ?_)
    · skip
      have hTi_ : T ≤ i_ := (gtT ht (by omega) (by omega)).mp c_1
      have he_ : yst z T 0 = i_ := by rw [hf_, show T - i_ = 0 by omega]; rfl
      refine lv_iload_n hx hcb dX10_laysCertificates_136 rfl (lv_at hl 2 rfl) ?_
      exact hret (lSum z (lcs z (mQ z 12) i_)) (lS z (lcs z (mQ z 12) i_)) _ _ _ _ dX10_laysCertificates_137 rfl hR hS (⟨by rw [he_], by rw [he_]⟩)
    · skip
      have hTi_ : i_ < T := Nat.not_le.mp (fun q_ => c_1 ((gtT ht (by omega) (by omega)).mpr q_))
      refine lv_aload_n hx hcb dX10_laysCertificates_14 rfl (lv_at hl 0 rfl) ?_
      refine x_getR hx hcb hts hown hK xc10 hR (hw.lo (by decide)) (hw.s0 rfl) 5 (by decide) rfl q_1171 dX10_laysCertificates_15 ?_
      refine lv_sipush (v := (nI 494)) hx hcb dX10_laysCertificates_18 (by decide) ?_
      refine x_iald hx hcb hK hR (hw.lo (by decide)) (hw.s0 rfl) (k := 494) (by omega) (by decide) dX10_laysCertificates_21 ?_
      refine x_top (show ((lS z (lcs z (mQ z 12) i_)).1 4 494) = (z.1 4 494) from rfl) ?_
      refine lv_iload_n hx hcb dX10_laysCertificates_22 rfl (lv_at hl 3 rfl) ?_
      refine lv_isub hx hcb dX10_laysCertificates_23 ?_
      refine lv_aload_n hx hcb dX10_laysCertificates_24 rfl (lv_at hl 0 rfl) ?_
      refine x_getR hx hcb hts hown hK xc10 hR (hw.lo (by decide)) (hw.s0 rfl) 5 (by decide) rfl q_1171 dX10_laysCertificates_25 ?_
      refine lv_iconst (v := (nI 3)) hx hcb dX10_laysCertificates_28 (by decide) ?_
      refine x_iald hx hcb hK hR (hw.lo (by decide)) (hw.s0 rfl) (k := 3) (by omega) (by decide) dX10_laysCertificates_29 ?_
      refine x_top (show ((lS z (lcs z (mQ z 12) i_)).1 4 3) = (z.1 4 3) from rfl) ?_
      refine lv_icmp_lt (tgt := 136) hx hcb dX10_laysCertificates_30 (by decide) (fun c_2 => ?_) (fun c_2 => ?_)
      · skip
        have he_ : yst z T 0 = i_ := by rw [hf_, yst_s (k := T - (i_ + 1)) (by omega), if_pos c_2]
        refine lv_iload_n hx hcb dX10_laysCertificates_136 rfl (lv_at hl 2 rfl) ?_
        exact hret (lSum z (lcs z (mQ z 12) i_)) (lS z (lcs z (mQ z 12) i_)) _ _ _ _ dX10_laysCertificates_137 rfl hR hS (⟨by rw [he_], by rw [he_]⟩)
      · skip
        have hk_ := c_2
        refine lv_iconst (v := (nI 0)) hx hcb dX10_laysCertificates_33 (by decide) ?_
        refine lv_istore (lv' := [(4, .int (nI 0)), (0, .ref (w.2.2 0)), (1, .int t), (2, .int (lSum z (lcs z (mQ z 12) i_))), (3, .int (nI i_))]) hx hcb dX10_laysCertificates_34 hl (by decide) rfl (fun ls hl => ?_)
        rw [show (lcs z (mQ z 12) i_) = (lcs z (mQ z 12) i_) ++ lcM z i_ 0 from (List.append_nil _).symm] at hR
        rw [show (lSum z (lcs z (mQ z 12) i_)) = (lSum z ((lcs z (mQ z 12) i_) ++ lcM z i_ 0)) from congrArg (lSum z) (List.append_nil _).symm] at hl
        suffices LP_36 : ∀ (nn : Nat) (j_ : Nat) (_ : mQ z 12 - j_ < nn) (hj_ : j_ ≤ mQ z 12) (H : Heap) (locs : List Loc) (ls : Array Slot), Rh G w (lS z (lcs z (mQ z 12) i_ ++ lcM z i_ j_)) H → va_S (xA w s.heap.size) s.heap H locs → lv_has ls 5 [(0, .ref (w.2.2 0)), (1, .int t), (2, .int (lSum z (lcs z (mQ z 12) i_ ++ lcM z i_ j_))), (3, .int (nI i_)), (4, .int (nI j_))] → W p l e rm_X10_laysCertificates s mt args below meth c H locs 0 0 Q (F0 mt 36 ls []) from LP_36 ((_) + 1) 0 (Nat.lt_succ_self _) (Nat.zero_le _) _ _ _ hR hS (lv_sub hl [1, 2, 3, 4, 0] rfl)
        intro nn
        induction nn with
        | zero => intro j_ hm_ ; exact absurd hm_ (Nat.not_lt_zero _)
        | succ nn ih_36 =>
          intro j_ hm_36 hj_ H locs ls hR hS hl
          refine lv_iload hx hcb dX10_laysCertificates_36 (lv_at hl 4 rfl) ?_
          refine lv_aload_n hx hcb dX10_laysCertificates_38 rfl (lv_at hl 0 rfl) ?_
          refine x_getR hx hcb hts hown hK xc10 hR (hw.lo (by decide)) (hw.s0 rfl) 3 (by decide) rfl q_1169 dX10_laysCertificates_39 ?_
          refine lv_bipush (v := (nI 12)) hx hcb dX10_laysCertificates_42 (by decide) ?_
          refine x_iald hx hcb hK hR (hw.lo (by decide)) (hw.s0 rfl) (k := 12) (by omega) (by decide) dX10_laysCertificates_44 ?_
          refine x_top (show ((lS z (lcs z (mQ z 12) i_ ++ lcM z i_ j_)).1 2 12) = (nI (mQ z 12)) from hmq) ?_
          refine lv_icmp_ge (tgt := 130) hx hcb dX10_laysCertificates_45 (by decide) (fun c_3 => ?_) (fun c_3 => ?_)
          · skip
            have c_3 : (mQ z 12) ≤ j_ := (nI_leI (by omega) (by omega)).mp c_3
            obtain rfl : mQ z 12 = j_ := by omega
            refine lv_iinc (v := (nI (i_ + 1))) (lv' := [(3, .int (nI (i_ + 1))), (0, .ref (w.2.2 0)), (1, .int t), (2, .int (lSum z (lcs z (mQ z 12) i_ ++ lcM z i_ (mQ z 12)))), (4, .int (nI (mQ z 12)))]) hx hcb dX10_laysCertificates_130 hl (k := 3) rfl (x_iinc1 _) (by decide) rfl (fun ls hl => ?_)
            refine lv_goto (tgt := 9) hx hcb dX10_laysCertificates_133 (by decide) ?_
            rw [show (lSum z (lcs z (mQ z 12) i_ ++ lcM z i_ (mQ z 12))) = (lSum z (lcs z (mQ z 12) (i_ + 1))) from rfl] at hl
            rw [show (lS z (lcs z (mQ z 12) i_ ++ lcM z i_ (mQ z 12))) = (lS z (lcs z (mQ z 12) (i_ + 1))) from rfl] at hR
            exact ih_9 (i_ + 1) (by omega) (by omega) (by rw [hf_, yst_s (k := T - (i_ + 1)) (by omega), if_neg hk_]) _ _ _ hR hS (lv_sub hl [1, 2, 3, 0] rfl)
          · skip
            have c_3 : ¬ (mQ z 12) ≤ j_ := fun h_ => c_3 ((nI_leI (by omega) (by omega)).mpr h_)
            refine lv_aload_n hx hcb dX10_laysCertificates_48 rfl (lv_at hl 0 rfl) ?_
            refine x_getR hx hcb hts hown hK xc10 hR (hw.lo (by decide)) (hw.s0 rfl) 5 (by decide) rfl q_1171 dX10_laysCertificates_49 ?_
            refine lv_iconst (v := (nI 5)) hx hcb dX10_laysCertificates_52 (by decide) ?_
            refine lv_iload hx hcb dX10_laysCertificates_53 (lv_at hl 4 rfl) ?_
            refine x_iaddN hx hcb dX10_laysCertificates_55 ?_
            refine x_iald hx hcb hK hR (hw.lo (by decide)) (hw.s0 rfl) (k := (5 + j_)) (by omega) (by decide) dX10_laysCertificates_56 ?_
            refine x_top (show ((lS z (lcs z (mQ z 12) i_ ++ lcM z i_ j_)).1 4 (5 + j_)) = (z.1 4 (5 + j_)) from rfl) ?_
            refine lv_if_ne (tgt := 124) hx hcb dX10_laysCertificates_57 (by decide) (fun c_4 => ?_) (fun c_4 => ?_)
            · skip
              have hq_ : ¬ (z.1 4 (5 + j_) = 0 ∧ lfQ z j_ i_ ≠ 0) := fun q_ => c_4 q_.1
              refine lv_iinc (v := (nI (j_ + 1))) (lv' := [(4, .int (nI (j_ + 1))), (0, .ref (w.2.2 0)), (1, .int t), (2, .int (lSum z (lcs z (mQ z 12) i_ ++ lcM z i_ j_))), (3, .int (nI i_))]) hx hcb dX10_laysCertificates_124 hl (k := 4) rfl (x_iinc1 _) (by decide) rfl (fun ls hl => ?_)
              refine lv_goto (tgt := 36) hx hcb dX10_laysCertificates_127 (by decide) ?_
              rw [show (lSum z (lcs z (mQ z 12) i_ ++ lcM z i_ j_)) = (lSum z (lcs z (mQ z 12) i_ ++ lcM z i_ (j_ + 1))) from by first | (rw [lcM_n hq_]; done) | (rw [lcM_y hq_, ← List.append_assoc, lSum_app])] at hl
              rw [show (lS z (lcs z (mQ z 12) i_ ++ lcM z i_ j_)) = (lS z (lcs z (mQ z 12) i_ ++ lcM z i_ (j_ + 1))) from by first | (rw [lcM_n hq_]; done) | (rw [lcM_y hq_, ← List.append_assoc]; exact lS_s)] at hR
              exact ih_36 (j_ + 1) (by omega) (by omega) _ _ _ hR hS (lv_sub hl [1, 2, 3, 4, 0] rfl)
            · skip
              have h0_ := c_4
              refine lv_aload_n hx hcb dX10_laysCertificates_60 rfl (lv_at hl 0 rfl) ?_
              refine lv_iload hx hcb dX10_laysCertificates_61 (lv_at hl 4 rfl) ?_
              refine lv_iload_n hx hcb dX10_laysCertificates_63 rfl (lv_at hl 3 rfl) ?_
              refine x_ci0 rfl rfl (x_runV hx hcb hml hown hts (c_X10_left l G w hw (lS z (lcs z (mQ z 12) i_ ++ lcM z i_ j_)) _ j_ i_ (by omega) (by omega)) mv_X10_left q_1390 hK hZ hR hS (hw.lo (by decide)) xc10 (hw.s0 rfl) rfl hl.1 rfl (Nat.le_of_ble_eq_true rfl) dX10_laysCertificates_64 ⟨by decide, by decide⟩ ⟨by decide, by decide⟩) hS (fun r_5 z_6 H locs hp_7 hR hS => ?_)
              rw [hp_7.2] at hR; rw [hp_7.1]
              refine x_top (show (lfQ (lS z (lcs z (mQ z 12) i_ ++ lcM z i_ j_)) j_ i_) = (lfQ z j_ i_) from rfl) ?_
              refine lv_if_ne (tgt := 73) hx hcb dX10_laysCertificates_67 (by decide) (fun c_8 => ?_) (fun c_8 => ?_)
              · skip
                have hq_ : (z.1 4 (5 + j_) = 0 ∧ lfQ z j_ i_ ≠ 0) := ⟨h0_, c_8⟩
                refine lv_aload_n hx hcb dX10_laysCertificates_73 rfl (lv_at hl 0 rfl) ?_
                refine x_getR hx hcb hts hown hK xc10 hR (hw.lo (by decide)) (hw.s0 rfl) 18 (by decide) rfl q_1184 dX10_laysCertificates_74 ?_
                refine lv_aload_n hx hcb dX10_laysCertificates_77 rfl (lv_at hl 0 rfl) ?_
                refine x_getI hx hcb hts hown hK xc10 hR (hw.lo (by decide)) (hw.s0 rfl) 17 (by decide) rfl q_1183 dX10_laysCertificates_78 ?_
                refine x_top (show ((lS z (lcs z (mQ z 12) i_ ++ lcM z i_ j_)).1 0 17) = (nI ((lcs z (mQ z 12) i_ ++ lcM z i_ j_).length)) from rfl) ?_
                refine lv_iload hx hcb dX10_laysCertificates_81 (lv_at hl 4 rfl) ?_
                refine x_iast hx hcb hK hR hS (hw.lo (by decide)) (hw.s0 rfl) (k := ((lcs z (mQ z 12) i_ ++ lcM z i_ j_).length)) (v := (nI j_)) (by have := lcs_len z hm8_ i_; have := lcM_len z i_ j_; rw [List.length_append]; omega) (by decide) dX10_laysCertificates_83 (fun H locs hR hS => ?_)
                refine lv_aload_n hx hcb dX10_laysCertificates_84 rfl (lv_at hl 0 rfl) ?_
                refine x_getR hx hcb hts hown hK xc10 hR (hw.lo (by decide)) (hw.s0 rfl) 19 (by decide) rfl q_1185 dX10_laysCertificates_85 ?_
                refine lv_aload_n hx hcb dX10_laysCertificates_88 rfl (lv_at hl 0 rfl) ?_
                refine x_getI hx hcb hts hown hK xc10 hR (hw.lo (by decide)) (hw.s0 rfl) 17 (by decide) rfl q_1183 dX10_laysCertificates_89 ?_
                refine x_top (show ((u1 (lS z (lcs z (mQ z 12) i_ ++ lcM z i_ j_)) 14 ((lcs z (mQ z 12) i_ ++ lcM z i_ j_).length) (nI j_)).1 0 17) = (nI ((lcs z (mQ z 12) i_ ++ lcM z i_ j_).length)) from rfl) ?_
                refine lv_iload_n hx hcb dX10_laysCertificates_92 rfl (lv_at hl 3 rfl) ?_
                refine x_iast hx hcb hK hR hS (hw.lo (by decide)) (hw.s0 rfl) (k := ((lcs z (mQ z 12) i_ ++ lcM z i_ j_).length)) (v := (nI i_)) (by have := lcs_len z hm8_ i_; have := lcM_len z i_ j_; rw [List.length_append]; omega) (by decide) dX10_laysCertificates_93 (fun H locs hR hS => ?_)
                refine lv_aload_n hx hcb dX10_laysCertificates_94 rfl (lv_at hl 0 rfl) ?_
                refine x_getR hx hcb hts hown hK xc10 hR (hw.lo (by decide)) (hw.s0 rfl) 16 (by decide) rfl q_1182 dX10_laysCertificates_95 ?_
                refine lv_aload_n hx hcb dX10_laysCertificates_98 rfl (lv_at hl 0 rfl) ?_
                refine x_getI hx hcb hts hown hK xc10 hR (hw.lo (by decide)) (hw.s0 rfl) 17 (by decide) rfl q_1183 dX10_laysCertificates_99 ?_
                refine x_top (show ((u1 (u1 (lS z (lcs z (mQ z 12) i_ ++ lcM z i_ j_)) 14 ((lcs z (mQ z 12) i_ ++ lcM z i_ j_).length) (nI j_)) 15 ((lcs z (mQ z 12) i_ ++ lcM z i_ j_).length) (nI i_)).1 0 17) = (nI ((lcs z (mQ z 12) i_ ++ lcM z i_ j_).length)) from rfl) ?_
                refine lv_iconst (v := (nI 0)) hx hcb dX10_laysCertificates_102 (by decide) ?_
                refine x_iast hx hcb hK hR hS (hw.lo (by decide)) (hw.s0 rfl) (k := ((lcs z (mQ z 12) i_ ++ lcM z i_ j_).length)) (v := 0) (by have := lcs_len z hm8_ i_; have := lcM_len z i_ j_; rw [List.length_append]; omega) (by decide) dX10_laysCertificates_103 (fun H locs hR hS => ?_)
                refine lv_aload_n hx hcb dX10_laysCertificates_104 rfl (lv_at hl 0 rfl) ?_
                refine lv_dup hx hcb dX10_laysCertificates_105 rfl ?_
                refine x_getI hx hcb hts hown hK xc10 hR (hw.lo (by decide)) (hw.s0 rfl) 17 (by decide) rfl q_1183 dX10_laysCertificates_106 ?_
                refine x_top (show ((u1 (u1 (u1 (lS z (lcs z (mQ z 12) i_ ++ lcM z i_ j_)) 14 ((lcs z (mQ z 12) i_ ++ lcM z i_ j_).length) (nI j_)) 15 ((lcs z (mQ z 12) i_ ++ lcM z i_ j_).length) (nI i_)) 13 ((lcs z (mQ z 12) i_ ++ lcM z i_ j_).length) 0).1 0 17) = (nI ((lcs z (mQ z 12) i_ ++ lcM z i_ j_).length)) from rfl) ?_
                refine lv_iconst (v := (nI 1)) hx hcb dX10_laysCertificates_109 (by decide) ?_
                refine x_iaddN hx hcb dX10_laysCertificates_110 ?_
                refine x_putI hx hcb hts hown hK xc10 hR hS (hw.lo (by decide)) (hw.s0 rfl) 17 (by decide) rfl q_1183 rfl (v := (nI (((lcs z (mQ z 12) i_ ++ lcM z i_ j_).length) + 1))) rfl rfl dX10_laysCertificates_111 (fun H locs hR hS => ?_)
                refine lv_iload_n hx hcb dX10_laysCertificates_114 rfl (lv_at hl 2 rfl) ?_
                refine lv_aload_n hx hcb dX10_laysCertificates_115 rfl (lv_at hl 0 rfl) ?_
                refine lv_iload hx hcb dX10_laysCertificates_116 (lv_at hl 4 rfl) ?_
                refine lv_iload_n hx hcb dX10_laysCertificates_118 rfl (lv_at hl 3 rfl) ?_
                refine x_ci0 rfl rfl (x_runV hx hcb hml hown hts (c_X10_left l G w hw (u1 (u1 (u1 (u1 (lS z (lcs z (mQ z 12) i_ ++ lcM z i_ j_)) 14 ((lcs z (mQ z 12) i_ ++ lcM z i_ j_).length) (nI j_)) 15 ((lcs z (mQ z 12) i_ ++ lcM z i_ j_).length) (nI i_)) 13 ((lcs z (mQ z 12) i_ ++ lcM z i_ j_).length) 0) 0 17 (nI (((lcs z (mQ z 12) i_ ++ lcM z i_ j_).length) + 1))) _ j_ i_ (by omega) (by omega)) mv_X10_left q_1390 hK hZ hR hS (hw.lo (by decide)) xc10 (hw.s0 rfl) rfl hl.1 rfl (Nat.le_of_ble_eq_true rfl) dX10_laysCertificates_119 ⟨by decide, by decide⟩ ⟨by decide, by decide⟩) hS (fun r_9 z_10 H locs hp_11 hR hS => ?_)
                rw [hp_11.2] at hR; rw [hp_11.1]
                refine x_top (show (lfQ (u1 (u1 (u1 (u1 (lS z (lcs z (mQ z 12) i_ ++ lcM z i_ j_)) 14 ((lcs z (mQ z 12) i_ ++ lcM z i_ j_).length) (nI j_)) 15 ((lcs z (mQ z 12) i_ ++ lcM z i_ j_).length) (nI i_)) 13 ((lcs z (mQ z 12) i_ ++ lcM z i_ j_).length) 0) 0 17 (nI (((lcs z (mQ z 12) i_ ++ lcM z i_ j_).length) + 1))) j_ i_) = (lfQ z j_ i_) from rfl) ?_
                refine lv_iadd hx hcb dX10_laysCertificates_122 ?_
                refine lv_istore_n (lv' := [(2, .int ((lSum z (lcs z (mQ z 12) i_ ++ lcM z i_ j_)) + (lfQ z j_ i_))), (0, .ref (w.2.2 0)), (1, .int t), (3, .int (nI i_)), (4, .int (nI j_))]) hx hcb dX10_laysCertificates_123 rfl hl (by decide) rfl (fun ls hl => ?_)
                refine lv_iinc (v := (nI (j_ + 1))) (lv' := [(4, .int (nI (j_ + 1))), (2, .int ((lSum z (lcs z (mQ z 12) i_ ++ lcM z i_ j_)) + (lfQ z j_ i_))), (0, .ref (w.2.2 0)), (1, .int t), (3, .int (nI i_))]) hx hcb dX10_laysCertificates_124 hl (k := 4) rfl (x_iinc1 _) (by decide) rfl (fun ls hl => ?_)
                refine lv_goto (tgt := 36) hx hcb dX10_laysCertificates_127 (by decide) ?_
                rw [show ((lSum z (lcs z (mQ z 12) i_ ++ lcM z i_ j_)) + (lfQ z j_ i_)) = (lSum z (lcs z (mQ z 12) i_ ++ lcM z i_ (j_ + 1))) from by first | (rw [lcM_n hq_]; done) | (rw [lcM_y hq_, ← List.append_assoc, lSum_app])] at hl
                rw [show (u1 (u1 (u1 (u1 (lS z (lcs z (mQ z 12) i_ ++ lcM z i_ j_)) 14 ((lcs z (mQ z 12) i_ ++ lcM z i_ j_).length) (nI j_)) 15 ((lcs z (mQ z 12) i_ ++ lcM z i_ j_).length) (nI i_)) 13 ((lcs z (mQ z 12) i_ ++ lcM z i_ j_).length) 0) 0 17 (nI (((lcs z (mQ z 12) i_ ++ lcM z i_ j_).length) + 1))) = (lS z (lcs z (mQ z 12) i_ ++ lcM z i_ (j_ + 1))) from by first | (rw [lcM_n hq_]; done) | (rw [lcM_y hq_, ← List.append_assoc]; exact lS_s)] at hR
                exact ih_36 (j_ + 1) (by omega) (by omega) _ _ _ hR hS (lv_sub hl [2, 3, 1, 4, 0] rfl)
              · skip
                have hq_ : ¬ (z.1 4 (5 + j_) = 0 ∧ lfQ z j_ i_ ≠ 0) := fun q_ => q_.2 c_8
                refine lv_goto (tgt := 124) hx hcb dX10_laysCertificates_70 (by decide) ?_
                refine lv_iinc (v := (nI (j_ + 1))) (lv' := [(4, .int (nI (j_ + 1))), (0, .ref (w.2.2 0)), (1, .int t), (2, .int (lSum z (lcs z (mQ z 12) i_ ++ lcM z i_ j_))), (3, .int (nI i_))]) hx hcb dX10_laysCertificates_124 hl (k := 4) rfl (x_iinc1 _) (by decide) rfl (fun ls hl => ?_)
                refine lv_goto (tgt := 36) hx hcb dX10_laysCertificates_127 (by decide) ?_
                rw [show (lSum z (lcs z (mQ z 12) i_ ++ lcM z i_ j_)) = (lSum z (lcs z (mQ z 12) i_ ++ lcM z i_ (j_ + 1))) from by first | (rw [lcM_n hq_]; done) | (rw [lcM_y hq_, ← List.append_assoc, lSum_app])] at hl
                rw [show (lS z (lcs z (mQ z 12) i_ ++ lcM z i_ j_)) = (lS z (lcs z (mQ z 12) i_ ++ lcM z i_ (j_ + 1))) from by first | (rw [lcM_n hq_]; done) | (rw [lcM_y hq_, ← List.append_assoc]; exact lS_s)] at hR
                exact ih_36 (j_ + 1) (by omega) (by omega) _ _ _ hR hS (lv_sub hl [1, 2, 3, 4, 0] rfl)
def rm_X10_sharesAmong : Room := { frames := 2, cells := 0, slots := 0, locals := 43 }
set_option maxRecDepth 100000 in
set_option maxHeartbeats 4000000 in
theorem c_X10_sharesAmong (l : Launch) (G : xGl) (w : xWd) (hw : isM w) (z : xSt) (sz : Nat) (f : Nat) (t : Nat) (bu : Int32) (L : List (Nat × Nat)) (hLd : laid z L) (hft : f ≤ t) (htL : t ≤ L.length) (hsh : shA z L f t bu) : xMv l yX10_sharesAmong cX10_sharesAmong 6 rm_X10_sharesAmong G w z sz [.ref (w.2.2 0), .int (nI f), .int (nI t), .int bu] (fun z1 => z1 = saQ z L f t bu) := by
  refine x_mv (by decide) (Nat.le_of_ble_eq_true rfl) ?_
  intro p e s mt args below meth c ls Q hsz X hR hS hl hret
  obtain ⟨hx, hcb, hml, hown, hts, hlk, hK, hZ⟩ := X
  have hl : lv_has ls 6 [(0, .ref (w.2.2 0)), (1, .int (nI f)), (2, .int (nI t)), (3, .int bu)] := hl
  have hLn_ := hLd.2.1
  refine lv_iload_n hx hcb dX10_sharesAmong_0 rfl (lv_at hl 1 rfl) ?_
  refine lv_istore (lv' := [(4, .int (nI f)), (0, .ref (w.2.2 0)), (1, .int (nI f)), (2, .int (nI t)), (3, .int bu)]) hx hcb dX10_sharesAmong_1 hl (by decide) rfl (fun ls hl => ?_)
  rw [show z = w7g z (fun i => (amt z L (f + i)).toInt64) (0) from (w7g_0 ..).symm] at hR
  rw [show (nI f) = (nI (f + 0)) from rfl] at hl
  suffices LP_3 : ∀ (nn : Nat) (i_ : Nat) (_ : t - (f + i_) < nn) (hi_ : f + i_ ≤ t) (H : Heap) (locs : List Loc) (ls : Array Slot), Rh G w (w7g z (fun i => (amt z L (f + i)).toInt64) (i_)) H → va_S (xA w s.heap.size) s.heap H locs → lv_has ls 6 [(0, .ref (w.2.2 0)), (1, .int (nI f)), (2, .int (nI t)), (3, .int bu), (4, .int (nI (f + i_)))] → W p l e rm_X10_sharesAmong s mt args below meth c H locs 0 0 Q (F0 mt 3 ls []) from LP_3 ((_) + 1) 0 (Nat.lt_succ_self _) (by omega) _ _ _ hR hS (lv_sub hl [1, 2, 3, 4, 0] rfl)
  intro nn
  induction nn with
  | zero => intro i_ hm_ ; exact absurd hm_ (Nat.not_lt_zero _)
  | succ nn ih_3 =>
    intro i_ hm_3 hi_ H locs ls hR hS hl
    refine lv_iload hx hcb dX10_sharesAmong_3 (lv_at hl 4 rfl) ?_
    refine lv_iload_n hx hcb dX10_sharesAmong_5 rfl (lv_at hl 2 rfl) ?_
    refine lv_icmp_ge (tgt := 31) hx hcb dX10_sharesAmong_6 (by decide) (fun c_1 => ?_) (fun c_1 => ?_)
    · skip
      have c_1 : t ≤ (f + i_) := (nI_leI (by omega) (by omega)).mp c_1
      obtain rfl : t - f = i_ := by omega
      refine lv_aload_n hx hcb dX10_sharesAmong_31 rfl (lv_at hl 0 rfl) ?_
      refine lv_iload_n hx hcb dX10_sharesAmong_32 rfl (lv_at hl 2 rfl) ?_
      refine lv_iload_n hx hcb dX10_sharesAmong_33 rfl (lv_at hl 1 rfl) ?_
      refine x_isubN hx hcb (by omega) dX10_sharesAmong_34 ?_
      refine lv_iload_n hx hcb dX10_sharesAmong_35 rfl (lv_at hl 3 rfl) ?_
      refine lv_i2l hx hcb dX10_sharesAmong_36 rfl ?_
      refine x_ci0 rfl rfl (x_runV hx hcb hml hown hts (c_X10_shares l G w hw (w7g z (fun i => (amt z L (f + i)).toInt64) ((t - f))) _ (t - f) bu.toInt64 (jQ bu.toInt64 ((w7g z (fun i => (amt z L (f + i)).toInt64) (t - f)).2 7) (t - f)) (by omega) hsh) mv_X10_shares q_1369 hK hZ hR hS (hw.lo (by decide)) xc10 (hw.s0 rfl) rfl hl.1 rfl (Nat.le_of_ble_eq_true rfl) dX10_sharesAmong_37 ⟨by decide, by decide⟩ ⟨by decide, by decide⟩) hS (fun r_2 z_3 H locs hp_4 hR hS => ?_)
      have hps_ := hp_4
      by_cases hT_ : xls ((w7g z (fun i => (amt z L (f + i)).toInt64) (t - f)).2 7) (t - f) = 0
      · skip
        rw [if_pos hT_] at hps_
        have hz_ := (Prod.mk.inj hps_).2
        have hr_ := (Prod.mk.inj hps_).1
        rw [hz_] at hR
        refine x_top (show r_2 = nI 0 from hr_) ?_
        change Rh G w (w7g z (fun i => (amt z L (f + i)).toInt64) (t - f)) _ at hR
        refine lv_istore (lv' := [(4, .int (nI 0)), (0, .ref (w.2.2 0)), (1, .int (nI f)), (2, .int (nI t)), (3, .int bu)]) hx hcb dX10_sharesAmong_40 hl (by decide) rfl (fun ls hl => ?_)
        refine lv_iload_n hx hcb dX10_sharesAmong_42 rfl (lv_at hl 2 rfl) ?_
        refine lv_istore (lv' := [(5, .int (nI f)), (4, .int (nI 0)), (0, .ref (w.2.2 0)), (1, .int (nI f)), (2, .int (nI t)), (3, .int bu)]) hx hcb dX10_sharesAmong_43 hl (by decide) rfl (fun ls hl => ?_)
        refine lv_iload hx hcb dX10_sharesAmong_45 (lv_at hl 0 rfl) ?_
        refine lv_iload_n hx hcb dX10_sharesAmong_47 rfl (lv_at hl 4 rfl) ?_
        refine lv_icmp_ge (tgt := 79) hx hcb dX10_sharesAmong_48 (by decide) (fun c_5 => ?_) (fun c_5 => ?_)
        · skip
          have c_5 : t ≤ f := (nI_leI (by omega) (by omega)).mp c_5
          exact hret (w7g z (fun i => (amt z L (f + i)).toInt64) (t - f)) _ _ _ _ dX10_sharesAmong_79 hR hS (by unfold saQ saW; first | rw [if_pos hT_] | rw [if_neg hT_])
        · skip
          have c_5 : ¬ t ≤ f := fun h_ => c_5 ((nI_leI (by omega) (by omega)).mpr h_)
          refine lv_iload hx hcb dX10_sharesAmong_51 (lv_at hl 1 rfl) ?_
          refine lv_if_eq (tgt := 79) hx hcb dX10_sharesAmong_53 (by decide) (fun c_6 => ?_) (fun c_6 => ?_)
          · skip
            exact hret (w7g z (fun i => (amt z L (f + i)).toInt64) (t - f)) _ _ _ _ dX10_sharesAmong_79 hR hS (by unfold saQ saW; first | rw [if_pos hT_] | rw [if_neg hT_])
          · skip
            first | exact absurd c_6 (by decide) | exact absurd (by decide) c_6
      · skip
        rw [if_neg hT_] at hps_
        have hz_ := (Prod.mk.inj hps_).2
        have hr_ := (Prod.mk.inj hps_).1
        rw [hz_] at hR
        refine x_top (show r_2 = nI 1 from hr_) ?_
        change Rh G w (shG (w7g z (fun i => (amt z L (f + i)).toInt64) (t - f)) (t - f) bu.toInt64) _ at hR
        refine lv_istore (lv' := [(4, .int (nI 1)), (0, .ref (w.2.2 0)), (1, .int (nI f)), (2, .int (nI t)), (3, .int bu)]) hx hcb dX10_sharesAmong_40 hl (by decide) rfl (fun ls hl => ?_)
        refine lv_iload_n hx hcb dX10_sharesAmong_42 rfl (lv_at hl 2 rfl) ?_
        refine lv_istore (lv' := [(5, .int (nI f)), (4, .int (nI 1)), (0, .ref (w.2.2 0)), (1, .int (nI f)), (2, .int (nI t)), (3, .int bu)]) hx hcb dX10_sharesAmong_43 hl (by decide) rfl (fun ls hl => ?_)
        rw [show (shG (w7g z (fun i => (amt z L (f + i)).toInt64) (t - f)) (t - f) bu.toInt64) = ur (shG (w7g z (fun i => (amt z L (f + i)).toInt64) (t - f)) (t - f) bu.toInt64) 13 (rng f f (fun i => ((shG (w7g z (fun i => (amt z L (f + i)).toInt64) (t - f)) (t - f) bu.toInt64).2 8 i).toInt32) ((shG (w7g z (fun i => (amt z L (f + i)).toInt64) (t - f)) (t - f) bu.toInt64).1 13)) from by rw [rng_0]; exact (ur_id ..).symm] at hR
        suffices LP_45 : ∀ (nn : Nat) (i_ : Nat) (_ : t - i_ < nn) (hi0_ : f ≤ i_) (hi_ : i_ ≤ t) (H : Heap) (locs : List Loc) (ls : Array Slot), Rh G w (ur (shG (w7g z (fun i => (amt z L (f + i)).toInt64) (t - f)) (t - f) bu.toInt64) 13 (rng f i_ (fun i => ((shG (w7g z (fun i => (amt z L (f + i)).toInt64) (t - f)) (t - f) bu.toInt64).2 8 i).toInt32) ((shG (w7g z (fun i => (amt z L (f + i)).toInt64) (t - f)) (t - f) bu.toInt64).1 13))) H → va_S (xA w s.heap.size) s.heap H locs → lv_has ls 6 [(0, .ref (w.2.2 0)), (1, .int (nI f)), (2, .int (nI t)), (4, .int (nI 1)), (5, .int (nI i_))] → W p l e rm_X10_sharesAmong s mt args below meth c H locs 0 0 Q (F0 mt 45 ls []) from LP_45 ((_) + 1) f (Nat.lt_succ_self _) (Nat.le_refl f) hft _ _ _ hR hS (lv_sub hl [2, 3, 4, 1, 0] rfl)
        intro nn
        induction nn with
        | zero => intro i_ hm_ ; exact absurd hm_ (Nat.not_lt_zero _)
        | succ nn ih_45 =>
          intro i_ hm_45 hi0_ hi_ H locs ls hR hS hl
          refine lv_iload hx hcb dX10_sharesAmong_45 (lv_at hl 4 rfl) ?_
          refine lv_iload_n hx hcb dX10_sharesAmong_47 rfl (lv_at hl 2 rfl) ?_
          refine lv_icmp_ge (tgt := 79) hx hcb dX10_sharesAmong_48 (by decide) (fun c_7 => ?_) (fun c_7 => ?_)
          · skip
            have c_7 : t ≤ i_ := (nI_leI (by omega) (by omega)).mp c_7
            obtain rfl : t = i_ := by omega
            exact hret (ur (shG (w7g z (fun i => (amt z L (f + i)).toInt64) (t - f)) (t - f) bu.toInt64) 13 (rng f t (fun i => ((shG (w7g z (fun i => (amt z L (f + i)).toInt64) (t - f)) (t - f) bu.toInt64).2 8 i).toInt32) ((shG (w7g z (fun i => (amt z L (f + i)).toInt64) (t - f)) (t - f) bu.toInt64).1 13))) _ _ _ _ dX10_sharesAmong_79 hR hS (by unfold saQ saW; first | rw [if_pos hT_] | rw [if_neg hT_])
          · skip
            have c_7 : ¬ t ≤ i_ := fun h_ => c_7 ((nI_leI (by omega) (by omega)).mpr h_)
            refine lv_iload hx hcb dX10_sharesAmong_51 (lv_at hl 3 rfl) ?_
            refine lv_if_eq (tgt := 79) hx hcb dX10_sharesAmong_53 (by decide) (fun c_8 => ?_) (fun c_8 => ?_)
            · skip
              first | exact absurd c_8 (by decide) | exact absurd (by decide) c_8
            · skip
              refine lv_aload_n hx hcb dX10_sharesAmong_56 rfl (lv_at hl 0 rfl) ?_
              refine x_getR hx hcb hts hown hK xc10 hR (hw.lo (by decide)) (hw.s0 rfl) 16 (by decide) rfl q_1182 dX10_sharesAmong_57 ?_
              refine lv_iload hx hcb dX10_sharesAmong_60 (lv_at hl 4 rfl) ?_
              refine lv_aload_n hx hcb dX10_sharesAmong_62 rfl (lv_at hl 0 rfl) ?_
              refine x_getR hx hcb hts hown hK xc10 hR (hw.lo (by decide)) (hw.s0 rfl) 10 (by decide) rfl q_1176 dX10_sharesAmong_63 ?_
              refine lv_iload hx hcb dX10_sharesAmong_66 (lv_at hl 4 rfl) ?_
              refine lv_iload_n hx hcb dX10_sharesAmong_68 rfl (lv_at hl 1 rfl) ?_
              refine x_isubN hx hcb (by omega) dX10_sharesAmong_69 ?_
              refine x_lald hx hcb hK hR (hw.lo (by decide)) (hw.s0 rfl) (k := (i_ - f)) (by omega) (by decide) dX10_sharesAmong_70 ?_
              refine x_topl (show ((ur (shG (w7g z (fun i => (amt z L (f + i)).toInt64) (t - f)) (t - f) bu.toInt64) 13 (rng f i_ (fun i => ((shG (w7g z (fun i => (amt z L (f + i)).toInt64) (t - f)) (t - f) bu.toInt64).2 8 i).toInt32) ((shG (w7g z (fun i => (amt z L (f + i)).toInt64) (t - f)) (t - f) bu.toInt64).1 13))).2 8 (i_ - f)) = ((shG (w7g z (fun i => (amt z L (f + i)).toInt64) (t - f)) (t - f) bu.toInt64).2 8 (i_ - f)) from rfl) ?_
              refine lv_l2i hx hcb dX10_sharesAmong_71 rfl ?_
              refine x_iast hx hcb hK hR hS (hw.lo (by decide)) (hw.s0 rfl) (k := i_) (v := (((shG (w7g z (fun i => (amt z L (f + i)).toInt64) (t - f)) (t - f) bu.toInt64).2 8 (i_ - f)).toInt32)) (by omega) (by decide) dX10_sharesAmong_72 (fun H locs hR hS => ?_)
              refine lv_iinc (v := (nI (i_ + 1))) (lv' := [(5, .int (nI (i_ + 1))), (0, .ref (w.2.2 0)), (1, .int (nI f)), (2, .int (nI t)), (4, .int (nI 1))]) hx hcb dX10_sharesAmong_73 hl (k := 4) rfl (x_iinc1 _) (by decide) rfl (fun ls hl => ?_)
              refine lv_goto (tgt := 45) hx hcb dX10_sharesAmong_76 (by decide) ?_
              rw [show (u1 (ur (shG (w7g z (fun i => (amt z L (f + i)).toInt64) (t - f)) (t - f) bu.toInt64) 13 (rng f i_ (fun i => ((shG (w7g z (fun i => (amt z L (f + i)).toInt64) (t - f)) (t - f) bu.toInt64).2 8 i).toInt32) ((shG (w7g z (fun i => (amt z L (f + i)).toInt64) (t - f)) (t - f) bu.toInt64).1 13))) 13 i_ (((shG (w7g z (fun i => (amt z L (f + i)).toInt64) (t - f)) (t - f) bu.toInt64).2 8 (i_ - f)).toInt32)) = (ur (shG (w7g z (fun i => (amt z L (f + i)).toInt64) (t - f)) (t - f) bu.toInt64) 13 (rng f (i_ + 1) (fun i => ((shG (w7g z (fun i => (amt z L (f + i)).toInt64) (t - f)) (t - f) bu.toInt64).2 8 i).toInt32) ((shG (w7g z (fun i => (amt z L (f + i)).toInt64) (t - f)) (t - f) bu.toInt64).1 13))) from by rw [u1_ur]; exact congrArg (ur (shG (w7g z (fun i => (amt z L (f + i)).toInt64) (t - f)) (t - f) bu.toInt64) 13) (rng_s (fun i => ((shG (w7g z (fun i => (amt z L (f + i)).toInt64) (t - f)) (t - f) bu.toInt64).2 8 i).toInt32) ((shG (w7g z (fun i => (amt z L (f + i)).toInt64) (t - f)) (t - f) bu.toInt64).1 13) hi0_)] at hR
              exact ih_45 (i_ + 1) (by omega) (by omega) (by omega) _ _ _ hR hS (lv_sub hl [1, 2, 3, 4, 0] rfl)
    · skip
      have c_1 : ¬ t ≤ (f + i_) := fun h_ => c_1 ((nI_leI (by omega) (by omega)).mpr h_)
      refine lv_aload_n hx hcb dX10_sharesAmong_9 rfl (lv_at hl 0 rfl) ?_
      refine x_getR hx hcb hts hown hK xc10 hR (hw.lo (by decide)) (hw.s0 rfl) 9 (by decide) rfl q_1175 dX10_sharesAmong_10 ?_
      refine lv_iload hx hcb dX10_sharesAmong_13 (lv_at hl 4 rfl) ?_
      refine lv_iload_n hx hcb dX10_sharesAmong_15 rfl (lv_at hl 1 rfl) ?_
      refine x_isubN hx hcb (by omega) dX10_sharesAmong_16 ?_
      refine x_top (show (nI ((f + i_) - f)) = (nI i_) from congrArg nI (Nat.add_sub_cancel_left ..)) ?_
      refine lv_aload_n hx hcb dX10_sharesAmong_17 rfl (lv_at hl 0 rfl) ?_
      refine lv_iload hx hcb dX10_sharesAmong_18 (lv_at hl 4 rfl) ?_
      refine x_ci0 rfl rfl (x_runV hx hcb hml hown hts (c_X10_amountOf l G w hw (w7g z (fun i => (amt z L (f + i)).toInt64) (i_)) _ (f + i_) ((L.getD (f + i_) (0, 0)).2) ((L.getD (f + i_) (0, 0)).1) (by omega) ((hLd.2.2 (f + i_) (by omega)).1) ((hLd.2.2 (f + i_) (by omega)).2.1) ((hLd.2.2 (f + i_) (by omega)).2.2.1) ((hLd.2.2 (f + i_) (by omega)).2.2.2)) mv_X10_amountOf q_1587 hK hZ hR hS (hw.lo (by decide)) xc10 (hw.s0 rfl) rfl hl.1 rfl (Nat.le_of_ble_eq_true rfl) dX10_sharesAmong_20 ⟨by decide, by decide⟩ ⟨by decide, by decide⟩) hS (fun r_9 z_10 H locs hp_11 hR hS => ?_)
      rw [hp_11.2] at hR; rw [hp_11.1]
      refine x_top (show (lfQ (w7g z (fun i => (amt z L (f + i)).toInt64) (i_)) ((L.getD (f + i_) (0, 0)).2) ((L.getD (f + i_) (0, 0)).1)) = (amt z L (f + i_)) from rfl) ?_
      refine lv_i2l hx hcb dX10_sharesAmong_23 rfl ?_
      refine x_last hx hcb hK hR hS (hw.lo (by decide)) (hw.s0 rfl) (k := i_) (v := ((amt z L (f + i_)).toInt64)) (by omega) (by decide) dX10_sharesAmong_24 (fun H locs hR hS => ?_)
      refine lv_iinc (v := (nI ((f + i_) + 1))) (lv' := [(4, .int (nI ((f + i_) + 1))), (0, .ref (w.2.2 0)), (1, .int (nI f)), (2, .int (nI t)), (3, .int bu)]) hx hcb dX10_sharesAmong_25 hl (k := 4) rfl (x_iinc1 _) (by decide) rfl (fun ls hl => ?_)
      refine lv_goto (tgt := 3) hx hcb dX10_sharesAmong_28 (by decide) ?_
      rw [show (nI ((f + i_) + 1)) = (nI (f + (i_ + 1))) from rfl] at hl
      rw [show (u2 (w7g z (fun i => (amt z L (f + i)).toInt64) (i_)) 7 i_ ((amt z L (f + i_)).toInt64)) = (w7g z (fun i => (amt z L (f + i)).toInt64) ((i_ + 1))) from w7g_s z (fun i => (amt z L (f + i)).toInt64) i_] at hR
      exact ih_3 (i_ + 1) (by omega) (by omega) _ _ _ hR hS (lv_sub hl [1, 2, 3, 4, 0] rfl)
