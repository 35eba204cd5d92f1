theorem x_ldcwf {p : Program} {l : Launch} {e : Env} {R : Room} {s : State} {m : MethodId} {args : Array Value} {below : List Frame} {meth : Method} {c : Code} {H : Heap} {locs : List Loc} {cells slots : Nat} {Q : State → Prop} {cc : ByteArray} {pc : Nat} {ls : Array Slot} {rest : List Value}
    (hexec : p.tables.exec = Jvm.exec) (hb : c.code = cc) {own : String} {index : Nat} {v : UInt32} (hown : s.vm.findClass own = some m.cls) (hconst : (Jvm.Cond.constantFloat own index v).before args s = true) (hdg : decode cc pc = .ok (.ldc_w index, 3)) (k : W p l e R s m args below meth c H locs cells slots Q (F0 m (pc + 3) ls (.float v :: rest))) : W p l e R s m args below meth c H locs cells slots Q (F0 m pc ls rest) := by
  intro T hT X
  obtain ⟨t, a, b⟩ := k T hT X
  obtain ⟨k0, cf, hk, hcf, hcp⟩ := Cond.constantFloat_spec hown hconst
  obtain ⟨k', hk', he⟩ := X.warmed.alike.2.2 _ _ hk
  refine ⟨t, ?_, b⟩
  jvm_step X.here [hexec, hb, hdg, Op.ldc_w.sem, Op.ldc.wp_float (s := T) (f := F0 m pc ls rest) X.here.top hk' (by rw [he]; exact hcf) hcp]
  exact a
def nbk (z : xSt) : xSt := u1 (u1 (u1 (u1 (ur (ur z 2 (fun _ => 0)) 4 (fun _ => 0)) 4 0 25) 4 1 10) 4 2 5) 4 3 3
def zQ (z : xSt) (a b c d : Int32) : xSt := u1 (u1 (u1 (u1 z 10 0 a) 10 1 b) 10 2 c) 10 3 d
def blQ (z : xSt) : Nat → Int32
  | 0 => z.1 4 495 - z.1 4 496
  | m + 1 => blQ z m - (z.1 4 (445 + 3 * m + 1) + z.1 4 (445 + 3 * m + 2))
def rtQ (a b : Int32) : UInt32 := if b = 0 then 0x00000000 else FP.fdiv (FP.i2f a) (FP.i2f b)
theorem rtQ_mul (a b : Int32) : vf_n32 (FP.fmul (rtQ a b) 1176256512) := by
  unfold rtQ
  split
  · unfold vf_n32; decide +kernel
  · rename_i hb0
    have hf : fpFit Jvm.FP.Core.b32 (Jvm.FP.Core.quotient Jvm.FP.Core.b32 (Jvm.FP.Core.decode Jvm.FP.Core.b32 (UInt32.ofNat (Jvm.FP.Core.fromInt Jvm.FP.Core.b32 a.toInt)).toNat) (Jvm.FP.Core.decode Jvm.FP.Core.b32 (UInt32.ofNat (Jvm.FP.Core.fromInt Jvm.FP.Core.b32 b.toInt)).toNat)) := by
      rw [fp_i32, fp_i32]
      exact fp_quo fp32 (fp_fin fp32 _) (fp_int fp32 (i32_ne hb0) (i32_abs b) (by decide) (by decide) (by decide) (by decide))
    refine fp_mul hf ?_
    have h := (fp_bits fp32 hf).2
    show (UInt32.ofNat _).toNat = _
    rw [UInt32.toNat_ofNat']
    exact Nat.mod_eq_of_lt (by have e1 : Jvm.FP.Core.b32.exps * Jvm.FP.Core.b32.tails = 2147483648 := by decide
                               rw [e1] at h; exact h)
theorem u1_u1 (z : xSt) (o k : Nat) (v v2 : Int32) : u1 (u1 z o k v) o k v2 = u1 z o k v2 := by
  rw [u1_is (u1 z o k v), u1_at, up_up, u1_is, ur_ur, u1_is]
theorem ck_y {z : xSt} {P : Prop} [Decidable P] (h : P) : u1 (ck z P) 0 0 0 = ck z P := by
  unfold ck; rw [u1_u1, if_pos h]
def rm_X10_mostOf : Room := { frames := 0, cells := 0, slots := 0, locals := 0 }
set_option maxRecDepth 100000 in
set_option maxHeartbeats 4000000 in
theorem c_X10_mostOf (l : Launch) (G : xGl) (w : xWd) (hw : isM w) (z : xSt) (sz : Nat) (k : Nat) (hk : k < 5) : xMi l yX10_mostOf cX10_mostOf 1 (some FieldType.int) rm_X10_mostOf G w z sz [.int (nI k)] (fun r z1 => r = xGre k ∧ z1 = z) := by
  refine x_mi (by decide) (Nat.le_of_ble_eq_true rfl) ?_
  intro p e s mt args below meth c ls Q hsz X hR hS hl hret
  obtain ⟨hx, hcb, hml, hown, hts, hlk, hK, hZ⟩ := X
  have hl : lv_has ls 1 [(0, .int (nI k))] := hl
  refine lv_iload_n hx hcb dX10_mostOf_0 rfl (lv_at hl 0 rfl) ?_
  have h_ : k = 0 ∨ k = 1 ∨ k = 2 ∨ k = 3 ∨ k = 4 := by omega
  rcases h_ with rfl | rfl | rfl | rfl | rfl
  · refine lv_tableIn (tgt := 32) hx hcb dX10_mostOf_1 (by decide) (by decide) (off := 31) (by decide) (by decide) ?_
    refine lv_bipush (v := nI 100) hx hcb dX10_mostOf_32 (by decide) ?_
    exact hret (nI 100) z _ _ _ _ dX10_mostOf_34 rfl hR hS ⟨rfl, rfl⟩
  · refine lv_tableIn (tgt := 35) hx hcb dX10_mostOf_1 (by decide) (by decide) (off := 34) (by decide) (by decide) ?_
    refine lv_bipush (v := nI 50) hx hcb dX10_mostOf_35 (by decide) ?_
    exact hret (nI 50) z _ _ _ _ dX10_mostOf_37 rfl hR hS ⟨rfl, rfl⟩
  · refine lv_tableIn (tgt := 38) hx hcb dX10_mostOf_1 (by decide) (by decide) (off := 37) (by decide) (by decide) ?_
    refine lv_bipush (v := nI 10) hx hcb dX10_mostOf_38 (by decide) ?_
    exact hret (nI 10) z _ _ _ _ dX10_mostOf_40 rfl hR hS ⟨rfl, rfl⟩
  · refine lv_tableIn (tgt := 41) hx hcb dX10_mostOf_1 (by decide) (by decide) (off := 40) (by decide) (by decide) ?_
    refine lv_bipush (v := nI 20) hx hcb dX10_mostOf_41 (by decide) ?_
    exact hret (nI 20) z _ _ _ _ dX10_mostOf_43 rfl hR hS ⟨rfl, rfl⟩
  · refine lv_tableOut (tgt := 44) hx hcb dX10_mostOf_1 (Or.inr (by decide)) (by decide) ?_
    refine lv_iconst (v := nI 2) hx hcb dX10_mostOf_44 (by decide) ?_
    exact hret (nI 2) z _ _ _ _ dX10_mostOf_45 rfl hR hS ⟨rfl, rfl⟩
def rm_X10_copies : Room := { frames := 0, cells := 0, slots := 0, locals := 0 }
set_option maxRecDepth 100000 in
set_option maxHeartbeats 4000000 in
theorem c_X10_copies (l : Launch) (G : xGl) (w : xWd) (hw : isM w) (z : xSt) (sz : Nat) (oA NA : Nat) (hoA : oA < w.1) (hsA : w.2.1 oA = xai NA) (hNA : NA < 2147483648) (oC NC : Nat) (hoC : oC < w.1) (hsC : w.2.1 oC = xai NC) (hNC : NC < 2147483648) (hNN : NC = NA) (hne : oA ≠ oC) : xMv l yX10_copies cX10_copies 3 rm_X10_copies G w z sz [.ref (w.2.2 oA), .ref (w.2.2 oC)] (fun z1 => z1 = ur z oC (z.1 oA)) := by
  refine x_mv (by decide) (Nat.le_of_ble_eq_true rfl) ?_
  intro p e s mt args below meth c ls Q hsz X hR hS hl hret
  obtain ⟨hx, hcb, hml, hown, hts, hlk, hK, hZ⟩ := X
  have hl : lv_has ls 3 [(0, .ref (w.2.2 oA)), (1, .ref (w.2.2 oC))] := hl
  refine lv_iconst (v := (nI 0)) hx hcb dX10_copies_0 (by decide) ?_
  refine lv_istore_n (lv' := [(2, .int (nI 0)), (0, .ref (w.2.2 oA)), (1, .ref (w.2.2 oC))]) hx hcb dX10_copies_1 rfl hl (by decide) rfl (fun ls hl => ?_)
  rw [show z = ur z oC (pre 0 (z.1 oA) (z.1 oC)) from by rw [pre_0, ur_id]] at hR
  suffices LP_2 : ∀ (nn : Nat) (i_ : Nat) (_ : NA - i_ < nn) (hi_ : i_ ≤ NA) (H : Heap) (locs : List Loc) (ls : Array Slot), Rh G w (ur z oC (pre i_ (z.1 oA) (z.1 oC))) H → va_S (xA w s.heap.size) s.heap H locs → lv_has ls 3 [(0, .ref (w.2.2 oA)), (1, .ref (w.2.2 oC)), (2, .int (nI i_))] → W p l e rm_X10_copies s mt args below meth c H locs 0 0 Q (F0 mt 2 ls []) from LP_2 ((_) + 1) 0 (Nat.lt_succ_self _) (Nat.zero_le _) _ _ _ hR hS (lv_sub hl [1, 2, 0] rfl)
  intro nn
  induction nn with
  | zero => intro i_ hm_ ; exact absurd hm_ (Nat.not_lt_zero _)
  | succ nn ih_2 =>
    intro i_ hm_2 hi_ H locs ls hR hS hl
    refine lv_iload_n hx hcb dX10_copies_2 rfl (lv_at hl 2 rfl) ?_
    refine lv_aload_n hx hcb dX10_copies_3 rfl (lv_at hl 0 rfl) ?_
    refine x_alen hx hcb hK hR hoA hsA dX10_copies_4 ?_
    refine lv_icmp_ge (tgt := 20) hx hcb dX10_copies_5 (by decide) (fun c_1 => ?_) (fun c_1 => ?_)
    · skip
      have c_1 : NA ≤ i_ := (nI_leI (by omega) (by omega)).mp c_1
      obtain rfl : NA = i_ := by omega
      have hR := hR.row hsC (g := z.1 oA) (fun k hk => pre_lt (by rw [← hNN]; exact hk))
      exact hret (ur z oC (z.1 oA)) _ _ _ _ dX10_copies_20 hR hS rfl
    · skip
      have c_1 : ¬ NA ≤ i_ := fun h_ => c_1 ((nI_leI (by omega) (by omega)).mpr h_)
      refine lv_aload_n hx hcb dX10_copies_8 rfl (lv_at hl 1 rfl) ?_
      refine lv_iload_n hx hcb dX10_copies_9 rfl (lv_at hl 2 rfl) ?_
      refine lv_aload_n hx hcb dX10_copies_10 rfl (lv_at hl 0 rfl) ?_
      refine lv_iload_n hx hcb dX10_copies_11 rfl (lv_at hl 2 rfl) ?_
      refine x_iald hx hcb hK hR hoA hsA (k := i_) (by omega) hNA dX10_copies_12 ?_
      refine x_top (show ((ur z oC (pre i_ (z.1 oA) (z.1 oC))).1 oA i_) = (z.1 oA i_) from by rw [ur_ne _ _ hne]) ?_
      refine x_iast hx hcb hK hR hS hoC hsC (k := i_) (v := (z.1 oA i_)) (by omega) hNC dX10_copies_13 (fun H locs hR hS => ?_)
      refine lv_iinc (v := (nI (i_ + 1))) (lv' := [(2, .int (nI (i_ + 1))), (0, .ref (w.2.2 oA)), (1, .ref (w.2.2 oC))]) hx hcb dX10_copies_14 hl (k := 2) rfl (x_iinc1 _) (by decide) rfl (fun ls hl => ?_)
      refine lv_goto (tgt := 2) hx hcb dX10_copies_17 (by decide) ?_
      rw [show (u1 (ur z oC (pre i_ (z.1 oA) (z.1 oC))) oC i_ (z.1 oA i_)) = (ur z oC (pre (i_ + 1) (z.1 oA) (z.1 oC))) from by rw [u1_ur, pre_s]] at hR
      exact ih_2 (i_ + 1) (by omega) (by omega) _ _ _ hR hS (lv_sub hl [1, 2, 0] rfl)
def rm_X10_newBooks : Room := { frames := 0, cells := 0, slots := 0, locals := 0 }
set_option maxRecDepth 100000 in
set_option maxHeartbeats 4000000 in
theorem c_X10_newBooks (l : Launch) (G : xGl) (w : xWd) (hw : isM w) (z : xSt) (sz : Nat)   : xMv l yX10_newBooks cX10_newBooks 2 rm_X10_newBooks G w z sz [.ref (w.2.2 0)] (fun z1 => z1 = nbk z) := by
  refine x_mv (by decide) (Nat.le_of_ble_eq_true rfl) ?_
  intro p e s mt args below meth c ls Q hsz X hR hS hl hret
  obtain ⟨hx, hcb, hml, hown, hts, hlk, hK, hZ⟩ := X
  have hl : lv_has ls 2 [(0, .ref (w.2.2 0))] := hl
  refine lv_iconst (v := (nI 0)) hx hcb dX10_newBooks_0 (by decide) ?_
  refine lv_istore_n (lv' := [(1, .int (nI 0)), (0, .ref (w.2.2 0))]) hx hcb dX10_newBooks_1 rfl hl (by decide) rfl (fun ls hl => ?_)
  rw [fill_0 z 2 0] at hR
  suffices LP_2 : ∀ (nn : Nat) (i_ : Nat) (_ : 14 - i_ < nn) (hi_ : i_ ≤ 14) (H : Heap) (locs : List Loc) (ls : Array Slot), Rh G w (ur z 2 (fun j => if j < i_ then 0 else z.1 2 j)) H → va_S (xA w s.heap.size) s.heap H locs → lv_has ls 2 [(0, .ref (w.2.2 0)), (1, .int (nI i_))] → W p l e rm_X10_newBooks s mt args below meth c H locs 0 0 Q (F0 mt 2 ls []) from LP_2 ((_) + 1) 0 (Nat.lt_succ_self _) (Nat.zero_le _) _ _ _ hR hS (lv_sub hl [1, 0] rfl)
  intro nn
  induction nn with
  | zero => intro i_ hm_ ; exact absurd hm_ (Nat.not_lt_zero _)
  | succ nn ih_2 =>
    intro i_ hm_2 hi_ H locs ls hR hS hl
    refine lv_iload_n hx hcb dX10_newBooks_2 rfl (lv_at hl 1 rfl) ?_
    refine lv_bipush (v := (nI 14)) hx hcb dX10_newBooks_3 (by decide) ?_
    refine lv_icmp_ge (tgt := 21) hx hcb dX10_newBooks_5 (by decide) (fun c_1 => ?_) (fun c_1 => ?_)
    · skip
      have c_1 : 14 ≤ i_ := (nI_leI (by omega) (by omega)).mp c_1
      obtain rfl : 14 = i_ := by omega
      have hR := hR.row (hw.s0 rfl) (g := fun _ => 0) (fun k hk => if_pos hk)
      refine lv_iconst (v := (nI 0)) hx hcb dX10_newBooks_21 (by decide) ?_
      refine lv_istore_n (lv' := [(1, .int (nI 0)), (0, .ref (w.2.2 0))]) hx hcb dX10_newBooks_22 rfl hl (by decide) rfl (fun ls hl => ?_)
      rw [fill_0 (ur z 2 (fun _ => 0)) 4 0] at hR
      suffices LP_23 : ∀ (nn : Nat) (i_ : Nat) (_ : 497 - i_ < nn) (hi_ : i_ ≤ 497) (H : Heap) (locs : List Loc) (ls : Array Slot), Rh G w (ur (ur z 2 (fun _ => 0)) 4 (fun j => if j < i_ then 0 else (ur z 2 (fun _ => 0)).1 4 j)) H → va_S (xA w s.heap.size) s.heap H locs → lv_has ls 2 [(0, .ref (w.2.2 0)), (1, .int (nI i_))] → W p l e rm_X10_newBooks s mt args below meth c H locs 0 0 Q (F0 mt 23 ls []) from LP_23 ((_) + 1) 0 (Nat.lt_succ_self _) (Nat.zero_le _) _ _ _ hR hS (lv_sub hl [1, 0] rfl)
      intro nn
      induction nn with
      | zero => intro i_ hm_ ; exact absurd hm_ (Nat.not_lt_zero _)
      | succ nn ih_23 =>
        intro i_ hm_23 hi_ H locs ls hR hS hl
        refine lv_iload_n hx hcb dX10_newBooks_23 rfl (lv_at hl 1 rfl) ?_
        refine lv_sipush (v := (nI 497)) hx hcb dX10_newBooks_24 (by decide) ?_
        refine lv_icmp_ge (tgt := 43) hx hcb dX10_newBooks_27 (by decide) (fun c_2 => ?_) (fun c_2 => ?_)
        · skip
          have c_2 : 497 ≤ i_ := (nI_leI (by omega) (by omega)).mp c_2
          obtain rfl : 497 = i_ := by omega
          have hR := hR.row (hw.s0 rfl) (g := fun _ => 0) (fun k hk => if_pos hk)
          refine lv_aload_n hx hcb dX10_newBooks_43 rfl (lv_at hl 0 rfl) ?_
          refine x_getR hx hcb hts hown hK xc10 hR (hw.lo (by decide)) (hw.s0 rfl) 5 (by decide) rfl q_1171 dX10_newBooks_44 ?_
          refine lv_iconst (v := (nI 0)) hx hcb dX10_newBooks_47 (by decide) ?_
          refine lv_bipush (v := (nI 25)) hx hcb dX10_newBooks_48 (by decide) ?_
          refine x_iast hx hcb hK hR hS (hw.lo (by decide)) (hw.s0 rfl) (k := 0) (v := 25) (by omega) (by decide) dX10_newBooks_50 (fun H locs hR hS => ?_)
          refine lv_aload_n hx hcb dX10_newBooks_51 rfl (lv_at hl 0 rfl) ?_
          refine x_getR hx hcb hts hown hK xc10 hR (hw.lo (by decide)) (hw.s0 rfl) 5 (by decide) rfl q_1171 dX10_newBooks_52 ?_
          refine lv_iconst (v := (nI 1)) hx hcb dX10_newBooks_55 (by decide) ?_
          refine lv_bipush (v := (nI 10)) hx hcb dX10_newBooks_56 (by decide) ?_
          refine x_iast hx hcb hK hR hS (hw.lo (by decide)) (hw.s0 rfl) (k := 1) (v := 10) (by omega) (by decide) dX10_newBooks_58 (fun H locs hR hS => ?_)
          refine lv_aload_n hx hcb dX10_newBooks_59 rfl (lv_at hl 0 rfl) ?_
          refine x_getR hx hcb hts hown hK xc10 hR (hw.lo (by decide)) (hw.s0 rfl) 5 (by decide) rfl q_1171 dX10_newBooks_60 ?_
          refine lv_iconst (v := (nI 2)) hx hcb dX10_newBooks_63 (by decide) ?_
          refine lv_iconst (v := (nI 5)) hx hcb dX10_newBooks_64 (by decide) ?_
          refine x_iast hx hcb hK hR hS (hw.lo (by decide)) (hw.s0 rfl) (k := 2) (v := 5) (by omega) (by decide) dX10_newBooks_65 (fun H locs hR hS => ?_)
          refine lv_aload_n hx hcb dX10_newBooks_66 rfl (lv_at hl 0 rfl) ?_
          refine x_getR hx hcb hts hown hK xc10 hR (hw.lo (by decide)) (hw.s0 rfl) 5 (by decide) rfl q_1171 dX10_newBooks_67 ?_
          refine lv_iconst (v := (nI 3)) hx hcb dX10_newBooks_70 (by decide) ?_
          refine lv_iconst (v := (nI 3)) hx hcb dX10_newBooks_71 (by decide) ?_
          refine x_iast hx hcb hK hR hS (hw.lo (by decide)) (hw.s0 rfl) (k := 3) (v := 3) (by omega) (by decide) dX10_newBooks_72 (fun H locs hR hS => ?_)
          exact hret (u1 (u1 (u1 (u1 (ur (ur z 2 (fun _ => 0)) 4 (fun _ => 0)) 4 0 25) 4 1 10) 4 2 5) 4 3 3) _ _ _ _ dX10_newBooks_73 hR hS rfl
        · skip
          have c_2 : ¬ 497 ≤ i_ := fun h_ => c_2 ((nI_leI (by omega) (by omega)).mpr h_)
          refine lv_aload_n hx hcb dX10_newBooks_30 rfl (lv_at hl 0 rfl) ?_
          refine x_getR hx hcb hts hown hK xc10 hR (hw.lo (by decide)) (hw.s0 rfl) 5 (by decide) rfl q_1171 dX10_newBooks_31 ?_
          refine lv_iload_n hx hcb dX10_newBooks_34 rfl (lv_at hl 1 rfl) ?_
          refine lv_iconst (v := (nI 0)) hx hcb dX10_newBooks_35 (by decide) ?_
          refine x_iast hx hcb hK hR hS (hw.lo (by decide)) (hw.s0 rfl) (k := i_) (v := 0) (by omega) (by decide) dX10_newBooks_36 (fun H locs hR hS => ?_)
          refine lv_iinc (v := (nI (i_ + 1))) (lv' := [(1, .int (nI (i_ + 1))), (0, .ref (w.2.2 0))]) hx hcb dX10_newBooks_37 hl (k := 1) rfl (x_iinc1 _) (by decide) rfl (fun ls hl => ?_)
          refine lv_goto (tgt := 23) hx hcb dX10_newBooks_40 (by decide) ?_
          rw [show (u1 (ur (ur z 2 (fun _ => 0)) 4 (fun j => if j < i_ then 0 else (ur z 2 (fun _ => 0)).1 4 j)) 4 i_ 0) = (ur (ur z 2 (fun _ => 0)) 4 (fun j => if j < (i_ + 1) then 0 else (ur z 2 (fun _ => 0)).1 4 j)) from by rw [u1_ur, fill_s]] at hR
          exact ih_23 (i_ + 1) (by omega) (by omega) _ _ _ hR hS (lv_sub hl [1, 0] rfl)
    · skip
      have c_1 : ¬ 14 ≤ i_ := fun h_ => c_1 ((nI_leI (by omega) (by omega)).mpr h_)
      refine lv_aload_n hx hcb dX10_newBooks_8 rfl (lv_at hl 0 rfl) ?_
      refine x_getR hx hcb hts hown hK xc10 hR (hw.lo (by decide)) (hw.s0 rfl) 3 (by decide) rfl q_1169 dX10_newBooks_9 ?_
      refine lv_iload_n hx hcb dX10_newBooks_12 rfl (lv_at hl 1 rfl) ?_
      refine lv_iconst (v := (nI 0)) hx hcb dX10_newBooks_13 (by decide) ?_
      refine x_iast hx hcb hK hR hS (hw.lo (by decide)) (hw.s0 rfl) (k := i_) (v := 0) (by omega) (by decide) dX10_newBooks_14 (fun H locs hR hS => ?_)
      refine lv_iinc (v := (nI (i_ + 1))) (lv' := [(1, .int (nI (i_ + 1))), (0, .ref (w.2.2 0))]) hx hcb dX10_newBooks_15 hl (k := 1) rfl (x_iinc1 _) (by decide) rfl (fun ls hl => ?_)
      refine lv_goto (tgt := 2) hx hcb dX10_newBooks_18 (by decide) ?_
      rw [show (u1 (ur z 2 (fun j => if j < i_ then 0 else z.1 2 j)) 2 i_ 0) = (ur z 2 (fun j => if j < (i_ + 1) then 0 else z.1 2 j)) from by rw [u1_ur, fill_s]] at hR
      exact ih_2 (i_ + 1) (by omega) (by omega) _ _ _ hR hS (lv_sub hl [1, 0] rfl)
def rm_X10_leastOf : Room := { frames := 0, cells := 0, slots := 0, locals := 0 }
set_option maxRecDepth 100000 in
set_option maxHeartbeats 4000000 in
theorem c_X10_leastOf (l : Launch) (G : xGl) (w : xWd) (hw : isM w) (z : xSt) (sz : Nat) (k : Nat) (hk : k < 5) : xMi l yX10_leastOf cX10_leastOf 1 (some FieldType.int) rm_X10_leastOf G w z sz [.int (nI k)] (fun r z1 => r = xLea k ∧ z1 = z) := by
  refine x_mi (by decide) (Nat.le_of_ble_eq_true rfl) ?_
  intro p e s mt args below meth c ls Q hsz X hR hS hl hret
  obtain ⟨hx, hcb, hml, hown, hts, hlk, hK, hZ⟩ := X
  have hl : lv_has ls 1 [(0, .int (nI k))] := hl
  refine lv_iload_n hx hcb dX10_leastOf_0 rfl (lv_at hl 0 rfl) ?_
  refine lv_if_ne (tgt := 9) hx hcb dX10_leastOf_1 (by decide) (fun c_1 => ?_) (fun c_1 => ?_)
  · skip
    have c_1 : ¬ k = 0 := fun h_ => c_1 ((nI_eq (a := k) (b := 0) (by omega) (by omega)).mpr h_)
    refine lv_iload_n hx hcb dX10_leastOf_9 rfl (lv_at hl 0 rfl) ?_
    refine lv_iconst (v := (nI 2)) hx hcb dX10_leastOf_10 (by decide) ?_
    refine lv_icmp_ne (tgt := 18) hx hcb dX10_leastOf_11 (by decide) (fun c_2 => ?_) (fun c_2 => ?_)
    · skip
      have c_2 : ¬ k = 2 := fun h_ => c_2 ((nI_eq (by omega) (by omega)).mpr h_)
      refine lv_iconst (v := (nI 0)) hx hcb dX10_leastOf_18 (by decide) ?_
      exact hret (nI 0) z _ _ _ _ dX10_leastOf_19 rfl hR hS (⟨by first | (obtain rfl : k = 0 := (by omega); rfl) | (obtain rfl : k = 2 := (by omega); rfl) | (have h_ : k = 1 ∨ k = 3 ∨ k = 4 := (by omega); rcases h_ with rfl | rfl | rfl <;> rfl), rfl⟩)
    · skip
      have c_2 : k = 2 := (nI_eq (by omega) (by omega)).mp c_2
      refine lv_iconst (v := (nI 1)) hx hcb dX10_leastOf_14 (by decide) ?_
      refine lv_goto (tgt := 19) hx hcb dX10_leastOf_15 (by decide) ?_
      exact hret (nI 1) z _ _ _ _ dX10_leastOf_19 rfl hR hS (⟨by first | (obtain rfl : k = 0 := (by omega); rfl) | (obtain rfl : k = 2 := (by omega); rfl) | (have h_ : k = 1 ∨ k = 3 ∨ k = 4 := (by omega); rcases h_ with rfl | rfl | rfl <;> rfl), rfl⟩)
  · skip
    have c_1 : k = 0 := (nI_eq (a := k) (b := 0) (by omega) (by omega)).mp c_1
    refine lv_bipush (v := (nI 20)) hx hcb dX10_leastOf_4 (by decide) ?_
    refine lv_goto (tgt := 19) hx hcb dX10_leastOf_6 (by decide) ?_
    exact hret (nI 20) z _ _ _ _ dX10_leastOf_19 rfl hR hS (⟨by first | (obtain rfl : k = 0 := (by omega); rfl) | (obtain rfl : k = 2 := (by omega); rfl) | (have h_ : k = 1 ∨ k = 3 ∨ k = 4 := (by omega); rcases h_ with rfl | rfl | rfl <;> rfl), rfl⟩)
def rm_X10_laysResults : Room := { frames := 0, cells := 0, slots := 0, locals := 0 }
set_option maxRecDepth 100000 in
set_option maxHeartbeats 4000000 in
theorem c_X10_laysResults (l : Launch) (G : xGl) (w : xWd) (hw : isM w) (z : xSt) (sz : Nat) (a : Int32) (b : Int32) (c_ : Int32) (d : Int32)  : xMv l yX10_laysResults cX10_laysResults 5 rm_X10_laysResults G w z sz [.ref (w.2.2 0), .int a, .int b, .int c_, .int d] (fun z1 => z1 = zQ z a b c_ d) := by
  refine x_mv (by decide) (Nat.le_of_ble_eq_true rfl) ?_
  intro p e s mt args below meth c ls Q hsz X hR hS hl hret
  obtain ⟨hx, hcb, hml, hown, hts, hlk, hK, hZ⟩ := X
  have hl : lv_has ls 5 [(0, .ref (w.2.2 0)), (1, .int a), (2, .int b), (3, .int c_), (4, .int d)] := hl
  refine lv_aload_n hx hcb dX10_laysResults_0 rfl (lv_at hl 0 rfl) ?_
  refine x_getR hx hcb hts hown hK xc10 hR (hw.lo (by decide)) (hw.s0 rfl) 12 (by decide) rfl q_1178 dX10_laysResults_1 ?_
  refine lv_iconst (v := (nI 0)) hx hcb dX10_laysResults_4 (by decide) ?_
  refine lv_iload_n hx hcb dX10_laysResults_5 rfl (lv_at hl 1 rfl) ?_
  refine x_iast hx hcb hK hR hS (hw.lo (by decide)) (hw.s0 rfl) (k := 0) (v := a) (by omega) (by decide) dX10_laysResults_6 (fun H locs hR hS => ?_)
  refine lv_aload_n hx hcb dX10_laysResults_7 rfl (lv_at hl 0 rfl) ?_
  refine x_getR hx hcb hts hown hK xc10 hR (hw.lo (by decide)) (hw.s0 rfl) 12 (by decide) rfl q_1178 dX10_laysResults_8 ?_
  refine lv_iconst (v := (nI 1)) hx hcb dX10_laysResults_11 (by decide) ?_
  refine lv_iload_n hx hcb dX10_laysResults_12 rfl (lv_at hl 2 rfl) ?_
  refine x_iast hx hcb hK hR hS (hw.lo (by decide)) (hw.s0 rfl) (k := 1) (v := b) (by omega) (by decide) dX10_laysResults_13 (fun H locs hR hS => ?_)
  refine lv_aload_n hx hcb dX10_laysResults_14 rfl (lv_at hl 0 rfl) ?_
  refine x_getR hx hcb hts hown hK xc10 hR (hw.lo (by decide)) (hw.s0 rfl) 12 (by decide) rfl q_1178 dX10_laysResults_15 ?_
  refine lv_iconst (v := (nI 2)) hx hcb dX10_laysResults_18 (by decide) ?_
  refine lv_iload_n hx hcb dX10_laysResults_19 rfl (lv_at hl 3 rfl) ?_
  refine x_iast hx hcb hK hR hS (hw.lo (by decide)) (hw.s0 rfl) (k := 2) (v := c_) (by omega) (by decide) dX10_laysResults_20 (fun H locs hR hS => ?_)
  refine lv_aload_n hx hcb dX10_laysResults_21 rfl (lv_at hl 0 rfl) ?_
  refine x_getR hx hcb hts hown hK xc10 hR (hw.lo (by decide)) (hw.s0 rfl) 12 (by decide) rfl q_1178 dX10_laysResults_22 ?_
  refine lv_iconst (v := (nI 3)) hx hcb dX10_laysResults_25 (by decide) ?_
  refine lv_iload hx hcb dX10_laysResults_26 (lv_at hl 4 rfl) ?_
  refine x_iast hx hcb hK hR hS (hw.lo (by decide)) (hw.s0 rfl) (k := 3) (v := d) (by omega) (by decide) dX10_laysResults_28 (fun H locs hR hS => ?_)
  exact hret (u1 (u1 (u1 (u1 z 10 0 a) 10 1 b) 10 2 c_) 10 3 d) _ _ _ _ dX10_laysResults_29 hR hS rfl
def rm_X10_areResults : Room := { frames := 0, cells := 0, slots := 0, locals := 0 }
set_option maxRecDepth 100000 in
set_option maxHeartbeats 4000000 in
theorem c_X10_areResults (l : Launch) (G : xGl) (w : xWd) (hw : isM w) (z : xSt) (sz : Nat)  (hO : rOk z) : xMi l yX10_areResults cX10_areResults 3 (some FieldType.boolean) rm_X10_areResults G w z sz [.ref (w.2.2 0)] (fun r z1 => r = (if okR (mQ z 13) (z.1 10) then 1 else 0) ∧ z1 = z) := by
  refine x_mi (by decide) (Nat.le_of_ble_eq_true rfl) ?_
  intro p e s mt args below meth c ls Q hsz X hR hS hl hret
  obtain ⟨hx, hcb, hml, hown, hts, hlk, hK, hZ⟩ := X
  have hl : lv_has ls 3 [(0, .ref (w.2.2 0))] := hl
  have hm8_ := hO.2.1
  have hd4_ := hO.2.2.2.1
  have hy24_ := hO.2.2.2.2.2
  refine lv_iconst (v := (nI 0)) hx hcb dX10_areResults_0 (by decide) ?_
  refine lv_istore_n (lv' := [(1, .int (nI 0)), (0, .ref (w.2.2 0))]) hx hcb dX10_areResults_1 rfl hl (by decide) rfl (fun ls hl => ?_)
  suffices LP_2 : ∀ (nn : Nat) (i_ : Nat) (_ : 4 - i_ < nn) (hi_ : i_ ≤ 4) (ha_ : ∀ j, j < i_ → -(mst (mQ z 13) j) ≤ z.1 10 j ∧ z.1 10 j ≤ mst (mQ z 13) j) (H : Heap) (locs : List Loc) (ls : Array Slot), Rh G w z H → va_S (xA w s.heap.size) s.heap H locs → lv_has ls 3 [(0, .ref (w.2.2 0)), (1, .int (nI i_))] → W p l e rm_X10_areResults s mt args below meth c H locs 0 0 Q (F0 mt 2 ls []) from LP_2 ((_) + 1) 0 (Nat.lt_succ_self _) (by omega) (fun j q_ => absurd q_ (Nat.not_lt_zero j)) _ _ _ hR hS (lv_sub hl [1, 0] rfl)
  intro nn
  induction nn with
  | zero => intro i_ hm_ ; exact absurd hm_ (Nat.not_lt_zero _)
  | succ nn ih_2 =>
    intro i_ hm_2 hi_ ha_ H locs ls hR hS hl
    refine lv_iload_n hx hcb dX10_areResults_2 rfl (lv_at hl 1 rfl) ?_
    refine lv_iconst (v := (nI 4)) hx hcb dX10_areResults_3 (by decide) ?_
    refine lv_icmp_ge (tgt := 54) hx hcb dX10_areResults_4 (by decide) (fun c_1 => ?_) (fun c_1 => ?_)
    · skip
      have c_1 : 4 ≤ i_ := (nI_leI (by omega) (by omega)).mp c_1
      obtain rfl : 4 = i_ := by omega
      have h_ : okR (mQ z 13) (z.1 10) := ha_
      refine lv_iconst (v := (nI 1)) hx hcb dX10_areResults_54 (by decide) ?_
      exact hret (nI 1) z _ _ _ _ dX10_areResults_55 rfl hR hS (⟨by first | (rw [if_pos h_]; first | done | rfl) | (rw [if_neg h_]; first | done | rfl), rfl⟩)
    · skip
      have c_1 : ¬ 4 ≤ i_ := fun h_ => c_1 ((nI_leI (by omega) (by omega)).mpr h_)
      refine lv_iload_n hx hcb dX10_areResults_7 rfl (lv_at hl 1 rfl) ?_
      refine lv_aload_n hx hcb dX10_areResults_8 rfl (lv_at hl 0 rfl) ?_
      refine x_getR hx hcb hts hown hK xc10 hR (hw.lo (by decide)) (hw.s0 rfl) 3 (by decide) rfl q_1169 dX10_areResults_9 ?_
      refine lv_bipush (v := (nI 13)) hx hcb dX10_areResults_12 (by decide) ?_
      refine x_iald hx hcb hK hR (hw.lo (by decide)) (hw.s0 rfl) (k := 13) (by omega) (by decide) dX10_areResults_14 ?_
      refine x_top (show (z.1 2 13) = (nI (mQ z 13)) from hO.2.2.1) ?_
      refine lv_icmp_ge (tgt := 23) hx hcb dX10_areResults_15 (by decide) (fun c_2 => ?_) (fun c_2 => ?_)
      · skip
        have c_2 : (mQ z 13) ≤ i_ := (nI_leI (by omega) (by omega)).mp c_2
        have em_ : mst (mQ z 13) i_ = nI 0 := if_neg (by omega)
        refine lv_iconst (v := (nI 0)) hx hcb dX10_areResults_23 (by decide) ?_
        refine lv_istore_n (lv' := [(2, .int (nI 0)), (0, .ref (w.2.2 0)), (1, .int (nI i_))]) hx hcb dX10_areResults_24 rfl hl (by decide) rfl (fun ls hl => ?_)
        refine lv_aload_n hx hcb dX10_areResults_25 rfl (lv_at hl 1 rfl) ?_
        refine x_getR hx hcb hts hown hK xc10 hR (hw.lo (by decide)) (hw.s0 rfl) 12 (by decide) rfl q_1178 dX10_areResults_26 ?_
        refine lv_iload_n hx hcb dX10_areResults_29 rfl (lv_at hl 2 rfl) ?_
        refine x_iald hx hcb hK hR (hw.lo (by decide)) (hw.s0 rfl) (k := i_) (by omega) (by decide) dX10_areResults_30 ?_
        refine lv_iload_n hx hcb dX10_areResults_31 rfl (lv_at hl 0 rfl) ?_
        refine lv_ineg hx hcb dX10_areResults_32 ?_
        refine lv_icmp_lt (tgt := 46) hx hcb dX10_areResults_33 (by decide) (fun c_3 => ?_) (fun c_3 => ?_)
        · skip
          have h_ : ¬ okR (mQ z 13) (z.1 10) := fun q_ => absurd c_3 (Int32.not_lt.mpr (by have t_ := (q_ i_ (by omega)).1; rw [em_] at t_; exact t_))
          refine lv_iconst (v := (nI 0)) hx hcb dX10_areResults_46 (by decide) ?_
          exact hret (nI 0) z _ _ _ _ dX10_areResults_47 rfl hR hS (⟨by first | (rw [if_pos h_]; first | done | rfl) | (rw [if_neg h_]; first | done | rfl), rfl⟩)
        · skip
          have h1_ : -(mst (mQ z 13) i_) ≤ z.1 10 i_ := by rw [em_]; exact Int32.not_lt.mp c_3
          refine lv_aload_n hx hcb dX10_areResults_36 rfl (lv_at hl 1 rfl) ?_
          refine x_getR hx hcb hts hown hK xc10 hR (hw.lo (by decide)) (hw.s0 rfl) 12 (by decide) rfl q_1178 dX10_areResults_37 ?_
          refine lv_iload_n hx hcb dX10_areResults_40 rfl (lv_at hl 2 rfl) ?_
          refine x_iald hx hcb hK hR (hw.lo (by decide)) (hw.s0 rfl) (k := i_) (by omega) (by decide) dX10_areResults_41 ?_
          refine lv_iload_n hx hcb dX10_areResults_42 rfl (lv_at hl 0 rfl) ?_
          refine lv_icmp_le (tgt := 48) hx hcb dX10_areResults_43 (by decide) (fun c_4 => ?_) (fun c_4 => ?_)
          · skip
            have h2_ : z.1 10 i_ ≤ mst (mQ z 13) i_ := by rw [em_]; exact c_4
            refine lv_iinc (v := (nI (i_ + 1))) (lv' := [(1, .int (nI (i_ + 1))), (2, .int (nI 0)), (0, .ref (w.2.2 0))]) hx hcb dX10_areResults_48 hl (k := 2) rfl (x_iinc1 _) (by decide) rfl (fun ls hl => ?_)
            refine lv_goto (tgt := 2) hx hcb dX10_areResults_51 (by decide) ?_
            exact ih_2 (i_ + 1) (by omega) (by omega) (okR_s ha_ ⟨h1_, h2_⟩) _ _ _ hR hS (lv_sub hl [2, 0] rfl)
          · skip
            have h_ : ¬ okR (mQ z 13) (z.1 10) := fun q_ => c_4 (by have t_ := (q_ i_ (by omega)).2; rw [em_] at t_; exact t_)
            refine lv_iconst (v := (nI 0)) hx hcb dX10_areResults_46 (by decide) ?_
            exact hret (nI 0) z _ _ _ _ dX10_areResults_47 rfl hR hS (⟨by first | (rw [if_pos h_]; first | done | rfl) | (rw [if_neg h_]; first | done | rfl), rfl⟩)
      · skip
        have c_2 : ¬ (mQ z 13) ≤ i_ := fun h_ => c_2 ((nI_leI (by omega) (by omega)).mpr h_)
        have em_ : mst (mQ z 13) i_ = nI 1000000 := if_pos (by omega)
        refine lv_ldc (v := (nI 1000000)) hx hcb hown (hts _ q_1345) dX10_areResults_18 ?_
        refine lv_goto (tgt := 24) hx hcb dX10_areResults_20 (by decide) ?_
        refine lv_istore_n (lv' := [(2, .int (nI 1000000)), (0, .ref (w.2.2 0)), (1, .int (nI i_))]) hx hcb dX10_areResults_24 rfl hl (by decide) rfl (fun ls hl => ?_)
        refine lv_aload_n hx hcb dX10_areResults_25 rfl (lv_at hl 1 rfl) ?_
        refine x_getR hx hcb hts hown hK xc10 hR (hw.lo (by decide)) (hw.s0 rfl) 12 (by decide) rfl q_1178 dX10_areResults_26 ?_
        refine lv_iload_n hx hcb dX10_areResults_29 rfl (lv_at hl 2 rfl) ?_
        refine x_iald hx hcb hK hR (hw.lo (by decide)) (hw.s0 rfl) (k := i_) (by omega) (by decide) dX10_areResults_30 ?_
        refine lv_iload_n hx hcb dX10_areResults_31 rfl (lv_at hl 0 rfl) ?_
        refine lv_ineg hx hcb dX10_areResults_32 ?_
        refine lv_icmp_lt (tgt := 46) hx hcb dX10_areResults_33 (by decide) (fun c_5 => ?_) (fun c_5 => ?_)
        · skip
          have h_ : ¬ okR (mQ z 13) (z.1 10) := fun q_ => absurd c_5 (Int32.not_lt.mpr (by have t_ := (q_ i_ (by omega)).1; rw [em_] at t_; exact t_))
          refine lv_iconst (v := (nI 0)) hx hcb dX10_areResults_46 (by decide) ?_
          exact hret (nI 0) z _ _ _ _ dX10_areResults_47 rfl hR hS (⟨by first | (rw [if_pos h_]; first | done | rfl) | (rw [if_neg h_]; first | done | rfl), rfl⟩)
        · skip
          have h1_ : -(mst (mQ z 13) i_) ≤ z.1 10 i_ := by rw [em_]; exact Int32.not_lt.mp c_5
          refine lv_aload_n hx hcb dX10_areResults_36 rfl (lv_at hl 1 rfl) ?_
          refine x_getR hx hcb hts hown hK xc10 hR (hw.lo (by decide)) (hw.s0 rfl) 12 (by decide) rfl q_1178 dX10_areResults_37 ?_
          refine lv_iload_n hx hcb dX10_areResults_40 rfl (lv_at hl 2 rfl) ?_
          refine x_iald hx hcb hK hR (hw.lo (by decide)) (hw.s0 rfl) (k := i_) (by omega) (by decide) dX10_areResults_41 ?_
          refine lv_iload_n hx hcb dX10_areResults_42 rfl (lv_at hl 0 rfl) ?_
          refine lv_icmp_le (tgt := 48) hx hcb dX10_areResults_43 (by decide) (fun c_6 => ?_) (fun c_6 => ?_)
          · skip
            have h2_ : z.1 10 i_ ≤ mst (mQ z 13) i_ := by rw [em_]; exact c_6
            refine lv_iinc (v := (nI (i_ + 1))) (lv' := [(1, .int (nI (i_ + 1))), (2, .int (nI 1000000)), (0, .ref (w.2.2 0))]) hx hcb dX10_areResults_48 hl (k := 2) rfl (x_iinc1 _) (by decide) rfl (fun ls hl => ?_)
            refine lv_goto (tgt := 2) hx hcb dX10_areResults_51 (by decide) ?_
            exact ih_2 (i_ + 1) (by omega) (by omega) (okR_s ha_ ⟨h1_, h2_⟩) _ _ _ hR hS (lv_sub hl [2, 0] rfl)
          · skip
            have h_ : ¬ okR (mQ z 13) (z.1 10) := fun q_ => c_6 (by have t_ := (q_ i_ (by omega)).2; rw [em_] at t_; exact t_)
            refine lv_iconst (v := (nI 0)) hx hcb dX10_areResults_46 (by decide) ?_
            exact hret (nI 0) z _ _ _ _ dX10_areResults_47 rfl hR hS (⟨by first | (rw [if_pos h_]; first | done | rfl) | (rw [if_neg h_]; first | done | rfl), rfl⟩)
def rm_X10_yearsUntil : Room := { frames := 1, cells := 0, slots := 0, locals := 22 }
set_option maxRecDepth 100000 in
set_option maxHeartbeats 4000000 in
theorem c_X10_yearsUntil (l : Launch) (G : xGl) (w : xWd) (hw : isM w) (z : xSt) (sz : Nat) (x : Int32) (y : Int32) (hO : rOk z) : xMi l yX10_yearsUntil cX10_yearsUntil 3 (some FieldType.int) rm_X10_yearsUntil G w z sz [.ref (w.2.2 0), .int x, .int y] (fun r z1 => r = (if inR x (mQ z 12) then (if inR y (yQ z) then (if lfQ z x.toNatClampNeg y.toNatClampNeg = 0 ∨ z.1 4 (5 + x.toNatClampNeg) ≠ 0 then (-1) else if nI 0 < z.1 4 3 - (z.1 4 494 - y) then z.1 4 3 - (z.1 4 494 - y) else nI 0) else (-2)) else 0) ∧ z1 = ck z (inR x (mQ z 12))) := by
  refine x_mi (by decide) (Nat.le_of_ble_eq_true rfl) ?_
  intro p e s mt args below meth c ls Q hsz X hR hS hl hret
  obtain ⟨hx, hcb, hml, hown, hts, hlk, hK, hZ⟩ := X
  have hl : lv_has ls 3 [(0, .ref (w.2.2 0)), (1, .int x), (2, .int y)] := hl
  have hm8_ := hO.2.1
  have hd4_ := hO.2.2.2.1
  have hy24_ := hO.2.2.2.2.2
  refine lv_aload_n hx hcb dX10_yearsUntil_0 rfl (lv_at hl 0 rfl) ?_
  refine lv_aload_n hx hcb dX10_yearsUntil_1 rfl (lv_at hl 0 rfl) ?_
  refine lv_iload_n hx hcb dX10_yearsUntil_2 rfl (lv_at hl 1 rfl) ?_
  refine x_ci0 rfl rfl (x_runV hx hcb hml hown hts (c_X10_isMember l G w hw z _ x hO) mv_X10_isMember q_1456 hK hZ hR hS (hw.lo (by decide)) xc10 (hw.s0 rfl) rfl hl.1 rfl (Nat.le_of_ble_eq_true rfl) dX10_yearsUntil_3 ⟨by decide, by decide⟩ ⟨by decide, by decide⟩) hS (fun r_1 z_2 H locs hp_3 hR hS => ?_)
  rw [hp_3.2] at hR; rw [hp_3.1]
  refine x_ci0 rfl rfl (x_runV hx hcb hml hown hts (c_X10_checks l G w hw z _ (if inR x (mQ z 12) then 1 else 0) (inR x (mQ z 12)) rfl) mv_X10_checks q_1460 hK hZ hR hS (hw.lo (by decide)) xc10 (hw.s0 rfl) rfl hl.1 rfl (Nat.le_of_ble_eq_true rfl) dX10_yearsUntil_6 ⟨by decide, by decide⟩ ⟨by decide, by decide⟩) hS (fun r_4 z_5 H locs hp_6 hR hS => ?_)
  rw [hp_6.2] at hR; rw [hp_6.1]
  refine lv_if_ne (tgt := 14) hx hcb dX10_yearsUntil_9 (by decide) (fun c_7 => ?_) (fun c_7 => ?_)
  · skip
    have h_ : inR x (mQ z 12) := Classical.byContradiction (fun q_ => c_7 (if_neg q_))
    have hxk_ := inR_k (n := mQ z 12) (by omega) h_
    obtain ⟨k_, ek_⟩ : ∃ q_, q_ = x.toNatClampNeg := ⟨_, rfl⟩
    rw [← ek_] at hxk_
    have hltk_ := hxk_.2
    rw [hxk_.1] at hl
    refine lv_aload_n hx hcb dX10_yearsUntil_14 rfl (lv_at hl 0 rfl) ?_
    refine lv_iload_n hx hcb dX10_yearsUntil_15 rfl (lv_at hl 2 rfl) ?_
    refine x_ci0 rfl rfl (x_runV hx hcb hml hown hts (c_X10_isClosed l G w hw (ck z (inR x (mQ z 12))) _ y hO) mv_X10_isClosed q_1484 hK hZ hR hS (hw.lo (by decide)) xc10 (hw.s0 rfl) rfl hl.1 rfl (Nat.le_of_ble_eq_true rfl) dX10_yearsUntil_16 ⟨by decide, by decide⟩ ⟨by decide, by decide⟩) hS (fun r_8 z_9 H locs hp_10 hR hS => ?_)
    rw [hp_10.2] at hR; rw [hp_10.1]
    refine x_top (show (if inR y (yQ (ck z (inR x (mQ z 12)))) then 1 else 0) = (if inR y (yQ z) then 1 else 0) from rfl) ?_
    refine lv_if_ne (tgt := 25) hx hcb dX10_yearsUntil_19 (by decide) (fun c_11 => ?_) (fun c_11 => ?_)
    · skip
      have h2_ : inR y (yQ z) := Classical.byContradiction (fun q_ => c_11 (if_neg q_))
      have hxj_ := inR_k (n := yQ z) (by omega) h2_
      obtain ⟨j_, ej_⟩ : ∃ q_, q_ = y.toNatClampNeg := ⟨_, rfl⟩
      rw [← ej_] at hxj_
      have hltj_ := hxj_.2
      rw [hxj_.1] at hl
      refine lv_aload_n hx hcb dX10_yearsUntil_25 rfl (lv_at hl 0 rfl) ?_
      refine lv_iload_n hx hcb dX10_yearsUntil_26 rfl (lv_at hl 1 rfl) ?_
      refine lv_iload_n hx hcb dX10_yearsUntil_27 rfl (lv_at hl 2 rfl) ?_
      refine x_ci0 rfl rfl (x_runV hx hcb hml hown hts (c_X10_left l G w hw (ck z (inR x (mQ z 12))) _ k_ j_ (by omega) (by omega)) mv_X10_left q_1390 hK hZ hR hS (hw.lo (by decide)) xc10 (hw.s0 rfl) rfl hl.1 rfl (Nat.le_of_ble_eq_true rfl) dX10_yearsUntil_28 ⟨by decide, by decide⟩ ⟨by decide, by decide⟩) hS (fun r_12 z_13 H locs hp_14 hR hS => ?_)
      rw [hp_14.2] at hR; rw [hp_14.1]
      refine lv_if_eq (tgt := 45) hx hcb dX10_yearsUntil_31 (by decide) (fun c_15 => ?_) (fun c_15 => ?_)
      · skip
        have h3_ : lfQ z k_ j_ = 0 ∨ z.1 4 (5 + k_) ≠ 0 := Or.inl c_15
        refine lv_iconst (v := (-1)) hx hcb dX10_yearsUntil_45 (by decide) ?_
        exact hret (-1) (ck z (inR x (mQ z 12))) _ _ _ _ dX10_yearsUntil_46 rfl hR hS (⟨by rw [if_pos h_, if_pos h2_, ← ek_, ← ej_, if_pos h3_], rfl⟩)
      · skip
        have h30_ := c_15
        refine lv_aload_n hx hcb dX10_yearsUntil_34 rfl (lv_at hl 0 rfl) ?_
        refine x_getR hx hcb hts hown hK xc10 hR (hw.lo (by decide)) (hw.s0 rfl) 5 (by decide) rfl q_1171 dX10_yearsUntil_35 ?_
        refine lv_iconst (v := (nI 5)) hx hcb dX10_yearsUntil_38 (by decide) ?_
        refine lv_iload_n hx hcb dX10_yearsUntil_39 rfl (lv_at hl 1 rfl) ?_
        refine x_iaddN hx hcb dX10_yearsUntil_40 ?_
        refine x_iald hx hcb hK hR (hw.lo (by decide)) (hw.s0 rfl) (k := (5 + k_)) (by omega) (by decide) dX10_yearsUntil_41 ?_
        refine lv_if_eq (tgt := 47) hx hcb dX10_yearsUntil_42 (by decide) (fun c_16 => ?_) (fun c_16 => ?_)
        · skip
          have h3_ : ¬ (lfQ z k_ j_ = 0 ∨ z.1 4 (5 + k_) ≠ 0) := fun q_ => q_.elim h30_ (fun q_ => q_ c_16)
          refine lv_iconst (v := (nI 0)) hx hcb dX10_yearsUntil_47 (by decide) ?_
          refine lv_aload_n hx hcb dX10_yearsUntil_48 rfl (lv_at hl 0 rfl) ?_
          refine x_getR hx hcb hts hown hK xc10 hR (hw.lo (by decide)) (hw.s0 rfl) 5 (by decide) rfl q_1171 dX10_yearsUntil_49 ?_
          refine lv_iconst (v := (nI 3)) hx hcb dX10_yearsUntil_52 (by decide) ?_
          refine x_iald hx hcb hK hR (hw.lo (by decide)) (hw.s0 rfl) (k := 3) (by omega) (by decide) dX10_yearsUntil_53 ?_
          refine lv_aload_n hx hcb dX10_yearsUntil_54 rfl (lv_at hl 0 rfl) ?_
          refine x_getR hx hcb hts hown hK xc10 hR (hw.lo (by decide)) (hw.s0 rfl) 5 (by decide) rfl q_1171 dX10_yearsUntil_55 ?_
          refine lv_sipush (v := (nI 494)) hx hcb dX10_yearsUntil_58 (by decide) ?_
          refine x_iald hx hcb hK hR (hw.lo (by decide)) (hw.s0 rfl) (k := 494) (by omega) (by decide) dX10_yearsUntil_61 ?_
          refine lv_iload_n hx hcb dX10_yearsUntil_62 rfl (lv_at hl 2 rfl) ?_
          refine lv_isub hx hcb dX10_yearsUntil_63 ?_
          refine lv_isub hx hcb dX10_yearsUntil_64 ?_
          refine x_max hx hcb hml hown hts hl.1 q_1623 (by decide) (Nat.le_of_ble_eq_true rfl) (by decide) (by decide) dX10_yearsUntil_65 ?_
          exact hret (if (nI 0) < (((ck z (inR x (mQ z 12))).1 4 3) - (((ck z (inR x (mQ z 12))).1 4 494) - (nI j_))) then (((ck z (inR x (mQ z 12))).1 4 3) - (((ck z (inR x (mQ z 12))).1 4 494) - (nI j_))) else (nI 0)) (ck z (inR x (mQ z 12))) _ _ _ _ dX10_yearsUntil_68 rfl hR hS (⟨by rw [if_pos h_, if_pos h2_, ← ek_, ← ej_, if_neg h3_, hxj_.1]; rfl, rfl⟩)
        · skip
          have h3_ : lfQ z k_ j_ = 0 ∨ z.1 4 (5 + k_) ≠ 0 := Or.inr c_16
          refine lv_iconst (v := (-1)) hx hcb dX10_yearsUntil_45 (by decide) ?_
          exact hret (-1) (ck z (inR x (mQ z 12))) _ _ _ _ dX10_yearsUntil_46 rfl hR hS (⟨by rw [if_pos h_, if_pos h2_, ← ek_, ← ej_, if_pos h3_], rfl⟩)
    · skip
      have h2_ : ¬ (inR y (yQ z)) := fun q_ => absurd c_11 (by rw [if_pos q_]; decide)
      refine lv_bipush (v := (-2)) hx hcb dX10_yearsUntil_22 (by decide) ?_
      exact hret (-2) (ck z (inR x (mQ z 12))) _ _ _ _ dX10_yearsUntil_24 rfl hR hS (⟨by rw [if_pos h_, if_neg h2_], rfl⟩)
  · skip
    have h_ : ¬ (inR x (mQ z 12)) := fun q_ => absurd c_7 (by rw [if_pos q_]; decide)
    refine lv_iconst (v := (nI 0)) hx hcb dX10_yearsUntil_12 (by decide) ?_
    exact hret (nI 0) (ck z (inR x (mQ z 12))) _ _ _ _ dX10_yearsUntil_13 rfl hR hS (⟨by rw [if_neg h_]; rfl, rfl⟩)
def rm_X10_equityOfYear : Room := { frames := 1, cells := 0, slots := 0, locals := 22 }
set_option maxRecDepth 100000 in
set_option maxHeartbeats 4000000 in
theorem c_X10_equityOfYear (l : Launch) (G : xGl) (w : xWd) (hw : isM w) (z : xSt) (sz : Nat) (x : Int32) (hO : rOk z) : xMi l yX10_equityOfYear cX10_equityOfYear 4 (some FieldType.int) rm_X10_equityOfYear G w z sz [.ref (w.2.2 0), .int x] (fun r z1 => r = (if inR x (yQ z) then bx_sum (fun m => lfQ z m x.toNatClampNeg) (mQ z 12) else (-2)) ∧ z1 = u1 z 0 0 0) := by
  refine x_mi (by decide) (Nat.le_of_ble_eq_true rfl) ?_
  intro p e s mt args below meth c ls Q hsz X hR hS hl hret
  obtain ⟨hx, hcb, hml, hown, hts, hlk, hK, hZ⟩ := X
  have hl : lv_has ls 4 [(0, .ref (w.2.2 0)), (1, .int x)] := hl
  have hm8_ := hO.2.1
  have hd4_ := hO.2.2.2.1
  have hy24_ := hO.2.2.2.2.2
  refine lv_aload_n hx hcb dX10_equityOfYear_0 rfl (lv_at hl 0 rfl) ?_
  refine lv_iconst (v := (nI 0)) hx hcb dX10_equityOfYear_1 (by decide) ?_
  refine x_putI hx hcb hts hown hK xc10 hR hS (hw.lo (by decide)) (hw.s0 rfl) 0 (by decide) rfl q_1166 rfl (v := 0) rfl rfl dX10_equityOfYear_2 (fun H locs hR hS => ?_)
  refine lv_aload_n hx hcb dX10_equityOfYear_5 rfl (lv_at hl 0 rfl) ?_
  refine lv_iload_n hx hcb dX10_equityOfYear_6 rfl (lv_at hl 1 rfl) ?_
  refine x_ci0 rfl rfl (x_runV hx hcb hml hown hts (c_X10_isClosed l G w hw (u1 z 0 0 0) _ x hO) mv_X10_isClosed q_1484 hK hZ hR hS (hw.lo (by decide)) xc10 (hw.s0 rfl) rfl hl.1 rfl (Nat.le_of_ble_eq_true rfl) dX10_equityOfYear_7 ⟨by decide, by decide⟩ ⟨by decide, by decide⟩) hS (fun r_1 z_2 H locs hp_3 hR hS => ?_)
  rw [hp_3.2] at hR; rw [hp_3.1]
  refine x_top (show (if inR x (yQ (u1 z 0 0 0)) then 1 else 0) = (if inR x (yQ z) then 1 else 0) from rfl) ?_
  refine lv_if_ne (tgt := 16) hx hcb dX10_equityOfYear_10 (by decide) (fun c_4 => ?_) (fun c_4 => ?_)
  · skip
    have h_ : inR x (yQ z) := Classical.byContradiction (fun q_ => c_4 (if_neg q_))
    have hxk_ := inR_k (n := yQ z) (by omega) h_
    obtain ⟨k_, ek_⟩ : ∃ q_, q_ = x.toNatClampNeg := ⟨_, rfl⟩
    rw [← ek_] at hxk_
    have hltk_ := hxk_.2
    rw [hxk_.1] at hl
    refine lv_iconst (v := (nI 0)) hx hcb dX10_equityOfYear_16 (by decide) ?_
    refine lv_istore_n (lv' := [(2, .int (nI 0)), (0, .ref (w.2.2 0)), (1, .int (nI k_))]) hx hcb dX10_equityOfYear_17 rfl hl (by decide) rfl (fun ls hl => ?_)
    refine lv_iconst (v := (nI 0)) hx hcb dX10_equityOfYear_18 (by decide) ?_
    refine lv_istore_n (lv' := [(3, .int (nI 0)), (2, .int (nI 0)), (0, .ref (w.2.2 0)), (1, .int (nI k_))]) hx hcb dX10_equityOfYear_19 rfl hl (by decide) rfl (fun ls hl => ?_)
    rw [show (nI 0) = (bx_sum (fun m => lfQ z m x.toNatClampNeg) 0) from rfl] at hl
    suffices LP_20 : ∀ (nn : Nat) (i_ : Nat) (_ : mQ z 12 - i_ < nn) (hi_ : i_ ≤ mQ z 12) (H : Heap) (locs : List Loc) (ls : Array Slot), Rh G w (u1 z 0 0 0) H → va_S (xA w s.heap.size) s.heap H locs → lv_has ls 4 [(0, .ref (w.2.2 0)), (1, .int (nI k_)), (2, .int (bx_sum (fun m => lfQ z m x.toNatClampNeg) i_)), (3, .int (nI i_))] → W p l e rm_X10_equityOfYear s mt args below meth c H locs 0 0 Q (F0 mt 20 ls []) from LP_20 ((_) + 1) 0 (Nat.lt_succ_self _) (Nat.zero_le _) _ _ _ hR hS (lv_sub hl [2, 3, 1, 0] rfl)
    intro nn
    induction nn with
    | zero => intro i_ hm_ ; exact absurd hm_ (Nat.not_lt_zero _)
    | succ nn ih_20 =>
      intro i_ hm_20 hi_ H locs ls hR hS hl
      refine lv_iload_n hx hcb dX10_equityOfYear_20 rfl (lv_at hl 3 rfl) ?_
      refine lv_aload_n hx hcb dX10_equityOfYear_21 rfl (lv_at hl 0 rfl) ?_
      refine x_getR hx hcb hts hown hK xc10 hR (hw.lo (by decide)) (hw.s0 rfl) 3 (by decide) rfl q_1169 dX10_equityOfYear_22 ?_
      refine lv_bipush (v := (nI 12)) hx hcb dX10_equityOfYear_25 (by decide) ?_
      refine x_iald hx hcb hK hR (hw.lo (by decide)) (hw.s0 rfl) (k := 12) (by omega) (by decide) dX10_equityOfYear_27 ?_
      refine x_top (show ((u1 z 0 0 0).1 2 12) = (nI (mQ z 12)) from hO.1) ?_
      refine lv_icmp_ge (tgt := 46) hx hcb dX10_equityOfYear_28 (by decide) (fun c_5 => ?_) (fun c_5 => ?_)
      · skip
        have c_5 : (mQ z 12) ≤ i_ := (nI_leI (by omega) (by omega)).mp c_5
        obtain rfl : mQ z 12 = i_ := by omega
        refine lv_iload_n hx hcb dX10_equityOfYear_46 rfl (lv_at hl 2 rfl) ?_
        exact hret (bx_sum (fun m => lfQ z m x.toNatClampNeg) (mQ z 12)) (u1 z 0 0 0) _ _ _ _ dX10_equityOfYear_47 rfl hR hS (⟨by rw [if_pos h_], rfl⟩)
      · skip
        have c_5 : ¬ (mQ z 12) ≤ i_ := fun h_ => c_5 ((nI_leI (by omega) (by omega)).mpr h_)
        refine lv_iload_n hx hcb dX10_equityOfYear_31 rfl (lv_at hl 2 rfl) ?_
        refine lv_aload_n hx hcb dX10_equityOfYear_32 rfl (lv_at hl 0 rfl) ?_
        refine lv_iload_n hx hcb dX10_equityOfYear_33 rfl (lv_at hl 3 rfl) ?_
        refine lv_iload_n hx hcb dX10_equityOfYear_34 rfl (lv_at hl 1 rfl) ?_
        refine x_ci0 rfl rfl (x_runV hx hcb hml hown hts (c_X10_left l G w hw (u1 z 0 0 0) _ i_ k_ (by omega) (by omega)) mv_X10_left q_1390 hK hZ hR hS (hw.lo (by decide)) xc10 (hw.s0 rfl) rfl hl.1 rfl (Nat.le_of_ble_eq_true rfl) dX10_equityOfYear_35 ⟨by decide, by decide⟩ ⟨by decide, by decide⟩) hS (fun r_6 z_7 H locs hp_8 hR hS => ?_)
        rw [hp_8.2] at hR; rw [hp_8.1]
        refine x_top (show (lfQ (u1 z 0 0 0) i_ k_) = (lfQ z i_ k_) from rfl) ?_
        refine lv_iadd hx hcb dX10_equityOfYear_38 ?_
        refine lv_istore_n (lv' := [(2, .int ((bx_sum (fun m => lfQ z m x.toNatClampNeg) i_) + (lfQ z i_ k_))), (0, .ref (w.2.2 0)), (1, .int (nI k_)), (3, .int (nI i_))]) hx hcb dX10_equityOfYear_39 rfl hl (by decide) rfl (fun ls hl => ?_)
        refine lv_iinc (v := (nI (i_ + 1))) (lv' := [(3, .int (nI (i_ + 1))), (2, .int ((bx_sum (fun m => lfQ z m x.toNatClampNeg) i_) + (lfQ z i_ k_))), (0, .ref (w.2.2 0)), (1, .int (nI k_))]) hx hcb dX10_equityOfYear_40 hl (k := 3) rfl (x_iinc1 _) (by decide) rfl (fun ls hl => ?_)
        refine lv_goto (tgt := 20) hx hcb dX10_equityOfYear_43 (by decide) ?_
        rw [show ((bx_sum (fun m => lfQ z m x.toNatClampNeg) i_) + (lfQ z i_ k_)) = (bx_sum (fun m => lfQ z m x.toNatClampNeg) (i_ + 1)) from by rw [ek_]; rfl] at hl
        exact ih_20 (i_ + 1) (by omega) (by omega) _ _ _ hR hS (lv_sub hl [2, 3, 1, 0] rfl)
  · skip
    have h_ : ¬ (inR x (yQ z)) := fun q_ => absurd c_4 (by rw [if_pos q_]; decide)
    refine lv_bipush (v := (-2)) hx hcb dX10_equityOfYear_13 (by decide) ?_
    exact hret (-2) (u1 z 0 0 0) _ _ _ _ dX10_equityOfYear_15 rfl hR hS (⟨by rw [if_neg h_], rfl⟩)
def rm_X10_membersIn : Room := { frames := 0, cells := 0, slots := 0, locals := 0 }
set_option maxRecDepth 100000 in
set_option maxHeartbeats 4000000 in
theorem c_X10_membersIn (l : Launch) (G : xGl) (w : xWd) (hw : isM w) (z : xSt) (sz : Nat) (x : Int32) (hO : rOk z) : xMi l yX10_membersIn cX10_membersIn 4 (some FieldType.int) rm_X10_membersIn G w z sz [.ref (w.2.2 0), .int x] (fun r z1 => r = (if ¬ x < 0 ∧ x ≤ nI 2 then nI (ctN (fun m => decide (z.1 4 (5 + m) = x)) (mQ z 12)) else (-2)) ∧ z1 = u1 z 0 0 0) := by
  refine x_mi (by decide) (Nat.le_of_ble_eq_true rfl) ?_
  intro p e s mt args below meth c ls Q hsz X hR hS hl hret
  obtain ⟨hx, hcb, hml, hown, hts, hlk, hK, hZ⟩ := X
  have hl : lv_has ls 4 [(0, .ref (w.2.2 0)), (1, .int x)] := hl
  have hm8_ := hO.2.1
  have hd4_ := hO.2.2.2.1
  have hy24_ := hO.2.2.2.2.2
  refine lv_aload_n hx hcb dX10_membersIn_0 rfl (lv_at hl 0 rfl) ?_
  refine lv_iconst (v := (nI 0)) hx hcb dX10_membersIn_1 (by decide) ?_
  refine x_putI hx hcb hts hown hK xc10 hR hS (hw.lo (by decide)) (hw.s0 rfl) 0 (by decide) rfl q_1166 rfl (v := 0) rfl rfl dX10_membersIn_2 (fun H locs hR hS => ?_)
  refine lv_iload_n hx hcb dX10_membersIn_5 rfl (lv_at hl 1 rfl) ?_
  refine lv_if_lt (tgt := 14) hx hcb dX10_membersIn_6 (by decide) (fun c_1 => ?_) (fun c_1 => ?_)
  · skip
    have h_ : ¬ (¬ x < 0 ∧ x ≤ nI 2) := fun q_ => q_.1 c_1
    refine lv_bipush (v := (-2)) hx hcb dX10_membersIn_14 (by decide) ?_
    exact hret (-2) (u1 z 0 0 0) _ _ _ _ dX10_membersIn_16 rfl hR hS (⟨by rw [if_neg h_], rfl⟩)
  · skip
    have h0_ := c_1
    refine lv_iload_n hx hcb dX10_membersIn_9 rfl (lv_at hl 1 rfl) ?_
    refine lv_iconst (v := (nI 2)) hx hcb dX10_membersIn_10 (by decide) ?_
    refine lv_icmp_le (tgt := 17) hx hcb dX10_membersIn_11 (by decide) (fun c_2 => ?_) (fun c_2 => ?_)
    · skip
      have h_ : ¬ x < 0 ∧ x ≤ nI 2 := ⟨h0_, c_2⟩
      refine lv_iconst (v := (nI 0)) hx hcb dX10_membersIn_17 (by decide) ?_
      refine lv_istore_n (lv' := [(2, .int (nI 0)), (0, .ref (w.2.2 0)), (1, .int x)]) hx hcb dX10_membersIn_18 rfl hl (by decide) rfl (fun ls hl => ?_)
      refine lv_iconst (v := (nI 0)) hx hcb dX10_membersIn_19 (by decide) ?_
      refine lv_istore_n (lv' := [(3, .int (nI 0)), (2, .int (nI 0)), (0, .ref (w.2.2 0)), (1, .int x)]) hx hcb dX10_membersIn_20 rfl hl (by decide) rfl (fun ls hl => ?_)
      rw [show (nI 0) = (nI (ctN (fun m => decide (z.1 4 (5 + m) = x)) 0)) from rfl] at hl
      suffices LP_21 : ∀ (nn : Nat) (i_ : Nat) (_ : mQ z 12 - i_ < nn) (hi_ : i_ ≤ mQ z 12) (H : Heap) (locs : List Loc) (ls : Array Slot), Rh G w (u1 z 0 0 0) H → va_S (xA w s.heap.size) s.heap H locs → lv_has ls 4 [(0, .ref (w.2.2 0)), (1, .int x), (2, .int (nI (ctN (fun m => decide (z.1 4 (5 + m) = x)) i_))), (3, .int (nI i_))] → W p l e rm_X10_membersIn s mt args below meth c H locs 0 0 Q (F0 mt 21 ls []) from LP_21 ((_) + 1) 0 (Nat.lt_succ_self _) (Nat.zero_le _) _ _ _ hR hS (lv_sub hl [2, 3, 1, 0] rfl)
      intro nn
      induction nn with
      | zero => intro i_ hm_ ; exact absurd hm_ (Nat.not_lt_zero _)
      | succ nn ih_21 =>
        intro i_ hm_21 hi_ H locs ls hR hS hl
        refine lv_iload_n hx hcb dX10_membersIn_21 rfl (lv_at hl 3 rfl) ?_
        refine lv_aload_n hx hcb dX10_membersIn_22 rfl (lv_at hl 0 rfl) ?_
        refine x_getR hx hcb hts hown hK xc10 hR (hw.lo (by decide)) (hw.s0 rfl) 3 (by decide) rfl q_1169 dX10_membersIn_23 ?_
        refine lv_bipush (v := (nI 12)) hx hcb dX10_membersIn_26 (by decide) ?_
        refine x_iald hx hcb hK hR (hw.lo (by decide)) (hw.s0 rfl) (k := 12) (by omega) (by decide) dX10_membersIn_28 ?_
        refine x_top (show ((u1 z 0 0 0).1 2 12) = (nI (mQ z 12)) from hO.1) ?_
        refine lv_icmp_ge (tgt := 58) hx hcb dX10_membersIn_29 (by decide) (fun c_3 => ?_) (fun c_3 => ?_)
        · skip
          have c_3 : (mQ z 12) ≤ i_ := (nI_leI (by omega) (by omega)).mp c_3
          obtain rfl : mQ z 12 = i_ := by omega
          refine lv_iload_n hx hcb dX10_membersIn_58 rfl (lv_at hl 2 rfl) ?_
          exact hret (nI (ctN (fun m => decide (z.1 4 (5 + m) = x)) (mQ z 12))) (u1 z 0 0 0) _ _ _ _ dX10_membersIn_59 rfl hR hS (⟨by rw [if_pos h_], rfl⟩)
        · skip
          have c_3 : ¬ (mQ z 12) ≤ i_ := fun h_ => c_3 ((nI_leI (by omega) (by omega)).mpr h_)
          refine lv_iload_n hx hcb dX10_membersIn_32 rfl (lv_at hl 2 rfl) ?_
          refine lv_aload_n hx hcb dX10_membersIn_33 rfl (lv_at hl 0 rfl) ?_
          refine x_getR hx hcb hts hown hK xc10 hR (hw.lo (by decide)) (hw.s0 rfl) 5 (by decide) rfl q_1171 dX10_membersIn_34 ?_
          refine lv_iconst (v := (nI 5)) hx hcb dX10_membersIn_37 (by decide) ?_
          refine lv_iload_n hx hcb dX10_membersIn_38 rfl (lv_at hl 3 rfl) ?_
          refine x_iaddN hx hcb dX10_membersIn_39 ?_
          refine x_iald hx hcb hK hR (hw.lo (by decide)) (hw.s0 rfl) (k := (5 + i_)) (by omega) (by decide) dX10_membersIn_40 ?_
          refine x_top (show ((u1 z 0 0 0).1 4 (5 + i_)) = (z.1 4 (5 + i_)) from rfl) ?_
          refine lv_iload_n hx hcb dX10_membersIn_41 rfl (lv_at hl 1 rfl) ?_
          refine lv_icmp_ne (tgt := 49) hx hcb dX10_membersIn_42 (by decide) (fun c_4 => ?_) (fun c_4 => ?_)
          · skip
            have hq_ := c_4
            refine lv_iconst (v := (nI 0)) hx hcb dX10_membersIn_49 (by decide) ?_
            refine x_iaddN hx hcb dX10_membersIn_50 ?_
            refine lv_istore_n (lv' := [(2, .int (nI ((ctN (fun m => decide (z.1 4 (5 + m) = x)) i_) + 0))), (0, .ref (w.2.2 0)), (1, .int x), (3, .int (nI i_))]) hx hcb dX10_membersIn_51 rfl hl (by decide) rfl (fun ls hl => ?_)
            refine lv_iinc (v := (nI (i_ + 1))) (lv' := [(3, .int (nI (i_ + 1))), (2, .int (nI ((ctN (fun m => decide (z.1 4 (5 + m) = x)) i_) + 0))), (0, .ref (w.2.2 0)), (1, .int x)]) hx hcb dX10_membersIn_52 hl (k := 3) rfl (x_iinc1 _) (by decide) rfl (fun ls hl => ?_)
            refine lv_goto (tgt := 21) hx hcb dX10_membersIn_55 (by decide) ?_
            rw [show (nI ((ctN (fun m => decide (z.1 4 (5 + m) = x)) i_) + 0)) = (nI (ctN (fun m => decide (z.1 4 (5 + m) = x)) (i_ + 1))) from by first | rw [ctN_y (decide_eq_true hq_)] | (rw [ctN_n (fun q_ => hq_ (of_decide_eq_true q_))]; rfl)] at hl
            exact ih_21 (i_ + 1) (by omega) (by omega) _ _ _ hR hS (lv_sub hl [2, 3, 1, 0] rfl)
          · skip
            have hq_ := c_4
            refine lv_iconst (v := (nI 1)) hx hcb dX10_membersIn_45 (by decide) ?_
            refine lv_goto (tgt := 50) hx hcb dX10_membersIn_46 (by decide) ?_
            refine x_iaddN hx hcb dX10_membersIn_50 ?_
            refine lv_istore_n (lv' := [(2, .int (nI ((ctN (fun m => decide (z.1 4 (5 + m) = x)) i_) + 1))), (0, .ref (w.2.2 0)), (1, .int x), (3, .int (nI i_))]) hx hcb dX10_membersIn_51 rfl hl (by decide) rfl (fun ls hl => ?_)
            refine lv_iinc (v := (nI (i_ + 1))) (lv' := [(3, .int (nI (i_ + 1))), (2, .int (nI ((ctN (fun m => decide (z.1 4 (5 + m) = x)) i_) + 1))), (0, .ref (w.2.2 0)), (1, .int x)]) hx hcb dX10_membersIn_52 hl (k := 3) rfl (x_iinc1 _) (by decide) rfl (fun ls hl => ?_)
            refine lv_goto (tgt := 21) hx hcb dX10_membersIn_55 (by decide) ?_
            rw [show (nI ((ctN (fun m => decide (z.1 4 (5 + m) = x)) i_) + 1)) = (nI (ctN (fun m => decide (z.1 4 (5 + m) = x)) (i_ + 1))) from by first | rw [ctN_y (decide_eq_true hq_)] | (rw [ctN_n (fun q_ => hq_ (of_decide_eq_true q_))]; rfl)] at hl
            exact ih_21 (i_ + 1) (by omega) (by omega) _ _ _ hR hS (lv_sub hl [2, 3, 1, 0] rfl)
    · skip
      have h_ : ¬ (¬ x < 0 ∧ x ≤ nI 2) := fun q_ => c_2 q_.2
      refine lv_bipush (v := (-2)) hx hcb dX10_membersIn_14 (by decide) ?_
      exact hret (-2) (u1 z 0 0 0) _ _ _ _ dX10_membersIn_16 rfl hR hS (⟨by rw [if_neg h_], rfl⟩)
def rm_X10_isUniform : Room := { frames := 2, cells := 0, slots := 0, locals := 46 }
set_option maxRecDepth 100000 in
set_option maxHeartbeats 4000000 in
theorem c_X10_isUniform (l : Launch) (G : xGl) (w : xWd) (hw : isM w) (z : xSt) (sz : Nat) (x : Int32) (hO : rOk z) : xMi l yX10_isUniform cX10_isUniform 2 (some FieldType.boolean) rm_X10_isUniform G w z sz [.ref (w.2.2 0), .int x] (fun r z1 => r = (if inR x (mQ z 12) ∧ (bx_sum (fun y => if z.1 4 (253 + 24 * x.toNatClampNeg + y) = 0 then lfQ z x.toNatClampNeg y else 0) (yQ z) = 0 ∨ bx_sum (fun y => if z.1 4 (253 + 24 * x.toNatClampNeg + y) = 1 then lfQ z x.toNatClampNeg y else 0) (yQ z) = 0) then 1 else 0) ∧ z1 = ck z (inR x (mQ z 12))) := by
  refine x_mi (by decide) (Nat.le_of_ble_eq_true rfl) ?_
  intro p e s mt args below meth c ls Q hsz X hR hS hl hret
  obtain ⟨hx, hcb, hml, hown, hts, hlk, hK, hZ⟩ := X
  have hl : lv_has ls 2 [(0, .ref (w.2.2 0)), (1, .int x)] := hl
  have hm8_ := hO.2.1
  have hd4_ := hO.2.2.2.1
  have hy24_ := hO.2.2.2.2.2
  refine lv_aload_n hx hcb dX10_isUniform_0 rfl (lv_at hl 0 rfl) ?_
  refine lv_aload_n hx hcb dX10_isUniform_1 rfl (lv_at hl 0 rfl) ?_
  refine lv_iload_n hx hcb dX10_isUniform_2 rfl (lv_at hl 1 rfl) ?_
  refine x_ci0 rfl rfl (x_runV hx hcb hml hown hts (c_X10_isMember l G w hw z _ x hO) mv_X10_isMember q_1456 hK hZ hR hS (hw.lo (by decide)) xc10 (hw.s0 rfl) rfl hl.1 rfl (Nat.le_of_ble_eq_true rfl) dX10_isUniform_3 ⟨by decide, by decide⟩ ⟨by decide, by decide⟩) hS (fun r_1 z_2 H locs hp_3 hR hS => ?_)
  rw [hp_3.2] at hR; rw [hp_3.1]
  refine x_ci0 rfl rfl (x_runV hx hcb hml hown hts (c_X10_checks l G w hw z _ (if inR x (mQ z 12) then 1 else 0) (inR x (mQ z 12)) rfl) mv_X10_checks q_1460 hK hZ hR hS (hw.lo (by decide)) xc10 (hw.s0 rfl) rfl hl.1 rfl (Nat.le_of_ble_eq_true rfl) dX10_isUniform_6 ⟨by decide, by decide⟩ ⟨by decide, by decide⟩) hS (fun r_4 z_5 H locs hp_6 hR hS => ?_)
  rw [hp_6.2] at hR; rw [hp_6.1]
  refine lv_if_eq (tgt := 34) hx hcb dX10_isUniform_9 (by decide) (fun c_7 => ?_) (fun c_7 => ?_)
  · skip
    have h_ : ¬ (inR x (mQ z 12)) := fun q_ => absurd c_7 (by rw [if_pos q_]; decide)
    refine lv_iconst (v := (nI 0)) hx hcb dX10_isUniform_34 (by decide) ?_
    exact hret (nI 0) (ck z (inR x (mQ z 12))) _ _ _ _ dX10_isUniform_35 rfl hR hS (⟨by first | (rw [if_neg (fun q_ => h_ q_.1)]; rfl) | (rw [← ek_, if_pos ⟨h_, h2_⟩]; rfl) | (rw [← ek_, if_neg (fun q_ => h2_ q_.2)]; rfl), rfl⟩)
  · skip
    have h_ : inR x (mQ z 12) := Classical.byContradiction (fun q_ => c_7 (if_neg q_))
    have hxk_ := inR_k (n := mQ z 12) (by omega) h_
    obtain ⟨k_, ek_⟩ : ∃ q_, q_ = x.toNatClampNeg := ⟨_, rfl⟩
    rw [← ek_] at hxk_
    have hltk_ := hxk_.2
    rw [hxk_.1] at hl
    refine lv_aload_n hx hcb dX10_isUniform_12 rfl (lv_at hl 0 rfl) ?_
    refine lv_iload_n hx hcb dX10_isUniform_13 rfl (lv_at hl 1 rfl) ?_
    refine lv_iconst (v := (nI 0)) hx hcb dX10_isUniform_14 (by decide) ?_
    refine x_ci0 rfl rfl (x_runV hx hcb hml hown hts (c_X10_equityOfKind l G w hw (ck z (inR x (mQ z 12))) _ k_ 0 hO (by omega)) mv_X10_equityOfKind q_1500 hK hZ hR hS (hw.lo (by decide)) xc10 (hw.s0 rfl) rfl hl.1 rfl (Nat.le_of_ble_eq_true rfl) dX10_isUniform_15 ⟨by decide, by decide⟩ ⟨by decide, by decide⟩) hS (fun r_8 z_9 H locs hp_10 hR hS => ?_)
    rw [hp_10.2] at hR; rw [hp_10.1]
    refine x_top (show (bx_sum (fun y => if (ck z (inR x (mQ z 12))).1 4 (253 + 24 * k_ + y) = 0 then lfQ (ck z (inR x (mQ z 12))) k_ y else 0) (yQ (ck z (inR x (mQ z 12))))) = (bx_sum (fun y => if z.1 4 (253 + 24 * k_ + y) = 0 then lfQ z k_ y else 0) (yQ z)) from rfl) ?_
    refine lv_if_eq (tgt := 30) hx hcb dX10_isUniform_18 (by decide) (fun c_11 => ?_) (fun c_11 => ?_)
    · skip
      have h2_ : bx_sum (fun y => if z.1 4 (253 + 24 * k_ + y) = 0 then lfQ z k_ y else 0) (yQ z) = 0 ∨ bx_sum (fun y => if z.1 4 (253 + 24 * k_ + y) = 1 then lfQ z k_ y else 0) (yQ z) = 0 := Or.inl c_11
      refine lv_iconst (v := (nI 1)) hx hcb dX10_isUniform_30 (by decide) ?_
      refine lv_goto (tgt := 35) hx hcb dX10_isUniform_31 (by decide) ?_
      exact hret (nI 1) (ck z (inR x (mQ z 12))) _ _ _ _ dX10_isUniform_35 rfl hR hS (⟨by first | (rw [if_neg (fun q_ => h_ q_.1)]; rfl) | (rw [← ek_, if_pos ⟨h_, h2_⟩]; rfl) | (rw [← ek_, if_neg (fun q_ => h2_ q_.2)]; rfl), rfl⟩)
    · skip
      have h0_ := c_11
      refine lv_aload_n hx hcb dX10_isUniform_21 rfl (lv_at hl 0 rfl) ?_
      refine lv_iload_n hx hcb dX10_isUniform_22 rfl (lv_at hl 1 rfl) ?_
      refine lv_iconst (v := (nI 1)) hx hcb dX10_isUniform_23 (by decide) ?_
      refine x_ci0 rfl rfl (x_runV hx hcb hml hown hts (c_X10_equityOfKind l G w hw (ck z (inR x (mQ z 12))) _ k_ 1 hO (by omega)) mv_X10_equityOfKind q_1500 hK hZ hR hS (hw.lo (by decide)) xc10 (hw.s0 rfl) rfl hl.1 rfl (Nat.le_of_ble_eq_true rfl) dX10_isUniform_24 ⟨by decide, by decide⟩ ⟨by decide, by decide⟩) hS (fun r_12 z_13 H locs hp_14 hR hS => ?_)
      rw [hp_14.2] at hR; rw [hp_14.1]
      refine x_top (show (bx_sum (fun y => if (ck z (inR x (mQ z 12))).1 4 (253 + 24 * k_ + y) = 1 then lfQ (ck z (inR x (mQ z 12))) k_ y else 0) (yQ (ck z (inR x (mQ z 12))))) = (bx_sum (fun y => if z.1 4 (253 + 24 * k_ + y) = 1 then lfQ z k_ y else 0) (yQ z)) from rfl) ?_
      refine lv_if_ne (tgt := 34) hx hcb dX10_isUniform_27 (by decide) (fun c_15 => ?_) (fun c_15 => ?_)
      · skip
        have h2_ : ¬ (bx_sum (fun y => if z.1 4 (253 + 24 * k_ + y) = 0 then lfQ z k_ y else 0) (yQ z) = 0 ∨ bx_sum (fun y => if z.1 4 (253 + 24 * k_ + y) = 1 then lfQ z k_ y else 0) (yQ z) = 0) := fun q_ => q_.elim h0_ c_15
        refine lv_iconst (v := (nI 0)) hx hcb dX10_isUniform_34 (by decide) ?_
        exact hret (nI 0) (ck z (inR x (mQ z 12))) _ _ _ _ dX10_isUniform_35 rfl hR hS (⟨by first | (rw [if_neg (fun q_ => h_ q_.1)]; rfl) | (rw [← ek_, if_pos ⟨h_, h2_⟩]; rfl) | (rw [← ek_, if_neg (fun q_ => h2_ q_.2)]; rfl), rfl⟩)
      · skip
        have h2_ : bx_sum (fun y => if z.1 4 (253 + 24 * k_ + y) = 0 then lfQ z k_ y else 0) (yQ z) = 0 ∨ bx_sum (fun y => if z.1 4 (253 + 24 * k_ + y) = 1 then lfQ z k_ y else 0) (yQ z) = 0 := Or.inr c_15
        refine lv_iconst (v := (nI 1)) hx hcb dX10_isUniform_30 (by decide) ?_
        refine lv_goto (tgt := 35) hx hcb dX10_isUniform_31 (by decide) ?_
        exact hret (nI 1) (ck z (inR x (mQ z 12))) _ _ _ _ dX10_isUniform_35 rfl hR hS (⟨by first | (rw [if_neg (fun q_ => h_ q_.1)]; rfl) | (rw [← ek_, if_pos ⟨h_, h2_⟩]; rfl) | (rw [← ek_, if_neg (fun q_ => h2_ q_.2)]; rfl), rfl⟩)
def rm_X10_oldestYear : Room := { frames := 1, cells := 0, slots := 0, locals := 22 }
set_option maxRecDepth 100000 in
set_option maxHeartbeats 4000000 in
theorem c_X10_oldestYear (l : Launch) (G : xGl) (w : xWd) (hw : isM w) (z : xSt) (sz : Nat) (x : Int32) (hO : rOk z) : xMi l yX10_oldestYear cX10_oldestYear 3 (some FieldType.int) rm_X10_oldestYear G w z sz [.ref (w.2.2 0), .int x] (fun r z1 => r = (if inR x (mQ z 12) then xff (fun y => decide (0 < lfQ z x.toNatClampNeg y)) (yQ z) 0 else 0) ∧ z1 = ck z (inR x (mQ z 12))) := by
  refine x_mi (by decide) (Nat.le_of_ble_eq_true rfl) ?_
  intro p e s mt args below meth c ls Q hsz X hR hS hl hret
  obtain ⟨hx, hcb, hml, hown, hts, hlk, hK, hZ⟩ := X
  have hl : lv_has ls 3 [(0, .ref (w.2.2 0)), (1, .int x)] := hl
  have hm8_ := hO.2.1
  have hd4_ := hO.2.2.2.1
  have hy24_ := hO.2.2.2.2.2
  refine lv_aload_n hx hcb dX10_oldestYear_0 rfl (lv_at hl 0 rfl) ?_
  refine lv_aload_n hx hcb dX10_oldestYear_1 rfl (lv_at hl 0 rfl) ?_
  refine lv_iload_n hx hcb dX10_oldestYear_2 rfl (lv_at hl 1 rfl) ?_
  refine x_ci0 rfl rfl (x_runV hx hcb hml hown hts (c_X10_isMember l G w hw z _ x hO) mv_X10_isMember q_1456 hK hZ hR hS (hw.lo (by decide)) xc10 (hw.s0 rfl) rfl hl.1 rfl (Nat.le_of_ble_eq_true rfl) dX10_oldestYear_3 ⟨by decide, by decide⟩ ⟨by decide, by decide⟩) hS (fun r_1 z_2 H locs hp_3 hR hS => ?_)
  rw [hp_3.2] at hR; rw [hp_3.1]
  refine x_ci0 rfl rfl (x_runV hx hcb hml hown hts (c_X10_checks l G w hw z _ (if inR x (mQ z 12) then 1 else 0) (inR x (mQ z 12)) rfl) mv_X10_checks q_1460 hK hZ hR hS (hw.lo (by decide)) xc10 (hw.s0 rfl) rfl hl.1 rfl (Nat.le_of_ble_eq_true rfl) dX10_oldestYear_6 ⟨by decide, by decide⟩ ⟨by decide, by decide⟩) hS (fun r_4 z_5 H locs hp_6 hR hS => ?_)
  rw [hp_6.2] at hR; rw [hp_6.1]
  refine lv_if_ne (tgt := 14) hx hcb dX10_oldestYear_9 (by decide) (fun c_7 => ?_) (fun c_7 => ?_)
  · skip
    have h_ : inR x (mQ z 12) := Classical.byContradiction (fun q_ => c_7 (if_neg q_))
    have hxk_ := inR_k (n := mQ z 12) (by omega) h_
    obtain ⟨k_, ek_⟩ : ∃ q_, q_ = x.toNatClampNeg := ⟨_, rfl⟩
    rw [← ek_] at hxk_
    have hltk_ := hxk_.2
    rw [hxk_.1] at hl
    refine lv_iconst (v := (nI 0)) hx hcb dX10_oldestYear_14 (by decide) ?_
    refine lv_istore_n (lv' := [(2, .int (nI 0)), (0, .ref (w.2.2 0)), (1, .int (nI k_))]) hx hcb dX10_oldestYear_15 rfl hl (by decide) rfl (fun ls hl => ?_)
    suffices LP_16 : ∀ (nn : Nat) (i_ : Nat) (_ : yQ z - i_ < nn) (hi_ : i_ ≤ yQ z) (hf_ : xff (fun y => decide (0 < lfQ z k_ y)) (yQ z) 0 = xff (fun y => decide (0 < lfQ z k_ y)) (yQ z - i_) i_) (H : Heap) (locs : List Loc) (ls : Array Slot), Rh G w (ck z (inR x (mQ z 12))) H → va_S (xA w s.heap.size) s.heap H locs → lv_has ls 3 [(0, .ref (w.2.2 0)), (1, .int (nI k_)), (2, .int (nI i_))] → W p l e rm_X10_oldestYear s mt args below meth c H locs 0 0 Q (F0 mt 16 ls []) from LP_16 ((_) + 1) 0 (Nat.lt_succ_self _) (Nat.zero_le _) rfl _ _ _ hR hS (lv_sub hl [1, 2, 0] rfl)
    intro nn
    induction nn with
    | zero => intro i_ hm_ ; exact absurd hm_ (Nat.not_lt_zero _)
    | succ nn ih_16 =>
      intro i_ hm_16 hi_ hf_ H locs ls hR hS hl
      refine lv_iload_n hx hcb dX10_oldestYear_16 rfl (lv_at hl 2 rfl) ?_
      refine lv_aload_n hx hcb dX10_oldestYear_17 rfl (lv_at hl 0 rfl) ?_
      refine x_getR hx hcb hts hown hK xc10 hR (hw.lo (by decide)) (hw.s0 rfl) 5 (by decide) rfl q_1171 dX10_oldestYear_18 ?_
      refine lv_sipush (v := (nI 494)) hx hcb dX10_oldestYear_21 (by decide) ?_
      refine x_iald hx hcb hK hR (hw.lo (by decide)) (hw.s0 rfl) (k := 494) (by omega) (by decide) dX10_oldestYear_24 ?_
      refine x_top (show ((ck z (inR x (mQ z 12))).1 4 494) = (nI (yQ z)) from hO.2.2.2.2.1) ?_
      refine lv_icmp_ge (tgt := 45) hx hcb dX10_oldestYear_25 (by decide) (fun c_8 => ?_) (fun c_8 => ?_)
      · skip
        have c_8 : (yQ z) ≤ i_ := (nI_leI (by omega) (by omega)).mp c_8
        have he_ : xff (fun y => decide (0 < lfQ z k_ y)) (yQ z) 0 = (-1) := by rw [hf_, show yQ z - i_ = 0 by omega]; rfl
        refine lv_iconst (v := (-1)) hx hcb dX10_oldestYear_45 (by decide) ?_
        exact hret (-1) (ck z (inR x (mQ z 12))) _ _ _ _ dX10_oldestYear_46 rfl hR hS (⟨by rw [if_pos h_, ← ek_, he_], rfl⟩)
      · skip
        have c_8 : ¬ (yQ z) ≤ i_ := fun h_ => c_8 ((nI_leI (by omega) (by omega)).mpr h_)
        refine lv_aload_n hx hcb dX10_oldestYear_28 rfl (lv_at hl 0 rfl) ?_
        refine lv_iload_n hx hcb dX10_oldestYear_29 rfl (lv_at hl 1 rfl) ?_
        refine lv_iload_n hx hcb dX10_oldestYear_30 rfl (lv_at hl 2 rfl) ?_
        refine x_ci0 rfl rfl (x_runV hx hcb hml hown hts (c_X10_left l G w hw (ck z (inR x (mQ z 12))) _ k_ i_ (by omega) (by omega)) mv_X10_left q_1390 hK hZ hR hS (hw.lo (by decide)) xc10 (hw.s0 rfl) rfl hl.1 rfl (Nat.le_of_ble_eq_true rfl) dX10_oldestYear_31 ⟨by decide, by decide⟩ ⟨by decide, by decide⟩) hS (fun r_9 z_10 H locs hp_11 hR hS => ?_)
        rw [hp_11.2] at hR; rw [hp_11.1]
        refine x_top (show (lfQ (ck z (inR x (mQ z 12))) k_ i_) = (lfQ z k_ i_) from rfl) ?_
        refine lv_if_le (tgt := 39) hx hcb dX10_oldestYear_34 (by decide) (fun c_12 => ?_) (fun c_12 => ?_)
        · skip
          have hq_ : ¬ 0 < lfQ z k_ i_ := Int32.not_lt.mpr c_12
          refine lv_iinc (v := (nI (i_ + 1))) (lv' := [(2, .int (nI (i_ + 1))), (0, .ref (w.2.2 0)), (1, .int (nI k_))]) hx hcb dX10_oldestYear_39 hl (k := 2) rfl (x_iinc1 _) (by decide) rfl (fun ls hl => ?_)
          refine lv_goto (tgt := 16) hx hcb dX10_oldestYear_42 (by decide) ?_
          exact ih_16 (i_ + 1) (by omega) (by omega) (by rw [hf_, xff_s (k := yQ z - (i_ + 1)) (by omega), if_neg (fun q_ => hq_ (of_decide_eq_true q_))]) _ _ _ hR hS (lv_sub hl [1, 2, 0] rfl)
        · skip
          have he_ : xff (fun y => decide (0 < lfQ z k_ y)) (yQ z) 0 = nI i_ := by rw [hf_, xff_s (k := yQ z - (i_ + 1)) (by omega), if_pos (decide_eq_true (Int32.not_le.mp c_12))]
          refine lv_iload_n hx hcb dX10_oldestYear_37 rfl (lv_at hl 2 rfl) ?_
          exact hret (nI i_) (ck z (inR x (mQ z 12))) _ _ _ _ dX10_oldestYear_38 rfl hR hS (⟨by rw [if_pos h_, ← ek_, he_], rfl⟩)
  · skip
    have h_ : ¬ (inR x (mQ z 12)) := fun q_ => absurd c_7 (by rw [if_pos q_]; decide)
    refine lv_iconst (v := (nI 0)) hx hcb dX10_oldestYear_12 (by decide) ?_
    exact hret (nI 0) (ck z (inR x (mQ z 12))) _ _ _ _ dX10_oldestYear_13 rfl hR hS (⟨by rw [if_neg h_]; rfl, rfl⟩)
def rm_X10_balance : Room := { frames := 0, cells := 0, slots := 0, locals := 0 }
set_option maxRecDepth 100000 in
set_option maxHeartbeats 4000000 in
theorem c_X10_balance (l : Launch) (G : xGl) (w : xWd) (hw : isM w) (z : xSt) (sz : Nat)  (hO : rOk z) : xMi l yX10_balance cX10_balance 3 (some FieldType.int) rm_X10_balance G w z sz [.ref (w.2.2 0)] (fun r z1 => r = blQ z (mQ z 12) ∧ z1 = u1 z 0 0 0) := by
  refine x_mi (by decide) (Nat.le_of_ble_eq_true rfl) ?_
  intro p e s mt args below meth c ls Q hsz X hR hS hl hret
  obtain ⟨hx, hcb, hml, hown, hts, hlk, hK, hZ⟩ := X
  have hl : lv_has ls 3 [(0, .ref (w.2.2 0))] := hl
  have hm8_ := hO.2.1
  have hd4_ := hO.2.2.2.1
  have hy24_ := hO.2.2.2.2.2
  refine lv_aload_n hx hcb dX10_balance_0 rfl (lv_at hl 0 rfl) ?_
  refine lv_iconst (v := (nI 0)) hx hcb dX10_balance_1 (by decide) ?_
  refine x_putI hx hcb hts hown hK xc10 hR hS (hw.lo (by decide)) (hw.s0 rfl) 0 (by decide) rfl q_1166 rfl (v := 0) rfl rfl dX10_balance_2 (fun H locs hR hS => ?_)
  refine lv_aload_n hx hcb dX10_balance_5 rfl (lv_at hl 0 rfl) ?_
  refine x_getR hx hcb hts hown hK xc10 hR (hw.lo (by decide)) (hw.s0 rfl) 5 (by decide) rfl q_1171 dX10_balance_6 ?_
  refine lv_sipush (v := (nI 495)) hx hcb dX10_balance_9 (by decide) ?_
  refine x_iald hx hcb hK hR (hw.lo (by decide)) (hw.s0 rfl) (k := 495) (by omega) (by decide) dX10_balance_12 ?_
  refine lv_aload_n hx hcb dX10_balance_13 rfl (lv_at hl 0 rfl) ?_
  refine x_getR hx hcb hts hown hK xc10 hR (hw.lo (by decide)) (hw.s0 rfl) 5 (by decide) rfl q_1171 dX10_balance_14 ?_
  refine lv_sipush (v := (nI 496)) hx hcb dX10_balance_17 (by decide) ?_
  refine x_iald hx hcb hK hR (hw.lo (by decide)) (hw.s0 rfl) (k := 496) (by omega) (by decide) dX10_balance_20 ?_
  refine lv_isub hx hcb dX10_balance_21 ?_
  refine lv_istore_n (lv' := [(1, .int (((u1 z 0 0 0).1 4 495) - ((u1 z 0 0 0).1 4 496))), (0, .ref (w.2.2 0))]) hx hcb dX10_balance_22 rfl hl (by decide) rfl (fun ls hl => ?_)
  refine lv_iconst (v := (nI 0)) hx hcb dX10_balance_23 (by decide) ?_
  refine lv_istore_n (lv' := [(2, .int (nI 0)), (1, .int (((u1 z 0 0 0).1 4 495) - ((u1 z 0 0 0).1 4 496))), (0, .ref (w.2.2 0))]) hx hcb dX10_balance_24 rfl hl (by decide) rfl (fun ls hl => ?_)
  rw [show (((u1 z 0 0 0).1 4 495) - ((u1 z 0 0 0).1 4 496)) = (blQ z 0) from rfl] at hl
  suffices LP_25 : ∀ (nn : Nat) (i_ : Nat) (_ : mQ z 12 - i_ < nn) (hi_ : i_ ≤ mQ z 12) (H : Heap) (locs : List Loc) (ls : Array Slot), Rh G w (u1 z 0 0 0) H → va_S (xA w s.heap.size) s.heap H locs → lv_has ls 3 [(0, .ref (w.2.2 0)), (1, .int (blQ z i_)), (2, .int (nI i_))] → W p l e rm_X10_balance s mt args below meth c H locs 0 0 Q (F0 mt 25 ls []) from LP_25 ((_) + 1) 0 (Nat.lt_succ_self _) (Nat.zero_le _) _ _ _ hR hS (lv_sub hl [2, 1, 0] rfl)
  intro nn
  induction nn with
  | zero => intro i_ hm_ ; exact absurd hm_ (Nat.not_lt_zero _)
  | succ nn ih_25 =>
    intro i_ hm_25 hi_ H locs ls hR hS hl
    refine lv_iload_n hx hcb dX10_balance_25 rfl (lv_at hl 2 rfl) ?_
    refine lv_aload_n hx hcb dX10_balance_26 rfl (lv_at hl 0 rfl) ?_
    refine x_getR hx hcb hts hown hK xc10 hR (hw.lo (by decide)) (hw.s0 rfl) 3 (by decide) rfl q_1169 dX10_balance_27 ?_
    refine lv_bipush (v := (nI 12)) hx hcb dX10_balance_30 (by decide) ?_
    refine x_iald hx hcb hK hR (hw.lo (by decide)) (hw.s0 rfl) (k := 12) (by omega) (by decide) dX10_balance_32 ?_
    refine x_top (show ((u1 z 0 0 0).1 2 12) = (nI (mQ z 12)) from hO.1) ?_
    refine lv_icmp_ge (tgt := 74) hx hcb dX10_balance_33 (by decide) (fun c_1 => ?_) (fun c_1 => ?_)
    · skip
      have c_1 : (mQ z 12) ≤ i_ := (nI_leI (by omega) (by omega)).mp c_1
      obtain rfl : mQ z 12 = i_ := by omega
      refine lv_iload_n hx hcb dX10_balance_74 rfl (lv_at hl 1 rfl) ?_
      exact hret (blQ z (mQ z 12)) (u1 z 0 0 0) _ _ _ _ dX10_balance_75 rfl hR hS (⟨rfl, rfl⟩)
    · skip
      have c_1 : ¬ (mQ z 12) ≤ i_ := fun h_ => c_1 ((nI_leI (by omega) (by omega)).mpr h_)
      refine lv_iload_n hx hcb dX10_balance_36 rfl (lv_at hl 1 rfl) ?_
      refine lv_aload_n hx hcb dX10_balance_37 rfl (lv_at hl 0 rfl) ?_
      refine x_getR hx hcb hts hown hK xc10 hR (hw.lo (by decide)) (hw.s0 rfl) 5 (by decide) rfl q_1171 dX10_balance_38 ?_
      refine lv_sipush (v := (nI 445)) hx hcb dX10_balance_41 (by decide) ?_
      refine lv_iconst (v := (nI 3)) hx hcb dX10_balance_44 (by decide) ?_
      refine lv_iload_n hx hcb dX10_balance_45 rfl (lv_at hl 2 rfl) ?_
      refine x_imulN hx hcb dX10_balance_46 ?_
      refine x_iaddN hx hcb dX10_balance_47 ?_
      refine lv_iconst (v := (nI 1)) hx hcb dX10_balance_48 (by decide) ?_
      refine x_iaddN hx hcb dX10_balance_49 ?_
      refine x_iald hx hcb hK hR (hw.lo (by decide)) (hw.s0 rfl) (k := ((445 + (3 * i_)) + 1)) (by omega) (by decide) dX10_balance_50 ?_
      refine x_top (show ((u1 z 0 0 0).1 4 ((445 + (3 * i_)) + 1)) = (z.1 4 (445 + 3 * i_ + 1)) from rfl) ?_
      refine lv_aload_n hx hcb dX10_balance_51 rfl (lv_at hl 0 rfl) ?_
      refine x_getR hx hcb hts hown hK xc10 hR (hw.lo (by decide)) (hw.s0 rfl) 5 (by decide) rfl q_1171 dX10_balance_52 ?_
      refine lv_sipush (v := (nI 445)) hx hcb dX10_balance_55 (by decide) ?_
      refine lv_iconst (v := (nI 3)) hx hcb dX10_balance_58 (by decide) ?_
      refine lv_iload_n hx hcb dX10_balance_59 rfl (lv_at hl 2 rfl) ?_
      refine x_imulN hx hcb dX10_balance_60 ?_
      refine x_iaddN hx hcb dX10_balance_61 ?_
      refine lv_iconst (v := (nI 2)) hx hcb dX10_balance_62 (by decide) ?_
      refine x_iaddN hx hcb dX10_balance_63 ?_
      refine x_iald hx hcb hK hR (hw.lo (by decide)) (hw.s0 rfl) (k := ((445 + (3 * i_)) + 2)) (by omega) (by decide) dX10_balance_64 ?_
      refine x_top (show ((u1 z 0 0 0).1 4 ((445 + (3 * i_)) + 2)) = (z.1 4 (445 + 3 * i_ + 2)) from rfl) ?_
      refine lv_iadd hx hcb dX10_balance_65 ?_
      refine lv_isub hx hcb dX10_balance_66 ?_
      refine lv_istore_n (lv' := [(1, .int ((blQ z i_) - ((z.1 4 (445 + 3 * i_ + 1)) + (z.1 4 (445 + 3 * i_ + 2))))), (0, .ref (w.2.2 0)), (2, .int (nI i_))]) hx hcb dX10_balance_67 rfl hl (by decide) rfl (fun ls hl => ?_)
      refine lv_iinc (v := (nI (i_ + 1))) (lv' := [(2, .int (nI (i_ + 1))), (1, .int ((blQ z i_) - ((z.1 4 (445 + 3 * i_ + 1)) + (z.1 4 (445 + 3 * i_ + 2))))), (0, .ref (w.2.2 0))]) hx hcb dX10_balance_68 hl (k := 2) rfl (x_iinc1 _) (by decide) rfl (fun ls hl => ?_)
      refine lv_goto (tgt := 25) hx hcb dX10_balance_71 (by decide) ?_
      rw [show ((blQ z i_) - ((z.1 4 (445 + 3 * i_ + 1)) + (z.1 4 (445 + 3 * i_ + 2)))) = (blQ z (i_ + 1)) from rfl] at hl
      exact ih_25 (i_ + 1) (by omega) (by omega) _ _ _ hR hS (lv_sub hl [2, 1, 0] rfl)
def rm_X10_rate : Room := { frames := 0, cells := 0, slots := 0, locals := 0 }
set_option maxRecDepth 100000 in
set_option maxHeartbeats 4000000 in
theorem c_X10_rate (l : Launch) (G : xGl) (w : xWd) (hw : isM w) (z : xSt) (sz : Nat) (d : Nat) (hd : d < 4) : xMf l yX10_rate cX10_rate 2 (some FieldType.float) rm_X10_rate G w z sz [.ref (w.2.2 0), .int (nI d)] (fun r z1 => r = rtQ (z.1 4 (485 + d)) (z.1 4 (489 + d)) ∧ z1 = z) := by
  refine x_mf (by decide) (Nat.le_of_ble_eq_true rfl) ?_
  intro p e s mt args below meth c ls Q hsz X hR hS hl hret
  obtain ⟨hx, hcb, hml, hown, hts, hlk, hK, hZ⟩ := X
  have hl : lv_has ls 2 [(0, .ref (w.2.2 0)), (1, .int (nI d))] := hl
  refine lv_aload_n hx hcb dX10_rate_0 rfl (lv_at hl 0 rfl) ?_
  refine x_getR hx hcb hts hown hK xc10 hR (hw.lo (by decide)) (hw.s0 rfl) 5 (by decide) rfl q_1171 dX10_rate_1 ?_
  refine lv_sipush (v := (nI 489)) hx hcb dX10_rate_4 (by decide) ?_
  refine lv_iload_n hx hcb dX10_rate_7 rfl (lv_at hl 1 rfl) ?_
  refine x_iaddN hx hcb dX10_rate_8 ?_
  refine x_iald hx hcb hK hR (hw.lo (by decide)) (hw.s0 rfl) (k := (489 + d)) (by omega) (by decide) dX10_rate_9 ?_
  refine lv_if_ne (tgt := 17) hx hcb dX10_rate_10 (by decide) (fun c_1 => ?_) (fun c_1 => ?_)
  · skip
    have h_ : ¬ z.1 4 (489 + d) = 0 := c_1
    refine lv_aload_n hx hcb dX10_rate_17 rfl (lv_at hl 0 rfl) ?_
    refine x_getR hx hcb hts hown hK xc10 hR (hw.lo (by decide)) (hw.s0 rfl) 5 (by decide) rfl q_1171 dX10_rate_18 ?_
    refine lv_sipush (v := (nI 485)) hx hcb dX10_rate_21 (by decide) ?_
    refine lv_iload_n hx hcb dX10_rate_24 rfl (lv_at hl 1 rfl) ?_
    refine x_iaddN hx hcb dX10_rate_25 ?_
    refine x_iald hx hcb hK hR (hw.lo (by decide)) (hw.s0 rfl) (k := (485 + d)) (by omega) (by decide) dX10_rate_26 ?_
    refine lv_i2f hx hcb dX10_rate_27 ?_
    refine lv_aload_n hx hcb dX10_rate_28 rfl (lv_at hl 0 rfl) ?_
    refine x_getR hx hcb hts hown hK xc10 hR (hw.lo (by decide)) (hw.s0 rfl) 5 (by decide) rfl q_1171 dX10_rate_29 ?_
    refine lv_sipush (v := (nI 489)) hx hcb dX10_rate_32 (by decide) ?_
    refine lv_iload_n hx hcb dX10_rate_35 rfl (lv_at hl 1 rfl) ?_
    refine x_iaddN hx hcb dX10_rate_36 ?_
    refine x_iald hx hcb hK hR (hw.lo (by decide)) (hw.s0 rfl) (k := (489 + d)) (by omega) (by decide) dX10_rate_37 ?_
    refine lv_i2f hx hcb dX10_rate_38 ?_
    refine lv_fdiv hx hcb dX10_rate_39 (fp_fdiv _ _ h_) ?_
    exact hret (FP.fdiv (FP.i2f (z.1 4 (485 + d))) (FP.i2f (z.1 4 (489 + d)))) z _ _ _ _ dX10_rate_40 hR hS (⟨by unfold rtQ; first | rw [if_pos h_] | rw [if_neg h_], rfl⟩)
  · skip
    have h_ : z.1 4 (489 + d) = 0 := c_1
    refine lv_fconst0 hx hcb dX10_rate_13 ?_
    refine lv_goto (tgt := 40) hx hcb dX10_rate_14 (by decide) ?_
    exact hret 0x00000000 z _ _ _ _ dX10_rate_40 hR hS (⟨by unfold rtQ; first | rw [if_pos h_] | rw [if_neg h_], rfl⟩)
def rm_X10_rateOf : Room := { frames := 1, cells := 0, slots := 0, locals := 21 }
set_option maxRecDepth 100000 in
set_option maxHeartbeats 4000000 in
theorem c_X10_rateOf (l : Launch) (G : xGl) (w : xWd) (hw : isM w) (z : xSt) (sz : Nat) (x : Int32) (hO : rOk z) : xMf l yX10_rateOf cX10_rateOf 2 (some FieldType.float) rm_X10_rateOf G w z sz [.ref (w.2.2 0), .int x] (fun r z1 => r = (if inR x (mQ z 13) then rtQ (z.1 4 (485 + x.toNatClampNeg)) (z.1 4 (489 + x.toNatClampNeg)) else 0x00000000) ∧ z1 = ck z (inR x (mQ z 13))) := by
  refine x_mf (by decide) (Nat.le_of_ble_eq_true rfl) ?_
  intro p e s mt args below meth c ls Q hsz X hR hS hl hret
  obtain ⟨hx, hcb, hml, hown, hts, hlk, hK, hZ⟩ := X
  have hl : lv_has ls 2 [(0, .ref (w.2.2 0)), (1, .int x)] := hl
  have hm8_ := hO.2.1
  have hd4_ := hO.2.2.2.1
  have hy24_ := hO.2.2.2.2.2
  refine lv_aload_n hx hcb dX10_rateOf_0 rfl (lv_at hl 0 rfl) ?_
  refine lv_aload_n hx hcb dX10_rateOf_1 rfl (lv_at hl 0 rfl) ?_
  refine lv_iload_n hx hcb dX10_rateOf_2 rfl (lv_at hl 1 rfl) ?_
  refine x_ci0 rfl rfl (x_runV hx hcb hml hown hts (c_X10_isDepartment l G w hw z _ x hO) mv_X10_isDepartment q_1472 hK hZ hR hS (hw.lo (by decide)) xc10 (hw.s0 rfl) rfl hl.1 rfl (Nat.le_of_ble_eq_true rfl) dX10_rateOf_3 ⟨by decide, by decide⟩ ⟨by decide, by decide⟩) hS (fun r_1 z_2 H locs hp_3 hR hS => ?_)
  rw [hp_3.2] at hR; rw [hp_3.1]
  refine x_ci0 rfl rfl (x_runV hx hcb hml hown hts (c_X10_checks l G w hw z _ (if inR x (mQ z 13) then 1 else 0) (inR x (mQ z 13)) rfl) mv_X10_checks q_1460 hK hZ hR hS (hw.lo (by decide)) xc10 (hw.s0 rfl) rfl hl.1 rfl (Nat.le_of_ble_eq_true rfl) dX10_rateOf_6 ⟨by decide, by decide⟩ ⟨by decide, by decide⟩) hS (fun r_4 z_5 H locs hp_6 hR hS => ?_)
  rw [hp_6.2] at hR; rw [hp_6.1]
  refine lv_if_eq (tgt := 20) hx hcb dX10_rateOf_9 (by decide) (fun c_7 => ?_) (fun c_7 => ?_)
  · skip
    have h_ : ¬ (inR x (mQ z 13)) := fun q_ => absurd c_7 (by rw [if_pos q_]; decide)
    refine lv_fconst0 hx hcb dX10_rateOf_20 ?_
    exact hret 0x00000000 (ck z (inR x (mQ z 13))) _ _ _ _ dX10_rateOf_21 hR hS (⟨by first | (rw [if_pos h_, ← ek_]; rfl) | (rw [if_neg h_]; done), rfl⟩)
  · skip
    have h_ : inR x (mQ z 13) := Classical.byContradiction (fun q_ => c_7 (if_neg q_))
    have hxk_ := inR_k (n := mQ z 13) (by omega) h_
    obtain ⟨k_, ek_⟩ : ∃ q_, q_ = x.toNatClampNeg := ⟨_, rfl⟩
    rw [← ek_] at hxk_
    have hltk_ := hxk_.2
    rw [hxk_.1] at hl
    refine lv_aload_n hx hcb dX10_rateOf_12 rfl (lv_at hl 0 rfl) ?_
    refine lv_iload_n hx hcb dX10_rateOf_13 rfl (lv_at hl 1 rfl) ?_
    refine x_cf0 rfl rfl (x_runV hx hcb hml hown hts (c_X10_rate l G w hw (ck z (inR x (mQ z 13))) _ k_ (by omega)) mv_X10_rate q_1528 hK hZ hR hS (hw.lo (by decide)) xc10 (hw.s0 rfl) rfl hl.1 rfl (Nat.le_of_ble_eq_true rfl) dX10_rateOf_14 ⟨by decide, by decide⟩ ⟨by decide, by decide⟩) hS (fun r_8 z_9 H locs hp_10 hR hS => ?_)
    rw [hp_10.2] at hR; rw [hp_10.1]
    refine lv_goto (tgt := 21) hx hcb dX10_rateOf_17 (by decide) ?_
    exact hret (rtQ ((ck z (inR x (mQ z 13))).1 4 (485 + k_)) ((ck z (inR x (mQ z 13))).1 4 (489 + k_))) (ck z (inR x (mQ z 13))) _ _ _ _ dX10_rateOf_21 hR hS (⟨by first | (rw [if_pos h_, ← ek_]; rfl) | (rw [if_neg h_]; done), rfl⟩)
def rm_X10_ratePoints : Room := { frames := 1, cells := 0, slots := 0, locals := 21 }
set_option maxRecDepth 100000 in
set_option maxHeartbeats 4000000 in
theorem c_X10_ratePoints (l : Launch) (G : xGl) (w : xWd) (hw : isM w) (z : xSt) (sz : Nat) (x : Int32) (hO : rOk z) : xMi l yX10_ratePoints cX10_ratePoints 2 (some FieldType.int) rm_X10_ratePoints G w z sz [.ref (w.2.2 0), .int x] (fun r z1 => r = (if inR x (mQ z 13) then FP.f2i (FP.fmul (rtQ (z.1 4 (485 + x.toNatClampNeg)) (z.1 4 (489 + x.toNatClampNeg))) 1176256512) else 0) ∧ z1 = ck z (inR x (mQ z 13))) := by
  refine x_mi (by decide) (Nat.le_of_ble_eq_true rfl) ?_
  intro p e s mt args below meth c ls Q hsz X hR hS hl hret
  obtain ⟨hx, hcb, hml, hown, hts, hlk, hK, hZ⟩ := X
  have hl : lv_has ls 2 [(0, .ref (w.2.2 0)), (1, .int x)] := hl
  have hm8_ := hO.2.1
  have hd4_ := hO.2.2.2.1
  have hy24_ := hO.2.2.2.2.2
  refine lv_aload_n hx hcb dX10_ratePoints_0 rfl (lv_at hl 0 rfl) ?_
  refine lv_aload_n hx hcb dX10_ratePoints_1 rfl (lv_at hl 0 rfl) ?_
  refine lv_iload_n hx hcb dX10_ratePoints_2 rfl (lv_at hl 1 rfl) ?_
  refine x_ci0 rfl rfl (x_runV hx hcb hml hown hts (c_X10_isDepartment l G w hw z _ x hO) mv_X10_isDepartment q_1472 hK hZ hR hS (hw.lo (by decide)) xc10 (hw.s0 rfl) rfl hl.1 rfl (Nat.le_of_ble_eq_true rfl) dX10_ratePoints_3 ⟨by decide, by decide⟩ ⟨by decide, by decide⟩) hS (fun r_1 z_2 H locs hp_3 hR hS => ?_)
  rw [hp_3.2] at hR; rw [hp_3.1]
  refine x_ci0 rfl rfl (x_runV hx hcb hml hown hts (c_X10_checks l G w hw z _ (if inR x (mQ z 13) then 1 else 0) (inR x (mQ z 13)) rfl) mv_X10_checks q_1460 hK hZ hR hS (hw.lo (by decide)) xc10 (hw.s0 rfl) rfl hl.1 rfl (Nat.le_of_ble_eq_true rfl) dX10_ratePoints_6 ⟨by decide, by decide⟩ ⟨by decide, by decide⟩) hS (fun r_4 z_5 H locs hp_6 hR hS => ?_)
  rw [hp_6.2] at hR; rw [hp_6.1]
  refine lv_if_eq (tgt := 25) hx hcb dX10_ratePoints_9 (by decide) (fun c_7 => ?_) (fun c_7 => ?_)
  · skip
    have h_ : ¬ (inR x (mQ z 13)) := fun q_ => absurd c_7 (by rw [if_pos q_]; decide)
    refine lv_iconst (v := (nI 0)) hx hcb dX10_ratePoints_25 (by decide) ?_
    exact hret (nI 0) (ck z (inR x (mQ z 13))) _ _ _ _ dX10_ratePoints_26 rfl hR hS (⟨by first | (rw [if_pos h_, ← ek_]; rfl) | (rw [if_neg h_]; rfl), rfl⟩)
  · skip
    have h_ : inR x (mQ z 13) := Classical.byContradiction (fun q_ => c_7 (if_neg q_))
    have hxk_ := inR_k (n := mQ z 13) (by omega) h_
    obtain ⟨k_, ek_⟩ : ∃ q_, q_ = x.toNatClampNeg := ⟨_, rfl⟩
    rw [← ek_] at hxk_
    have hltk_ := hxk_.2
    rw [hxk_.1] at hl
    refine lv_aload_n hx hcb dX10_ratePoints_12 rfl (lv_at hl 0 rfl) ?_
    refine lv_iload_n hx hcb dX10_ratePoints_13 rfl (lv_at hl 1 rfl) ?_
    refine x_cf0 rfl rfl (x_runV hx hcb hml hown hts (c_X10_rate l G w hw (ck z (inR x (mQ z 13))) _ k_ (by omega)) mv_X10_rate q_1528 hK hZ hR hS (hw.lo (by decide)) xc10 (hw.s0 rfl) rfl hl.1 rfl (Nat.le_of_ble_eq_true rfl) dX10_ratePoints_14 ⟨by decide, by decide⟩ ⟨by decide, by decide⟩) hS (fun r_8 z_9 H locs hp_10 hR hS => ?_)
    rw [hp_10.2] at hR; rw [hp_10.1]
    refine x_ldcwf (v := 1176256512) hx hcb hown (hts _ q_1536) dX10_ratePoints_17 ?_
    refine lv_fmul hx hcb dX10_ratePoints_20 (rtQ_mul _ _) ?_
    refine lv_f2i hx hcb dX10_ratePoints_21 ?_
    refine lv_goto (tgt := 26) hx hcb dX10_ratePoints_22 (by decide) ?_
    exact hret (FP.f2i (FP.fmul (rtQ ((ck z (inR x (mQ z 13))).1 4 (485 + k_)) ((ck z (inR x (mQ z 13))).1 4 (489 + k_))) 1176256512)) (ck z (inR x (mQ z 13))) _ _ _ _ dX10_ratePoints_26 rfl hR hS (⟨by first | (rw [if_pos h_, ← ek_]; rfl) | (rw [if_neg h_]; rfl), rfl⟩)
def rm_X10_meanAge : Room := { frames := 2, cells := 0, slots := 0, locals := 45 }
set_option maxRecDepth 100000 in
set_option maxHeartbeats 4000000 in
theorem c_X10_meanAge (l : Launch) (G : xGl) (w : xWd) (hw : isM w) (z : xSt) (sz : Nat) (x : Int32) (hO : rOk z) : xMd l yX10_meanAge cX10_meanAge 5 (some FieldType.double) rm_X10_meanAge G w z sz [.ref (w.2.2 0), .int x] (fun r z1 => r = (if inR x (mQ z 12) then (if eqQ z x.toNatClampNeg = 0 then 9221120237041090560 else FP.ddiv (FP.l2d (xls (fun y => (lfQ z x.toNatClampNeg y).toInt64 * (z.1 4 494 - nI y).toInt64) (yQ z))) (FP.i2d (eqQ z x.toNatClampNeg))) else 0x0000000000000000) ∧ z1 = ck z (inR x (mQ z 12))) := by
  refine x_md (by decide) (Nat.le_of_ble_eq_true rfl) ?_
  intro p e s mt args below meth c ls Q hsz X hR hS hl hret
  obtain ⟨hx, hcb, hml, hown, hts, hlk, hK, hZ⟩ := X
  have hl : lv_has ls 5 [(0, .ref (w.2.2 0)), (1, .int x)] := hl
  have hm8_ := hO.2.1
  have hd4_ := hO.2.2.2.1
  have hy24_ := hO.2.2.2.2.2
  refine lv_aload_n hx hcb dX10_meanAge_0 rfl (lv_at hl 0 rfl) ?_
  refine lv_aload_n hx hcb dX10_meanAge_1 rfl (lv_at hl 0 rfl) ?_
  refine lv_iload_n hx hcb dX10_meanAge_2 rfl (lv_at hl 1 rfl) ?_
  refine x_ci0 rfl rfl (x_runV hx hcb hml hown hts (c_X10_isMember l G w hw z _ x hO) mv_X10_isMember q_1456 hK hZ hR hS (hw.lo (by decide)) xc10 (hw.s0 rfl) rfl hl.1 rfl (Nat.le_of_ble_eq_true rfl) dX10_meanAge_3 ⟨by decide, by decide⟩ ⟨by decide, by decide⟩) hS (fun r_1 z_2 H locs hp_3 hR hS => ?_)
  rw [hp_3.2] at hR; rw [hp_3.1]
  refine x_ci0 rfl rfl (x_runV hx hcb hml hown hts (c_X10_checks l G w hw z _ (if inR x (mQ z 12) then 1 else 0) (inR x (mQ z 12)) rfl) mv_X10_checks q_1460 hK hZ hR hS (hw.lo (by decide)) xc10 (hw.s0 rfl) rfl hl.1 rfl (Nat.le_of_ble_eq_true rfl) dX10_meanAge_6 ⟨by decide, by decide⟩ ⟨by decide, by decide⟩) hS (fun r_4 z_5 H locs hp_6 hR hS => ?_)
  rw [hp_6.2] at hR; rw [hp_6.1]
  refine lv_if_ne (tgt := 14) hx hcb dX10_meanAge_9 (by decide) (fun c_7 => ?_) (fun c_7 => ?_)
  · skip
    have h_ : inR x (mQ z 12) := Classical.byContradiction (fun q_ => c_7 (if_neg q_))
    have hxk_ := inR_k (n := mQ z 12) (by omega) h_
    obtain ⟨k_, ek_⟩ : ∃ q_, q_ = x.toNatClampNeg := ⟨_, rfl⟩
    rw [← ek_] at hxk_
    have hltk_ := hxk_.2
    rw [hxk_.1] at hl
    refine lv_lconst (v := 0) hx hcb dX10_meanAge_14 (by decide) ?_
    refine lv_lstore_n (lv' := [(2, .long 0), (0, .ref (w.2.2 0)), (1, .int (nI k_))]) hx hcb dX10_meanAge_15 rfl hl (by decide) rfl (fun ls hl => ?_)
    refine lv_iconst (v := (nI 0)) hx hcb dX10_meanAge_16 (by decide) ?_
    refine lv_istore (lv' := [(4, .int (nI 0)), (2, .long 0), (0, .ref (w.2.2 0)), (1, .int (nI k_))]) hx hcb dX10_meanAge_17 hl (by decide) rfl (fun ls hl => ?_)
    suffices LP_19 : ∀ (nn : Nat) (i_ : Nat) (_ : yQ z - i_ < nn) (hi_ : i_ ≤ yQ z) (H : Heap) (locs : List Loc) (ls : Array Slot), Rh G w (ck z (inR x (mQ z 12))) H → va_S (xA w s.heap.size) s.heap H locs → lv_has ls 5 [(0, .ref (w.2.2 0)), (1, .int (nI k_)), (2, .long (xls (fun y => (lfQ z k_ y).toInt64 * (z.1 4 494 - nI y).toInt64) i_)), (4, .int (nI i_))] → W p l e rm_X10_meanAge s mt args below meth c H locs 0 0 Q (F0 mt 19 ls []) from LP_19 ((_) + 1) 0 (Nat.lt_succ_self _) (Nat.zero_le _) _ _ _ hR hS (lv_sub hl [2, 3, 1, 0] rfl)
    intro nn
    induction nn with
    | zero => intro i_ hm_ ; exact absurd hm_ (Nat.not_lt_zero _)
    | succ nn ih_19 =>
      intro i_ hm_19 hi_ H locs ls hR hS hl
      refine lv_iload hx hcb dX10_meanAge_19 (lv_at hl 3 rfl) ?_
      refine lv_aload_n hx hcb dX10_meanAge_21 rfl (lv_at hl 0 rfl) ?_
      refine x_getR hx hcb hts hown hK xc10 hR (hw.lo (by decide)) (hw.s0 rfl) 5 (by decide) rfl q_1171 dX10_meanAge_22 ?_
      refine lv_sipush (v := (nI 494)) hx hcb dX10_meanAge_25 (by decide) ?_
      refine x_iald hx hcb hK hR (hw.lo (by decide)) (hw.s0 rfl) (k := 494) (by omega) (by decide) dX10_meanAge_28 ?_
      refine x_top (show ((ck z (inR x (mQ z 12))).1 4 494) = (nI (yQ z)) from hO.2.2.2.2.1) ?_
      refine lv_icmp_ge (tgt := 62) hx hcb dX10_meanAge_29 (by decide) (fun c_8 => ?_) (fun c_8 => ?_)
      · skip
        have c_8 : (yQ z) ≤ i_ := (nI_leI (by omega) (by omega)).mp c_8
        obtain rfl : yQ z = i_ := by omega
        refine lv_aload_n hx hcb dX10_meanAge_62 rfl (lv_at hl 0 rfl) ?_
        refine lv_iload_n hx hcb dX10_meanAge_63 rfl (lv_at hl 1 rfl) ?_
        refine x_ci0 rfl rfl (x_runV hx hcb hml hown hts (c_X10_equity l G w hw (ck z (inR x (mQ z 12))) _ k_ (by omega)) mv_X10_equity q_1403 hK hZ hR hS (hw.lo (by decide)) xc10 (hw.s0 rfl) rfl hl.1 rfl (Nat.le_of_ble_eq_true rfl) dX10_meanAge_64 ⟨by decide, by decide⟩ ⟨by decide, by decide⟩) hS (fun r_9 z_10 H locs hp_11 hR hS => ?_)
        rw [hp_11.2] at hR; rw [hp_11.1]
        refine x_top (show (eqQ (ck z (inR x (mQ z 12))) k_) = (eqQ z k_) from rfl) ?_
        refine lv_istore (lv' := [(4, .int (eqQ z k_)), (0, .ref (w.2.2 0)), (1, .int (nI k_)), (2, .long (xls (fun y => (lfQ z k_ y).toInt64 * (z.1 4 494 - nI y).toInt64) (yQ z)))]) hx hcb dX10_meanAge_67 hl (by decide) rfl (fun ls hl => ?_)
        refine lv_iload hx hcb dX10_meanAge_69 (lv_at hl 0 rfl) ?_
        refine lv_if_ne (tgt := 80) hx hcb dX10_meanAge_71 (by decide) (fun c_12 => ?_) (fun c_12 => ?_)
        · skip
          have h2_ : ¬ eqQ z k_ = 0 := c_12
          refine lv_lload_n hx hcb dX10_meanAge_80 rfl (lv_at hl 3 rfl) ?_
          refine lv_l2d hx hcb dX10_meanAge_81 ?_
          refine lv_iload hx hcb dX10_meanAge_82 (lv_at hl 0 rfl) ?_
          refine lv_i2d hx hcb dX10_meanAge_84 ?_
          refine lv_ddiv hx hcb dX10_meanAge_85 (fp_lddiv _ _ h2_) ?_
          exact hret (FP.ddiv (FP.l2d (xls (fun y => (lfQ z k_ y).toInt64 * (z.1 4 494 - nI y).toInt64) (yQ z))) (FP.i2d (eqQ z k_))) (ck z (inR x (mQ z 12))) _ _ _ _ dX10_meanAge_86 hR hS (⟨by first | (rw [if_pos h_, ← ek_, if_pos h2_]; done) | (rw [if_pos h_, ← ek_, if_neg h2_]; done), rfl⟩)
        · skip
          have h2_ : eqQ z k_ = 0 := c_12
          refine lv_ldc2d (v := 9221120237041090560) hx hcb hown (hts _ q_1541) dX10_meanAge_74 ?_
          refine lv_goto (tgt := 86) hx hcb dX10_meanAge_77 (by decide) ?_
          exact hret 9221120237041090560 (ck z (inR x (mQ z 12))) _ _ _ _ dX10_meanAge_86 hR hS (⟨by first | (rw [if_pos h_, ← ek_, if_pos h2_]; done) | (rw [if_pos h_, ← ek_, if_neg h2_]; done), rfl⟩)
      · skip
        have c_8 : ¬ (yQ z) ≤ i_ := fun h_ => c_8 ((nI_leI (by omega) (by omega)).mpr h_)
        refine lv_lload_n hx hcb dX10_meanAge_32 rfl (lv_at hl 2 rfl) ?_
        refine lv_aload_n hx hcb dX10_meanAge_33 rfl (lv_at hl 0 rfl) ?_
        refine lv_iload_n hx hcb dX10_meanAge_34 rfl (lv_at hl 1 rfl) ?_
        refine lv_iload hx hcb dX10_meanAge_35 (lv_at hl 3 rfl) ?_
        refine x_ci0 rfl rfl (x_runV hx hcb hml hown hts (c_X10_left l G w hw (ck z (inR x (mQ z 12))) _ k_ i_ (by omega) (by omega)) mv_X10_left q_1390 hK hZ hR hS (hw.lo (by decide)) xc10 (hw.s0 rfl) rfl hl.1 rfl (Nat.le_of_ble_eq_true rfl) dX10_meanAge_37 ⟨by decide, by decide⟩ ⟨by decide, by decide⟩) hS (fun r_13 z_14 H locs hp_15 hR hS => ?_)
        rw [hp_15.2] at hR; rw [hp_15.1]
        refine x_top (show (lfQ (ck z (inR x (mQ z 12))) k_ i_) = (lfQ z k_ i_) from rfl) ?_
        refine lv_i2l hx hcb dX10_meanAge_40 rfl ?_
        refine lv_aload_n hx hcb dX10_meanAge_41 rfl (lv_at hl 0 rfl) ?_
        refine x_getR hx hcb hts hown hK xc10 hR (hw.lo (by decide)) (hw.s0 rfl) 5 (by decide) rfl q_1171 dX10_meanAge_42 ?_
        refine lv_sipush (v := (nI 494)) hx hcb dX10_meanAge_45 (by decide) ?_
        refine x_iald hx hcb hK hR (hw.lo (by decide)) (hw.s0 rfl) (k := 494) (by omega) (by decide) dX10_meanAge_48 ?_
        refine x_top (show ((ck z (inR x (mQ z 12))).1 4 494) = (z.1 4 494) from rfl) ?_
        refine lv_iload hx hcb dX10_meanAge_49 (lv_at hl 3 rfl) ?_
        refine lv_isub hx hcb dX10_meanAge_51 ?_
        refine lv_i2l hx hcb dX10_meanAge_52 rfl ?_
        refine lv_lmul hx hcb dX10_meanAge_53 ?_
        refine lv_ladd hx hcb dX10_meanAge_54 ?_
        refine lv_lstore_n (lv' := [(2, .long ((xls (fun y => (lfQ z k_ y).toInt64 * (z.1 4 494 - nI y).toInt64) i_) + (((lfQ z k_ i_).toInt64) * (((z.1 4 494) - (nI i_)).toInt64)))), (0, .ref (w.2.2 0)), (1, .int (nI k_)), (4, .int (nI i_))]) hx hcb dX10_meanAge_55 rfl hl (by decide) rfl (fun ls hl => ?_)
        refine lv_iinc (v := (nI (i_ + 1))) (lv' := [(4, .int (nI (i_ + 1))), (2, .long ((xls (fun y => (lfQ z k_ y).toInt64 * (z.1 4 494 - nI y).toInt64) i_) + (((lfQ z k_ i_).toInt64) * (((z.1 4 494) - (nI i_)).toInt64)))), (0, .ref (w.2.2 0)), (1, .int (nI k_))]) hx hcb dX10_meanAge_56 hl (k := 3) rfl (x_iinc1 _) (by decide) rfl (fun ls hl => ?_)
        refine lv_goto (tgt := 19) hx hcb dX10_meanAge_59 (by decide) ?_
        exact ih_19 (i_ + 1) (by omega) (by omega) _ _ _ hR hS (lv_sub hl [2, 3, 1, 0] rfl)
  · skip
    have h_ : ¬ (inR x (mQ z 12)) := fun q_ => absurd c_7 (by rw [if_pos q_]; decide)
    refine lv_dconst0 hx hcb dX10_meanAge_12 ?_
    exact hret 0x0000000000000000 (ck z (inR x (mQ z 12))) _ _ _ _ dX10_meanAge_13 hR hS (⟨by rw [if_neg h_], rfl⟩)
def rm_X10_partOf : Room := { frames := 3, cells := 0, slots := 0, locals := 67 }
set_option maxRecDepth 100000 in
set_option maxHeartbeats 4000000 in
theorem c_X10_partOf (l : Launch) (G : xGl) (w : xWd) (hw : isM w) (z : xSt) (sz : Nat) (x : Int32) (hO : rOk z) : xMd l yX10_partOf cX10_partOf 4 (some FieldType.double) rm_X10_partOf G w z sz [.ref (w.2.2 0), .int x] (fun r z1 => r = (if inR x (mQ z 12) then (if bx_sum (eqQ z) (mQ z 12) = 0 then 9221120237041090560 else FP.ddiv (FP.i2d (eqQ z x.toNatClampNeg)) (FP.i2d (bx_sum (eqQ z) (mQ z 12)))) else 0x0000000000000000) ∧ z1 = ck z (inR x (mQ z 12))) := by
  refine x_md (by decide) (Nat.le_of_ble_eq_true rfl) ?_
  intro p e s mt args below meth c ls Q hsz X hR hS hl hret
  obtain ⟨hx, hcb, hml, hown, hts, hlk, hK, hZ⟩ := X
  have hl : lv_has ls 4 [(0, .ref (w.2.2 0)), (1, .int x)] := hl
  have hm8_ := hO.2.1
  have hd4_ := hO.2.2.2.1
  have hy24_ := hO.2.2.2.2.2
  refine lv_aload_n hx hcb dX10_partOf_0 rfl (lv_at hl 0 rfl) ?_
  refine lv_aload_n hx hcb dX10_partOf_1 rfl (lv_at hl 0 rfl) ?_
  refine lv_iload_n hx hcb dX10_partOf_2 rfl (lv_at hl 1 rfl) ?_
  refine x_ci0 rfl rfl (x_runV hx hcb hml hown hts (c_X10_isMember l G w hw z _ x hO) mv_X10_isMember q_1456 hK hZ hR hS (hw.lo (by decide)) xc10 (hw.s0 rfl) rfl hl.1 rfl (Nat.le_of_ble_eq_true rfl) dX10_partOf_3 ⟨by decide, by decide⟩ ⟨by decide, by decide⟩) hS (fun r_1 z_2 H locs hp_3 hR hS => ?_)
  rw [hp_3.2] at hR; rw [hp_3.1]
  refine x_ci0 rfl rfl (x_runV hx hcb hml hown hts (c_X10_checks l G w hw z _ (if inR x (mQ z 12) then 1 else 0) (inR x (mQ z 12)) rfl) mv_X10_checks q_1460 hK hZ hR hS (hw.lo (by decide)) xc10 (hw.s0 rfl) rfl hl.1 rfl (Nat.le_of_ble_eq_true rfl) dX10_partOf_6 ⟨by decide, by decide⟩ ⟨by decide, by decide⟩) hS (fun r_4 z_5 H locs hp_6 hR hS => ?_)
  rw [hp_6.2] at hR; rw [hp_6.1]
  refine lv_if_ne (tgt := 14) hx hcb dX10_partOf_9 (by decide) (fun c_7 => ?_) (fun c_7 => ?_)
  · skip
    have h_ : inR x (mQ z 12) := Classical.byContradiction (fun q_ => c_7 (if_neg q_))
    have hxk_ := inR_k (n := mQ z 12) (by omega) h_
    obtain ⟨k_, ek_⟩ : ∃ q_, q_ = x.toNatClampNeg := ⟨_, rfl⟩
    rw [← ek_] at hxk_
    have hltk_ := hxk_.2
    rw [hxk_.1] at hl
    refine lv_aload_n hx hcb dX10_partOf_14 rfl (lv_at hl 0 rfl) ?_
    refine lv_iload_n hx hcb dX10_partOf_15 rfl (lv_at hl 1 rfl) ?_
    refine x_ci0 rfl rfl (x_runV hx hcb hml hown hts (c_X10_equity l G w hw (ck z (inR x (mQ z 12))) _ k_ (by omega)) mv_X10_equity q_1403 hK hZ hR hS (hw.lo (by decide)) xc10 (hw.s0 rfl) rfl hl.1 rfl (Nat.le_of_ble_eq_true rfl) dX10_partOf_16 ⟨by decide, by decide⟩ ⟨by decide, by decide⟩) hS (fun r_8 z_9 H locs hp_10 hR hS => ?_)
    rw [hp_10.2] at hR; rw [hp_10.1]
    refine x_top (show (eqQ (ck z (inR x (mQ z 12))) k_) = (eqQ z k_) from rfl) ?_
    refine lv_istore_n (lv' := [(2, .int (eqQ z k_)), (0, .ref (w.2.2 0)), (1, .int (nI k_))]) hx hcb dX10_partOf_19 rfl hl (by decide) rfl (fun ls hl => ?_)
    refine lv_aload_n hx hcb dX10_partOf_20 rfl (lv_at hl 1 rfl) ?_
    refine x_ci0 rfl rfl (x_runV hx hcb hml hown hts (c_X10_totalEquity l G w hw (ck z (inR x (mQ z 12))) _ hO) mv_X10_totalEquity q_1648 hK hZ hR hS (hw.lo (by decide)) xc10 (hw.s0 rfl) rfl hl.1 rfl (Nat.le_of_ble_eq_true rfl) dX10_partOf_21 ⟨by decide, by decide⟩ ⟨by decide, by decide⟩) hS (fun r_11 z_12 H locs hp_13 hR hS => ?_)
    rw [hp_13.2] at hR; rw [hp_13.1]
    refine x_top (show (bx_sum (eqQ (ck z (inR x (mQ z 12)))) (mQ (ck z (inR x (mQ z 12))) 12)) = (bx_sum (eqQ z) (mQ z 12)) from rfl) ?_
    rw [show u1 (ck z (inR x (mQ z 12))) 0 0 0 = ck z (inR x (mQ z 12)) from ck_y h_] at hR
    refine lv_istore_n (lv' := [(3, .int (bx_sum (eqQ z) (mQ z 12))), (2, .int (eqQ z k_)), (0, .ref (w.2.2 0)), (1, .int (nI k_))]) hx hcb dX10_partOf_24 rfl hl (by decide) rfl (fun ls hl => ?_)
    refine lv_iload_n hx hcb dX10_partOf_25 rfl (lv_at hl 0 rfl) ?_
    refine lv_if_ne (tgt := 35) hx hcb dX10_partOf_26 (by decide) (fun c_14 => ?_) (fun c_14 => ?_)
    · skip
      have h2_ : ¬ bx_sum (eqQ z) (mQ z 12) = 0 := c_14
      refine lv_iload_n hx hcb dX10_partOf_35 rfl (lv_at hl 1 rfl) ?_
      refine lv_i2d hx hcb dX10_partOf_36 ?_
      refine lv_iload_n hx hcb dX10_partOf_37 rfl (lv_at hl 0 rfl) ?_
      refine lv_i2d hx hcb dX10_partOf_38 ?_
      refine lv_ddiv hx hcb dX10_partOf_39 (fp_ddiv _ _ h2_) ?_
      exact hret (FP.ddiv (FP.i2d (eqQ z k_)) (FP.i2d (bx_sum (eqQ z) (mQ z 12)))) (ck z (inR x (mQ z 12))) _ _ _ _ dX10_partOf_40 hR hS (⟨by first | (rw [if_pos h_, ← ek_, if_pos h2_]; done) | (rw [if_pos h_, ← ek_, if_neg h2_]; done), rfl⟩)
    · skip
      have h2_ : bx_sum (eqQ z) (mQ z 12) = 0 := c_14
      refine lv_ldc2d (v := 9221120237041090560) hx hcb hown (hts _ q_1541) dX10_partOf_29 ?_
      refine lv_goto (tgt := 40) hx hcb dX10_partOf_32 (by decide) ?_
      exact hret 9221120237041090560 (ck z (inR x (mQ z 12))) _ _ _ _ dX10_partOf_40 hR hS (⟨by first | (rw [if_pos h_, ← ek_, if_pos h2_]; done) | (rw [if_pos h_, ← ek_, if_neg h2_]; done), rfl⟩)
  · skip
    have h_ : ¬ (inR x (mQ z 12)) := fun q_ => absurd c_7 (by rw [if_pos q_]; decide)
    refine lv_dconst0 hx hcb dX10_partOf_12 ?_
    exact hret 0x0000000000000000 (ck z (inR x (mQ z 12))) _ _ _ _ dX10_partOf_13 hR hS (⟨by rw [if_neg h_], rfl⟩)
