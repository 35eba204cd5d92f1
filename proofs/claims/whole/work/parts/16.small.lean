def rm_J7_fill_53178 : Room := { frames := 0, cells := 0, slots := 0, locals := 0 }
set_option maxRecDepth 100000 in
set_option maxHeartbeats 4000000 in
theorem c_J7_fill_53178 (l : Launch) (G : xGl) (w : xWd) (K : Nat) (hw : isC K w) (z : xSt) (sz : Nat) (oA NA : Nat) (hoA : oA < w.1) (hsA : w.2.1 oA = xai NA) (hNA : NA < 2147483648) (v : Int32)  : xMv l yJ7_fill_53178 cJ7_fill_53178 4 rm_J7_fill_53178 G w z sz [.ref (w.2.2 oA), .int v] (fun z1 => z1 = ur z oA (fun _ => v)) := by
  refine x_mv (by decide) (Nat.le_of_ble_eq_true rfl) ?_
  intro p e s mt args below meth c ls Q hsz X hR hS hl hret
  obtain ⟨hx, hcb, hml, hown, hts, hlk, hK, hZ⟩ := X
  have hl : lv_has ls 4 [(0, .ref (w.2.2 oA)), (1, .int v)] := hl
  refine lv_iconst (v := (nI 0)) hx hcb dJ7_fill_53178_0 (by decide) ?_
  refine lv_istore_n (lv' := [(2, .int (nI 0)), (0, .ref (w.2.2 oA)), (1, .int v)]) hx hcb dJ7_fill_53178_1 rfl hl (by decide) rfl (fun ls hl => ?_)
  refine lv_aload_n hx hcb dJ7_fill_53178_2 rfl (lv_at hl 1 rfl) ?_
  refine x_alen hx hcb hK hR hoA hsA dJ7_fill_53178_3 ?_
  refine lv_istore_n (lv' := [(3, .int (nI NA)), (2, .int (nI 0)), (0, .ref (w.2.2 oA)), (1, .int v)]) hx hcb dJ7_fill_53178_4 rfl hl (by decide) rfl (fun ls hl => ?_)
  rw [fill_0 z oA v] at hR
  suffices LP_5 : ∀ (nn : Nat) (i_ : Nat) (_ : NA - i_ < nn) (hi_ : i_ ≤ NA) (H : Heap) (locs : List Loc) (ls : Array Slot), Rh G w (ur z oA (fun j => if j < i_ then v else z.1 oA j)) H → va_S (xA w s.heap.size) s.heap H locs → lv_has ls 4 [(0, .ref (w.2.2 oA)), (1, .int v), (2, .int (nI i_)), (3, .int (nI NA))] → W p l e rm_J7_fill_53178 s mt args below meth c H locs 0 0 Q (F0 mt 5 ls []) from LP_5 ((_) + 1) 0 (Nat.lt_succ_self _) (by omega) _ _ _ hR hS (lv_sub hl [2, 3, 1, 0] rfl)
  intro nn
  induction nn with
  | zero => intro i_ hm_ ; exact absurd hm_ (Nat.not_lt_zero _)
  | succ nn ih_5 =>
    intro i_ hm_5 hi_ H locs ls hR hS hl
    refine lv_iload_n hx hcb dJ7_fill_53178_5 rfl (lv_at hl 2 rfl) ?_
    refine lv_iload_n hx hcb dJ7_fill_53178_6 rfl (lv_at hl 3 rfl) ?_
    refine lv_icmp_ge (tgt := 20) hx hcb dJ7_fill_53178_7 (by decide) (fun c_1 => ?_) (fun c_1 => ?_)
    · skip
      have c_1 : NA ≤ i_ := (nI_leI (by omega) (by omega)).mp c_1
      obtain rfl : NA = i_ := by omega
      have hR := hR.row hsA (g := fun _ => v) (fun k hk => if_pos hk)
      exact hret (ur z oA (fun _ => v)) _ _ _ _ dJ7_fill_53178_20 hR hS rfl
    · skip
      have c_1 : ¬ NA ≤ i_ := fun h_ => c_1 ((nI_leI (by omega) (by omega)).mpr h_)
      refine lv_aload_n hx hcb dJ7_fill_53178_10 rfl (lv_at hl 0 rfl) ?_
      refine lv_iload_n hx hcb dJ7_fill_53178_11 rfl (lv_at hl 2 rfl) ?_
      refine lv_iload_n hx hcb dJ7_fill_53178_12 rfl (lv_at hl 1 rfl) ?_
      refine x_iast hx hcb hK hR hS hoA hsA (k := i_) (by omega) hNA dJ7_fill_53178_13 (fun H locs hR hS => ?_)
      refine lv_iinc (v := (nI (i_ + 1))) (lv' := [(2, .int (nI (i_ + 1))), (0, .ref (w.2.2 oA)), (1, .int v), (3, .int (nI NA))]) hx hcb dJ7_fill_53178_14 hl (k := 2) rfl (x_iinc1 _) (by decide) rfl (fun ls hl => ?_)
      refine lv_goto (tgt := 5) hx hcb dJ7_fill_53178_17 (by decide) ?_
      rw [show (u1 (ur z oA (fun j => if j < i_ then v else z.1 oA j)) oA i_ v) = (ur z oA (fun j => if j < (i_ + 1) then v else z.1 oA j)) from by rw [u1_ur, fill_s]] at hR
      exact ih_5 (i_ + 1) (by omega) (by omega) _ _ _ hR hS (lv_sub hl [1, 2, 0, 3] rfl)
def rm_X5_start : Room := { frames := 1, cells := 0, slots := 0, locals := 23 }
set_option maxRecDepth 100000 in
set_option maxHeartbeats 4000000 in
theorem c_X5_start (l : Launch) (G : xGl) (w : xWd) (K : Nat) (hw : isC K w) (z : xSt) (sz : Nat) (b m : Nat) (hb : b < 2 + K) (hm : m < 8) (nm : Int32)  : xMv l yX5_start cX5_start 2 rm_X5_start G w z sz [.ref (w.2.2 (oM b m)), .int nm] (fun z1 => z1 = stM z b m nm) := by
  refine x_mv (by decide) (Nat.le_of_ble_eq_true rfl) ?_
  intro p e s mt args below meth c ls Q hsz X hR hS hl hret
  obtain ⟨hx, hcb, hml, hown, hts, hlk, hK, hZ⟩ := X
  have hl : lv_has ls 2 [(0, .ref (w.2.2 (oM b m))), (1, .int nm)] := hl
  refine lv_aload_n hx hcb dX5_start_0 rfl (lv_at hl 0 rfl) ?_
  refine lv_iload_n hx hcb dX5_start_1 rfl (lv_at hl 1 rfl) ?_
  refine x_putI hx hcb hts hown hK xc5 hR hS (hoM hw hb hm) (hsM hw hm) 0 (by decide) rfl q_177 rfl (v := nm) rfl rfl dX5_start_2 (fun H locs hR hS => ?_)
  refine lv_aload_n hx hcb dX5_start_5 rfl (lv_at hl 0 rfl) ?_
  refine lv_iconst (v := (nI 0)) hx hcb dX5_start_6 (by decide) ?_
  refine x_putI hx hcb hts hown hK xc5 hR hS (hoM hw hb hm) (hsM hw hm) 1 (by decide) rfl q_179 rfl (v := (nI 0)) rfl rfl dX5_start_7 (fun H locs hR hS => ?_)
  refine lv_aload_n hx hcb dX5_start_10 rfl (lv_at hl 0 rfl) ?_
  refine lv_iconst (v := (nI 0)) hx hcb dX5_start_11 (by decide) ?_
  refine x_putI hx hcb hts hown hK xc5 hR hS (hoM hw hb hm) (hsM hw hm) 2 (by decide) rfl q_183 rfl (v := (nI 0)) rfl rfl dX5_start_12 (fun H locs hR hS => ?_)
  refine lv_aload_n hx hcb dX5_start_15 rfl (lv_at hl 0 rfl) ?_
  refine lv_iconst (v := (nI 0)) hx hcb dX5_start_16 (by decide) ?_
  refine x_putI hx hcb hts hown hK xc5 hR hS (hoM hw hb hm) (hsM hw hm) 3 (by decide) rfl q_187 rfl (v := (nI 0)) rfl rfl dX5_start_17 (fun H locs hR hS => ?_)
  refine lv_aload_n hx hcb dX5_start_20 rfl (lv_at hl 0 rfl) ?_
  refine lv_iconst (v := (nI 0)) hx hcb dX5_start_21 (by decide) ?_
  refine x_putI hx hcb hts hown hK xc5 hR hS (hoM hw hb hm) (hsM hw hm) 4 (by decide) rfl q_190 rfl (v := (nI 0)) rfl rfl dX5_start_22 (fun H locs hR hS => ?_)
  refine lv_aload_n hx hcb dX5_start_25 rfl (lv_at hl 0 rfl) ?_
  refine lv_iconst (v := (nI 0)) hx hcb dX5_start_26 (by decide) ?_
  refine x_putI hx hcb hts hown hK xc5 hR hS (hoM hw hb hm) (hsM hw hm) 5 (by decide) rfl q_192 rfl (v := (nI 0)) rfl rfl dX5_start_27 (fun H locs hR hS => ?_)
  rw [u1_is z (oM b m) 0 nm, u1_ur, u1_ur, u1_ur, u1_ur, u1_ur] at hR
  have hR := hR.row (hsM hw hm) (g := fun k => if k = 0 then nm else 0) (fun k hk => up6 (g := fun k => if k = 0 then nm else 0) rfl rfl rfl rfl rfl rfl (relM hk))
  refine lv_aload_n hx hcb dX5_start_30 rfl (lv_at hl 0 rfl) ?_
  refine x_getR hx hcb hts hown hK xc5 hR (hoM hw hb hm) (hsM hw hm) 6 (by decide) rfl q_195 dX5_start_31 ?_
  refine lv_iconst (v := (nI 0)) hx hcb dX5_start_34 (by decide) ?_
  refine x_cv0 rfl rfl (x_runS hx hcb hml hown hts (c_J7_fill_53178 l G w K hw (ur z (oM b m) (fun k => if k = 0 then nm else 0)) _ (oPt b m) 4 (hoPt hw hb hm) (hsPt hw hm) (by decide) (nI 0)) ms_J7_fill_53178 q_541 hK hZ hR hS rfl hl.1 rfl (Nat.le_of_ble_eq_true rfl) dX5_start_35 ⟨by decide, by decide⟩ ⟨by decide, by decide⟩) hS (fun z_2 H locs hp_3 hR hS => ?_)
  rw [hp_3] at hR
  refine lv_aload_n hx hcb dX5_start_38 rfl (lv_at hl 0 rfl) ?_
  refine x_getR hx hcb hts hown hK xc5 hR (hoM hw hb hm) (hsM hw hm) 7 (by decide) rfl q_200 dX5_start_39 ?_
  refine lv_iconst (v := (nI 0)) hx hcb dX5_start_42 (by decide) ?_
  refine x_cv0 rfl rfl (x_runS hx hcb hml hown hts (c_J7_fill_53178 l G w K hw (ur (ur z (oM b m) (fun k => if k = 0 then nm else 0)) (oPt b m) (fun _ => (nI 0))) _ (oLf b m) 25 (hoLf hw hb hm) (hsLf hw hm) (by decide) (nI 0)) ms_J7_fill_53178 q_541 hK hZ hR hS rfl hl.1 rfl (Nat.le_of_ble_eq_true rfl) dX5_start_43 ⟨by decide, by decide⟩ ⟨by decide, by decide⟩) hS (fun z_5 H locs hp_6 hR hS => ?_)
  rw [hp_6] at hR
  refine lv_aload_n hx hcb dX5_start_46 rfl (lv_at hl 0 rfl) ?_
  refine x_getR hx hcb hts hown hK xc5 hR (hoM hw hb hm) (hsM hw hm) 8 (by decide) rfl q_204 dX5_start_47 ?_
  refine lv_iconst (v := (nI 0)) hx hcb dX5_start_50 (by decide) ?_
  refine x_cv0 rfl rfl (x_runS hx hcb hml hown hts (c_J7_fill_53178 l G w K hw (ur (ur (ur z (oM b m) (fun k => if k = 0 then nm else 0)) (oPt b m) (fun _ => (nI 0))) (oLf b m) (fun _ => (nI 0))) _ (oKd b m) 25 (hoKd hw hb hm) (hsKd hw hm) (by decide) (nI 0)) ms_J7_fill_53178 q_541 hK hZ hR hS rfl hl.1 rfl (Nat.le_of_ble_eq_true rfl) dX5_start_51 ⟨by decide, by decide⟩ ⟨by decide, by decide⟩) hS (fun z_8 H locs hp_9 hR hS => ?_)
  rw [hp_9] at hR
  refine lv_aload_n hx hcb dX5_start_54 rfl (lv_at hl 0 rfl) ?_
  refine x_getR hx hcb hts hown hK xc5 hR (hoM hw hb hm) (hsM hw hm) 9 (by decide) rfl q_206 dX5_start_55 ?_
  refine lv_iconst (v := (nI 0)) hx hcb dX5_start_58 (by decide) ?_
  refine x_cv0 rfl rfl (x_runS hx hcb hml hown hts (c_J7_fill_53178 l G w K hw (ur (ur (ur (ur z (oM b m) (fun k => if k = 0 then nm else 0)) (oPt b m) (fun _ => (nI 0))) (oLf b m) (fun _ => (nI 0))) (oKd b m) (fun _ => (nI 0))) _ (oPd b m) 3 (hoPd hw hb hm) (hsPd hw hm) (by decide) (nI 0)) ms_J7_fill_53178 q_541 hK hZ hR hS rfl hl.1 rfl (Nat.le_of_ble_eq_true rfl) dX5_start_59 ⟨by decide, by decide⟩ ⟨by decide, by decide⟩) hS (fun z_11 H locs hp_12 hR hS => ?_)
  rw [hp_12] at hR
  exact hret (ur (ur (ur (ur (ur z (oM b m) (fun k => if k = 0 then nm else 0)) (oPt b m) (fun _ => (nI 0))) (oLf b m) (fun _ => (nI 0))) (oKd b m) (fun _ => (nI 0))) (oPd b m) (fun _ => (nI 0))) _ _ _ _ dX5_start_62 hR hS rfl
def rm_X5_copyFrom : Room := { frames := 1, cells := 0, slots := 0, locals := 40 }
set_option maxRecDepth 100000 in
set_option maxHeartbeats 4000000 in
theorem c_X5_copyFrom (l : Launch) (G : xGl) (w : xWd) (K : Nat) (hw : isC K w) (z : xSt) (sz : Nat) (b m : Nat) (hb : b < 2 + K) (hm : m < 8) (bx mx : Nat) (hbx : bx < 2 + K) (hmx : mx < 8) (hne : bx ≠ b) (hcn : z.1 (oM bx mx) 1 = 0 ∨ z.1 (oM bx mx) 1 = 1) : xMv l yX5_copyFrom cX5_copyFrom 2 rm_X5_copyFrom G w z sz [.ref (w.2.2 (oM b m)), .ref (w.2.2 (oM bx mx))] (fun z1 => z1 = cpN z b m bx mx) := by
  refine x_mv (by decide) (Nat.le_of_ble_eq_true rfl) ?_
  intro p e s mt args below meth c ls Q hsz X hR hS hl hret
  obtain ⟨hx, hcb, hml, hown, hts, hlk, hK, hZ⟩ := X
  have hl : lv_has ls 2 [(0, .ref (w.2.2 (oM b m))), (1, .ref (w.2.2 (oM bx mx)))] := hl
  refine lv_aload_n hx hcb dX5_copyFrom_0 rfl (lv_at hl 0 rfl) ?_
  refine lv_aload_n hx hcb dX5_copyFrom_1 rfl (lv_at hl 1 rfl) ?_
  refine x_getI hx hcb hts hown hK xc5 hR (hoM hw hbx hmx) (hsM hw hmx) 0 (by decide) rfl q_177 dX5_copyFrom_2 ?_
  refine x_putI hx hcb hts hown hK xc5 hR hS (hoM hw hb hm) (hsM hw hm) 0 (by decide) rfl q_177 rfl (v := (z.1 (oM bx mx) 0)) rfl rfl dX5_copyFrom_5 (fun H locs hR hS => ?_)
  refine lv_aload_n hx hcb dX5_copyFrom_8 rfl (lv_at hl 0 rfl) ?_
  refine lv_aload_n hx hcb dX5_copyFrom_9 rfl (lv_at hl 1 rfl) ?_
  refine x_getI hx hcb hts hown hK xc5 hR (hoM hw hbx hmx) (hsM hw hmx) 1 (by decide) rfl q_179 dX5_copyFrom_10 ?_
  refine x_top (show ((u1 z (oM b m) 0 (z.1 (oM bx mx) 0)).1 (oM bx mx) 1) = (z.1 (oM bx mx) 1) from by repeat (first | rw [u1_rd, if_neg (by first | omega | (simp only [oB, oMs, oDs, oSt, oD, oM, oPt, oLf, oKd, oPd]; omega))] | rw [ur_rd, if_neg (by first | omega | (simp only [oB, oMs, oDs, oSt, oD, oM, oPt, oLf, oKd, oPd]; omega))])) ?_
  refine x_putI hx hcb hts hown hK xc5 hR hS (hoM hw hb hm) (hsM hw hm) 1 (by decide) rfl q_179 rfl (v := (z.1 (oM bx mx) 1)) (by rcases hcn with h_ | h_ <;> rw [h_] <;> rfl) (by rcases hcn with h_ | h_ <;> rw [h_] <;> rfl) dX5_copyFrom_13 (fun H locs hR hS => ?_)
  refine lv_aload_n hx hcb dX5_copyFrom_16 rfl (lv_at hl 0 rfl) ?_
  refine lv_aload_n hx hcb dX5_copyFrom_17 rfl (lv_at hl 1 rfl) ?_
  refine x_getI hx hcb hts hown hK xc5 hR (hoM hw hbx hmx) (hsM hw hmx) 2 (by decide) rfl q_183 dX5_copyFrom_18 ?_
  refine x_top (show ((u1 (u1 z (oM b m) 0 (z.1 (oM bx mx) 0)) (oM b m) 1 (z.1 (oM bx mx) 1)).1 (oM bx mx) 2) = (z.1 (oM bx mx) 2) from by repeat (first | rw [u1_rd, if_neg (by first | omega | (simp only [oB, oMs, oDs, oSt, oD, oM, oPt, oLf, oKd, oPd]; omega))] | rw [ur_rd, if_neg (by first | omega | (simp only [oB, oMs, oDs, oSt, oD, oM, oPt, oLf, oKd, oPd]; omega))])) ?_
  refine x_putI hx hcb hts hown hK xc5 hR hS (hoM hw hb hm) (hsM hw hm) 2 (by decide) rfl q_183 rfl (v := (z.1 (oM bx mx) 2)) rfl rfl dX5_copyFrom_21 (fun H locs hR hS => ?_)
  refine lv_aload_n hx hcb dX5_copyFrom_24 rfl (lv_at hl 0 rfl) ?_
  refine lv_aload_n hx hcb dX5_copyFrom_25 rfl (lv_at hl 1 rfl) ?_
  refine x_getI hx hcb hts hown hK xc5 hR (hoM hw hbx hmx) (hsM hw hmx) 3 (by decide) rfl q_187 dX5_copyFrom_26 ?_
  refine x_top (show ((u1 (u1 (u1 z (oM b m) 0 (z.1 (oM bx mx) 0)) (oM b m) 1 (z.1 (oM bx mx) 1)) (oM b m) 2 (z.1 (oM bx mx) 2)).1 (oM bx mx) 3) = (z.1 (oM bx mx) 3) from by repeat (first | rw [u1_rd, if_neg (by first | omega | (simp only [oB, oMs, oDs, oSt, oD, oM, oPt, oLf, oKd, oPd]; omega))] | rw [ur_rd, if_neg (by first | omega | (simp only [oB, oMs, oDs, oSt, oD, oM, oPt, oLf, oKd, oPd]; omega))])) ?_
  refine x_putI hx hcb hts hown hK xc5 hR hS (hoM hw hb hm) (hsM hw hm) 3 (by decide) rfl q_187 rfl (v := (z.1 (oM bx mx) 3)) rfl rfl dX5_copyFrom_29 (fun H locs hR hS => ?_)
  refine lv_aload_n hx hcb dX5_copyFrom_32 rfl (lv_at hl 0 rfl) ?_
  refine lv_aload_n hx hcb dX5_copyFrom_33 rfl (lv_at hl 1 rfl) ?_
  refine x_getI hx hcb hts hown hK xc5 hR (hoM hw hbx hmx) (hsM hw hmx) 4 (by decide) rfl q_190 dX5_copyFrom_34 ?_
  refine x_top (show ((u1 (u1 (u1 (u1 z (oM b m) 0 (z.1 (oM bx mx) 0)) (oM b m) 1 (z.1 (oM bx mx) 1)) (oM b m) 2 (z.1 (oM bx mx) 2)) (oM b m) 3 (z.1 (oM bx mx) 3)).1 (oM bx mx) 4) = (z.1 (oM bx mx) 4) from by repeat (first | rw [u1_rd, if_neg (by first | omega | (simp only [oB, oMs, oDs, oSt, oD, oM, oPt, oLf, oKd, oPd]; omega))] | rw [ur_rd, if_neg (by first | omega | (simp only [oB, oMs, oDs, oSt, oD, oM, oPt, oLf, oKd, oPd]; omega))])) ?_
  refine x_putI hx hcb hts hown hK xc5 hR hS (hoM hw hb hm) (hsM hw hm) 4 (by decide) rfl q_190 rfl (v := (z.1 (oM bx mx) 4)) rfl rfl dX5_copyFrom_37 (fun H locs hR hS => ?_)
  refine lv_aload_n hx hcb dX5_copyFrom_40 rfl (lv_at hl 0 rfl) ?_
  refine lv_aload_n hx hcb dX5_copyFrom_41 rfl (lv_at hl 1 rfl) ?_
  refine x_getI hx hcb hts hown hK xc5 hR (hoM hw hbx hmx) (hsM hw hmx) 5 (by decide) rfl q_192 dX5_copyFrom_42 ?_
  refine x_top (show ((u1 (u1 (u1 (u1 (u1 z (oM b m) 0 (z.1 (oM bx mx) 0)) (oM b m) 1 (z.1 (oM bx mx) 1)) (oM b m) 2 (z.1 (oM bx mx) 2)) (oM b m) 3 (z.1 (oM bx mx) 3)) (oM b m) 4 (z.1 (oM bx mx) 4)).1 (oM bx mx) 5) = (z.1 (oM bx mx) 5) from by repeat (first | rw [u1_rd, if_neg (by first | omega | (simp only [oB, oMs, oDs, oSt, oD, oM, oPt, oLf, oKd, oPd]; omega))] | rw [ur_rd, if_neg (by first | omega | (simp only [oB, oMs, oDs, oSt, oD, oM, oPt, oLf, oKd, oPd]; omega))])) ?_
  refine x_putI hx hcb hts hown hK xc5 hR hS (hoM hw hb hm) (hsM hw hm) 5 (by decide) rfl q_192 rfl (v := (z.1 (oM bx mx) 5)) rfl rfl dX5_copyFrom_45 (fun H locs hR hS => ?_)
  rw [u1_is z (oM b m) 0 (z.1 (oM bx mx) 0), u1_ur, u1_ur, u1_ur, u1_ur, u1_ur] at hR
  have hR := hR.row (hsM hw hm) (g := z.1 (oM bx mx)) (fun k hk => up6 rfl rfl rfl rfl rfl rfl (relM hk))
  refine lv_aload_n hx hcb dX5_copyFrom_48 rfl (lv_at hl 1 rfl) ?_
  refine x_getR hx hcb hts hown hK xc5 hR (hoM hw hbx hmx) (hsM hw hmx) 6 (by decide) rfl q_195 dX5_copyFrom_49 ?_
  refine lv_iconst (v := (nI 0)) hx hcb dX5_copyFrom_52 (by decide) ?_
  refine lv_aload_n hx hcb dX5_copyFrom_53 rfl (lv_at hl 0 rfl) ?_
  refine x_getR hx hcb hts hown hK xc5 hR (hoM hw hb hm) (hsM hw hm) 6 (by decide) rfl q_195 dX5_copyFrom_54 ?_
  refine lv_iconst (v := (nI 0)) hx hcb dX5_copyFrom_57 (by decide) ?_
  refine lv_iconst (v := (nI 4)) hx hcb dX5_copyFrom_58 (by decide) ?_
  refine x_copy hx hcb hml hown hts hl.1 q_659 hK hR hS (hoPt hw hbx hmx) (hsPt hw hmx) (hoPt hw hb hm) (hsPt hw hm) (sp := 0) (dp := 0) (n := 4) (by omega) (by omega) (by decide) (by decide) (by decide) (Nat.le_of_ble_eq_true rfl) dX5_copyFrom_59 (fun H locs hR hS => ?_)
  have hR := hR.row (hsPt hw hm) (g := z.1 (oPt bx mx)) (fun k hk => (cpy0 hk).trans (by repeat (first | rw [u1_rd, if_neg (by first | omega | (simp only [oB, oMs, oDs, oSt, oD, oM, oPt, oLf, oKd, oPd]; omega))] | rw [ur_rd, if_neg (by first | omega | (simp only [oB, oMs, oDs, oSt, oD, oM, oPt, oLf, oKd, oPd]; omega))])))
  refine lv_aload_n hx hcb dX5_copyFrom_62 rfl (lv_at hl 1 rfl) ?_
  refine x_getR hx hcb hts hown hK xc5 hR (hoM hw hbx hmx) (hsM hw hmx) 7 (by decide) rfl q_200 dX5_copyFrom_63 ?_
  refine lv_iconst (v := (nI 0)) hx hcb dX5_copyFrom_66 (by decide) ?_
  refine lv_aload_n hx hcb dX5_copyFrom_67 rfl (lv_at hl 0 rfl) ?_
  refine x_getR hx hcb hts hown hK xc5 hR (hoM hw hb hm) (hsM hw hm) 7 (by decide) rfl q_200 dX5_copyFrom_68 ?_
  refine lv_iconst (v := (nI 0)) hx hcb dX5_copyFrom_71 (by decide) ?_
  refine lv_bipush (v := (nI 25)) hx hcb dX5_copyFrom_72 (by decide) ?_
  refine x_copy hx hcb hml hown hts hl.1 q_659 hK hR hS (hoLf hw hbx hmx) (hsLf hw hmx) (hoLf hw hb hm) (hsLf hw hm) (sp := 0) (dp := 0) (n := 25) (by omega) (by omega) (by decide) (by decide) (by decide) (Nat.le_of_ble_eq_true rfl) dX5_copyFrom_74 (fun H locs hR hS => ?_)
  have hR := hR.row (hsLf hw hm) (g := z.1 (oLf bx mx)) (fun k hk => (cpy0 hk).trans (by repeat (first | rw [u1_rd, if_neg (by first | omega | (simp only [oB, oMs, oDs, oSt, oD, oM, oPt, oLf, oKd, oPd]; omega))] | rw [ur_rd, if_neg (by first | omega | (simp only [oB, oMs, oDs, oSt, oD, oM, oPt, oLf, oKd, oPd]; omega))])))
  refine lv_aload_n hx hcb dX5_copyFrom_77 rfl (lv_at hl 1 rfl) ?_
  refine x_getR hx hcb hts hown hK xc5 hR (hoM hw hbx hmx) (hsM hw hmx) 8 (by decide) rfl q_204 dX5_copyFrom_78 ?_
  refine lv_iconst (v := (nI 0)) hx hcb dX5_copyFrom_81 (by decide) ?_
  refine lv_aload_n hx hcb dX5_copyFrom_82 rfl (lv_at hl 0 rfl) ?_
  refine x_getR hx hcb hts hown hK xc5 hR (hoM hw hb hm) (hsM hw hm) 8 (by decide) rfl q_204 dX5_copyFrom_83 ?_
  refine lv_iconst (v := (nI 0)) hx hcb dX5_copyFrom_86 (by decide) ?_
  refine lv_bipush (v := (nI 25)) hx hcb dX5_copyFrom_87 (by decide) ?_
  refine x_copy hx hcb hml hown hts hl.1 q_659 hK hR hS (hoKd hw hbx hmx) (hsKd hw hmx) (hoKd hw hb hm) (hsKd hw hm) (sp := 0) (dp := 0) (n := 25) (by omega) (by omega) (by decide) (by decide) (by decide) (Nat.le_of_ble_eq_true rfl) dX5_copyFrom_89 (fun H locs hR hS => ?_)
  have hR := hR.row (hsKd hw hm) (g := z.1 (oKd bx mx)) (fun k hk => (cpy0 hk).trans (by repeat (first | rw [u1_rd, if_neg (by first | omega | (simp only [oB, oMs, oDs, oSt, oD, oM, oPt, oLf, oKd, oPd]; omega))] | rw [ur_rd, if_neg (by first | omega | (simp only [oB, oMs, oDs, oSt, oD, oM, oPt, oLf, oKd, oPd]; omega))])))
  refine lv_aload_n hx hcb dX5_copyFrom_92 rfl (lv_at hl 1 rfl) ?_
  refine x_getR hx hcb hts hown hK xc5 hR (hoM hw hbx hmx) (hsM hw hmx) 9 (by decide) rfl q_206 dX5_copyFrom_93 ?_
  refine lv_iconst (v := (nI 0)) hx hcb dX5_copyFrom_96 (by decide) ?_
  refine lv_aload_n hx hcb dX5_copyFrom_97 rfl (lv_at hl 0 rfl) ?_
  refine x_getR hx hcb hts hown hK xc5 hR (hoM hw hb hm) (hsM hw hm) 9 (by decide) rfl q_206 dX5_copyFrom_98 ?_
  refine lv_iconst (v := (nI 0)) hx hcb dX5_copyFrom_101 (by decide) ?_
  refine lv_iconst (v := (nI 3)) hx hcb dX5_copyFrom_102 (by decide) ?_
  refine x_copy hx hcb hml hown hts hl.1 q_659 hK hR hS (hoPd hw hbx hmx) (hsPd hw hmx) (hoPd hw hb hm) (hsPd hw hm) (sp := 0) (dp := 0) (n := 3) (by omega) (by omega) (by decide) (by decide) (by decide) (Nat.le_of_ble_eq_true rfl) dX5_copyFrom_103 (fun H locs hR hS => ?_)
  have hR := hR.row (hsPd hw hm) (g := z.1 (oPd bx mx)) (fun k hk => (cpy0 hk).trans (by repeat (first | rw [u1_rd, if_neg (by first | omega | (simp only [oB, oMs, oDs, oSt, oD, oM, oPt, oLf, oKd, oPd]; omega))] | rw [ur_rd, if_neg (by first | omega | (simp only [oB, oMs, oDs, oSt, oD, oM, oPt, oLf, oKd, oPd]; omega))])))
  exact hret (ur (ur (ur (ur (ur z (oM b m) (z.1 (oM bx mx))) (oPt b m) (z.1 (oPt bx mx))) (oLf b m) (z.1 (oLf bx mx))) (oKd b m) (z.1 (oKd bx mx))) (oPd b m) (z.1 (oPd bx mx))) _ _ _ _ dX5_copyFrom_106 hR hS rfl
def rm_X2_start : Room := { frames := 0, cells := 0, slots := 0, locals := 0 }
set_option maxRecDepth 100000 in
set_option maxHeartbeats 4000000 in
theorem c_X2_start (l : Launch) (G : xGl) (w : xWd) (K : Nat) (hw : isC K w) (z : xSt) (sz : Nat) (b d : Nat) (hb : b < 2 + K) (hd : d < 4) (nm : Int32)  : xMv l yX2_start cX2_start 2 rm_X2_start G w z sz [.ref (w.2.2 (oD b d)), .int nm] (fun z1 => z1 = stD z b d nm) := by
  refine x_mv (by decide) (Nat.le_of_ble_eq_true rfl) ?_
  intro p e s mt args below meth c ls Q hsz X hR hS hl hret
  obtain ⟨hx, hcb, hml, hown, hts, hlk, hK, hZ⟩ := X
  have hl : lv_has ls 2 [(0, .ref (w.2.2 (oD b d))), (1, .int nm)] := hl
  refine lv_aload_n hx hcb dX2_start_0 rfl (lv_at hl 0 rfl) ?_
  refine lv_iload_n hx hcb dX2_start_1 rfl (lv_at hl 1 rfl) ?_
  refine x_putI hx hcb hts hown hK xc2 hR hS (hoD hw hb hd) (hsD hw hd) 0 (by decide) rfl q_237 rfl (v := nm) rfl rfl dX2_start_2 (fun H locs hR hS => ?_)
  refine lv_aload_n hx hcb dX2_start_5 rfl (lv_at hl 0 rfl) ?_
  refine lv_iconst (v := (nI 0)) hx hcb dX2_start_6 (by decide) ?_
  refine x_putI hx hcb hts hown hK xc2 hR hS (hoD hw hb hd) (hsD hw hd) 1 (by decide) rfl q_239 rfl (v := (nI 0)) rfl rfl dX2_start_7 (fun H locs hR hS => ?_)
  refine lv_aload_n hx hcb dX2_start_10 rfl (lv_at hl 0 rfl) ?_
  refine lv_iconst (v := (nI 0)) hx hcb dX2_start_11 (by decide) ?_
  refine x_putI hx hcb hts hown hK xc2 hR hS (hoD hw hb hd) (hsD hw hd) 2 (by decide) rfl q_241 rfl (v := (nI 0)) rfl rfl dX2_start_12 (fun H locs hR hS => ?_)
  rw [u1_is z (oD b d) 0 nm, u1_ur, u1_ur] at hR
  have hR := hR.row (hsD hw hd) (g := fun k => if k = 0 then nm else 0) (fun k hk => up3 (g := fun k => if k = 0 then nm else 0) rfl rfl rfl (relD hk))
  exact hret (ur z (oD b d) (fun k => if k = 0 then nm else 0)) _ _ _ _ dX2_start_15 hR hS rfl
def rm_X2_copyFrom : Room := { frames := 0, cells := 0, slots := 0, locals := 0 }
set_option maxRecDepth 100000 in
set_option maxHeartbeats 4000000 in
theorem c_X2_copyFrom (l : Launch) (G : xGl) (w : xWd) (K : Nat) (hw : isC K w) (z : xSt) (sz : Nat) (b d : Nat) (hb : b < 2 + K) (hd : d < 4) (bx dx : Nat) (hbx : bx < 2 + K) (hdx : dx < 4) (hne : bx ≠ b) : xMv l yX2_copyFrom cX2_copyFrom 2 rm_X2_copyFrom G w z sz [.ref (w.2.2 (oD b d)), .ref (w.2.2 (oD bx dx))] (fun z1 => z1 = ur z (oD b d) (z.1 (oD bx dx))) := by
  refine x_mv (by decide) (Nat.le_of_ble_eq_true rfl) ?_
  intro p e s mt args below meth c ls Q hsz X hR hS hl hret
  obtain ⟨hx, hcb, hml, hown, hts, hlk, hK, hZ⟩ := X
  have hl : lv_has ls 2 [(0, .ref (w.2.2 (oD b d))), (1, .ref (w.2.2 (oD bx dx)))] := hl
  refine lv_aload_n hx hcb dX2_copyFrom_0 rfl (lv_at hl 0 rfl) ?_
  refine lv_aload_n hx hcb dX2_copyFrom_1 rfl (lv_at hl 1 rfl) ?_
  refine x_getI hx hcb hts hown hK xc2 hR (hoD hw hbx hdx) (hsD hw hdx) 0 (by decide) rfl q_237 dX2_copyFrom_2 ?_
  refine x_putI hx hcb hts hown hK xc2 hR hS (hoD hw hb hd) (hsD hw hd) 0 (by decide) rfl q_237 rfl (v := (z.1 (oD bx dx) 0)) rfl rfl dX2_copyFrom_5 (fun H locs hR hS => ?_)
  refine lv_aload_n hx hcb dX2_copyFrom_8 rfl (lv_at hl 0 rfl) ?_
  refine lv_aload_n hx hcb dX2_copyFrom_9 rfl (lv_at hl 1 rfl) ?_
  refine x_getI hx hcb hts hown hK xc2 hR (hoD hw hbx hdx) (hsD hw hdx) 1 (by decide) rfl q_239 dX2_copyFrom_10 ?_
  refine x_top (show ((u1 z (oD b d) 0 (z.1 (oD bx dx) 0)).1 (oD bx dx) 1) = (z.1 (oD bx dx) 1) from by repeat (first | rw [u1_rd, if_neg (by first | omega | (simp only [oB, oMs, oDs, oSt, oD, oM, oPt, oLf, oKd, oPd]; omega))] | rw [ur_rd, if_neg (by first | omega | (simp only [oB, oMs, oDs, oSt, oD, oM, oPt, oLf, oKd, oPd]; omega))])) ?_
  refine x_putI hx hcb hts hown hK xc2 hR hS (hoD hw hb hd) (hsD hw hd) 1 (by decide) rfl q_239 rfl (v := (z.1 (oD bx dx) 1)) rfl rfl dX2_copyFrom_13 (fun H locs hR hS => ?_)
  refine lv_aload_n hx hcb dX2_copyFrom_16 rfl (lv_at hl 0 rfl) ?_
  refine lv_aload_n hx hcb dX2_copyFrom_17 rfl (lv_at hl 1 rfl) ?_
  refine x_getI hx hcb hts hown hK xc2 hR (hoD hw hbx hdx) (hsD hw hdx) 2 (by decide) rfl q_241 dX2_copyFrom_18 ?_
  refine x_top (show ((u1 (u1 z (oD b d) 0 (z.1 (oD bx dx) 0)) (oD b d) 1 (z.1 (oD bx dx) 1)).1 (oD bx dx) 2) = (z.1 (oD bx dx) 2) from by repeat (first | rw [u1_rd, if_neg (by first | omega | (simp only [oB, oMs, oDs, oSt, oD, oM, oPt, oLf, oKd, oPd]; omega))] | rw [ur_rd, if_neg (by first | omega | (simp only [oB, oMs, oDs, oSt, oD, oM, oPt, oLf, oKd, oPd]; omega))])) ?_
  refine x_putI hx hcb hts hown hK xc2 hR hS (hoD hw hb hd) (hsD hw hd) 2 (by decide) rfl q_241 rfl (v := (z.1 (oD bx dx) 2)) rfl rfl dX2_copyFrom_21 (fun H locs hR hS => ?_)
  rw [u1_is z (oD b d) 0 (z.1 (oD bx dx) 0), u1_ur, u1_ur] at hR
  have hR := hR.row (hsD hw hd) (g := z.1 (oD bx dx)) (fun k hk => up3 rfl rfl rfl (relD hk))
  exact hret (ur z (oD b d) (z.1 (oD bx dx))) _ _ _ _ dX2_copyFrom_24 hR hS rfl
def rm_X7_start : Room := { frames := 0, cells := 0, slots := 0, locals := 0 }
set_option maxRecDepth 100000 in
set_option maxHeartbeats 4000000 in
theorem c_X7_start (l : Launch) (G : xGl) (w : xWd) (K : Nat) (hw : isC K w) (z : xSt) (sz : Nat)   : xMv l yX7_start cX7_start 1 rm_X7_start G w z sz [.ref (w.2.2 5)] (fun z1 => z1 = u1 z 5 3 0) := by
  refine x_mv (by decide) (Nat.le_of_ble_eq_true rfl) ?_
  intro p e s mt args below meth c ls Q hsz X hR hS hl hret
  obtain ⟨hx, hcb, hml, hown, hts, hlk, hK, hZ⟩ := X
  have hl : lv_has ls 1 [(0, .ref (w.2.2 5))] := hl
  refine lv_aload_n hx hcb dX7_start_0 rfl (lv_at hl 0 rfl) ?_
  refine lv_iconst (v := (nI 0)) hx hcb dX7_start_1 (by decide) ?_
  refine x_putI hx hcb hts hown hK xc7 hR hS (hw.lo (by decide)) (hw.s0 (by decide) rfl) 3 (by decide) rfl q_111 rfl (v := (nI 0)) rfl rfl dX7_start_2 (fun H locs hR hS => ?_)
  exact hret (u1 z 5 3 (nI 0)) _ _ _ _ dX7_start_5 hR hS rfl
def rm_X7_add : Room := { frames := 0, cells := 0, slots := 0, locals := 0 }
set_option maxRecDepth 100000 in
set_option maxHeartbeats 4000000 in
theorem c_X7_add (l : Launch) (G : xGl) (w : xWd) (K : Nat) (hw : isC K w) (z : xSt) (sz : Nat) (wt : Int32) (n : Nat) (hc : z.1 5 3 = nI n) (hn : n < 200) : xMv l yX7_add cX7_add 2 rm_X7_add G w z sz [.ref (w.2.2 5), .int wt] (fun z1 => z1 = u1 (u1 (u1 z 6 n wt) 7 n 0) 5 3 (nI (n + 1))) := by
  refine x_mv (by decide) (Nat.le_of_ble_eq_true rfl) ?_
  intro p e s mt args below meth c ls Q hsz X hR hS hl hret
  obtain ⟨hx, hcb, hml, hown, hts, hlk, hK, hZ⟩ := X
  have hl : lv_has ls 2 [(0, .ref (w.2.2 5)), (1, .int wt)] := hl
  refine lv_aload_n hx hcb dX7_add_0 rfl (lv_at hl 0 rfl) ?_
  refine x_getI hx hcb hts hown hK xc7 hR (hw.lo (by decide)) (hw.s0 (by decide) rfl) 3 (by decide) rfl q_111 dX7_add_1 ?_
  refine x_top (show (z.1 5 3) = (nI n) from hc) ?_
  refine lv_sipush (v := (nI 200)) hx hcb dX7_add_4 (by decide) ?_
  refine lv_icmp_ge (tgt := 40) hx hcb dX7_add_7 (by decide) (fun c_1 => ?_) (fun c_1 => ?_)
  · skip
    have c_1 : 200 ≤ n := (nI_leI (by omega) (by omega)).mp c_1
    omega
  · skip
    have c_1 : ¬ 200 ≤ n := fun h_ => c_1 ((nI_leI (by omega) (by omega)).mpr h_)
    refine lv_aload_n hx hcb dX7_add_10 rfl (lv_at hl 0 rfl) ?_
    refine x_getR hx hcb hts hown hK xc7 hR (hw.lo (by decide)) (hw.s0 (by decide) rfl) 0 (by decide) rfl q_108 dX7_add_11 ?_
    refine lv_aload_n hx hcb dX7_add_14 rfl (lv_at hl 0 rfl) ?_
    refine x_getI hx hcb hts hown hK xc7 hR (hw.lo (by decide)) (hw.s0 (by decide) rfl) 3 (by decide) rfl q_111 dX7_add_15 ?_
    refine x_top (show (z.1 5 3) = (nI n) from hc) ?_
    refine lv_iload_n hx hcb dX7_add_18 rfl (lv_at hl 1 rfl) ?_
    refine x_iast hx hcb hK hR hS (hw.lo (by decide)) (hw.s0 (by decide) rfl) (k := n) (by omega) (by decide) dX7_add_19 (fun H locs hR hS => ?_)
    refine lv_aload_n hx hcb dX7_add_20 rfl (lv_at hl 0 rfl) ?_
    refine x_getR hx hcb hts hown hK xc7 hR (hw.lo (by decide)) (hw.s0 (by decide) rfl) 1 (by decide) rfl q_109 dX7_add_21 ?_
    refine lv_aload_n hx hcb dX7_add_24 rfl (lv_at hl 0 rfl) ?_
    refine x_getI hx hcb hts hown hK xc7 hR (hw.lo (by decide)) (hw.s0 (by decide) rfl) 3 (by decide) rfl q_111 dX7_add_25 ?_
    refine x_top (show ((u1 z 6 n wt).1 5 3) = (nI n) from by rw [u1_rd, if_neg (by omega)]; exact hc) ?_
    refine lv_iconst (v := (nI 0)) hx hcb dX7_add_28 (by decide) ?_
    refine x_iast hx hcb hK hR hS (hw.lo (by decide)) (hw.s0 (by decide) rfl) (k := n) (by omega) (by decide) dX7_add_29 (fun H locs hR hS => ?_)
    refine lv_aload_n hx hcb dX7_add_30 rfl (lv_at hl 0 rfl) ?_
    refine lv_dup hx hcb dX7_add_31 rfl ?_
    refine x_getI hx hcb hts hown hK xc7 hR (hw.lo (by decide)) (hw.s0 (by decide) rfl) 3 (by decide) rfl q_111 dX7_add_32 ?_
    refine x_top (show ((u1 (u1 z 6 n wt) 7 n (nI 0)).1 5 3) = (nI n) from by rw [u1_rd, if_neg (by omega), u1_rd, if_neg (by omega)]; exact hc) ?_
    refine lv_iconst (v := (nI 1)) hx hcb dX7_add_35 (by decide) ?_
    refine x_iaddN hx hcb dX7_add_36 ?_
    refine x_putI hx hcb hts hown hK xc7 hR hS (hw.lo (by decide)) (hw.s0 (by decide) rfl) 3 (by decide) rfl q_111 rfl (v := (nI (n + 1))) rfl rfl dX7_add_37 (fun H locs hR hS => ?_)
    exact hret (u1 (u1 (u1 z 6 n wt) 7 n (nI 0)) 5 3 (nI (n + 1))) _ _ _ _ dX7_add_40 hR hS rfl
def rm_X7_shareAt : Room := { frames := 0, cells := 0, slots := 0, locals := 0 }
set_option maxRecDepth 100000 in
set_option maxHeartbeats 4000000 in
theorem c_X7_shareAt (l : Launch) (G : xGl) (w : xWd) (K : Nat) (hw : isC K w) (z : xSt) (sz : Nat) (i : Nat) (n : Nat) (hc : z.1 5 3 = nI n) (hn : n ≤ 200) (hi : i < 2147483648) : xMi l yX7_shareAt cX7_shareAt 2 (some FieldType.int) rm_X7_shareAt G w z sz [.ref (w.2.2 5), .int (nI i)] (fun r z1 => r = (if i < n then z.1 7 i else 0) ∧ z1 = z) := by
  refine x_mi (by decide) (Nat.le_of_ble_eq_true rfl) ?_
  intro p e s mt args below meth c ls Q hsz X hR hS hl hret
  obtain ⟨hx, hcb, hml, hown, hts, hlk, hK, hZ⟩ := X
  have hl : lv_has ls 2 [(0, .ref (w.2.2 5)), (1, .int (nI i))] := hl
  refine lv_iload_n hx hcb dX7_shareAt_0 rfl (lv_at hl 1 rfl) ?_
  refine lv_if_lt (tgt := 21) hx hcb dX7_shareAt_1 (by decide) (fun c_1 => ?_) (fun c_1 => ?_)
  · skip
    have c_1 : i < 0 := (nI_ltI (a := i) (b := 0) (by omega) (by omega)).mp c_1
    omega
  · skip
    have c_1 : ¬ i < 0 := fun h_ => c_1 ((nI_ltI (a := i) (b := 0) (by omega) (by omega)).mpr h_)
    refine lv_iload_n hx hcb dX7_shareAt_4 rfl (lv_at hl 1 rfl) ?_
    refine lv_aload_n hx hcb dX7_shareAt_5 rfl (lv_at hl 0 rfl) ?_
    refine x_getI hx hcb hts hown hK xc7 hR (hw.lo (by decide)) (hw.s0 (by decide) rfl) 3 (by decide) rfl q_111 dX7_shareAt_6 ?_
    refine x_top (show (z.1 5 3) = (nI n) from hc) ?_
    refine lv_icmp_ge (tgt := 21) hx hcb dX7_shareAt_9 (by decide) (fun c_2 => ?_) (fun c_2 => ?_)
    · skip
      have c_2 : n ≤ i := (nI_leI (by omega) (by omega)).mp c_2
      have hq_ : ¬ i < n := by omega
      refine lv_iconst (v := (nI 0)) hx hcb dX7_shareAt_21 (by decide) ?_
      exact hret (nI 0) z _ _ _ _ dX7_shareAt_22 rfl hR hS (⟨by first | rw [if_pos hq_] | (rw [if_neg hq_]; rfl), rfl⟩)
    · skip
      have c_2 : ¬ n ≤ i := fun h_ => c_2 ((nI_leI (by omega) (by omega)).mpr h_)
      have hq_ : i < n := by omega
      refine lv_aload_n hx hcb dX7_shareAt_12 rfl (lv_at hl 0 rfl) ?_
      refine x_getR hx hcb hts hown hK xc7 hR (hw.lo (by decide)) (hw.s0 (by decide) rfl) 1 (by decide) rfl q_109 dX7_shareAt_13 ?_
      refine lv_iload_n hx hcb dX7_shareAt_16 rfl (lv_at hl 1 rfl) ?_
      refine x_iald hx hcb hK hR (hw.lo (by decide)) (hw.s0 (by decide) rfl) (k := i) (by omega) (by decide) dX7_shareAt_17 ?_
      refine lv_goto (tgt := 22) hx hcb dX7_shareAt_18 (by decide) ?_
      exact hret (z.1 7 i) z _ _ _ _ dX7_shareAt_22 rfl hR hS (⟨by first | rw [if_pos hq_] | (rw [if_neg hq_]; rfl), rfl⟩)
def rm_X7_share : Room := { frames := 0, cells := 0, slots := 0, locals := 0 }
set_option maxRecDepth 100000 in
set_option maxHeartbeats 4000000 in
theorem c_X7_share (l : Launch) (G : xGl) (w : xWd) (K : Nat) (hw : isC K w) (z : xSt) (sz : Nat) (a : Int32) (n : Nat) (hc : z.1 5 3 = nI n) (hn : n ≤ 200) : xMv l yX7_share cX7_share 8 rm_X7_share G w z sz [.ref (w.2.2 5), .int a] (fun z1 => z1 = shZ z a n) := by
  refine x_mv (by decide) (Nat.le_of_ble_eq_true rfl) ?_
  intro p e s mt args below meth c ls Q hsz X hR hS hl hret
  obtain ⟨hx, hcb, hml, hown, hts, hlk, hK, hZ⟩ := X
  have hl : lv_has ls 8 [(0, .ref (w.2.2 5)), (1, .int a)] := hl
  refine lv_lconst (v := 0) hx hcb dX7_share_0 (by decide) ?_
  refine lv_lstore_n (lv' := [(2, .long 0), (0, .ref (w.2.2 5)), (1, .int a)]) hx hcb dX7_share_1 rfl hl (by decide) rfl (fun ls hl => ?_)
  refine lv_iconst (v := (nI 0)) hx hcb dX7_share_2 (by decide) ?_
  refine lv_istore (lv' := [(4, .int (nI 0)), (2, .long 0), (0, .ref (w.2.2 5)), (1, .int a)]) hx hcb dX7_share_3 hl (by decide) rfl (fun ls hl => ?_)
  suffices LP_5 : ∀ (nn : Nat) (i_ : Nat) (_ : n - i_ < nn) (hi_ : i_ ≤ n) (H : Heap) (locs : List Loc) (ls : Array Slot), Rh G w z H → va_S (xA w s.heap.size) s.heap H locs → lv_has ls 8 [(0, .ref (w.2.2 5)), (1, .int a), (2, .long (shT (z.1 6) i_)), (4, .int (nI i_))] → W p l e rm_X7_share s mt args below meth c H locs 0 0 Q (F0 mt 5 ls []) from LP_5 ((_) + 1) 0 (Nat.lt_succ_self _) (by omega) _ _ _ hR hS (lv_sub hl [2, 3, 1, 0] rfl)
  intro nn
  induction nn with
  | zero => intro i_ hm_ ; exact absurd hm_ (Nat.not_lt_zero _)
  | succ nn ih_5 =>
    intro i_ hm_5 hi_ H locs ls hR hS hl
    refine lv_iload hx hcb dX7_share_5 (lv_at hl 3 rfl) ?_
    refine lv_aload_n hx hcb dX7_share_7 rfl (lv_at hl 0 rfl) ?_
    refine x_getI hx hcb hts hown hK xc7 hR (hw.lo (by decide)) (hw.s0 (by decide) rfl) 3 (by decide) rfl q_111 dX7_share_8 ?_
    refine x_top (show (z.1 5 3) = (nI n) from hc) ?_
    refine lv_icmp_ge (tgt := 31) hx hcb dX7_share_11 (by decide) (fun c_1 => ?_) (fun c_1 => ?_)
    · skip
      have c_1 : n ≤ i_ := (nI_leI (by omega) (by omega)).mp c_1
      obtain rfl : n = i_ := by omega
      refine lv_lload_n hx hcb dX7_share_31 rfl (lv_at hl 2 rfl) ?_
      refine lv_lconst (v := 0) hx hcb dX7_share_32 (by decide) ?_
      refine W.lcmp hx hcb dX7_share_33 ?_
      refine lv_if_gt (tgt := 38) hx hcb dX7_share_34 (by decide) (fun c_2 => ?_) (fun c_2 => ?_)
      · skip
        have hT : 0 < shT (z.1 6) n := (lg_cmp_gt _ _).mp c_2
        refine lv_iload_n hx hcb dX7_share_38 rfl (lv_at hl 1 rfl) ?_
        refine lv_istore (lv' := [(4, .int a), (0, .ref (w.2.2 5)), (1, .int a), (2, .long (shT (z.1 6) n))]) hx hcb dX7_share_39 hl (by decide) rfl (fun ls hl => ?_)
        refine lv_iconst (v := (nI 0)) hx hcb dX7_share_41 (by decide) ?_
        refine lv_istore (lv' := [(5, .int (nI 0)), (4, .int a), (0, .ref (w.2.2 5)), (1, .int a), (2, .long (shT (z.1 6) n))]) hx hcb dX7_share_42 hl (by decide) rfl (fun ls hl => ?_)
        rw [show z = zSR z (pre 0 (shQ a (z.1 6) (shT (z.1 6) n)) (z.1 7), pre 0 (shR a (z.1 6) (shT (z.1 6) n)) (z.2 8)) from by rw [pre_0, pre_0, zSR_id]] at hR
        suffices LP_44 : ∀ (nn : Nat) (i_ : Nat) (_ : n - i_ < nn) (hi_ : i_ ≤ n) (H : Heap) (locs : List Loc) (ls : Array Slot), Rh G w (zSR z (pre i_ (shQ a (z.1 6) (shT (z.1 6) n)) (z.1 7), pre i_ (shR a (z.1 6) (shT (z.1 6) n)) (z.2 8))) H → va_S (xA w s.heap.size) s.heap H locs → lv_has ls 8 [(0, .ref (w.2.2 5)), (1, .int a), (2, .long (shT (z.1 6) n)), (4, .int (iopen a (shQ a (z.1 6) (shT (z.1 6) n)) i_)), (5, .int (nI i_))] → W p l e rm_X7_share s mt args below meth c H locs 0 0 Q (F0 mt 44 ls []) from LP_44 ((_) + 1) 0 (Nat.lt_succ_self _) (by omega) _ _ _ hR hS (lv_sub hl [2, 3, 4, 1, 0] rfl)
        intro nn
        induction nn with
        | zero => intro i_ hm_ ; exact absurd hm_ (Nat.not_lt_zero _)
        | succ nn ih_44 =>
          intro i_ hm_44 hi_ H locs ls hR hS hl
          refine lv_iload hx hcb dX7_share_44 (lv_at hl 4 rfl) ?_
          refine lv_aload_n hx hcb dX7_share_46 rfl (lv_at hl 0 rfl) ?_
          refine x_getI hx hcb hts hown hK xc7 hR (hw.lo (by decide)) (hw.s0 (by decide) rfl) 3 (by decide) rfl q_111 dX7_share_47 ?_
          refine x_top (show ((zSR z (pre i_ (shQ a (z.1 6) (shT (z.1 6) n)) (z.1 7), pre i_ (shR a (z.1 6) (shT (z.1 6) n)) (z.2 8))).1 5 3) = (nI n) from hc) ?_
          refine lv_icmp_ge (tgt := 107) hx hcb dX7_share_50 (by decide) (fun c_3 => ?_) (fun c_3 => ?_)
          · skip
            have c_3 : n ≤ i_ := (nI_leI (by omega) (by omega)).mp c_3
            obtain rfl : n = i_ := by omega
            refine lv_iconst (v := (nI 0)) hx hcb dX7_share_107 (by decide) ?_
            refine lv_istore (lv' := [(5, .int (nI 0)), (0, .ref (w.2.2 5)), (1, .int a), (2, .long (shT (z.1 6) n)), (4, .int (iopen a (shQ a (z.1 6) (shT (z.1 6) n)) n))]) hx hcb dX7_share_108 hl (by decide) rfl (fun ls hl => ?_)
            suffices LP_110 : ∀ (nn : Nat) (g_ : Nat) (sR_ : (Nat → Int32) × (Nat → Int64)) (_ : gvn (iopen a (shQ a (z.1 6) (shT (z.1 6) n)) n) n - g_ < nn) (hg_ : g_ ≤ gvn (iopen a (shQ a (z.1 6) (shT (z.1 6) n)) n) n) (hf_ : gv n (gvn (iopen a (shQ a (z.1 6) (shT (z.1 6) n)) n) n) (pre n (shQ a (z.1 6) (shT (z.1 6) n)) (z.1 7), pre n (shR a (z.1 6) (shT (z.1 6) n)) (z.2 8)) = gv n (gvn (iopen a (shQ a (z.1 6) (shT (z.1 6) n)) n) n - g_) sR_) (H : Heap) (locs : List Loc) (ls : Array Slot), Rh G w (zSR z sR_) H → va_S (xA w s.heap.size) s.heap H locs → lv_has ls 8 [(0, .ref (w.2.2 5)), (4, .int (iopen a (shQ a (z.1 6) (shT (z.1 6) n)) n)), (5, .int (nI g_))] → W p l e rm_X7_share s mt args below meth c H locs 0 0 Q (F0 mt 110 ls []) from LP_110 ((_) + 1) 0 (pre n (shQ a (z.1 6) (shT (z.1 6) n)) (z.1 7), pre n (shR a (z.1 6) (shT (z.1 6) n)) (z.2 8)) (Nat.lt_succ_self _) (Nat.zero_le _) rfl _ _ _ hR hS (lv_sub hl [1, 4, 0] rfl)
            intro nn
            induction nn with
            | zero => intro g_ sR_ hm_ ; exact absurd hm_ (Nat.not_lt_zero _)
            | succ nn ih_110 =>
              intro g_ sR_ hm_110 hg_ hf_ H locs ls hR hS hl
              have hgn_ := gvn_le (iopen a (shQ a (z.1 6) (shT (z.1 6) n)) n) (n := n) (by omega)
              refine lv_iload hx hcb dX7_share_110 (lv_at hl 2 rfl) ?_
              refine lv_iload hx hcb dX7_share_112 (lv_at hl 1 rfl) ?_
              refine lv_icmp_ge (tgt := 196) hx hcb dX7_share_114 (by decide) (fun c_4 => ?_) (fun c_4 => ?_)
              · skip
                have he_ := gvn_end (n := n) (by omega) (by omega) c_4
                exact hret (zSR z sR_) _ _ _ _ dX7_share_196 hR hS (by unfold shZ; rw [if_pos hT]; show zSR z sR_ = zSR z (shS z a n); exact congrArg (zSR z) (show sR_ = gv n (gvn (iopen a (shQ a (z.1 6) (shT (z.1 6) n)) n) n) (pre n (shQ a (z.1 6) (shT (z.1 6) n)) (z.1 7), pre n (shR a (z.1 6) (shT (z.1 6) n)) (z.2 8)) from by rw [hf_, show gvn (iopen a (shQ a (z.1 6) (shT (z.1 6) n)) n) n - g_ = 0 by omega]; rfl))
              · skip
                have hno_ := c_4
                refine lv_iload hx hcb dX7_share_117 (lv_at hl 2 rfl) ?_
                refine lv_aload_n hx hcb dX7_share_119 rfl (lv_at hl 0 rfl) ?_
                refine x_getI hx hcb hts hown hK xc7 hR (hw.lo (by decide)) (hw.s0 (by decide) rfl) 3 (by decide) rfl q_111 dX7_share_120 ?_
                refine x_top (show ((zSR z sR_).1 5 3) = (nI n) from hc) ?_
                refine lv_icmp_ge (tgt := 196) hx hcb dX7_share_123 (by decide) (fun c_5 => ?_) (fun c_5 => ?_)
                · skip
                  have c_5 : n ≤ g_ := (nI_leI (by omega) (by omega)).mp c_5
                  have he_ : gvn (iopen a (shQ a (z.1 6) (shT (z.1 6) n)) n) n ≤ g_ := Nat.le_trans (gvn_le _ (by omega)) c_5
                  exact hret (zSR z sR_) _ _ _ _ dX7_share_196 hR hS (by unfold shZ; rw [if_pos hT]; show zSR z sR_ = zSR z (shS z a n); exact congrArg (zSR z) (show sR_ = gv n (gvn (iopen a (shQ a (z.1 6) (shT (z.1 6) n)) n) n) (pre n (shQ a (z.1 6) (shT (z.1 6) n)) (z.1 7), pre n (shR a (z.1 6) (shT (z.1 6) n)) (z.2 8)) from by rw [hf_, show gvn (iopen a (shQ a (z.1 6) (shT (z.1 6) n)) n) n - g_ = 0 by omega]; rfl))
                · skip
                  have c_5 : ¬ n ≤ g_ := fun h_ => c_5 ((nI_leI (by omega) (by omega)).mpr h_)
                  have hlt_ := gvn_lt (n := n) (by omega) (by omega) hno_
                  refine lv_iconst (v := (nI 0)) hx hcb dX7_share_126 (by decide) ?_
                  refine lv_istore (lv' := [(6, .int (nI 0)), (0, .ref (w.2.2 5)), (4, .int (iopen a (shQ a (z.1 6) (shT (z.1 6) n)) n)), (5, .int (nI g_))]) hx hcb dX7_share_127 hl (by decide) rfl (fun ls hl => ?_)
                  refine lv_iconst (v := (nI 1)) hx hcb dX7_share_129 (by decide) ?_
                  refine lv_istore (lv' := [(7, .int (nI 1)), (6, .int (nI 0)), (0, .ref (w.2.2 5)), (4, .int (iopen a (shQ a (z.1 6) (shT (z.1 6) n)) n)), (5, .int (nI g_))]) hx hcb dX7_share_130 hl (by decide) rfl (fun ls hl => ?_)
                  suffices LP_132 : ∀ (nn : Nat) (j_ : Nat) (_ : n - j_ < nn) (hj_ : j_ + 1 ≤ n) (H : Heap) (locs : List Loc) (ls : Array Slot), Rh G w (zSR z sR_) H → va_S (xA w s.heap.size) s.heap H locs → lv_has ls 8 [(0, .ref (w.2.2 5)), (4, .int (iopen a (shQ a (z.1 6) (shT (z.1 6) n)) n)), (5, .int (nI g_)), (6, .int (nI (am sR_.2 j_))), (7, .int (nI (j_ + 1)))] → W p l e rm_X7_share s mt args below meth c H locs 0 0 Q (F0 mt 132 ls []) from LP_132 ((_) + 1) 0 (Nat.lt_succ_self _) (by omega) _ _ _ hR hS (lv_sub hl [2, 3, 4, 1, 0] rfl)
                  intro nn
                  induction nn with
                  | zero => intro j_ hm_ ; exact absurd hm_ (Nat.not_lt_zero _)
                  | succ nn ih_132 =>
                    intro j_ hm_132 hj_ H locs ls hR hS hl
                    refine lv_iload hx hcb dX7_share_132 (lv_at hl 4 rfl) ?_
                    refine lv_aload_n hx hcb dX7_share_134 rfl (lv_at hl 0 rfl) ?_
                    refine x_getI hx hcb hts hown hK xc7 hR (hw.lo (by decide)) (hw.s0 (by decide) rfl) 3 (by decide) rfl q_111 dX7_share_135 ?_
                    refine x_top (show ((zSR z sR_).1 5 3) = (nI n) from hc) ?_
                    refine lv_icmp_ge (tgt := 169) hx hcb dX7_share_138 (by decide) (fun c_6 => ?_) (fun c_6 => ?_)
                    · skip
                      have c_6 : n ≤ (j_ + 1) := (nI_leI (by omega) (by omega)).mp c_6
                      obtain rfl : n - 1 = j_ := by omega
                      refine lv_aload_n hx hcb dX7_share_169 rfl (lv_at hl 0 rfl) ?_
                      refine x_getR hx hcb hts hown hK xc7 hR (hw.lo (by decide)) (hw.s0 (by decide) rfl) 1 (by decide) rfl q_109 dX7_share_170 ?_
                      refine lv_iload hx hcb dX7_share_173 (lv_at hl 3 rfl) ?_
                      refine lv_dup2_11 hx hcb dX7_share_175 rfl rfl ?_
                      refine x_iald hx hcb hK hR (hw.lo (by decide)) (hw.s0 (by decide) rfl) (k := (am sR_.2 (n - 1))) (by have := am_le sR_.2 (n - 1); omega) (by decide) dX7_share_176 ?_
                      refine x_top (show ((zSR z sR_).1 7 (am sR_.2 (n - 1))) = (sR_.1 (am sR_.2 (n - 1))) from rfl) ?_
                      refine lv_iconst (v := (nI 1)) hx hcb dX7_share_177 (by decide) ?_
                      refine lv_iadd hx hcb dX7_share_178 ?_
                      refine x_top (show ((sR_.1 (am sR_.2 (n - 1))) + (nI 1)) = (sR_.1 (am sR_.2 (n - 1)) + 1) from rfl) ?_
                      refine x_iast hx hcb hK hR hS (hw.lo (by decide)) (hw.s0 (by decide) rfl) (k := (am sR_.2 (n - 1))) (by have := am_le sR_.2 (n - 1); omega) (by decide) dX7_share_179 (fun H locs hR hS => ?_)
                      refine lv_aload_n hx hcb dX7_share_180 rfl (lv_at hl 0 rfl) ?_
                      refine x_getR hx hcb hts hown hK xc7 hR (hw.lo (by decide)) (hw.s0 (by decide) rfl) 2 (by decide) rfl q_110 dX7_share_181 ?_
                      refine lv_iload hx hcb dX7_share_184 (lv_at hl 3 rfl) ?_
                      refine lv_ldc2 (v := (-1)) hx hcb hown (hts _ q_603) dX7_share_186 ?_
                      refine x_last hx hcb hK hR hS (hw.lo (by decide)) (hw.s0 (by decide) rfl) (k := (am sR_.2 (n - 1))) (by have := am_le sR_.2 (n - 1); omega) (by decide) dX7_share_189 (fun H locs hR hS => ?_)
                      refine lv_iinc (v := (nI (g_ + 1))) (lv' := [(5, .int (nI (g_ + 1))), (0, .ref (w.2.2 5)), (4, .int (iopen a (shQ a (z.1 6) (shT (z.1 6) n)) n)), (6, .int (nI (am sR_.2 (n - 1)))), (7, .int (nI ((n - 1) + 1)))]) hx hcb dX7_share_190 hl (k := 2) rfl (x_iinc1 _) (by decide) rfl (fun ls hl => ?_)
                      refine lv_goto (tgt := 110) hx hcb dX7_share_193 (by decide) ?_
                      rw [show (u2 (u1 (zSR z sR_) 7 (am sR_.2 (n - 1)) (sR_.1 (am sR_.2 (n - 1)) + 1)) 8 (am sR_.2 (n - 1)) (-1)) = (zSR z (va_up sR_.1 (am sR_.2 (n - 1)) (sR_.1 (am sR_.2 (n - 1)) + 1), va_up sR_.2 (am sR_.2 (n - 1)) (-1))) from zSR_u ..] at hR
                      exact ih_110 (g_ + 1) (va_up sR_.1 (am sR_.2 (n - 1)) (sR_.1 (am sR_.2 (n - 1)) + 1), va_up sR_.2 (am sR_.2 (n - 1)) (-1)) (by omega) hlt_ (by rw [hf_, gv_s (k := gvn (iopen a (shQ a (z.1 6) (shT (z.1 6) n)) n) n - g_) (j := gvn (iopen a (shQ a (z.1 6) (shT (z.1 6) n)) n) n - (g_ + 1)) (by omega)]) _ _ _ hR hS (lv_sub hl [1, 2, 0] rfl)
                    · skip
                      have c_6 : ¬ n ≤ (j_ + 1) := fun h_ => c_6 ((nI_leI (by omega) (by omega)).mpr h_)
                      refine lv_aload_n hx hcb dX7_share_141 rfl (lv_at hl 0 rfl) ?_
                      refine x_getR hx hcb hts hown hK xc7 hR (hw.lo (by decide)) (hw.s0 (by decide) rfl) 2 (by decide) rfl q_110 dX7_share_142 ?_
                      refine lv_iload hx hcb dX7_share_145 (lv_at hl 4 rfl) ?_
                      refine x_lald hx hcb hK hR (hw.lo (by decide)) (hw.s0 (by decide) rfl) (k := (j_ + 1)) (by omega) (by decide) dX7_share_147 ?_
                      refine x_topl (show ((zSR z sR_).2 8 (j_ + 1)) = (sR_.2 (j_ + 1)) from rfl) ?_
                      refine lv_aload_n hx hcb dX7_share_148 rfl (lv_at hl 0 rfl) ?_
                      refine x_getR hx hcb hts hown hK xc7 hR (hw.lo (by decide)) (hw.s0 (by decide) rfl) 2 (by decide) rfl q_110 dX7_share_149 ?_
                      refine lv_iload hx hcb dX7_share_152 (lv_at hl 3 rfl) ?_
                      refine x_lald hx hcb hK hR (hw.lo (by decide)) (hw.s0 (by decide) rfl) (k := (am sR_.2 j_)) (by have := am_le sR_.2 j_; omega) (by decide) dX7_share_154 ?_
                      refine x_topl (show ((zSR z sR_).2 8 (am sR_.2 j_)) = (sR_.2 (am sR_.2 j_)) from rfl) ?_
                      refine W.lcmp hx hcb dX7_share_155 ?_
                      refine lv_if_le (tgt := 163) hx hcb dX7_share_156 (by decide) (fun c_7 => ?_) (fun c_7 => ?_)
                      · skip
                        have hq_ : ¬ sR_.2 (am sR_.2 j_) < sR_.2 (j_ + 1) := Int64.not_lt.mpr ((lg_cmp_le _ _).mp c_7)
                        refine lv_iinc (v := (nI ((j_ + 1) + 1))) (lv' := [(7, .int (nI ((j_ + 1) + 1))), (0, .ref (w.2.2 5)), (4, .int (iopen a (shQ a (z.1 6) (shT (z.1 6) n)) n)), (5, .int (nI g_)), (6, .int (nI (am sR_.2 j_)))]) hx hcb dX7_share_163 hl (k := 4) rfl (x_iinc1 _) (by decide) rfl (fun ls hl => ?_)
                        refine lv_goto (tgt := 132) hx hcb dX7_share_166 (by decide) ?_
                        rw [show (nI (am sR_.2 j_)) = (nI (am sR_.2 (j_ + 1))) from by rw [show am sR_.2 (j_ + 1) = if sR_.2 (am sR_.2 j_) < sR_.2 (j_ + 1) then j_ + 1 else am sR_.2 j_ from rfl]; first | rw [if_pos hq_] | rw [if_neg hq_]] at hl
                        exact ih_132 (j_ + 1) (by omega) (by omega) _ _ _ hR hS (lv_sub hl [1, 2, 3, 4, 0] rfl)
                      · skip
                        have hq_ : sR_.2 (am sR_.2 j_) < sR_.2 (j_ + 1) := Int64.not_le.mp (fun h_ => c_7 ((lg_cmp_le _ _).mpr h_))
                        refine lv_iload hx hcb dX7_share_159 (lv_at hl 4 rfl) ?_
                        refine lv_istore (lv' := [(6, .int (nI (j_ + 1))), (0, .ref (w.2.2 5)), (4, .int (iopen a (shQ a (z.1 6) (shT (z.1 6) n)) n)), (5, .int (nI g_)), (7, .int (nI (j_ + 1)))]) hx hcb dX7_share_161 hl (by decide) rfl (fun ls hl => ?_)
                        refine lv_iinc (v := (nI ((j_ + 1) + 1))) (lv' := [(7, .int (nI ((j_ + 1) + 1))), (6, .int (nI (j_ + 1))), (0, .ref (w.2.2 5)), (4, .int (iopen a (shQ a (z.1 6) (shT (z.1 6) n)) n)), (5, .int (nI g_))]) hx hcb dX7_share_163 hl (k := 4) rfl (x_iinc1 _) (by decide) rfl (fun ls hl => ?_)
                        refine lv_goto (tgt := 132) hx hcb dX7_share_166 (by decide) ?_
                        rw [show (nI (j_ + 1)) = (nI (am sR_.2 (j_ + 1))) from by rw [show am sR_.2 (j_ + 1) = if sR_.2 (am sR_.2 j_) < sR_.2 (j_ + 1) then j_ + 1 else am sR_.2 j_ from rfl]; first | rw [if_pos hq_] | rw [if_neg hq_]] at hl
                        exact ih_132 (j_ + 1) (by omega) (by omega) _ _ _ hR hS (lv_sub hl [2, 3, 4, 1, 0] rfl)
          · skip
            have c_3 : ¬ n ≤ i_ := fun h_ => c_3 ((nI_leI (by omega) (by omega)).mpr h_)
            refine lv_iload_n hx hcb dX7_share_53 rfl (lv_at hl 1 rfl) ?_
            refine lv_i2l hx hcb dX7_share_54 rfl ?_
            refine lv_aload_n hx hcb dX7_share_55 rfl (lv_at hl 0 rfl) ?_
            refine x_getR hx hcb hts hown hK xc7 hR (hw.lo (by decide)) (hw.s0 (by decide) rfl) 0 (by decide) rfl q_108 dX7_share_56 ?_
            refine lv_iload hx hcb dX7_share_59 (lv_at hl 4 rfl) ?_
            refine x_iald hx hcb hK hR (hw.lo (by decide)) (hw.s0 (by decide) rfl) (k := i_) (by omega) (by decide) dX7_share_61 ?_
            refine x_top (show ((zSR z (pre i_ (shQ a (z.1 6) (shT (z.1 6) n)) (z.1 7), pre i_ (shR a (z.1 6) (shT (z.1 6) n)) (z.2 8))).1 6 i_) = (z.1 6 i_) from rfl) ?_
            refine lv_i2l hx hcb dX7_share_62 rfl ?_
            refine lv_lmul hx hcb dX7_share_63 ?_
            refine lv_lstore (lv' := [(6, .long (a.toInt64 * ((z.1 6 i_).toInt64))), (0, .ref (w.2.2 5)), (1, .int a), (2, .long (shT (z.1 6) n)), (4, .int (iopen a (shQ a (z.1 6) (shT (z.1 6) n)) i_)), (5, .int (nI i_))]) hx hcb dX7_share_64 hl (by decide) rfl (fun ls hl => ?_)
            refine lv_aload_n hx hcb dX7_share_66 rfl (lv_at hl 1 rfl) ?_
            refine x_getR hx hcb hts hown hK xc7 hR (hw.lo (by decide)) (hw.s0 (by decide) rfl) 1 (by decide) rfl q_109 dX7_share_67 ?_
            refine lv_iload hx hcb dX7_share_70 (lv_at hl 5 rfl) ?_
            refine lv_lload hx hcb dX7_share_72 (lv_at hl 0 rfl) ?_
            refine lv_lload_n hx hcb dX7_share_74 rfl (lv_at hl 3 rfl) ?_
            refine lv_ldiv hx hcb dX7_share_75 (fun h_ => by rw [h_] at hT; exact absurd hT (by decide)) ?_
            refine lv_l2i hx hcb dX7_share_76 rfl ?_
            refine x_top (show (((a.toInt64 * ((z.1 6 i_).toInt64)) / (shT (z.1 6) n)).toInt32) = ((shQ a (z.1 6) (shT (z.1 6) n)) i_) from rfl) ?_
            refine x_iast hx hcb hK hR hS (hw.lo (by decide)) (hw.s0 (by decide) rfl) (k := i_) (by omega) (by decide) dX7_share_77 (fun H locs hR hS => ?_)
            refine lv_aload_n hx hcb dX7_share_78 rfl (lv_at hl 1 rfl) ?_
            refine x_getR hx hcb hts hown hK xc7 hR (hw.lo (by decide)) (hw.s0 (by decide) rfl) 2 (by decide) rfl q_110 dX7_share_79 ?_
            refine lv_iload hx hcb dX7_share_82 (lv_at hl 5 rfl) ?_
            refine lv_lload hx hcb dX7_share_84 (lv_at hl 0 rfl) ?_
            refine lv_lload_n hx hcb dX7_share_86 rfl (lv_at hl 3 rfl) ?_
            refine lv_lrem hx hcb dX7_share_87 (fun h_ => by rw [h_] at hT; exact absurd hT (by decide)) ?_
            refine x_topl (show ((a.toInt64 * ((z.1 6 i_).toInt64)) - (a.toInt64 * ((z.1 6 i_).toInt64)) / (shT (z.1 6) n) * (shT (z.1 6) n)) = ((shR a (z.1 6) (shT (z.1 6) n)) i_) from rfl) ?_
            refine x_last hx hcb hK hR hS (hw.lo (by decide)) (hw.s0 (by decide) rfl) (k := i_) (by omega) (by decide) dX7_share_88 (fun H locs hR hS => ?_)
            refine lv_iload hx hcb dX7_share_89 (lv_at hl 4 rfl) ?_
            refine lv_aload_n hx hcb dX7_share_91 rfl (lv_at hl 1 rfl) ?_
            refine x_getR hx hcb hts hown hK xc7 hR (hw.lo (by decide)) (hw.s0 (by decide) rfl) 1 (by decide) rfl q_109 dX7_share_92 ?_
            refine lv_iload hx hcb dX7_share_95 (lv_at hl 5 rfl) ?_
            refine x_iald hx hcb hK hR (hw.lo (by decide)) (hw.s0 (by decide) rfl) (k := i_) (by omega) (by decide) dX7_share_97 ?_
            refine x_top (show ((u2 (u1 (zSR z (pre i_ (shQ a (z.1 6) (shT (z.1 6) n)) (z.1 7), pre i_ (shR a (z.1 6) (shT (z.1 6) n)) (z.2 8))) 7 i_ ((shQ a (z.1 6) (shT (z.1 6) n)) i_)) 8 i_ ((shR a (z.1 6) (shT (z.1 6) n)) i_)).1 7 i_) = ((shQ a (z.1 6) (shT (z.1 6) n)) i_) from by show (u1 _ 7 i_ _).1 7 i_ = _; exact u1_self ..) ?_
            refine lv_isub hx hcb dX7_share_98 ?_
            refine lv_istore (lv' := [(4, .int ((iopen a (shQ a (z.1 6) (shT (z.1 6) n)) i_) - ((shQ a (z.1 6) (shT (z.1 6) n)) i_))), (6, .long (a.toInt64 * ((z.1 6 i_).toInt64))), (0, .ref (w.2.2 5)), (1, .int a), (2, .long (shT (z.1 6) n)), (5, .int (nI i_))]) hx hcb dX7_share_99 hl (by decide) rfl (fun ls hl => ?_)
            refine lv_iinc (v := (nI (i_ + 1))) (lv' := [(5, .int (nI (i_ + 1))), (4, .int ((iopen a (shQ a (z.1 6) (shT (z.1 6) n)) i_) - ((shQ a (z.1 6) (shT (z.1 6) n)) i_))), (6, .long (a.toInt64 * ((z.1 6 i_).toInt64))), (0, .ref (w.2.2 5)), (1, .int a), (2, .long (shT (z.1 6) n))]) hx hcb dX7_share_101 hl (k := 5) rfl (x_iinc1 _) (by decide) rfl (fun ls hl => ?_)
            refine lv_goto (tgt := 44) hx hcb dX7_share_104 (by decide) ?_
            rw [show (u2 (u1 (zSR z (pre i_ (shQ a (z.1 6) (shT (z.1 6) n)) (z.1 7), pre i_ (shR a (z.1 6) (shT (z.1 6) n)) (z.2 8))) 7 i_ ((shQ a (z.1 6) (shT (z.1 6) n)) i_)) 8 i_ ((shR a (z.1 6) (shT (z.1 6) n)) i_)) = (zSR z (pre (i_ + 1) (shQ a (z.1 6) (shT (z.1 6) n)) (z.1 7), pre (i_ + 1) (shR a (z.1 6) (shT (z.1 6) n)) (z.2 8))) from by rw [zSR_u]; exact congrArg (zSR z) (Prod.ext (pre_s ..) (pre_s ..))] at hR
            exact ih_44 (i_ + 1) (by omega) (by omega) _ _ _ hR hS (lv_sub hl [3, 4, 5, 1, 0] rfl)
      · skip
        have hT : ¬ 0 < shT (z.1 6) n := fun h_ => c_2 ((lg_cmp_gt _ _).mpr h_)
        exact hret z _ _ _ _ dX7_share_37 hR hS (by unfold shZ; rw [if_neg hT])
    · skip
      have c_1 : ¬ n ≤ i_ := fun h_ => c_1 ((nI_leI (by omega) (by omega)).mpr h_)
      refine lv_lload_n hx hcb dX7_share_14 rfl (lv_at hl 2 rfl) ?_
      refine lv_aload_n hx hcb dX7_share_15 rfl (lv_at hl 0 rfl) ?_
      refine x_getR hx hcb hts hown hK xc7 hR (hw.lo (by decide)) (hw.s0 (by decide) rfl) 0 (by decide) rfl q_108 dX7_share_16 ?_
      refine lv_iload hx hcb dX7_share_19 (lv_at hl 3 rfl) ?_
      refine x_iald hx hcb hK hR (hw.lo (by decide)) (hw.s0 (by decide) rfl) (k := i_) (by omega) (by decide) dX7_share_21 ?_
      refine x_top (show (z.1 6 i_) = (z.1 6 i_) from rfl) ?_
      refine lv_i2l hx hcb dX7_share_22 rfl ?_
      refine lv_ladd hx hcb dX7_share_23 ?_
      refine lv_lstore_n (lv' := [(2, .long ((shT (z.1 6) i_) + ((z.1 6 i_).toInt64))), (0, .ref (w.2.2 5)), (1, .int a), (4, .int (nI i_))]) hx hcb dX7_share_24 rfl hl (by decide) rfl (fun ls hl => ?_)
      refine lv_iinc (v := (nI (i_ + 1))) (lv' := [(4, .int (nI (i_ + 1))), (2, .long ((shT (z.1 6) i_) + ((z.1 6 i_).toInt64))), (0, .ref (w.2.2 5)), (1, .int a)]) hx hcb dX7_share_25 hl (k := 3) rfl (x_iinc1 _) (by decide) rfl (fun ls hl => ?_)
      refine lv_goto (tgt := 5) hx hcb dX7_share_28 (by decide) ?_
      exact ih_5 (i_ + 1) (by omega) (by omega) _ _ _ hR hS (lv_sub hl [2, 3, 1, 0] rfl)
