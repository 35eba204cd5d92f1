/-! THE REFERENCE: a year's end -/
def csQ (z : xSt) (m : Nat) (n : Int32) : Int32 := if z.1 4 (13 + m) = nI 1 then n * z.1 4 0 / nI 100 else nI 0
def kdQ (z : xSt) (m : Nat) : Int32 := if z.1 4 (13 + m) = nI 1 then 0 else 1
def cfQ (z : xSt) (m : Nat) (n : Int32) : xSt :=
  let z1 := u1 z 4 (445 + 3 * m + 0) (z.1 4 (445 + 3 * m + 0) + csQ z m n)
  let z2 := u1 (u1 z1 4 (61 + 24 * m + yQ z) (n - csQ z m n)) 4 (253 + 24 * m + yQ z) (kdQ z m)
  u1 z2 4 495 (z2.1 4 495 + (n - csQ z m n))
def rcQ (m : Nat) : Nat → xSt → Int32 → xSt × Int32
  | 0, z, o => (z, o)
  | k + 1, z, o => rcQ m k (u1 z 4 (61 + 24 * m + k) (lfQ z m k - imin o (lfQ z m k))) (o - imin o (lfQ z m k))
theorem rcQ_s {m n k : Nat} {z : xSt} {o : Int32} (h : n = k + 1) : rcQ m n z o = rcQ m k (u1 z 4 (61 + 24 * m + k) (lfQ z m k - imin o (lfQ z m k))) (o - imin o (lfQ z m k)) := by rw [h]; rfl
def rcZ (z : xSt) (m : Nat) (n : Int32) : xSt :=
  let q := rcQ m (yQ z) z n
  let z1 := u1 q.1 4 (477 + m) (n - q.2)
  let z2 := u1 z1 4 496 (z1.1 4 496 + (n - q.2))
  u1 z2 4 493 (z2.1 4 493 - q.2)
def ipQ (m : Nat) : Nat → Nat → xSt → Int32 → xSt
  | 0, _, z, _ => z
  | k + 1, y, z, o => ipQ m k (y + 1) (u1 z 4 (61 + 24 * m + y) (lfQ z m y - imin o (lfQ z m y))) (o - imin o (lfQ z m y))
theorem ipQ_s {m n k y : Nat} {z : xSt} {o : Int32} (h : n = k + 1) : ipQ m n y z o = ipQ m k (y + 1) (u1 z 4 (61 + 24 * m + y) (lfQ z m y - imin o (lfQ z m y))) (o - imin o (lfQ z m y)) := by rw [h]; rfl
def pyD (z : xSt) (m : Nat) : Int32 := (eqQ z m + z.1 4 (21 + m) - 1) / z.1 4 (21 + m)
def pyE (z : xSt) (m : Nat) : xSt := ipQ m (yQ z) 0 (u1 z 4 (445 + 3 * m + 2) (z.1 4 (445 + 3 * m + 2) + (eqQ z m + z.1 4 (21 + m) - 1) / z.1 4 (21 + m))) ((eqQ z m + z.1 4 (21 + m) - 1) / z.1 4 (21 + m))
def pyQ (z : xSt) (m : Nat) : xSt :=
  if z.1 4 (21 + m) = nI 1 then u1 (u1 (ipQ m (yQ z) 0 (u1 z 4 (445 + 3 * m + 2) (z.1 4 (445 + 3 * m + 2) + (eqQ z m + z.1 4 (21 + m) - 1) / z.1 4 (21 + m))) ((eqQ z m + z.1 4 (21 + m) - 1) / z.1 4 (21 + m))) 4 (21 + m) ((ipQ m (yQ z) 0 (u1 z 4 (445 + 3 * m + 2) (z.1 4 (445 + 3 * m + 2) + (eqQ z m + z.1 4 (21 + m) - 1) / z.1 4 (21 + m))) ((eqQ z m + z.1 4 (21 + m) - 1) / z.1 4 (21 + m))).1 4 (21 + m) - nI 1)) 4 (5 + m) 2
  else u1 (ipQ m (yQ z) 0 (u1 z 4 (445 + 3 * m + 2) (z.1 4 (445 + 3 * m + 2) + (eqQ z m + z.1 4 (21 + m) - 1) / z.1 4 (21 + m))) ((eqQ z m + z.1 4 (21 + m) - 1) / z.1 4 (21 + m))) 4 (21 + m) ((ipQ m (yQ z) 0 (u1 z 4 (445 + 3 * m + 2) (z.1 4 (445 + 3 * m + 2) + (eqQ z m + z.1 4 (21 + m) - 1) / z.1 4 (21 + m))) ((eqQ z m + z.1 4 (21 + m) - 1) / z.1 4 (21 + m))).1 4 (21 + m) - nI 1)
def rm_X10_certifies : Room := { frames := 1, cells := 0, slots := 0, locals := 23 }
set_option maxRecDepth 100000 in
set_option maxHeartbeats 4000000 in
theorem c_X10_certifies (l : Launch) (G : xGl) (w : xWd) (hw : isM w) (z : xSt) (sz : Nat) (m : Nat) (n : Int32) (hO : rOk z) (hm : m < 8) (hy : yQ z < 24) : xMv l yX10_certifies cX10_certifies 5 rm_X10_certifies G w z sz [.ref (w.2.2 0), .int (nI m), .int n] (fun z1 => z1 = cfQ z m n) := by
  refine x_mv (by decide) (Nat.le_of_ble_eq_true rfl) ?_
  intro p e s mt args below meth c ls Q hsz X hR hS hl hret
  obtain ⟨hx, hcb, hml, hown, hts, hlk, hK, hZ⟩ := X
  have hl : lv_has ls 5 [(0, .ref (w.2.2 0)), (1, .int (nI m)), (2, .int n)] := hl
  have hyr_ := hO.2.2.2.2.1
  refine lv_aload_n hx hcb dX10_certifies_0 rfl (lv_at hl 0 rfl) ?_
  refine x_getR hx hcb hts hown hK xc10 hR (hw.lo (by decide)) (hw.s0 rfl) 5 (by decide) rfl q_1171 dX10_certifies_1 ?_
  refine lv_bipush (v := (nI 13)) hx hcb dX10_certifies_4 (by decide) ?_
  refine lv_iload_n hx hcb dX10_certifies_6 rfl (lv_at hl 1 rfl) ?_
  refine x_iaddN hx hcb dX10_certifies_7 ?_
  refine x_iald hx hcb hK hR (hw.lo (by decide)) (hw.s0 rfl) (k := (13 + m)) (by omega) (by decide) dX10_certifies_8 ?_
  refine lv_iconst (v := (nI 1)) hx hcb dX10_certifies_9 (by decide) ?_
  refine lv_icmp_ne (tgt := 17) hx hcb dX10_certifies_10 (by decide) (fun c_1 => ?_) (fun c_1 => ?_)
  · skip
    have h_ : ¬ z.1 4 (13 + m) = nI 1 := c_1
    refine lv_iconst (v := (nI 0)) hx hcb dX10_certifies_17 (by decide) ?_
    refine lv_istore_n (lv' := [(3, .int (nI 0)), (0, .ref (w.2.2 0)), (1, .int (nI m)), (2, .int n)]) hx hcb dX10_certifies_18 rfl hl (by decide) rfl (fun ls hl => ?_)
    refine lv_iload_n hx hcb dX10_certifies_19 rfl (lv_at hl 0 rfl) ?_
    refine lv_if_eq (tgt := 37) hx hcb dX10_certifies_20 (by decide) (fun c_2 => ?_) (fun c_2 => ?_)
    · skip
      refine lv_iconst (v := (nI 0)) hx hcb dX10_certifies_37 (by decide) ?_
      refine x_top (show (nI 0) = csQ z m n from by unfold csQ; first | rw [if_pos h_] | rw [if_neg h_]) ?_
      refine lv_istore (lv' := [(4, .int (csQ z m n)), (3, .int (nI 0)), (0, .ref (w.2.2 0)), (1, .int (nI m)), (2, .int n)]) hx hcb dX10_certifies_38 hl (by decide) rfl (fun ls hl => ?_)
      refine lv_aload_n hx hcb dX10_certifies_40 rfl (lv_at hl 2 rfl) ?_
      refine lv_iload_n hx hcb dX10_certifies_41 rfl (lv_at hl 3 rfl) ?_
      refine lv_iconst (v := (nI 0)) hx hcb dX10_certifies_42 (by decide) ?_
      refine lv_iload hx hcb dX10_certifies_43 (lv_at hl 0 rfl) ?_
      refine x_cv0 rfl rfl (x_runV hx hcb hml hown hts (c_X10_pays l G w hw z _ m 0 (csQ z m n) (by omega) (by omega)) mv_X10_pays q_1382 hK hZ hR hS (hw.lo (by decide)) xc10 (hw.s0 rfl) rfl hl.1 rfl (Nat.le_of_ble_eq_true rfl) dX10_certifies_45 ⟨by decide, by decide⟩ ⟨by decide, by decide⟩) hS (fun z_4 H locs hp_5 hR hS => ?_)
      rw [hp_5] at hR
      refine lv_aload_n hx hcb dX10_certifies_48 rfl (lv_at hl 2 rfl) ?_
      refine x_getR hx hcb hts hown hK xc10 hR (hw.lo (by decide)) (hw.s0 rfl) 5 (by decide) rfl q_1171 dX10_certifies_49 ?_
      refine lv_bipush (v := (nI 61)) hx hcb dX10_certifies_52 (by decide) ?_
      refine lv_bipush (v := (nI 24)) hx hcb dX10_certifies_54 (by decide) ?_
      refine lv_iload_n hx hcb dX10_certifies_56 rfl (lv_at hl 3 rfl) ?_
      refine x_imulN hx hcb dX10_certifies_57 ?_
      refine x_iaddN hx hcb dX10_certifies_58 ?_
      refine lv_aload_n hx hcb dX10_certifies_59 rfl (lv_at hl 2 rfl) ?_
      refine x_getR hx hcb hts hown hK xc10 hR (hw.lo (by decide)) (hw.s0 rfl) 5 (by decide) rfl q_1171 dX10_certifies_60 ?_
      refine lv_sipush (v := (nI 494)) hx hcb dX10_certifies_63 (by decide) ?_
      refine x_iald hx hcb hK hR (hw.lo (by decide)) (hw.s0 rfl) (k := 494) (by omega) (by decide) dX10_certifies_66 ?_
      refine x_top (show ((u1 z 4 (445 + 3 * m + 0) (z.1 4 (445 + 3 * m + 0) + (csQ z m n))).1 4 494) = (nI (yQ z)) from by rw [u1_sne _ _ _ (by omega)]; exact hyr_) ?_
      refine x_iaddN hx hcb dX10_certifies_67 ?_
      refine lv_iload_n hx hcb dX10_certifies_68 rfl (lv_at hl 4 rfl) ?_
      refine lv_iload hx hcb dX10_certifies_69 (lv_at hl 0 rfl) ?_
      refine lv_isub hx hcb dX10_certifies_71 ?_
      refine x_iast hx hcb hK hR hS (hw.lo (by decide)) (hw.s0 rfl) (k := ((61 + (24 * m)) + (yQ z))) (v := (n - (csQ z m n))) (by omega) (by decide) dX10_certifies_72 (fun H locs hR hS => ?_)
      refine lv_aload_n hx hcb dX10_certifies_73 rfl (lv_at hl 2 rfl) ?_
      refine x_getR hx hcb hts hown hK xc10 hR (hw.lo (by decide)) (hw.s0 rfl) 5 (by decide) rfl q_1171 dX10_certifies_74 ?_
      refine lv_sipush (v := (nI 253)) hx hcb dX10_certifies_77 (by decide) ?_
      refine lv_bipush (v := (nI 24)) hx hcb dX10_certifies_80 (by decide) ?_
      refine lv_iload_n hx hcb dX10_certifies_82 rfl (lv_at hl 3 rfl) ?_
      refine x_imulN hx hcb dX10_certifies_83 ?_
      refine x_iaddN hx hcb dX10_certifies_84 ?_
      refine lv_aload_n hx hcb dX10_certifies_85 rfl (lv_at hl 2 rfl) ?_
      refine x_getR hx hcb hts hown hK xc10 hR (hw.lo (by decide)) (hw.s0 rfl) 5 (by decide) rfl q_1171 dX10_certifies_86 ?_
      refine lv_sipush (v := (nI 494)) hx hcb dX10_certifies_89 (by decide) ?_
      refine x_iald hx hcb hK hR (hw.lo (by decide)) (hw.s0 rfl) (k := 494) (by omega) (by decide) dX10_certifies_92 ?_
      refine x_top (show ((u1 (u1 z 4 (445 + 3 * m + 0) (z.1 4 (445 + 3 * m + 0) + (csQ z m n))) 4 ((61 + (24 * m)) + (yQ z)) (n - (csQ z m n))).1 4 494) = (nI (yQ z)) from by rw [u1_sne _ _ _ (by omega), u1_sne _ _ _ (by omega)]; exact hyr_) ?_
      refine x_iaddN hx hcb dX10_certifies_93 ?_
      refine lv_iload_n hx hcb dX10_certifies_94 rfl (lv_at hl 1 rfl) ?_
      refine lv_if_eq (tgt := 102) hx hcb dX10_certifies_95 (by decide) (fun c_6 => ?_) (fun c_6 => ?_)
      · skip
        refine lv_iconst (v := (nI 1)) hx hcb dX10_certifies_102 (by decide) ?_
        refine x_top (show (nI 1) = kdQ z m from by unfold kdQ; first | rw [if_pos h_]; done | rw [if_neg h_]; done | (rw [if_pos h_]; rfl) | (rw [if_neg h_]; rfl)) ?_
        refine x_iast hx hcb hK hR hS (hw.lo (by decide)) (hw.s0 rfl) (k := ((253 + (24 * m)) + (yQ z))) (v := (kdQ z m)) (by omega) (by decide) dX10_certifies_103 (fun H locs hR hS => ?_)
        refine lv_aload_n hx hcb dX10_certifies_104 rfl (lv_at hl 2 rfl) ?_
        refine x_getR hx hcb hts hown hK xc10 hR (hw.lo (by decide)) (hw.s0 rfl) 5 (by decide) rfl q_1171 dX10_certifies_105 ?_
        refine lv_sipush (v := (nI 495)) hx hcb dX10_certifies_108 (by decide) ?_
        refine lv_dup2_11 hx hcb dX10_certifies_111 rfl rfl ?_
        refine x_iald hx hcb hK hR (hw.lo (by decide)) (hw.s0 rfl) (k := 495) (by omega) (by decide) dX10_certifies_112 ?_
        refine lv_iload_n hx hcb dX10_certifies_113 rfl (lv_at hl 4 rfl) ?_
        refine lv_iload hx hcb dX10_certifies_114 (lv_at hl 0 rfl) ?_
        refine lv_isub hx hcb dX10_certifies_116 ?_
        refine lv_iadd hx hcb dX10_certifies_117 ?_
        refine x_iast hx hcb hK hR hS (hw.lo (by decide)) (hw.s0 rfl) (k := 495) (v := (((u1 (u1 (u1 z 4 (445 + 3 * m + 0) (z.1 4 (445 + 3 * m + 0) + (csQ z m n))) 4 ((61 + (24 * m)) + (yQ z)) (n - (csQ z m n))) 4 ((253 + (24 * m)) + (yQ z)) (kdQ z m)).1 4 495) + (n - (csQ z m n)))) (by omega) (by decide) dX10_certifies_118 (fun H locs hR hS => ?_)
        exact hret (u1 (u1 (u1 (u1 z 4 (445 + 3 * m + 0) (z.1 4 (445 + 3 * m + 0) + (csQ z m n))) 4 ((61 + (24 * m)) + (yQ z)) (n - (csQ z m n))) 4 ((253 + (24 * m)) + (yQ z)) (kdQ z m)) 4 495 (((u1 (u1 (u1 z 4 (445 + 3 * m + 0) (z.1 4 (445 + 3 * m + 0) + (csQ z m n))) 4 ((61 + (24 * m)) + (yQ z)) (n - (csQ z m n))) 4 ((253 + (24 * m)) + (yQ z)) (kdQ z m)).1 4 495) + (n - (csQ z m n)))) _ _ _ _ dX10_certifies_119 hR hS rfl
      · skip
        first | exact absurd c_6 (by decide) | exact absurd (by decide) c_6
    · skip
      first | exact absurd c_2 (by decide) | exact absurd (by decide) c_2
  · skip
    have h_ : z.1 4 (13 + m) = nI 1 := c_1
    refine lv_iconst (v := (nI 1)) hx hcb dX10_certifies_13 (by decide) ?_
    refine lv_goto (tgt := 18) hx hcb dX10_certifies_14 (by decide) ?_
    refine lv_istore_n (lv' := [(3, .int (nI 1)), (0, .ref (w.2.2 0)), (1, .int (nI m)), (2, .int n)]) hx hcb dX10_certifies_18 rfl hl (by decide) rfl (fun ls hl => ?_)
    refine lv_iload_n hx hcb dX10_certifies_19 rfl (lv_at hl 0 rfl) ?_
    refine lv_if_eq (tgt := 37) hx hcb dX10_certifies_20 (by decide) (fun c_7 => ?_) (fun c_7 => ?_)
    · skip
      first | exact absurd c_7 (by decide) | exact absurd (by decide) c_7
    · skip
      refine lv_iload_n hx hcb dX10_certifies_23 rfl (lv_at hl 3 rfl) ?_
      refine lv_aload_n hx hcb dX10_certifies_24 rfl (lv_at hl 1 rfl) ?_
      refine x_getR hx hcb hts hown hK xc10 hR (hw.lo (by decide)) (hw.s0 rfl) 5 (by decide) rfl q_1171 dX10_certifies_25 ?_
      refine lv_iconst (v := (nI 0)) hx hcb dX10_certifies_28 (by decide) ?_
      refine x_iald hx hcb hK hR (hw.lo (by decide)) (hw.s0 rfl) (k := 0) (by omega) (by decide) dX10_certifies_29 ?_
      refine lv_imul hx hcb dX10_certifies_30 ?_
      refine lv_bipush (v := (nI 100)) hx hcb dX10_certifies_31 (by decide) ?_
      refine lv_idiv hx hcb dX10_certifies_33 (by decide) ?_
      refine lv_goto (tgt := 38) hx hcb dX10_certifies_34 (by decide) ?_
      refine x_top (show ((n * (z.1 4 0)) / (nI 100)) = csQ z m n from by unfold csQ; first | rw [if_pos h_] | rw [if_neg h_]) ?_
      refine lv_istore (lv' := [(4, .int (csQ z m n)), (3, .int (nI 1)), (0, .ref (w.2.2 0)), (1, .int (nI m)), (2, .int n)]) hx hcb dX10_certifies_38 hl (by decide) rfl (fun ls hl => ?_)
      refine lv_aload_n hx hcb dX10_certifies_40 rfl (lv_at hl 2 rfl) ?_
      refine lv_iload_n hx hcb dX10_certifies_41 rfl (lv_at hl 3 rfl) ?_
      refine lv_iconst (v := (nI 0)) hx hcb dX10_certifies_42 (by decide) ?_
      refine lv_iload hx hcb dX10_certifies_43 (lv_at hl 0 rfl) ?_
      refine x_cv0 rfl rfl (x_runV hx hcb hml hown hts (c_X10_pays l G w hw z _ m 0 (csQ z m n) (by omega) (by omega)) mv_X10_pays q_1382 hK hZ hR hS (hw.lo (by decide)) xc10 (hw.s0 rfl) rfl hl.1 rfl (Nat.le_of_ble_eq_true rfl) dX10_certifies_45 ⟨by decide, by decide⟩ ⟨by decide, by decide⟩) hS (fun z_9 H locs hp_10 hR hS => ?_)
      rw [hp_10] at hR
      refine lv_aload_n hx hcb dX10_certifies_48 rfl (lv_at hl 2 rfl) ?_
      refine x_getR hx hcb hts hown hK xc10 hR (hw.lo (by decide)) (hw.s0 rfl) 5 (by decide) rfl q_1171 dX10_certifies_49 ?_
      refine lv_bipush (v := (nI 61)) hx hcb dX10_certifies_52 (by decide) ?_
      refine lv_bipush (v := (nI 24)) hx hcb dX10_certifies_54 (by decide) ?_
      refine lv_iload_n hx hcb dX10_certifies_56 rfl (lv_at hl 3 rfl) ?_
      refine x_imulN hx hcb dX10_certifies_57 ?_
      refine x_iaddN hx hcb dX10_certifies_58 ?_
      refine lv_aload_n hx hcb dX10_certifies_59 rfl (lv_at hl 2 rfl) ?_
      refine x_getR hx hcb hts hown hK xc10 hR (hw.lo (by decide)) (hw.s0 rfl) 5 (by decide) rfl q_1171 dX10_certifies_60 ?_
      refine lv_sipush (v := (nI 494)) hx hcb dX10_certifies_63 (by decide) ?_
      refine x_iald hx hcb hK hR (hw.lo (by decide)) (hw.s0 rfl) (k := 494) (by omega) (by decide) dX10_certifies_66 ?_
      refine x_top (show ((u1 z 4 (445 + 3 * m + 0) (z.1 4 (445 + 3 * m + 0) + (csQ z m n))).1 4 494) = (nI (yQ z)) from by rw [u1_sne _ _ _ (by omega)]; exact hyr_) ?_
      refine x_iaddN hx hcb dX10_certifies_67 ?_
      refine lv_iload_n hx hcb dX10_certifies_68 rfl (lv_at hl 4 rfl) ?_
      refine lv_iload hx hcb dX10_certifies_69 (lv_at hl 0 rfl) ?_
      refine lv_isub hx hcb dX10_certifies_71 ?_
      refine x_iast hx hcb hK hR hS (hw.lo (by decide)) (hw.s0 rfl) (k := ((61 + (24 * m)) + (yQ z))) (v := (n - (csQ z m n))) (by omega) (by decide) dX10_certifies_72 (fun H locs hR hS => ?_)
      refine lv_aload_n hx hcb dX10_certifies_73 rfl (lv_at hl 2 rfl) ?_
      refine x_getR hx hcb hts hown hK xc10 hR (hw.lo (by decide)) (hw.s0 rfl) 5 (by decide) rfl q_1171 dX10_certifies_74 ?_
      refine lv_sipush (v := (nI 253)) hx hcb dX10_certifies_77 (by decide) ?_
      refine lv_bipush (v := (nI 24)) hx hcb dX10_certifies_80 (by decide) ?_
      refine lv_iload_n hx hcb dX10_certifies_82 rfl (lv_at hl 3 rfl) ?_
      refine x_imulN hx hcb dX10_certifies_83 ?_
      refine x_iaddN hx hcb dX10_certifies_84 ?_
      refine lv_aload_n hx hcb dX10_certifies_85 rfl (lv_at hl 2 rfl) ?_
      refine x_getR hx hcb hts hown hK xc10 hR (hw.lo (by decide)) (hw.s0 rfl) 5 (by decide) rfl q_1171 dX10_certifies_86 ?_
      refine lv_sipush (v := (nI 494)) hx hcb dX10_certifies_89 (by decide) ?_
      refine x_iald hx hcb hK hR (hw.lo (by decide)) (hw.s0 rfl) (k := 494) (by omega) (by decide) dX10_certifies_92 ?_
      refine x_top (show ((u1 (u1 z 4 (445 + 3 * m + 0) (z.1 4 (445 + 3 * m + 0) + (csQ z m n))) 4 ((61 + (24 * m)) + (yQ z)) (n - (csQ z m n))).1 4 494) = (nI (yQ z)) from by rw [u1_sne _ _ _ (by omega), u1_sne _ _ _ (by omega)]; exact hyr_) ?_
      refine x_iaddN hx hcb dX10_certifies_93 ?_
      refine lv_iload_n hx hcb dX10_certifies_94 rfl (lv_at hl 1 rfl) ?_
      refine lv_if_eq (tgt := 102) hx hcb dX10_certifies_95 (by decide) (fun c_11 => ?_) (fun c_11 => ?_)
      · skip
        first | exact absurd c_11 (by decide) | exact absurd (by decide) c_11
      · skip
        refine lv_iconst (v := (nI 0)) hx hcb dX10_certifies_98 (by decide) ?_
        refine lv_goto (tgt := 103) hx hcb dX10_certifies_99 (by decide) ?_
        refine x_top (show (nI 0) = kdQ z m from by unfold kdQ; first | rw [if_pos h_]; done | rw [if_neg h_]; done | (rw [if_pos h_]; rfl) | (rw [if_neg h_]; rfl)) ?_
        refine x_iast hx hcb hK hR hS (hw.lo (by decide)) (hw.s0 rfl) (k := ((253 + (24 * m)) + (yQ z))) (v := (kdQ z m)) (by omega) (by decide) dX10_certifies_103 (fun H locs hR hS => ?_)
        refine lv_aload_n hx hcb dX10_certifies_104 rfl (lv_at hl 2 rfl) ?_
        refine x_getR hx hcb hts hown hK xc10 hR (hw.lo (by decide)) (hw.s0 rfl) 5 (by decide) rfl q_1171 dX10_certifies_105 ?_
        refine lv_sipush (v := (nI 495)) hx hcb dX10_certifies_108 (by decide) ?_
        refine lv_dup2_11 hx hcb dX10_certifies_111 rfl rfl ?_
        refine x_iald hx hcb hK hR (hw.lo (by decide)) (hw.s0 rfl) (k := 495) (by omega) (by decide) dX10_certifies_112 ?_
        refine lv_iload_n hx hcb dX10_certifies_113 rfl (lv_at hl 4 rfl) ?_
        refine lv_iload hx hcb dX10_certifies_114 (lv_at hl 0 rfl) ?_
        refine lv_isub hx hcb dX10_certifies_116 ?_
        refine lv_iadd hx hcb dX10_certifies_117 ?_
        refine x_iast hx hcb hK hR hS (hw.lo (by decide)) (hw.s0 rfl) (k := 495) (v := (((u1 (u1 (u1 z 4 (445 + 3 * m + 0) (z.1 4 (445 + 3 * m + 0) + (csQ z m n))) 4 ((61 + (24 * m)) + (yQ z)) (n - (csQ z m n))) 4 ((253 + (24 * m)) + (yQ z)) (kdQ z m)).1 4 495) + (n - (csQ z m n)))) (by omega) (by decide) dX10_certifies_118 (fun H locs hR hS => ?_)
        exact hret (u1 (u1 (u1 (u1 z 4 (445 + 3 * m + 0) (z.1 4 (445 + 3 * m + 0) + (csQ z m n))) 4 ((61 + (24 * m)) + (yQ z)) (n - (csQ z m n))) 4 ((253 + (24 * m)) + (yQ z)) (kdQ z m)) 4 495 (((u1 (u1 (u1 z 4 (445 + 3 * m + 0) (z.1 4 (445 + 3 * m + 0) + (csQ z m n))) 4 ((61 + (24 * m)) + (yQ z)) (n - (csQ z m n))) 4 ((253 + (24 * m)) + (yQ z)) (kdQ z m)).1 4 495) + (n - (csQ z m n)))) _ _ _ _ dX10_certifies_119 hR hS rfl
def rm_X10_recaptures : Room := { frames := 1, cells := 0, slots := 0, locals := 23 }
set_option maxRecDepth 100000 in
set_option maxHeartbeats 4000000 in
theorem c_X10_recaptures (l : Launch) (G : xGl) (w : xWd) (hw : isM w) (z : xSt) (sz : Nat) (m : Nat) (n : Int32) (hO : rOk z) (hm : m < 8) : xMv l yX10_recaptures cX10_recaptures 6 rm_X10_recaptures G w z sz [.ref (w.2.2 0), .int (nI m), .int n] (fun z1 => z1 = rcZ z m n) := by
  refine x_mv (by decide) (Nat.le_of_ble_eq_true rfl) ?_
  intro p e s mt args below meth c ls Q hsz X hR hS hl hret
  obtain ⟨hx, hcb, hml, hown, hts, hlk, hK, hZ⟩ := X
  have hl : lv_has ls 6 [(0, .ref (w.2.2 0)), (1, .int (nI m)), (2, .int n)] := hl
  have hyr_ := hO.2.2.2.2.1
  have hy24_ := hO.2.2.2.2.2
  refine lv_iload_n hx hcb dX10_recaptures_0 rfl (lv_at hl 2 rfl) ?_
  refine lv_istore_n (lv' := [(3, .int n), (0, .ref (w.2.2 0)), (1, .int (nI m)), (2, .int n)]) hx hcb dX10_recaptures_1 rfl hl (by decide) rfl (fun ls hl => ?_)
  refine lv_aload_n hx hcb dX10_recaptures_2 rfl (lv_at hl 1 rfl) ?_
  refine x_getR hx hcb hts hown hK xc10 hR (hw.lo (by decide)) (hw.s0 rfl) 5 (by decide) rfl q_1171 dX10_recaptures_3 ?_
  refine lv_sipush (v := (nI 494)) hx hcb dX10_recaptures_6 (by decide) ?_
  refine x_iald hx hcb hK hR (hw.lo (by decide)) (hw.s0 rfl) (k := 494) (by omega) (by decide) dX10_recaptures_9 ?_
  refine x_top (show (z.1 4 494) = (nI (yQ z)) from hyr_) ?_
  refine lv_iconst (v := (nI 1)) hx hcb dX10_recaptures_10 (by decide) ?_
  refine lv_isub hx hcb dX10_recaptures_11 ?_
  refine lv_istore (lv' := [(4, .int ((nI (yQ z)) - (nI 1))), (3, .int n), (0, .ref (w.2.2 0)), (1, .int (nI m)), (2, .int n)]) hx hcb dX10_recaptures_12 hl (by decide) rfl (fun ls hl => ?_)
  rw [show ((nI (yQ z)) - (nI 1)) = (nI (yQ z) - 1) from rfl] at hl
  suffices LP_14 : ∀ (nn : Nat) (i_ : Nat) (y_ : xSt) (o_ : Int32) (_ : i_ < nn) (hi_ : i_ ≤ 24) (hf_ : rcQ m (yQ z) z n = rcQ m i_ y_ o_) (H : Heap) (locs : List Loc) (ls : Array Slot), Rh G w y_ H → va_S (xA w s.heap.size) s.heap H locs → lv_has ls 6 [(0, .ref (w.2.2 0)), (1, .int (nI m)), (2, .int n), (3, .int o_), (4, .int (nI i_ - 1))] → W p l e rm_X10_recaptures s mt args below meth c H locs 0 0 Q (F0 mt 14 ls []) from LP_14 ((_) + 1) (yQ z) z n (Nat.lt_succ_self _) (by omega) rfl _ _ _ hR hS (lv_sub hl [2, 3, 4, 1, 0] rfl)
  intro nn
  induction nn with
  | zero => intro i_ y_ o_ hm_ ; exact absurd hm_ (Nat.not_lt_zero _)
  | succ nn ih_14 =>
    intro i_ y_ o_ hm_14 hi_ hf_ H locs ls hR hS hl
    refine lv_iload hx hcb dX10_recaptures_14 (lv_at hl 4 rfl) ?_
    refine lv_if_lt (tgt := 52) hx hcb dX10_recaptures_16 (by decide) (fun c_1 => ?_) (fun c_1 => ?_)
    · skip
      have hi0_ : i_ = 0 := pred_neg (by omega) c_1
      have hf_ : rcQ m (yQ z) z n = (y_, o_) := by rw [hf_, hi0_]; rfl
      refine lv_aload_n hx hcb dX10_recaptures_52 rfl (lv_at hl 0 rfl) ?_
      refine x_getR hx hcb hts hown hK xc10 hR (hw.lo (by decide)) (hw.s0 rfl) 5 (by decide) rfl q_1171 dX10_recaptures_53 ?_
      refine lv_sipush (v := (nI 477)) hx hcb dX10_recaptures_56 (by decide) ?_
      refine lv_iload_n hx hcb dX10_recaptures_59 rfl (lv_at hl 1 rfl) ?_
      refine x_iaddN hx hcb dX10_recaptures_60 ?_
      refine lv_iload_n hx hcb dX10_recaptures_61 rfl (lv_at hl 2 rfl) ?_
      refine lv_iload_n hx hcb dX10_recaptures_62 rfl (lv_at hl 3 rfl) ?_
      refine lv_isub hx hcb dX10_recaptures_63 ?_
      refine x_iast hx hcb hK hR hS (hw.lo (by decide)) (hw.s0 rfl) (k := (477 + m)) (v := (n - o_)) (by omega) (by decide) dX10_recaptures_64 (fun H locs hR hS => ?_)
      refine lv_aload_n hx hcb dX10_recaptures_65 rfl (lv_at hl 0 rfl) ?_
      refine x_getR hx hcb hts hown hK xc10 hR (hw.lo (by decide)) (hw.s0 rfl) 5 (by decide) rfl q_1171 dX10_recaptures_66 ?_
      refine lv_sipush (v := (nI 496)) hx hcb dX10_recaptures_69 (by decide) ?_
      refine lv_dup2_11 hx hcb dX10_recaptures_72 rfl rfl ?_
      refine x_iald hx hcb hK hR (hw.lo (by decide)) (hw.s0 rfl) (k := 496) (by omega) (by decide) dX10_recaptures_73 ?_
      refine lv_iload_n hx hcb dX10_recaptures_74 rfl (lv_at hl 2 rfl) ?_
      refine lv_iload_n hx hcb dX10_recaptures_75 rfl (lv_at hl 3 rfl) ?_
      refine lv_isub hx hcb dX10_recaptures_76 ?_
      refine lv_iadd hx hcb dX10_recaptures_77 ?_
      refine x_iast hx hcb hK hR hS (hw.lo (by decide)) (hw.s0 rfl) (k := 496) (v := (((u1 y_ 4 (477 + m) (n - o_)).1 4 496) + (n - o_))) (by omega) (by decide) dX10_recaptures_78 (fun H locs hR hS => ?_)
      refine lv_aload_n hx hcb dX10_recaptures_79 rfl (lv_at hl 0 rfl) ?_
      refine x_getR hx hcb hts hown hK xc10 hR (hw.lo (by decide)) (hw.s0 rfl) 5 (by decide) rfl q_1171 dX10_recaptures_80 ?_
      refine lv_sipush (v := (nI 493)) hx hcb dX10_recaptures_83 (by decide) ?_
      refine lv_dup2_11 hx hcb dX10_recaptures_86 rfl rfl ?_
      refine x_iald hx hcb hK hR (hw.lo (by decide)) (hw.s0 rfl) (k := 493) (by omega) (by decide) dX10_recaptures_87 ?_
      refine lv_iload_n hx hcb dX10_recaptures_88 rfl (lv_at hl 3 rfl) ?_
      refine lv_isub hx hcb dX10_recaptures_89 ?_
      refine x_iast hx hcb hK hR hS (hw.lo (by decide)) (hw.s0 rfl) (k := 493) (v := (((u1 (u1 y_ 4 (477 + m) (n - o_)) 4 496 (((u1 y_ 4 (477 + m) (n - o_)).1 4 496) + (n - o_))).1 4 493) - o_)) (by omega) (by decide) dX10_recaptures_90 (fun H locs hR hS => ?_)
      exact hret (u1 (u1 (u1 y_ 4 (477 + m) (n - o_)) 4 496 (((u1 y_ 4 (477 + m) (n - o_)).1 4 496) + (n - o_))) 4 493 (((u1 (u1 y_ 4 (477 + m) (n - o_)) 4 496 (((u1 y_ 4 (477 + m) (n - o_)).1 4 496) + (n - o_))).1 4 493) - o_)) _ _ _ _ dX10_recaptures_91 hR hS (by unfold rcZ; rw [hf_])
    · skip
      obtain ⟨k_, hk_⟩ := pred_pos (by omega) c_1
      rw [hk_, nI_pred] at hl
      refine lv_iload_n hx hcb dX10_recaptures_19 rfl (lv_at hl 3 rfl) ?_
      refine lv_aload_n hx hcb dX10_recaptures_20 rfl (lv_at hl 0 rfl) ?_
      refine lv_iload_n hx hcb dX10_recaptures_21 rfl (lv_at hl 1 rfl) ?_
      refine lv_iload hx hcb dX10_recaptures_22 (lv_at hl 4 rfl) ?_
      refine x_ci0 rfl rfl (x_runV hx hcb hml hown hts (c_X10_left l G w hw y_ _ m k_ (by omega) (by omega)) mv_X10_left q_1390 hK hZ hR hS (hw.lo (by decide)) xc10 (hw.s0 rfl) rfl hl.1 rfl (Nat.le_of_ble_eq_true rfl) dX10_recaptures_24 ⟨by decide, by decide⟩ ⟨by decide, by decide⟩) hS (fun r_2 z_3 H locs hp_4 hR hS => ?_)
      rw [hp_4.2] at hR; rw [hp_4.1]
      refine x_min hx hcb hml hown hts hl.1 q_1394 (by decide) (Nat.le_of_ble_eq_true rfl) (by decide) (by decide) dX10_recaptures_27 ?_
      refine x_top (show (if (lfQ y_ m k_) < o_ then (lfQ y_ m k_) else o_) = (imin o_ (lfQ y_ m k_)) from rfl) ?_
      refine lv_istore (lv' := [(5, .int (imin o_ (lfQ y_ m k_))), (0, .ref (w.2.2 0)), (1, .int (nI m)), (2, .int n), (3, .int o_), (4, .int (nI k_))]) hx hcb dX10_recaptures_30 hl (by decide) rfl (fun ls hl => ?_)
      refine lv_aload_n hx hcb dX10_recaptures_32 rfl (lv_at hl 1 rfl) ?_
      refine lv_iload_n hx hcb dX10_recaptures_33 rfl (lv_at hl 2 rfl) ?_
      refine lv_iload hx hcb dX10_recaptures_34 (lv_at hl 5 rfl) ?_
      refine lv_iload hx hcb dX10_recaptures_36 (lv_at hl 0 rfl) ?_
      refine x_cv0 rfl rfl (x_runV hx hcb hml hown hts (c_X10_takes l G w hw y_ _ m k_ (imin o_ (lfQ y_ m k_)) (by omega) (by omega)) mv_X10_takes q_1395 hK hZ hR hS (hw.lo (by decide)) xc10 (hw.s0 rfl) rfl hl.1 rfl (Nat.le_of_ble_eq_true rfl) dX10_recaptures_38 ⟨by decide, by decide⟩ ⟨by decide, by decide⟩) hS (fun z_6 H locs hp_7 hR hS => ?_)
      rw [hp_7] at hR
      refine lv_iload_n hx hcb dX10_recaptures_41 rfl (lv_at hl 4 rfl) ?_
      refine lv_iload hx hcb dX10_recaptures_42 (lv_at hl 0 rfl) ?_
      refine lv_isub hx hcb dX10_recaptures_44 ?_
      refine lv_istore_n (lv' := [(3, .int (o_ - (imin o_ (lfQ y_ m k_)))), (5, .int (imin o_ (lfQ y_ m k_))), (0, .ref (w.2.2 0)), (1, .int (nI m)), (2, .int n), (4, .int (nI k_))]) hx hcb dX10_recaptures_45 rfl hl (by decide) rfl (fun ls hl => ?_)
      refine lv_iinc (v := ((nI k_) + (-1))) (lv' := [(4, .int ((nI k_) + (-1))), (3, .int (o_ - (imin o_ (lfQ y_ m k_)))), (5, .int (imin o_ (lfQ y_ m k_))), (0, .ref (w.2.2 0)), (1, .int (nI m)), (2, .int n)]) hx hcb dX10_recaptures_46 hl (k := 5) rfl rfl (by decide) rfl (fun ls hl => ?_)
      refine lv_goto (tgt := 14) hx hcb dX10_recaptures_49 (by decide) ?_
      rw [show ((nI k_) + (-1)) = (nI k_ - 1) from nI_m1 _] at hl
      exact ih_14 k_ (u1 y_ 4 (61 + 24 * m + k_) (lfQ y_ m k_ - imin o_ (lfQ y_ m k_))) (o_ - imin o_ (lfQ y_ m k_)) (by omega) (by omega) (by rw [hf_, rcQ_s hk_]) _ _ _ hR hS (lv_sub hl [3, 4, 5, 1, 0] rfl)
def rm_X10_pays_ : Room := { frames := 2, cells := 0, slots := 0, locals := 45 }
set_option maxRecDepth 100000 in
set_option maxHeartbeats 4000000 in
theorem c_X10_pays_ (l : Launch) (G : xGl) (w : xWd) (hw : isM w) (z : xSt) (sz : Nat) (m : Nat) (hO : rOk z) (hm : m < 8) (hn : z.1 4 (21 + m) ≠ 0) : xMv l yX10_pays_ cX10_pays_ 7 rm_X10_pays_ G w z sz [.ref (w.2.2 0), .int (nI m)] (fun z1 => z1 = pyQ z m) := by
  refine x_mv (by decide) (Nat.le_of_ble_eq_true rfl) ?_
  intro p e s mt args below meth c ls Q hsz X hR hS hl hret
  obtain ⟨hx, hcb, hml, hown, hts, hlk, hK, hZ⟩ := X
  have hl : lv_has ls 7 [(0, .ref (w.2.2 0)), (1, .int (nI m))] := hl
  have hyr_ := hO.2.2.2.2.1
  have hy24_ := hO.2.2.2.2.2
  refine lv_aload_n hx hcb dX10_pays__0 rfl (lv_at hl 0 rfl) ?_
  refine lv_iload_n hx hcb dX10_pays__1 rfl (lv_at hl 1 rfl) ?_
  refine x_ci0 rfl rfl (x_runV hx hcb hml hown hts (c_X10_equity l G w hw z _ m (by omega)) mv_X10_equity q_1403 hK hZ hR hS (hw.lo (by decide)) xc10 (hw.s0 rfl) rfl hl.1 rfl (Nat.le_of_ble_eq_true rfl) dX10_pays__2 ⟨by decide, by decide⟩ ⟨by decide, by decide⟩) hS (fun r_1 z_2 H locs hp_3 hR hS => ?_)
  rw [hp_3.2] at hR; rw [hp_3.1]
  refine lv_istore_n (lv' := [(2, .int (eqQ z m)), (0, .ref (w.2.2 0)), (1, .int (nI m))]) hx hcb dX10_pays__5 rfl hl (by decide) rfl (fun ls hl => ?_)
  refine lv_aload_n hx hcb dX10_pays__6 rfl (lv_at hl 1 rfl) ?_
  refine x_getR hx hcb hts hown hK xc10 hR (hw.lo (by decide)) (hw.s0 rfl) 5 (by decide) rfl q_1171 dX10_pays__7 ?_
  refine lv_bipush (v := (nI 21)) hx hcb dX10_pays__10 (by decide) ?_
  refine lv_iload_n hx hcb dX10_pays__12 rfl (lv_at hl 2 rfl) ?_
  refine x_iaddN hx hcb dX10_pays__13 ?_
  refine x_iald hx hcb hK hR (hw.lo (by decide)) (hw.s0 rfl) (k := (21 + m)) (by omega) (by decide) dX10_pays__14 ?_
  refine lv_istore_n (lv' := [(3, .int (z.1 4 (21 + m))), (2, .int (eqQ z m)), (0, .ref (w.2.2 0)), (1, .int (nI m))]) hx hcb dX10_pays__15 rfl hl (by decide) rfl (fun ls hl => ?_)
  refine lv_iload_n hx hcb dX10_pays__16 rfl (lv_at hl 1 rfl) ?_
  refine lv_iload_n hx hcb dX10_pays__17 rfl (lv_at hl 0 rfl) ?_
  refine lv_iadd hx hcb dX10_pays__18 ?_
  refine lv_iconst (v := (nI 1)) hx hcb dX10_pays__19 (by decide) ?_
  refine lv_isub hx hcb dX10_pays__20 ?_
  refine lv_iload_n hx hcb dX10_pays__21 rfl (lv_at hl 0 rfl) ?_
  refine lv_idiv hx hcb dX10_pays__22 hn ?_
  refine lv_istore (lv' := [(4, .int ((((eqQ z m) + (z.1 4 (21 + m))) - (nI 1)) / (z.1 4 (21 + m)))), (3, .int (z.1 4 (21 + m))), (2, .int (eqQ z m)), (0, .ref (w.2.2 0)), (1, .int (nI m))]) hx hcb dX10_pays__23 hl (by decide) rfl (fun ls hl => ?_)
  refine lv_aload_n hx hcb dX10_pays__25 rfl (lv_at hl 3 rfl) ?_
  refine lv_iload_n hx hcb dX10_pays__26 rfl (lv_at hl 4 rfl) ?_
  refine lv_iconst (v := (nI 2)) hx hcb dX10_pays__27 (by decide) ?_
  refine lv_iload hx hcb dX10_pays__28 (lv_at hl 0 rfl) ?_
  refine x_cv0 rfl rfl (x_runV hx hcb hml hown hts (c_X10_pays l G w hw z _ m 2 ((((eqQ z m) + (z.1 4 (21 + m))) - (nI 1)) / (z.1 4 (21 + m))) (by omega) (by omega)) mv_X10_pays q_1382 hK hZ hR hS (hw.lo (by decide)) xc10 (hw.s0 rfl) rfl hl.1 rfl (Nat.le_of_ble_eq_true rfl) dX10_pays__30 ⟨by decide, by decide⟩ ⟨by decide, by decide⟩) hS (fun z_5 H locs hp_6 hR hS => ?_)
  rw [hp_6] at hR
  refine lv_iconst (v := (nI 0)) hx hcb dX10_pays__33 (by decide) ?_
  refine lv_istore (lv' := [(5, .int (nI 0)), (4, .int ((((eqQ z m) + (z.1 4 (21 + m))) - (nI 1)) / (z.1 4 (21 + m)))), (3, .int (z.1 4 (21 + m))), (2, .int (eqQ z m)), (0, .ref (w.2.2 0)), (1, .int (nI m))]) hx hcb dX10_pays__34 hl (by decide) rfl (fun ls hl => ?_)
  suffices LP_36 : ∀ (nn : Nat) (i_ : Nat) (y_ : xSt) (o_ : Int32) (_ : yQ z - i_ < nn) (hi_ : i_ ≤ yQ z) (hyy_ : y_.1 4 494 = nI (yQ z)) (hf_ : ipQ m (yQ z) 0 (u1 z 4 (445 + 3 * m + 2) (z.1 4 (445 + 3 * m + 2) + ((eqQ z m + z.1 4 (21 + m) - 1) / z.1 4 (21 + m)))) ((eqQ z m + z.1 4 (21 + m) - 1) / z.1 4 (21 + m)) = ipQ m (yQ z - i_) i_ y_ o_) (H : Heap) (locs : List Loc) (ls : Array Slot), Rh G w y_ H → va_S (xA w s.heap.size) s.heap H locs → lv_has ls 7 [(0, .ref (w.2.2 0)), (1, .int (nI m)), (3, .int (z.1 4 (21 + m))), (4, .int o_), (5, .int (nI i_))] → W p l e rm_X10_pays_ s mt args below meth c H locs 0 0 Q (F0 mt 36 ls []) from LP_36 ((_) + 1) 0 (u1 z 4 (445 + 3 * m + 2) (z.1 4 (445 + 3 * m + 2) + ((eqQ z m + z.1 4 (21 + m) - 1) / z.1 4 (21 + m)))) ((eqQ z m + z.1 4 (21 + m) - 1) / z.1 4 (21 + m)) (Nat.lt_succ_self _) (Nat.zero_le _) (by rw [u1_sne _ _ _ (by omega)]; exact hyr_) rfl _ _ _ hR hS (lv_sub hl [4, 5, 2, 1, 0] rfl)
  intro nn
  induction nn with
  | zero => intro i_ y_ o_ hm_ ; exact absurd hm_ (Nat.not_lt_zero _)
  | succ nn ih_36 =>
    intro i_ y_ o_ hm_36 hi_ hyy_ hf_ H locs ls hR hS hl
    refine lv_iload hx hcb dX10_pays__36 (lv_at hl 4 rfl) ?_
    refine lv_aload_n hx hcb dX10_pays__38 rfl (lv_at hl 0 rfl) ?_
    refine x_getR hx hcb hts hown hK xc10 hR (hw.lo (by decide)) (hw.s0 rfl) 5 (by decide) rfl q_1171 dX10_pays__39 ?_
    refine lv_sipush (v := (nI 494)) hx hcb dX10_pays__42 (by decide) ?_
    refine x_iald hx hcb hK hR (hw.lo (by decide)) (hw.s0 rfl) (k := 494) (by omega) (by decide) dX10_pays__45 ?_
    refine x_top (show (y_.1 4 494) = (nI (yQ z)) from hyy_) ?_
    refine lv_icmp_ge (tgt := 85) hx hcb dX10_pays__46 (by decide) (fun c_7 => ?_) (fun c_7 => ?_)
    · skip
      have c_7 : (yQ z) ≤ i_ := (nI_leI (by omega) (by omega)).mp c_7
      have hf_ : ipQ m (yQ z) 0 (u1 z 4 (445 + 3 * m + 2) (z.1 4 (445 + 3 * m + 2) + ((eqQ z m + z.1 4 (21 + m) - 1) / z.1 4 (21 + m)))) ((eqQ z m + z.1 4 (21 + m) - 1) / z.1 4 (21 + m)) = y_ := by rw [hf_, show yQ z - i_ = 0 by omega]; rfl
      refine lv_aload_n hx hcb dX10_pays__85 rfl (lv_at hl 0 rfl) ?_
      refine x_getR hx hcb hts hown hK xc10 hR (hw.lo (by decide)) (hw.s0 rfl) 5 (by decide) rfl q_1171 dX10_pays__86 ?_
      refine lv_bipush (v := (nI 21)) hx hcb dX10_pays__89 (by decide) ?_
      refine lv_iload_n hx hcb dX10_pays__91 rfl (lv_at hl 1 rfl) ?_
      refine x_iaddN hx hcb dX10_pays__92 ?_
      refine lv_dup2_11 hx hcb dX10_pays__93 rfl rfl ?_
      refine x_iald hx hcb hK hR (hw.lo (by decide)) (hw.s0 rfl) (k := (21 + m)) (by omega) (by decide) dX10_pays__94 ?_
      refine lv_iconst (v := (nI 1)) hx hcb dX10_pays__95 (by decide) ?_
      refine lv_isub hx hcb dX10_pays__96 ?_
      refine x_iast hx hcb hK hR hS (hw.lo (by decide)) (hw.s0 rfl) (k := (21 + m)) (v := ((y_.1 4 (21 + m)) - (nI 1))) (by omega) (by decide) dX10_pays__97 (fun H locs hR hS => ?_)
      refine lv_iload_n hx hcb dX10_pays__98 rfl (lv_at hl 2 rfl) ?_
      refine lv_iconst (v := (nI 1)) hx hcb dX10_pays__99 (by decide) ?_
      refine lv_icmp_ne (tgt := 112) hx hcb dX10_pays__100 (by decide) (fun c_8 => ?_) (fun c_8 => ?_)
      · skip
        have h_ : ¬ z.1 4 (21 + m) = nI 1 := c_8
        exact hret (u1 y_ 4 (21 + m) ((y_.1 4 (21 + m)) - (nI 1))) _ _ _ _ dX10_pays__112 hR hS (by unfold pyQ; first | rw [if_pos h_, hf_] | rw [if_neg h_, hf_])
      · skip
        have h_ : z.1 4 (21 + m) = nI 1 := c_8
        refine lv_aload_n hx hcb dX10_pays__103 rfl (lv_at hl 0 rfl) ?_
        refine x_getR hx hcb hts hown hK xc10 hR (hw.lo (by decide)) (hw.s0 rfl) 5 (by decide) rfl q_1171 dX10_pays__104 ?_
        refine lv_iconst (v := (nI 5)) hx hcb dX10_pays__107 (by decide) ?_
        refine lv_iload_n hx hcb dX10_pays__108 rfl (lv_at hl 1 rfl) ?_
        refine x_iaddN hx hcb dX10_pays__109 ?_
        refine lv_iconst (v := (nI 2)) hx hcb dX10_pays__110 (by decide) ?_
        refine x_iast hx hcb hK hR hS (hw.lo (by decide)) (hw.s0 rfl) (k := (5 + m)) (v := 2) (by omega) (by decide) dX10_pays__111 (fun H locs hR hS => ?_)
        exact hret (u1 (u1 y_ 4 (21 + m) ((y_.1 4 (21 + m)) - (nI 1))) 4 (5 + m) 2) _ _ _ _ dX10_pays__112 hR hS (by unfold pyQ; first | rw [if_pos h_, hf_] | rw [if_neg h_, hf_])
    · skip
      have c_7 : ¬ (yQ z) ≤ i_ := fun h_ => c_7 ((nI_leI (by omega) (by omega)).mpr h_)
      refine lv_iload hx hcb dX10_pays__49 (lv_at hl 3 rfl) ?_
      refine lv_aload_n hx hcb dX10_pays__51 rfl (lv_at hl 0 rfl) ?_
      refine lv_iload_n hx hcb dX10_pays__52 rfl (lv_at hl 1 rfl) ?_
      refine lv_iload hx hcb dX10_pays__53 (lv_at hl 4 rfl) ?_
      refine x_ci0 rfl rfl (x_runV hx hcb hml hown hts (c_X10_left l G w hw y_ _ m i_ (by omega) (by omega)) mv_X10_left q_1390 hK hZ hR hS (hw.lo (by decide)) xc10 (hw.s0 rfl) rfl hl.1 rfl (Nat.le_of_ble_eq_true rfl) dX10_pays__55 ⟨by decide, by decide⟩ ⟨by decide, by decide⟩) hS (fun r_9 z_10 H locs hp_11 hR hS => ?_)
      rw [hp_11.2] at hR; rw [hp_11.1]
      refine x_min hx hcb hml hown hts hl.1 q_1394 (by decide) (Nat.le_of_ble_eq_true rfl) (by decide) (by decide) dX10_pays__58 ?_
      refine x_top (show (if (lfQ y_ m i_) < o_ then (lfQ y_ m i_) else o_) = (imin o_ (lfQ y_ m i_)) from rfl) ?_
      refine lv_istore (lv' := [(6, .int (imin o_ (lfQ y_ m i_))), (0, .ref (w.2.2 0)), (1, .int (nI m)), (3, .int (z.1 4 (21 + m))), (4, .int o_), (5, .int (nI i_))]) hx hcb dX10_pays__61 hl (by decide) rfl (fun ls hl => ?_)
      refine lv_aload_n hx hcb dX10_pays__63 rfl (lv_at hl 1 rfl) ?_
      refine lv_iload_n hx hcb dX10_pays__64 rfl (lv_at hl 2 rfl) ?_
      refine lv_iload hx hcb dX10_pays__65 (lv_at hl 5 rfl) ?_
      refine lv_iload hx hcb dX10_pays__67 (lv_at hl 0 rfl) ?_
      refine x_cv0 rfl rfl (x_runV hx hcb hml hown hts (c_X10_takes l G w hw y_ _ m i_ (imin o_ (lfQ y_ m i_)) (by omega) (by omega)) mv_X10_takes q_1395 hK hZ hR hS (hw.lo (by decide)) xc10 (hw.s0 rfl) rfl hl.1 rfl (Nat.le_of_ble_eq_true rfl) dX10_pays__69 ⟨by decide, by decide⟩ ⟨by decide, by decide⟩) hS (fun z_13 H locs hp_14 hR hS => ?_)
      rw [hp_14] at hR
      refine lv_iload hx hcb dX10_pays__72 (lv_at hl 4 rfl) ?_
      refine lv_iload hx hcb dX10_pays__74 (lv_at hl 0 rfl) ?_
      refine lv_isub hx hcb dX10_pays__76 ?_
      refine lv_istore (lv' := [(4, .int (o_ - (imin o_ (lfQ y_ m i_)))), (6, .int (imin o_ (lfQ y_ m i_))), (0, .ref (w.2.2 0)), (1, .int (nI m)), (3, .int (z.1 4 (21 + m))), (5, .int (nI i_))]) hx hcb dX10_pays__77 hl (by decide) rfl (fun ls hl => ?_)
      refine lv_iinc (v := (nI (i_ + 1))) (lv' := [(5, .int (nI (i_ + 1))), (4, .int (o_ - (imin o_ (lfQ y_ m i_)))), (6, .int (imin o_ (lfQ y_ m i_))), (0, .ref (w.2.2 0)), (1, .int (nI m)), (3, .int (z.1 4 (21 + m)))]) hx hcb dX10_pays__79 hl (k := 5) rfl (x_iinc1 _) (by decide) rfl (fun ls hl => ?_)
      refine lv_goto (tgt := 36) hx hcb dX10_pays__82 (by decide) ?_
      exact ih_36 (i_ + 1) (u1 y_ 4 (61 + 24 * m + i_) (lfQ y_ m i_ - imin o_ (lfQ y_ m i_))) (o_ - imin o_ (lfQ y_ m i_)) (by omega) (by omega) (by rw [u1_sne _ _ _ (by omega)]; exact hyy_) (by rw [hf_, ipQ_s (k := yQ z - (i_ + 1)) (by omega)]) _ _ _ hR hS (lv_sub hl [3, 4, 5, 1, 0] rfl)
def rm_X10_activeEquity : Room := { frames := 2, cells := 0, slots := 0, locals := 45 }
set_option maxRecDepth 100000 in
set_option maxHeartbeats 4000000 in
theorem c_X10_activeEquity (l : Launch) (G : xGl) (w : xWd) (hw : isM w) (z : xSt) (sz : Nat)  (hmq : z.1 2 12 = nI (mQ z 12)) (hm8_ : mQ z 12 ≤ 8) : xMi l yX10_activeEquity cX10_activeEquity 3 (some FieldType.int) rm_X10_activeEquity G w z sz [.ref (w.2.2 0)] (fun r z1 => r = bx_sum (fun m => if z.1 4 (5 + m) = 0 then eqQ z m else 0) (mQ z 12) ∧ z1 = z) := by
  refine x_mi (by decide) (Nat.le_of_ble_eq_true rfl) ?_
  intro p e s mt args below meth c ls Q hsz X hR hS hl hret
  obtain ⟨hx, hcb, hml, hown, hts, hlk, hK, hZ⟩ := X
  have hl : lv_has ls 3 [(0, .ref (w.2.2 0))] := hl
  refine lv_iconst (v := (nI 0)) hx hcb dX10_activeEquity_0 (by decide) ?_
  refine lv_istore_n (lv' := [(1, .int (nI 0)), (0, .ref (w.2.2 0))]) hx hcb dX10_activeEquity_1 rfl hl (by decide) rfl (fun ls hl => ?_)
  refine lv_iconst (v := (nI 0)) hx hcb dX10_activeEquity_2 (by decide) ?_
  refine lv_istore_n (lv' := [(2, .int (nI 0)), (1, .int (nI 0)), (0, .ref (w.2.2 0))]) hx hcb dX10_activeEquity_3 rfl hl (by decide) rfl (fun ls hl => ?_)
  rw [show (nI 0) = (bx_sum (fun m => if z.1 4 (5 + m) = 0 then eqQ z m else 0) 0) from rfl] at hl
  suffices LP_4 : ∀ (nn : Nat) (i_ : Nat) (_ : mQ z 12 - i_ < nn) (hi_ : i_ ≤ mQ z 12) (H : Heap) (locs : List Loc) (ls : Array Slot), Rh G w z H → va_S (xA w s.heap.size) s.heap H locs → lv_has ls 3 [(0, .ref (w.2.2 0)), (1, .int (bx_sum (fun m => if z.1 4 (5 + m) = 0 then eqQ z m else 0) i_)), (2, .int (nI i_))] → W p l e rm_X10_activeEquity s mt args below meth c H locs 0 0 Q (F0 mt 4 ls []) from LP_4 ((_) + 1) 0 (Nat.lt_succ_self _) (Nat.zero_le _) _ _ _ hR hS (lv_sub hl [2, 1, 0] rfl)
  intro nn
  induction nn with
  | zero => intro i_ hm_ ; exact absurd hm_ (Nat.not_lt_zero _)
  | succ nn ih_4 =>
    intro i_ hm_4 hi_ H locs ls hR hS hl
    refine lv_iload_n hx hcb dX10_activeEquity_4 rfl (lv_at hl 2 rfl) ?_
    refine lv_aload_n hx hcb dX10_activeEquity_5 rfl (lv_at hl 0 rfl) ?_
    refine x_getR hx hcb hts hown hK xc10 hR (hw.lo (by decide)) (hw.s0 rfl) 3 (by decide) rfl q_1169 dX10_activeEquity_6 ?_
    refine lv_bipush (v := (nI 12)) hx hcb dX10_activeEquity_9 (by decide) ?_
    refine x_iald hx hcb hK hR (hw.lo (by decide)) (hw.s0 rfl) (k := 12) (by omega) (by decide) dX10_activeEquity_11 ?_
    refine x_top (show (z.1 2 12) = (nI (mQ z 12)) from hmq) ?_
    refine lv_icmp_ge (tgt := 44) hx hcb dX10_activeEquity_12 (by decide) (fun c_1 => ?_) (fun c_1 => ?_)
    · skip
      have c_1 : (mQ z 12) ≤ i_ := (nI_leI (by omega) (by omega)).mp c_1
      obtain rfl : mQ z 12 = i_ := by omega
      refine lv_iload_n hx hcb dX10_activeEquity_44 rfl (lv_at hl 1 rfl) ?_
      exact hret (bx_sum (fun m => if z.1 4 (5 + m) = 0 then eqQ z m else 0) (mQ z 12)) z _ _ _ _ dX10_activeEquity_45 rfl hR hS (⟨rfl, rfl⟩)
    · skip
      have c_1 : ¬ (mQ z 12) ≤ i_ := fun h_ => c_1 ((nI_leI (by omega) (by omega)).mpr h_)
      refine lv_iload_n hx hcb dX10_activeEquity_15 rfl (lv_at hl 1 rfl) ?_
      refine lv_aload_n hx hcb dX10_activeEquity_16 rfl (lv_at hl 0 rfl) ?_
      refine x_getR hx hcb hts hown hK xc10 hR (hw.lo (by decide)) (hw.s0 rfl) 5 (by decide) rfl q_1171 dX10_activeEquity_17 ?_
      refine lv_iconst (v := (nI 5)) hx hcb dX10_activeEquity_20 (by decide) ?_
      refine lv_iload_n hx hcb dX10_activeEquity_21 rfl (lv_at hl 2 rfl) ?_
      refine x_iaddN hx hcb dX10_activeEquity_22 ?_
      refine x_iald hx hcb hK hR (hw.lo (by decide)) (hw.s0 rfl) (k := (5 + i_)) (by omega) (by decide) dX10_activeEquity_23 ?_
      refine lv_if_ne (tgt := 35) hx hcb dX10_activeEquity_24 (by decide) (fun c_2 => ?_) (fun c_2 => ?_)
      · skip
        have hq_ := c_2
        refine lv_iconst (v := (nI 0)) hx hcb dX10_activeEquity_35 (by decide) ?_
        refine lv_iadd hx hcb dX10_activeEquity_36 ?_
        refine lv_istore_n (lv' := [(1, .int ((bx_sum (fun m => if z.1 4 (5 + m) = 0 then eqQ z m else 0) i_) + (nI 0))), (0, .ref (w.2.2 0)), (2, .int (nI i_))]) hx hcb dX10_activeEquity_37 rfl hl (by decide) rfl (fun ls hl => ?_)
        refine lv_iinc (v := (nI (i_ + 1))) (lv' := [(2, .int (nI (i_ + 1))), (1, .int ((bx_sum (fun m => if z.1 4 (5 + m) = 0 then eqQ z m else 0) i_) + (nI 0))), (0, .ref (w.2.2 0))]) hx hcb dX10_activeEquity_38 hl (k := 2) rfl (x_iinc1 _) (by decide) rfl (fun ls hl => ?_)
        refine lv_goto (tgt := 4) hx hcb dX10_activeEquity_41 (by decide) ?_
        rw [show ((bx_sum (fun m => if z.1 4 (5 + m) = 0 then eqQ z m else 0) i_) + (nI 0)) = (bx_sum (fun m => if z.1 4 (5 + m) = 0 then eqQ z m else 0) (i_ + 1)) from by show _ = bx_sum (fun m => if z.1 4 (5 + m) = 0 then eqQ z m else 0) i_ + (fun m => if z.1 4 (5 + m) = 0 then eqQ z m else 0) i_; first | (dsimp only; rw [if_pos hq_]; done) | (dsimp only; rw [if_neg hq_]; rfl)] at hl
        exact ih_4 (i_ + 1) (by omega) (by omega) _ _ _ hR hS (lv_sub hl [2, 1, 0] rfl)
      · skip
        have hq_ := c_2
        refine lv_aload_n hx hcb dX10_activeEquity_27 rfl (lv_at hl 0 rfl) ?_
        refine lv_iload_n hx hcb dX10_activeEquity_28 rfl (lv_at hl 2 rfl) ?_
        refine x_ci0 rfl rfl (x_runV hx hcb hml hown hts (c_X10_equity l G w hw z _ i_ (by omega)) mv_X10_equity q_1403 hK hZ hR hS (hw.lo (by decide)) xc10 (hw.s0 rfl) rfl hl.1 rfl (Nat.le_of_ble_eq_true rfl) dX10_activeEquity_29 ⟨by decide, by decide⟩ ⟨by decide, by decide⟩) hS (fun r_3 z_4 H locs hp_5 hR hS => ?_)
        rw [hp_5.2] at hR; rw [hp_5.1]
        refine lv_goto (tgt := 36) hx hcb dX10_activeEquity_32 (by decide) ?_
        refine lv_iadd hx hcb dX10_activeEquity_36 ?_
        refine lv_istore_n (lv' := [(1, .int ((bx_sum (fun m => if z.1 4 (5 + m) = 0 then eqQ z m else 0) i_) + (eqQ z i_))), (0, .ref (w.2.2 0)), (2, .int (nI i_))]) hx hcb dX10_activeEquity_37 rfl hl (by decide) rfl (fun ls hl => ?_)
        refine lv_iinc (v := (nI (i_ + 1))) (lv' := [(2, .int (nI (i_ + 1))), (1, .int ((bx_sum (fun m => if z.1 4 (5 + m) = 0 then eqQ z m else 0) i_) + (eqQ z i_))), (0, .ref (w.2.2 0))]) hx hcb dX10_activeEquity_38 hl (k := 2) rfl (x_iinc1 _) (by decide) rfl (fun ls hl => ?_)
        refine lv_goto (tgt := 4) hx hcb dX10_activeEquity_41 (by decide) ?_
        rw [show ((bx_sum (fun m => if z.1 4 (5 + m) = 0 then eqQ z m else 0) i_) + (eqQ z i_)) = (bx_sum (fun m => if z.1 4 (5 + m) = 0 then eqQ z m else 0) (i_ + 1)) from by show _ = bx_sum (fun m => if z.1 4 (5 + m) = 0 then eqQ z m else 0) i_ + (fun m => if z.1 4 (5 + m) = 0 then eqQ z m else 0) i_; first | (dsimp only; rw [if_pos hq_]; done) | (dsimp only; rw [if_neg hq_]; rfl)] at hl
        exact ih_4 (i_ + 1) (by omega) (by omega) _ _ _ hR hS (lv_sub hl [2, 1, 0] rfl)
