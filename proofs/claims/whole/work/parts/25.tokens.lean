def rm_X8_kindOfSign : Room := { frames := 0, cells := 0, slots := 0, locals := 0 }
set_option maxRecDepth 100000 in
set_option maxHeartbeats 4000000 in
theorem c_X8_kindOfSign (l : Launch) (G : xGl) (w : xWd) (K : Nat) (hw : isC K w) (z : xSt) (sz : Nat) (x : Int32)  : xMi l yX8_kindOfSign cX8_kindOfSign 1 (some FieldType.int) rm_X8_kindOfSign G w z sz [.int x] (fun r z1 => r = nI (kS x) ∧ z1 = z) := by
  refine x_mi (by decide) (Nat.le_of_ble_eq_true rfl) ?_
  intro p e s mt args below meth c ls Q hsz X hR hS hl hret
  obtain ⟨hx, hcb, hml, hown, hts, hlk, hK, hZ⟩ := X
  have hl : lv_has ls 1 [(0, .int x)] := hl
  refine lv_iload_n hx hcb dX8_kindOfSign_0 rfl (lv_at hl 0 rfl) ?_
  refine lv_bipush (v := (nI 97)) hx hcb dX8_kindOfSign_1 (by decide) ?_
  refine lv_icmp_lt (tgt := 14) hx hcb dX8_kindOfSign_3 (by decide) (fun c_1 => ?_) (fun c_1 => ?_)
  · skip
    have h1_ : ¬ (nI 97 ≤ x ∧ x ≤ nI 122) := fun h_ => absurd c_1 (Int32.not_lt.mpr h_.1)
    refine lv_iload_n hx hcb dX8_kindOfSign_14 rfl (lv_at hl 0 rfl) ?_
    refine lv_bipush (v := (nI 48)) hx hcb dX8_kindOfSign_15 (by decide) ?_
    refine lv_icmp_lt (tgt := 28) hx hcb dX8_kindOfSign_17 (by decide) (fun c_2 => ?_) (fun c_2 => ?_)
    · skip
      have h2_ : ¬ (nI 48 ≤ x ∧ x ≤ nI 57) := fun h_ => absurd c_2 (Int32.not_lt.mpr h_.1)
      refine lv_iload_n hx hcb dX8_kindOfSign_28 rfl (lv_at hl 0 rfl) ?_
      refine lv_bipush (v := (nI 59)) hx hcb dX8_kindOfSign_29 (by decide) ?_
      refine lv_icmp_ne (tgt := 36) hx hcb dX8_kindOfSign_31 (by decide) (fun c_3 => ?_) (fun c_3 => ?_)
      · skip
        have h3_ : ¬ x = nI 59 := c_3
        refine lv_iload_n hx hcb dX8_kindOfSign_36 rfl (lv_at hl 0 rfl) ?_
        refine lv_bipush (v := (nI 45)) hx hcb dX8_kindOfSign_37 (by decide) ?_
        refine lv_icmp_ne (tgt := 46) hx hcb dX8_kindOfSign_39 (by decide) (fun c_4 => ?_) (fun c_4 => ?_)
        · skip
          have h4_ : ¬ x = nI 45 := c_4
          refine lv_iconst (v := (nI 5)) hx hcb dX8_kindOfSign_46 (by decide) ?_
          exact hret (nI 5) z _ _ _ _ dX8_kindOfSign_47 rfl hR hS (⟨by unfold kS; rw [if_neg h1_, if_neg h2_, if_neg h3_]; first | rw [if_pos h4_] | rw [if_neg h4_], rfl⟩)
        · skip
          have h4_ : x = nI 45 := c_4
          refine lv_iconst (v := (nI 4)) hx hcb dX8_kindOfSign_42 (by decide) ?_
          refine lv_goto (tgt := 47) hx hcb dX8_kindOfSign_43 (by decide) ?_
          exact hret (nI 4) z _ _ _ _ dX8_kindOfSign_47 rfl hR hS (⟨by unfold kS; rw [if_neg h1_, if_neg h2_, if_neg h3_]; first | rw [if_pos h4_] | rw [if_neg h4_], rfl⟩)
      · skip
        have h3_ : x = nI 59 := c_3
        refine lv_iconst (v := (nI 3)) hx hcb dX8_kindOfSign_34 (by decide) ?_
        exact hret (nI 3) z _ _ _ _ dX8_kindOfSign_35 rfl hR hS (⟨by unfold kS; rw [if_neg h1_, if_neg h2_, if_pos h3_], rfl⟩)
    · skip
      have h0_ := Int32.not_lt.mp c_2
      refine lv_iload_n hx hcb dX8_kindOfSign_20 rfl (lv_at hl 0 rfl) ?_
      refine lv_bipush (v := (nI 57)) hx hcb dX8_kindOfSign_21 (by decide) ?_
      refine lv_icmp_gt (tgt := 28) hx hcb dX8_kindOfSign_23 (by decide) (fun c_5 => ?_) (fun c_5 => ?_)
      · skip
        have h2_ : ¬ (nI 48 ≤ x ∧ x ≤ nI 57) := fun h_ => absurd c_5 (Int32.not_lt.mpr h_.2)
        refine lv_iload_n hx hcb dX8_kindOfSign_28 rfl (lv_at hl 0 rfl) ?_
        refine lv_bipush (v := (nI 59)) hx hcb dX8_kindOfSign_29 (by decide) ?_
        refine lv_icmp_ne (tgt := 36) hx hcb dX8_kindOfSign_31 (by decide) (fun c_6 => ?_) (fun c_6 => ?_)
        · skip
          have h3_ : ¬ x = nI 59 := c_6
          refine lv_iload_n hx hcb dX8_kindOfSign_36 rfl (lv_at hl 0 rfl) ?_
          refine lv_bipush (v := (nI 45)) hx hcb dX8_kindOfSign_37 (by decide) ?_
          refine lv_icmp_ne (tgt := 46) hx hcb dX8_kindOfSign_39 (by decide) (fun c_7 => ?_) (fun c_7 => ?_)
          · skip
            have h4_ : ¬ x = nI 45 := c_7
            refine lv_iconst (v := (nI 5)) hx hcb dX8_kindOfSign_46 (by decide) ?_
            exact hret (nI 5) z _ _ _ _ dX8_kindOfSign_47 rfl hR hS (⟨by unfold kS; rw [if_neg h1_, if_neg h2_, if_neg h3_]; first | rw [if_pos h4_] | rw [if_neg h4_], rfl⟩)
          · skip
            have h4_ : x = nI 45 := c_7
            refine lv_iconst (v := (nI 4)) hx hcb dX8_kindOfSign_42 (by decide) ?_
            refine lv_goto (tgt := 47) hx hcb dX8_kindOfSign_43 (by decide) ?_
            exact hret (nI 4) z _ _ _ _ dX8_kindOfSign_47 rfl hR hS (⟨by unfold kS; rw [if_neg h1_, if_neg h2_, if_neg h3_]; first | rw [if_pos h4_] | rw [if_neg h4_], rfl⟩)
        · skip
          have h3_ : x = nI 59 := c_6
          refine lv_iconst (v := (nI 3)) hx hcb dX8_kindOfSign_34 (by decide) ?_
          exact hret (nI 3) z _ _ _ _ dX8_kindOfSign_35 rfl hR hS (⟨by unfold kS; rw [if_neg h1_, if_neg h2_, if_pos h3_], rfl⟩)
      · skip
        have h2_ : (nI 48 ≤ x ∧ x ≤ nI 57) := ⟨h0_, Int32.not_lt.mp c_5⟩
        refine lv_iconst (v := (nI 2)) hx hcb dX8_kindOfSign_26 (by decide) ?_
        exact hret (nI 2) z _ _ _ _ dX8_kindOfSign_27 rfl hR hS (⟨by unfold kS; rw [if_neg h1_, if_pos h2_], rfl⟩)
  · skip
    have h0_ := Int32.not_lt.mp c_1
    refine lv_iload_n hx hcb dX8_kindOfSign_6 rfl (lv_at hl 0 rfl) ?_
    refine lv_bipush (v := (nI 122)) hx hcb dX8_kindOfSign_7 (by decide) ?_
    refine lv_icmp_gt (tgt := 14) hx hcb dX8_kindOfSign_9 (by decide) (fun c_8 => ?_) (fun c_8 => ?_)
    · skip
      have h1_ : ¬ (nI 97 ≤ x ∧ x ≤ nI 122) := fun h_ => absurd c_8 (Int32.not_lt.mpr h_.2)
      refine lv_iload_n hx hcb dX8_kindOfSign_14 rfl (lv_at hl 0 rfl) ?_
      refine lv_bipush (v := (nI 48)) hx hcb dX8_kindOfSign_15 (by decide) ?_
      refine lv_icmp_lt (tgt := 28) hx hcb dX8_kindOfSign_17 (by decide) (fun c_9 => ?_) (fun c_9 => ?_)
      · skip
        have h2_ : ¬ (nI 48 ≤ x ∧ x ≤ nI 57) := fun h_ => absurd c_9 (Int32.not_lt.mpr h_.1)
        refine lv_iload_n hx hcb dX8_kindOfSign_28 rfl (lv_at hl 0 rfl) ?_
        refine lv_bipush (v := (nI 59)) hx hcb dX8_kindOfSign_29 (by decide) ?_
        refine lv_icmp_ne (tgt := 36) hx hcb dX8_kindOfSign_31 (by decide) (fun c_10 => ?_) (fun c_10 => ?_)
        · skip
          have h3_ : ¬ x = nI 59 := c_10
          refine lv_iload_n hx hcb dX8_kindOfSign_36 rfl (lv_at hl 0 rfl) ?_
          refine lv_bipush (v := (nI 45)) hx hcb dX8_kindOfSign_37 (by decide) ?_
          refine lv_icmp_ne (tgt := 46) hx hcb dX8_kindOfSign_39 (by decide) (fun c_11 => ?_) (fun c_11 => ?_)
          · skip
            have h4_ : ¬ x = nI 45 := c_11
            refine lv_iconst (v := (nI 5)) hx hcb dX8_kindOfSign_46 (by decide) ?_
            exact hret (nI 5) z _ _ _ _ dX8_kindOfSign_47 rfl hR hS (⟨by unfold kS; rw [if_neg h1_, if_neg h2_, if_neg h3_]; first | rw [if_pos h4_] | rw [if_neg h4_], rfl⟩)
          · skip
            have h4_ : x = nI 45 := c_11
            refine lv_iconst (v := (nI 4)) hx hcb dX8_kindOfSign_42 (by decide) ?_
            refine lv_goto (tgt := 47) hx hcb dX8_kindOfSign_43 (by decide) ?_
            exact hret (nI 4) z _ _ _ _ dX8_kindOfSign_47 rfl hR hS (⟨by unfold kS; rw [if_neg h1_, if_neg h2_, if_neg h3_]; first | rw [if_pos h4_] | rw [if_neg h4_], rfl⟩)
        · skip
          have h3_ : x = nI 59 := c_10
          refine lv_iconst (v := (nI 3)) hx hcb dX8_kindOfSign_34 (by decide) ?_
          exact hret (nI 3) z _ _ _ _ dX8_kindOfSign_35 rfl hR hS (⟨by unfold kS; rw [if_neg h1_, if_neg h2_, if_pos h3_], rfl⟩)
      · skip
        have h0_ := Int32.not_lt.mp c_9
        refine lv_iload_n hx hcb dX8_kindOfSign_20 rfl (lv_at hl 0 rfl) ?_
        refine lv_bipush (v := (nI 57)) hx hcb dX8_kindOfSign_21 (by decide) ?_
        refine lv_icmp_gt (tgt := 28) hx hcb dX8_kindOfSign_23 (by decide) (fun c_12 => ?_) (fun c_12 => ?_)
        · skip
          have h2_ : ¬ (nI 48 ≤ x ∧ x ≤ nI 57) := fun h_ => absurd c_12 (Int32.not_lt.mpr h_.2)
          refine lv_iload_n hx hcb dX8_kindOfSign_28 rfl (lv_at hl 0 rfl) ?_
          refine lv_bipush (v := (nI 59)) hx hcb dX8_kindOfSign_29 (by decide) ?_
          refine lv_icmp_ne (tgt := 36) hx hcb dX8_kindOfSign_31 (by decide) (fun c_13 => ?_) (fun c_13 => ?_)
          · skip
            have h3_ : ¬ x = nI 59 := c_13
            refine lv_iload_n hx hcb dX8_kindOfSign_36 rfl (lv_at hl 0 rfl) ?_
            refine lv_bipush (v := (nI 45)) hx hcb dX8_kindOfSign_37 (by decide) ?_
            refine lv_icmp_ne (tgt := 46) hx hcb dX8_kindOfSign_39 (by decide) (fun c_14 => ?_) (fun c_14 => ?_)
            · skip
              have h4_ : ¬ x = nI 45 := c_14
              refine lv_iconst (v := (nI 5)) hx hcb dX8_kindOfSign_46 (by decide) ?_
              exact hret (nI 5) z _ _ _ _ dX8_kindOfSign_47 rfl hR hS (⟨by unfold kS; rw [if_neg h1_, if_neg h2_, if_neg h3_]; first | rw [if_pos h4_] | rw [if_neg h4_], rfl⟩)
            · skip
              have h4_ : x = nI 45 := c_14
              refine lv_iconst (v := (nI 4)) hx hcb dX8_kindOfSign_42 (by decide) ?_
              refine lv_goto (tgt := 47) hx hcb dX8_kindOfSign_43 (by decide) ?_
              exact hret (nI 4) z _ _ _ _ dX8_kindOfSign_47 rfl hR hS (⟨by unfold kS; rw [if_neg h1_, if_neg h2_, if_neg h3_]; first | rw [if_pos h4_] | rw [if_neg h4_], rfl⟩)
          · skip
            have h3_ : x = nI 59 := c_13
            refine lv_iconst (v := (nI 3)) hx hcb dX8_kindOfSign_34 (by decide) ?_
            exact hret (nI 3) z _ _ _ _ dX8_kindOfSign_35 rfl hR hS (⟨by unfold kS; rw [if_neg h1_, if_neg h2_, if_pos h3_], rfl⟩)
        · skip
          have h2_ : (nI 48 ≤ x ∧ x ≤ nI 57) := ⟨h0_, Int32.not_lt.mp c_12⟩
          refine lv_iconst (v := (nI 2)) hx hcb dX8_kindOfSign_26 (by decide) ?_
          exact hret (nI 2) z _ _ _ _ dX8_kindOfSign_27 rfl hR hS (⟨by unfold kS; rw [if_neg h1_, if_pos h2_], rfl⟩)
    · skip
      have h1_ : (nI 97 ≤ x ∧ x ≤ nI 122) := ⟨h0_, Int32.not_lt.mp c_8⟩
      refine lv_iconst (v := (nI 1)) hx hcb dX8_kindOfSign_12 (by decide) ?_
      exact hret (nI 1) z _ _ _ _ dX8_kindOfSign_13 rfl hR hS (⟨by unfold kS; rw [if_pos h1_], rfl⟩)
def rm_X8_hasRoom : Room := { frames := 0, cells := 0, slots := 0, locals := 0 }
set_option maxRecDepth 100000 in
set_option maxHeartbeats 4000000 in
theorem c_X8_hasRoom (l : Launch) (G : xGl) (w : xWd) (K : Nat) (hw : isC K w) (z : xSt) (sz : Nat)  (q : Nat) (hq : z.1 14 1 = nI q) (hq9 : q ≤ 900) : xMi l yX8_hasRoom cX8_hasRoom 1 (some FieldType.boolean) rm_X8_hasRoom G w z sz [.ref (w.2.2 14)] (fun r z1 => r = (if q + 20 ≤ 900 then 1 else 0) ∧ z1 = z) := by
  refine x_mi (by decide) (Nat.le_of_ble_eq_true rfl) ?_
  intro p e s mt args below meth c ls Q hsz X hR hS hl hret
  obtain ⟨hx, hcb, hml, hown, hts, hlk, hK, hZ⟩ := X
  have hl : lv_has ls 1 [(0, .ref (w.2.2 14))] := hl
  refine lv_aload_n hx hcb dX8_hasRoom_0 rfl (lv_at hl 0 rfl) ?_
  refine x_getI hx hcb hts hown hK xc8 hR (hw.lo (by decide)) (hw.s0 (by decide) rfl) 1 (by decide) rfl q_140 dX8_hasRoom_1 ?_
  refine x_top (show (z.1 14 1) = (nI q) from hq) ?_
  refine lv_bipush (v := (nI 20)) hx hcb dX8_hasRoom_4 (by decide) ?_
  refine x_iaddN hx hcb dX8_hasRoom_6 ?_
  refine lv_sipush (v := (nI 900)) hx hcb dX8_hasRoom_7 (by decide) ?_
  refine lv_icmp_gt (tgt := 17) hx hcb dX8_hasRoom_10 (by decide) (fun c_1 => ?_) (fun c_1 => ?_)
  · skip
    have c_1 : 900 < (q + 20) := (nI_ltI (by omega) (by omega)).mp c_1
    have h1_ : ¬ q + 20 ≤ 900 := by omega
    refine lv_iconst (v := (nI 0)) hx hcb dX8_hasRoom_17 (by decide) ?_
    exact hret (nI 0) z _ _ _ _ dX8_hasRoom_18 rfl hR hS (⟨by first | (rw [if_pos h1_]; rfl) | (rw [if_neg h1_]; rfl), rfl⟩)
  · skip
    have c_1 : ¬ 900 < (q + 20) := fun h_ => c_1 ((nI_ltI (by omega) (by omega)).mpr h_)
    have h1_ : q + 20 ≤ 900 := by omega
    refine lv_iconst (v := (nI 1)) hx hcb dX8_hasRoom_13 (by decide) ?_
    refine lv_goto (tgt := 18) hx hcb dX8_hasRoom_14 (by decide) ?_
    exact hret (nI 1) z _ _ _ _ dX8_hasRoom_18 rfl hR hS (⟨by first | (rw [if_pos h1_]; rfl) | (rw [if_neg h1_]; rfl), rfl⟩)
def rm_X8_append : Room := { frames := 0, cells := 0, slots := 0, locals := 0 }
set_option maxRecDepth 100000 in
set_option maxHeartbeats 4000000 in
theorem c_X8_append (l : Launch) (G : xGl) (w : xWd) (K : Nat) (hw : isC K w) (z : xSt) (sz : Nat) (v : Int32) (q : Nat) (hq : z.1 14 1 = nI q) (hq9 : q + 4 ≤ 900) : xMv l yX8_append cX8_append 3 rm_X8_append G w z sz [.ref (w.2.2 14), .int v] (fun z1 => z1 = apd z v q) := by
  refine x_mv (by decide) (Nat.le_of_ble_eq_true rfl) ?_
  intro p e s mt args below meth c ls Q hsz X hR hS hl hret
  obtain ⟨hx, hcb, hml, hown, hts, hlk, hK, hZ⟩ := X
  have hl : lv_has ls 3 [(0, .ref (w.2.2 14)), (1, .int v)] := hl
  refine lv_bipush (v := (nI 24)) hx hcb dX8_append_0 (by decide) ?_
  refine lv_istore_n (lv' := [(2, .int (nI 24)), (0, .ref (w.2.2 14)), (1, .int v)]) hx hcb dX8_append_2 rfl hl (by decide) rfl (fun ls hl => ?_)
  refine lv_iload_n hx hcb dX8_append_3 rfl (lv_at hl 0 rfl) ?_
  refine lv_if_lt (tgt := 46) hx hcb dX8_append_4 (by decide) (fun c_1 => ?_) (fun c_1 => ?_)
  · skip
    first | exact absurd c_1 (by decide) | exact absurd (by decide) c_1
  · skip
    refine lv_aload_n hx hcb dX8_append_7 rfl (lv_at hl 1 rfl) ?_
    refine x_getI hx hcb hts hown hK xc8 hR (hw.lo (by decide)) (hw.s0 (by decide) rfl) 1 (by decide) rfl q_140 dX8_append_8 ?_
    refine x_top (show (z.1 14 1) = (nI q) from hq) ?_
    refine lv_sipush (v := (nI 900)) hx hcb dX8_append_11 (by decide) ?_
    refine lv_icmp_ge (tgt := 46) hx hcb dX8_append_14 (by decide) (fun c_2 => ?_) (fun c_2 => ?_)
    · skip
      have c_2 : 900 ≤ q := (nI_leI (by omega) (by omega)).mp c_2
      omega
    · skip
      have c_2 : ¬ 900 ≤ q := fun h_ => c_2 ((nI_leI (by omega) (by omega)).mpr h_)
      refine lv_aload_n hx hcb dX8_append_17 rfl (lv_at hl 1 rfl) ?_
      refine x_getR hx hcb hts hown hK xc8 hR (hw.lo (by decide)) (hw.s0 (by decide) rfl) 0 (by decide) rfl q_139 dX8_append_18 ?_
      refine lv_aload_n hx hcb dX8_append_21 rfl (lv_at hl 1 rfl) ?_
      refine x_getI hx hcb hts hown hK xc8 hR (hw.lo (by decide)) (hw.s0 (by decide) rfl) 1 (by decide) rfl q_140 dX8_append_22 ?_
      refine x_top (show (z.1 14 1) = (nI q) from hq) ?_
      refine lv_iload_n hx hcb dX8_append_25 rfl (lv_at hl 2 rfl) ?_
      refine lv_iload_n hx hcb dX8_append_26 rfl (lv_at hl 0 rfl) ?_
      refine lv_iushr hx hcb dX8_append_27 rfl ?_
      refine lv_i2b hx hcb dX8_append_28 rfl ?_
      refine x_bast hx hcb hK hR hS (hw.lo (by decide)) (hw.s0 (by decide) rfl) (k := q) (v := (((v.toUInt32 >>> ((nI 24).toUInt32 &&& Int32.toUInt32 31)).toInt32).toInt8.toInt32)) (by omega) (by decide) (byt_ok _) dX8_append_29 (fun H locs hR hS => ?_)
      refine lv_aload_n hx hcb dX8_append_30 rfl (lv_at hl 1 rfl) ?_
      refine lv_dup hx hcb dX8_append_31 rfl ?_
      refine x_getI hx hcb hts hown hK xc8 hR (hw.lo (by decide)) (hw.s0 (by decide) rfl) 1 (by decide) rfl q_140 dX8_append_32 ?_
      refine x_top (show ((u1 z 15 q (((v.toUInt32 >>> ((nI 24).toUInt32 &&& Int32.toUInt32 31)).toInt32).toInt8.toInt32)).1 14 1) = (nI q) from hq) ?_
      refine lv_iconst (v := (nI 1)) hx hcb dX8_append_35 (by decide) ?_
      refine x_iaddN hx hcb dX8_append_36 ?_
      refine x_top (show (nI (q + 1)) = (nI (q + 1)) from rfl) ?_
      refine x_putI hx hcb hts hown hK xc8 hR hS (hw.lo (by decide)) (hw.s0 (by decide) rfl) 1 (by decide) rfl q_140 rfl (v := (nI (q + 1))) rfl rfl dX8_append_37 (fun H locs hR hS => ?_)
      refine lv_iinc (v := (nI 16)) (lv' := [(2, .int (nI 16)), (0, .ref (w.2.2 14)), (1, .int v)]) hx hcb dX8_append_40 hl (k := 0) rfl (by decide) (by decide) rfl (fun ls hl => ?_)
      refine lv_goto (tgt := 3) hx hcb dX8_append_43 (by decide) ?_
      refine lv_iload_n hx hcb dX8_append_3 rfl (lv_at hl 0 rfl) ?_
      refine lv_if_lt (tgt := 46) hx hcb dX8_append_4 (by decide) (fun c_3 => ?_) (fun c_3 => ?_)
      · skip
        first | exact absurd c_3 (by decide) | exact absurd (by decide) c_3
      · skip
        refine lv_aload_n hx hcb dX8_append_7 rfl (lv_at hl 1 rfl) ?_
        refine x_getI hx hcb hts hown hK xc8 hR (hw.lo (by decide)) (hw.s0 (by decide) rfl) 1 (by decide) rfl q_140 dX8_append_8 ?_
        refine x_top (show ((u1 (u1 z 15 q (((v.toUInt32 >>> ((nI 24).toUInt32 &&& Int32.toUInt32 31)).toInt32).toInt8.toInt32)) 14 1 (nI (q + 1))).1 14 1) = (nI (q + 1)) from rfl) ?_
        refine lv_sipush (v := (nI 900)) hx hcb dX8_append_11 (by decide) ?_
        refine lv_icmp_ge (tgt := 46) hx hcb dX8_append_14 (by decide) (fun c_4 => ?_) (fun c_4 => ?_)
        · skip
          have c_4 : 900 ≤ (q + 1) := (nI_leI (by omega) (by omega)).mp c_4
          omega
        · skip
          have c_4 : ¬ 900 ≤ (q + 1) := fun h_ => c_4 ((nI_leI (by omega) (by omega)).mpr h_)
          refine lv_aload_n hx hcb dX8_append_17 rfl (lv_at hl 1 rfl) ?_
          refine x_getR hx hcb hts hown hK xc8 hR (hw.lo (by decide)) (hw.s0 (by decide) rfl) 0 (by decide) rfl q_139 dX8_append_18 ?_
          refine lv_aload_n hx hcb dX8_append_21 rfl (lv_at hl 1 rfl) ?_
          refine x_getI hx hcb hts hown hK xc8 hR (hw.lo (by decide)) (hw.s0 (by decide) rfl) 1 (by decide) rfl q_140 dX8_append_22 ?_
          refine x_top (show ((u1 (u1 z 15 q (((v.toUInt32 >>> ((nI 24).toUInt32 &&& Int32.toUInt32 31)).toInt32).toInt8.toInt32)) 14 1 (nI (q + 1))).1 14 1) = (nI (q + 1)) from rfl) ?_
          refine lv_iload_n hx hcb dX8_append_25 rfl (lv_at hl 2 rfl) ?_
          refine lv_iload_n hx hcb dX8_append_26 rfl (lv_at hl 0 rfl) ?_
          refine lv_iushr hx hcb dX8_append_27 rfl ?_
          refine lv_i2b hx hcb dX8_append_28 rfl ?_
          refine x_bast hx hcb hK hR hS (hw.lo (by decide)) (hw.s0 (by decide) rfl) (k := (q + 1)) (v := (((v.toUInt32 >>> ((nI 16).toUInt32 &&& Int32.toUInt32 31)).toInt32).toInt8.toInt32)) (by omega) (by decide) (byt_ok _) dX8_append_29 (fun H locs hR hS => ?_)
          refine lv_aload_n hx hcb dX8_append_30 rfl (lv_at hl 1 rfl) ?_
          refine lv_dup hx hcb dX8_append_31 rfl ?_
          refine x_getI hx hcb hts hown hK xc8 hR (hw.lo (by decide)) (hw.s0 (by decide) rfl) 1 (by decide) rfl q_140 dX8_append_32 ?_
          refine x_top (show ((u1 (u1 (u1 z 15 q (((v.toUInt32 >>> ((nI 24).toUInt32 &&& Int32.toUInt32 31)).toInt32).toInt8.toInt32)) 14 1 (nI (q + 1))) 15 (q + 1) (((v.toUInt32 >>> ((nI 16).toUInt32 &&& Int32.toUInt32 31)).toInt32).toInt8.toInt32)).1 14 1) = (nI (q + 1)) from rfl) ?_
          refine lv_iconst (v := (nI 1)) hx hcb dX8_append_35 (by decide) ?_
          refine x_iaddN hx hcb dX8_append_36 ?_
          refine x_top (show (nI ((q + 1) + 1)) = (nI (q + 2)) from rfl) ?_
          refine x_putI hx hcb hts hown hK xc8 hR hS (hw.lo (by decide)) (hw.s0 (by decide) rfl) 1 (by decide) rfl q_140 rfl (v := (nI (q + 2))) rfl rfl dX8_append_37 (fun H locs hR hS => ?_)
          refine lv_iinc (v := (nI 8)) (lv' := [(2, .int (nI 8)), (0, .ref (w.2.2 14)), (1, .int v)]) hx hcb dX8_append_40 hl (k := 0) rfl (by decide) (by decide) rfl (fun ls hl => ?_)
          refine lv_goto (tgt := 3) hx hcb dX8_append_43 (by decide) ?_
          refine lv_iload_n hx hcb dX8_append_3 rfl (lv_at hl 0 rfl) ?_
          refine lv_if_lt (tgt := 46) hx hcb dX8_append_4 (by decide) (fun c_5 => ?_) (fun c_5 => ?_)
          · skip
            first | exact absurd c_5 (by decide) | exact absurd (by decide) c_5
          · skip
            refine lv_aload_n hx hcb dX8_append_7 rfl (lv_at hl 1 rfl) ?_
            refine x_getI hx hcb hts hown hK xc8 hR (hw.lo (by decide)) (hw.s0 (by decide) rfl) 1 (by decide) rfl q_140 dX8_append_8 ?_
            refine x_top (show ((u1 (u1 (u1 (u1 z 15 q (((v.toUInt32 >>> ((nI 24).toUInt32 &&& Int32.toUInt32 31)).toInt32).toInt8.toInt32)) 14 1 (nI (q + 1))) 15 (q + 1) (((v.toUInt32 >>> ((nI 16).toUInt32 &&& Int32.toUInt32 31)).toInt32).toInt8.toInt32)) 14 1 (nI (q + 2))).1 14 1) = (nI (q + 2)) from rfl) ?_
            refine lv_sipush (v := (nI 900)) hx hcb dX8_append_11 (by decide) ?_
            refine lv_icmp_ge (tgt := 46) hx hcb dX8_append_14 (by decide) (fun c_6 => ?_) (fun c_6 => ?_)
            · skip
              have c_6 : 900 ≤ (q + 2) := (nI_leI (by omega) (by omega)).mp c_6
              omega
            · skip
              have c_6 : ¬ 900 ≤ (q + 2) := fun h_ => c_6 ((nI_leI (by omega) (by omega)).mpr h_)
              refine lv_aload_n hx hcb dX8_append_17 rfl (lv_at hl 1 rfl) ?_
              refine x_getR hx hcb hts hown hK xc8 hR (hw.lo (by decide)) (hw.s0 (by decide) rfl) 0 (by decide) rfl q_139 dX8_append_18 ?_
              refine lv_aload_n hx hcb dX8_append_21 rfl (lv_at hl 1 rfl) ?_
              refine x_getI hx hcb hts hown hK xc8 hR (hw.lo (by decide)) (hw.s0 (by decide) rfl) 1 (by decide) rfl q_140 dX8_append_22 ?_
              refine x_top (show ((u1 (u1 (u1 (u1 z 15 q (((v.toUInt32 >>> ((nI 24).toUInt32 &&& Int32.toUInt32 31)).toInt32).toInt8.toInt32)) 14 1 (nI (q + 1))) 15 (q + 1) (((v.toUInt32 >>> ((nI 16).toUInt32 &&& Int32.toUInt32 31)).toInt32).toInt8.toInt32)) 14 1 (nI (q + 2))).1 14 1) = (nI (q + 2)) from rfl) ?_
              refine lv_iload_n hx hcb dX8_append_25 rfl (lv_at hl 2 rfl) ?_
              refine lv_iload_n hx hcb dX8_append_26 rfl (lv_at hl 0 rfl) ?_
              refine lv_iushr hx hcb dX8_append_27 rfl ?_
              refine lv_i2b hx hcb dX8_append_28 rfl ?_
              refine x_bast hx hcb hK hR hS (hw.lo (by decide)) (hw.s0 (by decide) rfl) (k := (q + 2)) (v := (((v.toUInt32 >>> ((nI 8).toUInt32 &&& Int32.toUInt32 31)).toInt32).toInt8.toInt32)) (by omega) (by decide) (byt_ok _) dX8_append_29 (fun H locs hR hS => ?_)
              refine lv_aload_n hx hcb dX8_append_30 rfl (lv_at hl 1 rfl) ?_
              refine lv_dup hx hcb dX8_append_31 rfl ?_
              refine x_getI hx hcb hts hown hK xc8 hR (hw.lo (by decide)) (hw.s0 (by decide) rfl) 1 (by decide) rfl q_140 dX8_append_32 ?_
              refine x_top (show ((u1 (u1 (u1 (u1 (u1 z 15 q (((v.toUInt32 >>> ((nI 24).toUInt32 &&& Int32.toUInt32 31)).toInt32).toInt8.toInt32)) 14 1 (nI (q + 1))) 15 (q + 1) (((v.toUInt32 >>> ((nI 16).toUInt32 &&& Int32.toUInt32 31)).toInt32).toInt8.toInt32)) 14 1 (nI (q + 2))) 15 (q + 2) (((v.toUInt32 >>> ((nI 8).toUInt32 &&& Int32.toUInt32 31)).toInt32).toInt8.toInt32)).1 14 1) = (nI (q + 2)) from rfl) ?_
              refine lv_iconst (v := (nI 1)) hx hcb dX8_append_35 (by decide) ?_
              refine x_iaddN hx hcb dX8_append_36 ?_
              refine x_top (show (nI ((q + 2) + 1)) = (nI (q + 3)) from rfl) ?_
              refine x_putI hx hcb hts hown hK xc8 hR hS (hw.lo (by decide)) (hw.s0 (by decide) rfl) 1 (by decide) rfl q_140 rfl (v := (nI (q + 3))) rfl rfl dX8_append_37 (fun H locs hR hS => ?_)
              refine lv_iinc (v := (nI 0)) (lv' := [(2, .int (nI 0)), (0, .ref (w.2.2 14)), (1, .int v)]) hx hcb dX8_append_40 hl (k := 0) rfl (by decide) (by decide) rfl (fun ls hl => ?_)
              refine lv_goto (tgt := 3) hx hcb dX8_append_43 (by decide) ?_
              refine lv_iload_n hx hcb dX8_append_3 rfl (lv_at hl 0 rfl) ?_
              refine lv_if_lt (tgt := 46) hx hcb dX8_append_4 (by decide) (fun c_7 => ?_) (fun c_7 => ?_)
              · skip
                first | exact absurd c_7 (by decide) | exact absurd (by decide) c_7
              · skip
                refine lv_aload_n hx hcb dX8_append_7 rfl (lv_at hl 1 rfl) ?_
                refine x_getI hx hcb hts hown hK xc8 hR (hw.lo (by decide)) (hw.s0 (by decide) rfl) 1 (by decide) rfl q_140 dX8_append_8 ?_
                refine x_top (show ((u1 (u1 (u1 (u1 (u1 (u1 z 15 q (((v.toUInt32 >>> ((nI 24).toUInt32 &&& Int32.toUInt32 31)).toInt32).toInt8.toInt32)) 14 1 (nI (q + 1))) 15 (q + 1) (((v.toUInt32 >>> ((nI 16).toUInt32 &&& Int32.toUInt32 31)).toInt32).toInt8.toInt32)) 14 1 (nI (q + 2))) 15 (q + 2) (((v.toUInt32 >>> ((nI 8).toUInt32 &&& Int32.toUInt32 31)).toInt32).toInt8.toInt32)) 14 1 (nI (q + 3))).1 14 1) = (nI (q + 3)) from rfl) ?_
                refine lv_sipush (v := (nI 900)) hx hcb dX8_append_11 (by decide) ?_
                refine lv_icmp_ge (tgt := 46) hx hcb dX8_append_14 (by decide) (fun c_8 => ?_) (fun c_8 => ?_)
                · skip
                  have c_8 : 900 ≤ (q + 3) := (nI_leI (by omega) (by omega)).mp c_8
                  omega
                · skip
                  have c_8 : ¬ 900 ≤ (q + 3) := fun h_ => c_8 ((nI_leI (by omega) (by omega)).mpr h_)
                  refine lv_aload_n hx hcb dX8_append_17 rfl (lv_at hl 1 rfl) ?_
                  refine x_getR hx hcb hts hown hK xc8 hR (hw.lo (by decide)) (hw.s0 (by decide) rfl) 0 (by decide) rfl q_139 dX8_append_18 ?_
                  refine lv_aload_n hx hcb dX8_append_21 rfl (lv_at hl 1 rfl) ?_
                  refine x_getI hx hcb hts hown hK xc8 hR (hw.lo (by decide)) (hw.s0 (by decide) rfl) 1 (by decide) rfl q_140 dX8_append_22 ?_
                  refine x_top (show ((u1 (u1 (u1 (u1 (u1 (u1 z 15 q (((v.toUInt32 >>> ((nI 24).toUInt32 &&& Int32.toUInt32 31)).toInt32).toInt8.toInt32)) 14 1 (nI (q + 1))) 15 (q + 1) (((v.toUInt32 >>> ((nI 16).toUInt32 &&& Int32.toUInt32 31)).toInt32).toInt8.toInt32)) 14 1 (nI (q + 2))) 15 (q + 2) (((v.toUInt32 >>> ((nI 8).toUInt32 &&& Int32.toUInt32 31)).toInt32).toInt8.toInt32)) 14 1 (nI (q + 3))).1 14 1) = (nI (q + 3)) from rfl) ?_
                  refine lv_iload_n hx hcb dX8_append_25 rfl (lv_at hl 2 rfl) ?_
                  refine lv_iload_n hx hcb dX8_append_26 rfl (lv_at hl 0 rfl) ?_
                  refine lv_iushr hx hcb dX8_append_27 rfl ?_
                  refine lv_i2b hx hcb dX8_append_28 rfl ?_
                  refine x_bast hx hcb hK hR hS (hw.lo (by decide)) (hw.s0 (by decide) rfl) (k := (q + 3)) (v := (((v.toUInt32 >>> ((nI 0).toUInt32 &&& Int32.toUInt32 31)).toInt32).toInt8.toInt32)) (by omega) (by decide) (byt_ok _) dX8_append_29 (fun H locs hR hS => ?_)
                  refine lv_aload_n hx hcb dX8_append_30 rfl (lv_at hl 1 rfl) ?_
                  refine lv_dup hx hcb dX8_append_31 rfl ?_
                  refine x_getI hx hcb hts hown hK xc8 hR (hw.lo (by decide)) (hw.s0 (by decide) rfl) 1 (by decide) rfl q_140 dX8_append_32 ?_
                  refine x_top (show ((u1 (u1 (u1 (u1 (u1 (u1 (u1 z 15 q (((v.toUInt32 >>> ((nI 24).toUInt32 &&& Int32.toUInt32 31)).toInt32).toInt8.toInt32)) 14 1 (nI (q + 1))) 15 (q + 1) (((v.toUInt32 >>> ((nI 16).toUInt32 &&& Int32.toUInt32 31)).toInt32).toInt8.toInt32)) 14 1 (nI (q + 2))) 15 (q + 2) (((v.toUInt32 >>> ((nI 8).toUInt32 &&& Int32.toUInt32 31)).toInt32).toInt8.toInt32)) 14 1 (nI (q + 3))) 15 (q + 3) (((v.toUInt32 >>> ((nI 0).toUInt32 &&& Int32.toUInt32 31)).toInt32).toInt8.toInt32)).1 14 1) = (nI (q + 3)) from rfl) ?_
                  refine lv_iconst (v := (nI 1)) hx hcb dX8_append_35 (by decide) ?_
                  refine x_iaddN hx hcb dX8_append_36 ?_
                  refine x_top (show (nI ((q + 3) + 1)) = (nI (q + 4)) from rfl) ?_
                  refine x_putI hx hcb hts hown hK xc8 hR hS (hw.lo (by decide)) (hw.s0 (by decide) rfl) 1 (by decide) rfl q_140 rfl (v := (nI (q + 4))) rfl rfl dX8_append_37 (fun H locs hR hS => ?_)
                  refine lv_iinc (v := (-8)) (lv' := [(2, .int (-8)), (0, .ref (w.2.2 14)), (1, .int v)]) hx hcb dX8_append_40 hl (k := 0) rfl (by decide) (by decide) rfl (fun ls hl => ?_)
                  refine lv_goto (tgt := 3) hx hcb dX8_append_43 (by decide) ?_
                  refine lv_iload_n hx hcb dX8_append_3 rfl (lv_at hl 0 rfl) ?_
                  refine lv_if_lt (tgt := 46) hx hcb dX8_append_4 (by decide) (fun c_9 => ?_) (fun c_9 => ?_)
                  · skip
                    exact hret (u1 (u1 (u1 (u1 (u1 (u1 (u1 (u1 z 15 q (((v.toUInt32 >>> ((nI 24).toUInt32 &&& Int32.toUInt32 31)).toInt32).toInt8.toInt32)) 14 1 (nI (q + 1))) 15 (q + 1) (((v.toUInt32 >>> ((nI 16).toUInt32 &&& Int32.toUInt32 31)).toInt32).toInt8.toInt32)) 14 1 (nI (q + 2))) 15 (q + 2) (((v.toUInt32 >>> ((nI 8).toUInt32 &&& Int32.toUInt32 31)).toInt32).toInt8.toInt32)) 14 1 (nI (q + 3))) 15 (q + 3) (((v.toUInt32 >>> ((nI 0).toUInt32 &&& Int32.toUInt32 31)).toInt32).toInt8.toInt32)) 14 1 (nI (q + 4))) _ _ _ _ dX8_append_46 hR hS rfl
                  · skip
                    first | exact absurd c_9 (by decide) | exact absurd (by decide) c_9
def rm_X8_next : Room := { frames := 1, cells := 0, slots := 0, locals := 20 }
set_option maxRecDepth 100000 in
set_option maxHeartbeats 4000000 in
theorem c_X8_next (l : Launch) (G : xGl) (w : xWd) (K : Nat) (hw : isC K w) (z : xSt) (sz : Nat)  (hP : tPre z) : xMv l yX8_next cX8_next 1 rm_X8_next G w z sz [.ref (w.2.2 14)] (fun z1 => z1 = nx z) := by
  refine x_mv (by decide) (Nat.le_of_ble_eq_true rfl) ?_
  intro p e s mt args below meth c ls Q hsz X hR hS hl hret
  obtain ⟨hx, hcb, hml, hown, hts, hlk, hK, hZ⟩ := X
  have hl : lv_has ls 1 [(0, .ref (w.2.2 14))] := hl
  have hP2_ := hP.2.2.1
  have hP3_ := hP.2.2.2
  refine lv_aload_n hx hcb dX8_next_0 rfl (lv_at hl 0 rfl) ?_
  refine lv_aload_n hx hcb dX8_next_1 rfl (lv_at hl 0 rfl) ?_
  refine x_getI hx hcb hts hown hK xc8 hR (hw.lo (by decide)) (hw.s0 (by decide) rfl) 5 (by decide) rfl q_147 dX8_next_2 ?_
  refine x_top (show (z.1 14 5) = (nI (tN z 5)) from hP.2.1) ?_
  refine x_putI hx hcb hts hown hK xc8 hR hS (hw.lo (by decide)) (hw.s0 (by decide) rfl) 4 (by decide) rfl q_146 rfl (v := (nI (tN z 5))) rfl rfl dX8_next_5 (fun H locs hR hS => ?_)
  rw [show u1 z 14 4 (nI (tN z 5)) = TK z (nI (tN z 5)) (z.1 14 3) (nI (tN z 5)) from tk_start hP.2.1] at hR
  suffices LP_8 : ∀ (nn : Nat) (s_ : Nat) (_ : tN z 2 - s_ < nn) (hs1_ : tN z 5 ≤ s_) (hs2_ : s_ ≤ tN z 2) (hs3_ : (skW (z.1 15) (tN z 2 - tN z 5) (tN z 5)) = skW (z.1 15) (tN z 2 - s_) s_) (H : Heap) (locs : List Loc) (ls : Array Slot), Rh G w (TK z (nI s_) (z.1 14 3) (nI (tN z 5))) H → va_S (xA w s.heap.size) s.heap H locs → lv_has ls 1 [(0, .ref (w.2.2 14))] → W p l e rm_X8_next s mt args below meth c H locs 0 0 Q (F0 mt 8 ls []) from LP_8 ((_) + 1) (tN z 5) (Nat.lt_succ_self _) (Nat.le_refl _) hP2_ rfl _ _ _ hR hS (lv_sub hl [0] rfl)
  intro nn
  induction nn with
  | zero => intro s_ hm_ ; exact absurd hm_ (Nat.not_lt_zero _)
  | succ nn ih_8 =>
    intro s_ hm_8 hs1_ hs2_ hs3_ H locs ls hR hS hl
    refine lv_aload_n hx hcb dX8_next_8 rfl (lv_at hl 0 rfl) ?_
    refine x_getI hx hcb hts hown hK xc8 hR (hw.lo (by decide)) (hw.s0 (by decide) rfl) 4 (by decide) rfl q_146 dX8_next_9 ?_
    refine x_top (show ((TK z (nI s_) (z.1 14 3) (nI (tN z 5))).1 14 4) = (nI s_) from rfl) ?_
    refine lv_aload_n hx hcb dX8_next_12 rfl (lv_at hl 0 rfl) ?_
    refine x_getI hx hcb hts hown hK xc8 hR (hw.lo (by decide)) (hw.s0 (by decide) rfl) 2 (by decide) rfl q_142 dX8_next_13 ?_
    refine x_top (show ((TK z (nI s_) (z.1 14 3) (nI (tN z 5))).1 14 2) = (nI (tN z 2)) from hP.1) ?_
    refine lv_icmp_ge (tgt := 60) hx hcb dX8_next_16 (by decide) (fun c_1 => ?_) (fun c_1 => ?_)
    · skip
      have c_1 : (tN z 2) ≤ s_ := (nI_leI (by omega) (by omega)).mp c_1
      have hs4_ : (skW (z.1 15) (tN z 2 - tN z 5) (tN z 5)) = s_ := by rw [hs3_, show tN z 2 - s_ = 0 by omega]; rfl
      refine lv_aload_n hx hcb dX8_next_60 rfl (lv_at hl 0 rfl) ?_
      refine lv_aload_n hx hcb dX8_next_61 rfl (lv_at hl 0 rfl) ?_
      refine x_getI hx hcb hts hown hK xc8 hR (hw.lo (by decide)) (hw.s0 (by decide) rfl) 4 (by decide) rfl q_146 dX8_next_62 ?_
      refine x_top (show ((TK z (nI s_) (z.1 14 3) (nI (tN z 5))).1 14 4) = (nI s_) from rfl) ?_
      refine x_putI hx hcb hts hown hK xc8 hR hS (hw.lo (by decide)) (hw.s0 (by decide) rfl) 5 (by decide) rfl q_147 rfl (v := (nI s_)) rfl rfl dX8_next_65 (fun H locs hR hS => ?_)
      rw [show u1 (TK z (nI s_) (z.1 14 3) (nI (tN z 5))) 14 5 (nI s_) = TK z (nI s_) (z.1 14 3) (nI s_) from tk_5 ..] at hR
      refine lv_aload_n hx hcb dX8_next_68 rfl (lv_at hl 0 rfl) ?_
      refine x_getI hx hcb hts hown hK xc8 hR (hw.lo (by decide)) (hw.s0 (by decide) rfl) 4 (by decide) rfl q_146 dX8_next_69 ?_
      refine x_top (show ((TK z (nI s_) (z.1 14 3) (nI s_)).1 14 4) = (nI s_) from rfl) ?_
      refine lv_aload_n hx hcb dX8_next_72 rfl (lv_at hl 0 rfl) ?_
      refine x_getI hx hcb hts hown hK xc8 hR (hw.lo (by decide)) (hw.s0 (by decide) rfl) 2 (by decide) rfl q_142 dX8_next_73 ?_
      refine x_top (show ((TK z (nI s_) (z.1 14 3) (nI s_)).1 14 2) = (nI (tN z 2)) from hP.1) ?_
      refine lv_icmp_lt (tgt := 85) hx hcb dX8_next_76 (by decide) (fun c_2 => ?_) (fun c_2 => ?_)
      · skip
        have c_2 : s_ < (tN z 2) := (nI_ltI (by omega) (by omega)).mp c_2
        refine lv_aload_n hx hcb dX8_next_85 rfl (lv_at hl 0 rfl) ?_
        refine lv_aload_n hx hcb dX8_next_86 rfl (lv_at hl 0 rfl) ?_
        refine x_getR hx hcb hts hown hK xc8 hR (hw.lo (by decide)) (hw.s0 (by decide) rfl) 0 (by decide) rfl q_139 dX8_next_87 ?_
        refine lv_aload_n hx hcb dX8_next_90 rfl (lv_at hl 0 rfl) ?_
        refine x_getI hx hcb hts hown hK xc8 hR (hw.lo (by decide)) (hw.s0 (by decide) rfl) 4 (by decide) rfl q_146 dX8_next_91 ?_
        refine x_top (show ((TK z (nI s_) (z.1 14 3) (nI s_)).1 14 4) = (nI s_) from rfl) ?_
        refine x_bald hx hcb hK hR (hw.lo (by decide)) (hw.s0 (by decide) rfl) (k := s_) (by omega) (by decide) dX8_next_94 ?_
        refine x_top (show ((TK z (nI s_) (z.1 14 3) (nI s_)).1 15 s_) = (z.1 15 s_) from rfl) ?_
        refine x_ci0 rfl rfl (x_runS hx hcb hml hown hts (c_X8_kindOfSign l G w K hw (TK z (nI s_) (z.1 14 3) (nI s_)) _ (z.1 15 s_)) ms_X8_kindOfSign q_439 hK hZ hR hS rfl hl.1 rfl (Nat.le_of_ble_eq_true rfl) dX8_next_95 ⟨by decide, by decide⟩ ⟨by decide, by decide⟩) hS (fun r_3 z_4 H locs hp_5 hR hS => ?_)
        rw [hp_5.2] at hR; rw [hp_5.1]
        refine x_top (show (nI (kS (z.1 15 s_))) = (nI (kS (z.1 15 s_))) from rfl) ?_
        refine x_putI hx hcb hts hown hK xc8 hR hS (hw.lo (by decide)) (hw.s0 (by decide) rfl) 3 (by decide) rfl q_144 rfl (v := (nI (kS (z.1 15 s_)))) rfl rfl dX8_next_98 (fun H locs hR hS => ?_)
        rw [show u1 (TK z (nI s_) (z.1 14 3) (nI s_)) 14 3 (nI (kS (z.1 15 s_))) = TK z (nI s_) (nI (kS (z.1 15 s_))) (nI s_) from tk_3 ..] at hR
        refine lv_aload_n hx hcb dX8_next_101 rfl (lv_at hl 0 rfl) ?_
        refine lv_aload_n hx hcb dX8_next_102 rfl (lv_at hl 0 rfl) ?_
        refine x_getI hx hcb hts hown hK xc8 hR (hw.lo (by decide)) (hw.s0 (by decide) rfl) 4 (by decide) rfl q_146 dX8_next_103 ?_
        refine x_top (show ((TK z (nI s_) (nI (kS (z.1 15 s_))) (nI s_)).1 14 4) = (nI s_) from rfl) ?_
        refine lv_iconst (v := (nI 1)) hx hcb dX8_next_106 (by decide) ?_
        refine x_iaddN hx hcb dX8_next_107 ?_
        refine x_putI hx hcb hts hown hK xc8 hR hS (hw.lo (by decide)) (hw.s0 (by decide) rfl) 5 (by decide) rfl q_147 rfl (v := (nI (s_ + 1))) rfl rfl dX8_next_108 (fun H locs hR hS => ?_)
        rw [show u1 (TK z (nI s_) (nI (kS (z.1 15 s_))) (nI s_)) 14 5 (nI (s_ + 1)) = TK z (nI s_) (nI (kS (z.1 15 s_))) (nI (s_ + 1)) from tk_5 ..] at hR
        have hkb_ := kS_lt (z.1 15 s_)
        refine lv_aload_n hx hcb dX8_next_111 rfl (lv_at hl 0 rfl) ?_
        refine x_getI hx hcb hts hown hK xc8 hR (hw.lo (by decide)) (hw.s0 (by decide) rfl) 3 (by decide) rfl q_144 dX8_next_112 ?_
        refine x_top (show ((TK z (nI s_) (nI (kS (z.1 15 s_))) (nI (s_ + 1))).1 14 3) = (nI (kS (z.1 15 s_))) from rfl) ?_
        refine lv_iconst (v := (nI 1)) hx hcb dX8_next_115 (by decide) ?_
        refine lv_icmp_eq (tgt := 127) hx hcb dX8_next_116 (by decide) (fun c_6 => ?_) (fun c_6 => ?_)
        · skip
          have c_6 : (kS (z.1 15 s_)) = 1 := (nI_eq (by omega) (by omega)).mp c_6
          have hw_ : kS (z.1 15 s_) = 1 ∨ kS (z.1 15 s_) = 2 := Or.inl c_6
          suffices LP_127 : ∀ (nn : Nat) (e_ : Nat) (_ : tN z 2 - e_ < nn) (he1_ : s_ + 1 ≤ e_) (he2_ : e_ ≤ tN z 2) (he3_ : rnK (z.1 15) (kS (z.1 15 s_)) (tN z 2 - (s_ + 1)) (s_ + 1) = rnK (z.1 15) (kS (z.1 15 s_)) (tN z 2 - e_) e_) (H : Heap) (locs : List Loc) (ls : Array Slot), Rh G w (TK z (nI s_) (nI (kS (z.1 15 s_))) (nI e_)) H → va_S (xA w s.heap.size) s.heap H locs → lv_has ls 1 [(0, .ref (w.2.2 14))] → W p l e rm_X8_next s mt args below meth c H locs 0 0 Q (F0 mt 127 ls []) from LP_127 ((_) + 1) (s_ + 1) (Nat.lt_succ_self _) (Nat.le_refl _) (by omega) rfl _ _ _ hR hS (lv_sub hl [0] rfl)
          intro nn
          induction nn with
          | zero => intro e_ hm_ ; exact absurd hm_ (Nat.not_lt_zero _)
          | succ nn ih_127 =>
            intro e_ hm_127 he1_ he2_ he3_ H locs ls hR hS hl
            refine lv_aload_n hx hcb dX8_next_127 rfl (lv_at hl 0 rfl) ?_
            refine x_getI hx hcb hts hown hK xc8 hR (hw.lo (by decide)) (hw.s0 (by decide) rfl) 5 (by decide) rfl q_147 dX8_next_128 ?_
            refine x_top (show ((TK z (nI s_) (nI (kS (z.1 15 s_))) (nI e_)).1 14 5) = (nI e_) from rfl) ?_
            refine lv_aload_n hx hcb dX8_next_131 rfl (lv_at hl 0 rfl) ?_
            refine x_getI hx hcb hts hown hK xc8 hR (hw.lo (by decide)) (hw.s0 (by decide) rfl) 2 (by decide) rfl q_142 dX8_next_132 ?_
            refine x_top (show ((TK z (nI s_) (nI (kS (z.1 15 s_))) (nI e_)).1 14 2) = (nI (tN z 2)) from hP.1) ?_
            refine lv_icmp_ge (tgt := 170) hx hcb dX8_next_135 (by decide) (fun c_7 => ?_) (fun c_7 => ?_)
            · skip
              have c_7 : (tN z 2) ≤ e_ := (nI_leI (by omega) (by omega)).mp c_7
              have he4_ : rnK (z.1 15) (kS (z.1 15 s_)) (tN z 2 - (s_ + 1)) (s_ + 1) = e_ := by rw [he3_, show tN z 2 - e_ = 0 by omega]; rfl
              exact hret (TK z (nI s_) (nI (kS (z.1 15 s_))) (nI e_)) _ _ _ _ dX8_next_170 hR hS (by first | exact nx_w hs4_ (by omega) hw_ he4_ | exact nx_o hs4_ (by omega) hw_)
            · skip
              have c_7 : ¬ (tN z 2) ≤ e_ := fun h_ => c_7 ((nI_leI (by omega) (by omega)).mpr h_)
              refine lv_aload_n hx hcb dX8_next_138 rfl (lv_at hl 0 rfl) ?_
              refine x_getR hx hcb hts hown hK xc8 hR (hw.lo (by decide)) (hw.s0 (by decide) rfl) 0 (by decide) rfl q_139 dX8_next_139 ?_
              refine lv_aload_n hx hcb dX8_next_142 rfl (lv_at hl 0 rfl) ?_
              refine x_getI hx hcb hts hown hK xc8 hR (hw.lo (by decide)) (hw.s0 (by decide) rfl) 5 (by decide) rfl q_147 dX8_next_143 ?_
              refine x_top (show ((TK z (nI s_) (nI (kS (z.1 15 s_))) (nI e_)).1 14 5) = (nI e_) from rfl) ?_
              refine x_bald hx hcb hK hR (hw.lo (by decide)) (hw.s0 (by decide) rfl) (k := e_) (by omega) (by decide) dX8_next_146 ?_
              refine x_top (show ((TK z (nI s_) (nI (kS (z.1 15 s_))) (nI e_)).1 15 e_) = (z.1 15 e_) from rfl) ?_
              refine x_ci0 rfl rfl (x_runS hx hcb hml hown hts (c_X8_kindOfSign l G w K hw (TK z (nI s_) (nI (kS (z.1 15 s_))) (nI e_)) _ (z.1 15 e_)) ms_X8_kindOfSign q_439 hK hZ hR hS rfl hl.1 rfl (Nat.le_of_ble_eq_true rfl) dX8_next_147 ⟨by decide, by decide⟩ ⟨by decide, by decide⟩) hS (fun r_8 z_9 H locs hp_10 hR hS => ?_)
              rw [hp_10.2] at hR; rw [hp_10.1]
              refine x_top (show (nI (kS (z.1 15 e_))) = (nI (kS (z.1 15 e_))) from rfl) ?_
              refine lv_aload_n hx hcb dX8_next_150 rfl (lv_at hl 0 rfl) ?_
              refine x_getI hx hcb hts hown hK xc8 hR (hw.lo (by decide)) (hw.s0 (by decide) rfl) 3 (by decide) rfl q_144 dX8_next_151 ?_
              refine x_top (show ((TK z (nI s_) (nI (kS (z.1 15 s_))) (nI e_)).1 14 3) = (nI (kS (z.1 15 s_))) from rfl) ?_
              have hkb2_ := kS_lt (z.1 15 e_)
              refine lv_icmp_ne (tgt := 170) hx hcb dX8_next_154 (by decide) (fun c_11 => ?_) (fun c_11 => ?_)
              · skip
                have c_11 : ¬ (kS (z.1 15 e_)) = (kS (z.1 15 s_)) := fun h_ => c_11 ((nI_eq (by omega) (by omega)).mpr h_)
                have he4_ : rnK (z.1 15) (kS (z.1 15 s_)) (tN z 2 - (s_ + 1)) (s_ + 1) = e_ := by rw [he3_, rnK_s (k := tN z 2 - (e_ + 1)) (by omega), if_neg c_11]
                exact hret (TK z (nI s_) (nI (kS (z.1 15 s_))) (nI e_)) _ _ _ _ dX8_next_170 hR hS (by first | exact nx_w hs4_ (by omega) hw_ he4_ | exact nx_o hs4_ (by omega) hw_)
              · skip
                have c_11 : (kS (z.1 15 e_)) = (kS (z.1 15 s_)) := (nI_eq (by omega) (by omega)).mp c_11
                have hb_ := c_11
                refine lv_aload_n hx hcb dX8_next_157 rfl (lv_at hl 0 rfl) ?_
                refine lv_dup hx hcb dX8_next_158 rfl ?_
                refine x_getI hx hcb hts hown hK xc8 hR (hw.lo (by decide)) (hw.s0 (by decide) rfl) 5 (by decide) rfl q_147 dX8_next_159 ?_
                refine x_top (show ((TK z (nI s_) (nI (kS (z.1 15 s_))) (nI e_)).1 14 5) = (nI e_) from rfl) ?_
                refine lv_iconst (v := (nI 1)) hx hcb dX8_next_162 (by decide) ?_
                refine x_iaddN hx hcb dX8_next_163 ?_
                refine x_putI hx hcb hts hown hK xc8 hR hS (hw.lo (by decide)) (hw.s0 (by decide) rfl) 5 (by decide) rfl q_147 rfl (v := (nI (e_ + 1))) rfl rfl dX8_next_164 (fun H locs hR hS => ?_)
                refine lv_goto (tgt := 127) hx hcb dX8_next_167 (by decide) ?_
                rw [show (u1 (TK z (nI s_) (nI (kS (z.1 15 s_))) (nI e_)) 14 5 (nI (e_ + 1))) = (TK z (nI s_) (nI (kS (z.1 15 s_))) (nI (e_ + 1))) from tk_5 ..] at hR
                exact ih_127 (e_ + 1) (by omega) (by omega) (by omega) (by rw [he3_, rnK_s (k := tN z 2 - (e_ + 1)) (by omega), if_pos hb_]) _ _ _ hR hS (lv_sub hl [0] rfl)
        · skip
          have c_6 : ¬ (kS (z.1 15 s_)) = 1 := fun h_ => c_6 ((nI_eq (by omega) (by omega)).mpr h_)
          refine lv_aload_n hx hcb dX8_next_119 rfl (lv_at hl 0 rfl) ?_
          refine x_getI hx hcb hts hown hK xc8 hR (hw.lo (by decide)) (hw.s0 (by decide) rfl) 3 (by decide) rfl q_144 dX8_next_120 ?_
          refine x_top (show ((TK z (nI s_) (nI (kS (z.1 15 s_))) (nI (s_ + 1))).1 14 3) = (nI (kS (z.1 15 s_))) from rfl) ?_
          refine lv_iconst (v := (nI 2)) hx hcb dX8_next_123 (by decide) ?_
          refine lv_icmp_ne (tgt := 170) hx hcb dX8_next_124 (by decide) (fun c_12 => ?_) (fun c_12 => ?_)
          · skip
            have c_12 : ¬ (kS (z.1 15 s_)) = 2 := fun h_ => c_12 ((nI_eq (by omega) (by omega)).mpr h_)
            have hw_ : ¬ (kS (z.1 15 s_) = 1 ∨ kS (z.1 15 s_) = 2) := by omega
            exact hret (TK z (nI s_) (nI (kS (z.1 15 s_))) (nI (s_ + 1))) _ _ _ _ dX8_next_170 hR hS (by first | exact nx_w hs4_ (by omega) hw_ he4_ | exact nx_o hs4_ (by omega) hw_)
          · skip
            have c_12 : (kS (z.1 15 s_)) = 2 := (nI_eq (by omega) (by omega)).mp c_12
            have hw_ : kS (z.1 15 s_) = 1 ∨ kS (z.1 15 s_) = 2 := by omega
            suffices LP_127 : ∀ (nn : Nat) (e_ : Nat) (_ : tN z 2 - e_ < nn) (he1_ : s_ + 1 ≤ e_) (he2_ : e_ ≤ tN z 2) (he3_ : rnK (z.1 15) (kS (z.1 15 s_)) (tN z 2 - (s_ + 1)) (s_ + 1) = rnK (z.1 15) (kS (z.1 15 s_)) (tN z 2 - e_) e_) (H : Heap) (locs : List Loc) (ls : Array Slot), Rh G w (TK z (nI s_) (nI (kS (z.1 15 s_))) (nI e_)) H → va_S (xA w s.heap.size) s.heap H locs → lv_has ls 1 [(0, .ref (w.2.2 14))] → W p l e rm_X8_next s mt args below meth c H locs 0 0 Q (F0 mt 127 ls []) from LP_127 ((_) + 1) (s_ + 1) (Nat.lt_succ_self _) (Nat.le_refl _) (by omega) rfl _ _ _ hR hS (lv_sub hl [0] rfl)
            intro nn
            induction nn with
            | zero => intro e_ hm_ ; exact absurd hm_ (Nat.not_lt_zero _)
            | succ nn ih_127 =>
              intro e_ hm_127 he1_ he2_ he3_ H locs ls hR hS hl
              refine lv_aload_n hx hcb dX8_next_127 rfl (lv_at hl 0 rfl) ?_
              refine x_getI hx hcb hts hown hK xc8 hR (hw.lo (by decide)) (hw.s0 (by decide) rfl) 5 (by decide) rfl q_147 dX8_next_128 ?_
              refine x_top (show ((TK z (nI s_) (nI (kS (z.1 15 s_))) (nI e_)).1 14 5) = (nI e_) from rfl) ?_
              refine lv_aload_n hx hcb dX8_next_131 rfl (lv_at hl 0 rfl) ?_
              refine x_getI hx hcb hts hown hK xc8 hR (hw.lo (by decide)) (hw.s0 (by decide) rfl) 2 (by decide) rfl q_142 dX8_next_132 ?_
              refine x_top (show ((TK z (nI s_) (nI (kS (z.1 15 s_))) (nI e_)).1 14 2) = (nI (tN z 2)) from hP.1) ?_
              refine lv_icmp_ge (tgt := 170) hx hcb dX8_next_135 (by decide) (fun c_13 => ?_) (fun c_13 => ?_)
              · skip
                have c_13 : (tN z 2) ≤ e_ := (nI_leI (by omega) (by omega)).mp c_13
                have he4_ : rnK (z.1 15) (kS (z.1 15 s_)) (tN z 2 - (s_ + 1)) (s_ + 1) = e_ := by rw [he3_, show tN z 2 - e_ = 0 by omega]; rfl
                exact hret (TK z (nI s_) (nI (kS (z.1 15 s_))) (nI e_)) _ _ _ _ dX8_next_170 hR hS (by first | exact nx_w hs4_ (by omega) hw_ he4_ | exact nx_o hs4_ (by omega) hw_)
              · skip
                have c_13 : ¬ (tN z 2) ≤ e_ := fun h_ => c_13 ((nI_leI (by omega) (by omega)).mpr h_)
                refine lv_aload_n hx hcb dX8_next_138 rfl (lv_at hl 0 rfl) ?_
                refine x_getR hx hcb hts hown hK xc8 hR (hw.lo (by decide)) (hw.s0 (by decide) rfl) 0 (by decide) rfl q_139 dX8_next_139 ?_
                refine lv_aload_n hx hcb dX8_next_142 rfl (lv_at hl 0 rfl) ?_
                refine x_getI hx hcb hts hown hK xc8 hR (hw.lo (by decide)) (hw.s0 (by decide) rfl) 5 (by decide) rfl q_147 dX8_next_143 ?_
                refine x_top (show ((TK z (nI s_) (nI (kS (z.1 15 s_))) (nI e_)).1 14 5) = (nI e_) from rfl) ?_
                refine x_bald hx hcb hK hR (hw.lo (by decide)) (hw.s0 (by decide) rfl) (k := e_) (by omega) (by decide) dX8_next_146 ?_
                refine x_top (show ((TK z (nI s_) (nI (kS (z.1 15 s_))) (nI e_)).1 15 e_) = (z.1 15 e_) from rfl) ?_
                refine x_ci0 rfl rfl (x_runS hx hcb hml hown hts (c_X8_kindOfSign l G w K hw (TK z (nI s_) (nI (kS (z.1 15 s_))) (nI e_)) _ (z.1 15 e_)) ms_X8_kindOfSign q_439 hK hZ hR hS rfl hl.1 rfl (Nat.le_of_ble_eq_true rfl) dX8_next_147 ⟨by decide, by decide⟩ ⟨by decide, by decide⟩) hS (fun r_14 z_15 H locs hp_16 hR hS => ?_)
                rw [hp_16.2] at hR; rw [hp_16.1]
                refine x_top (show (nI (kS (z.1 15 e_))) = (nI (kS (z.1 15 e_))) from rfl) ?_
                refine lv_aload_n hx hcb dX8_next_150 rfl (lv_at hl 0 rfl) ?_
                refine x_getI hx hcb hts hown hK xc8 hR (hw.lo (by decide)) (hw.s0 (by decide) rfl) 3 (by decide) rfl q_144 dX8_next_151 ?_
                refine x_top (show ((TK z (nI s_) (nI (kS (z.1 15 s_))) (nI e_)).1 14 3) = (nI (kS (z.1 15 s_))) from rfl) ?_
                have hkb2_ := kS_lt (z.1 15 e_)
                refine lv_icmp_ne (tgt := 170) hx hcb dX8_next_154 (by decide) (fun c_17 => ?_) (fun c_17 => ?_)
                · skip
                  have c_17 : ¬ (kS (z.1 15 e_)) = (kS (z.1 15 s_)) := fun h_ => c_17 ((nI_eq (by omega) (by omega)).mpr h_)
                  have he4_ : rnK (z.1 15) (kS (z.1 15 s_)) (tN z 2 - (s_ + 1)) (s_ + 1) = e_ := by rw [he3_, rnK_s (k := tN z 2 - (e_ + 1)) (by omega), if_neg c_17]
                  exact hret (TK z (nI s_) (nI (kS (z.1 15 s_))) (nI e_)) _ _ _ _ dX8_next_170 hR hS (by first | exact nx_w hs4_ (by omega) hw_ he4_ | exact nx_o hs4_ (by omega) hw_)
                · skip
                  have c_17 : (kS (z.1 15 e_)) = (kS (z.1 15 s_)) := (nI_eq (by omega) (by omega)).mp c_17
                  have hb_ := c_17
                  refine lv_aload_n hx hcb dX8_next_157 rfl (lv_at hl 0 rfl) ?_
                  refine lv_dup hx hcb dX8_next_158 rfl ?_
                  refine x_getI hx hcb hts hown hK xc8 hR (hw.lo (by decide)) (hw.s0 (by decide) rfl) 5 (by decide) rfl q_147 dX8_next_159 ?_
                  refine x_top (show ((TK z (nI s_) (nI (kS (z.1 15 s_))) (nI e_)).1 14 5) = (nI e_) from rfl) ?_
                  refine lv_iconst (v := (nI 1)) hx hcb dX8_next_162 (by decide) ?_
                  refine x_iaddN hx hcb dX8_next_163 ?_
                  refine x_putI hx hcb hts hown hK xc8 hR hS (hw.lo (by decide)) (hw.s0 (by decide) rfl) 5 (by decide) rfl q_147 rfl (v := (nI (e_ + 1))) rfl rfl dX8_next_164 (fun H locs hR hS => ?_)
                  refine lv_goto (tgt := 127) hx hcb dX8_next_167 (by decide) ?_
                  rw [show (u1 (TK z (nI s_) (nI (kS (z.1 15 s_))) (nI e_)) 14 5 (nI (e_ + 1))) = (TK z (nI s_) (nI (kS (z.1 15 s_))) (nI (e_ + 1))) from tk_5 ..] at hR
                  exact ih_127 (e_ + 1) (by omega) (by omega) (by omega) (by rw [he3_, rnK_s (k := tN z 2 - (e_ + 1)) (by omega), if_pos hb_]) _ _ _ hR hS (lv_sub hl [0] rfl)
      · skip
        have c_2 : ¬ s_ < (tN z 2) := fun h_ => c_2 ((nI_ltI (by omega) (by omega)).mpr h_)
        refine lv_aload_n hx hcb dX8_next_79 rfl (lv_at hl 0 rfl) ?_
        refine lv_iconst (v := (nI 0)) hx hcb dX8_next_80 (by decide) ?_
        refine x_putI hx hcb hts hown hK xc8 hR hS (hw.lo (by decide)) (hw.s0 (by decide) rfl) 3 (by decide) rfl q_144 rfl (v := 0) rfl rfl dX8_next_81 (fun H locs hR hS => ?_)
        rw [show u1 (TK z (nI s_) (z.1 14 3) (nI s_)) 14 3 0 = TK z (nI s_) 0 (nI s_) from tk_3 ..] at hR
        exact hret (TK z (nI s_) 0 (nI s_)) _ _ _ _ dX8_next_84 hR hS (nx_end hs4_ (by omega))
    · skip
      have c_1 : ¬ (tN z 2) ≤ s_ := fun h_ => c_1 ((nI_leI (by omega) (by omega)).mpr h_)
      refine lv_aload_n hx hcb dX8_next_19 rfl (lv_at hl 0 rfl) ?_
      refine x_getR hx hcb hts hown hK xc8 hR (hw.lo (by decide)) (hw.s0 (by decide) rfl) 0 (by decide) rfl q_139 dX8_next_20 ?_
      refine lv_aload_n hx hcb dX8_next_23 rfl (lv_at hl 0 rfl) ?_
      refine x_getI hx hcb hts hown hK xc8 hR (hw.lo (by decide)) (hw.s0 (by decide) rfl) 4 (by decide) rfl q_146 dX8_next_24 ?_
      refine x_top (show ((TK z (nI s_) (z.1 14 3) (nI (tN z 5))).1 14 4) = (nI s_) from rfl) ?_
      refine x_bald hx hcb hK hR (hw.lo (by decide)) (hw.s0 (by decide) rfl) (k := s_) (by omega) (by decide) dX8_next_27 ?_
      refine x_top (show ((TK z (nI s_) (z.1 14 3) (nI (tN z 5))).1 15 s_) = (z.1 15 s_) from rfl) ?_
      refine lv_bipush (v := (nI 32)) hx hcb dX8_next_28 (by decide) ?_
      refine lv_icmp_eq (tgt := 47) hx hcb dX8_next_30 (by decide) (fun c_18 => ?_) (fun c_18 => ?_)
      · skip
        have hb_ : z.1 15 s_ = nI 32 ∨ z.1 15 s_ = nI 10 := Or.inl c_18
        refine lv_aload_n hx hcb dX8_next_47 rfl (lv_at hl 0 rfl) ?_
        refine lv_dup hx hcb dX8_next_48 rfl ?_
        refine x_getI hx hcb hts hown hK xc8 hR (hw.lo (by decide)) (hw.s0 (by decide) rfl) 4 (by decide) rfl q_146 dX8_next_49 ?_
        refine x_top (show ((TK z (nI s_) (z.1 14 3) (nI (tN z 5))).1 14 4) = (nI s_) from rfl) ?_
        refine lv_iconst (v := (nI 1)) hx hcb dX8_next_52 (by decide) ?_
        refine x_iaddN hx hcb dX8_next_53 ?_
        refine x_putI hx hcb hts hown hK xc8 hR hS (hw.lo (by decide)) (hw.s0 (by decide) rfl) 4 (by decide) rfl q_146 rfl (v := (nI (s_ + 1))) rfl rfl dX8_next_54 (fun H locs hR hS => ?_)
        refine lv_goto (tgt := 8) hx hcb dX8_next_57 (by decide) ?_
        rw [show (u1 (TK z (nI s_) (z.1 14 3) (nI (tN z 5))) 14 4 (nI (s_ + 1))) = (TK z (nI (s_ + 1)) (z.1 14 3) (nI (tN z 5))) from tk_4 ..] at hR
        exact ih_8 (s_ + 1) (by omega) (by omega) (by omega) (by rw [hs3_, skW_s (k := tN z 2 - (s_ + 1)) (by omega), if_pos hb_]) _ _ _ hR hS (lv_sub hl [0] rfl)
      · skip
        have hb0_ := c_18
        refine lv_aload_n hx hcb dX8_next_33 rfl (lv_at hl 0 rfl) ?_
        refine x_getR hx hcb hts hown hK xc8 hR (hw.lo (by decide)) (hw.s0 (by decide) rfl) 0 (by decide) rfl q_139 dX8_next_34 ?_
        refine lv_aload_n hx hcb dX8_next_37 rfl (lv_at hl 0 rfl) ?_
        refine x_getI hx hcb hts hown hK xc8 hR (hw.lo (by decide)) (hw.s0 (by decide) rfl) 4 (by decide) rfl q_146 dX8_next_38 ?_
        refine x_top (show ((TK z (nI s_) (z.1 14 3) (nI (tN z 5))).1 14 4) = (nI s_) from rfl) ?_
        refine x_bald hx hcb hK hR (hw.lo (by decide)) (hw.s0 (by decide) rfl) (k := s_) (by omega) (by decide) dX8_next_41 ?_
        refine x_top (show ((TK z (nI s_) (z.1 14 3) (nI (tN z 5))).1 15 s_) = (z.1 15 s_) from rfl) ?_
        refine lv_bipush (v := (nI 10)) hx hcb dX8_next_42 (by decide) ?_
        refine lv_icmp_ne (tgt := 60) hx hcb dX8_next_44 (by decide) (fun c_19 => ?_) (fun c_19 => ?_)
        · skip
          have hs4_ : (skW (z.1 15) (tN z 2 - tN z 5) (tN z 5)) = s_ := by rw [hs3_, skW_s (k := tN z 2 - (s_ + 1)) (by omega), if_neg (fun h_ => h_.elim hb0_ c_19)]
          refine lv_aload_n hx hcb dX8_next_60 rfl (lv_at hl 0 rfl) ?_
          refine lv_aload_n hx hcb dX8_next_61 rfl (lv_at hl 0 rfl) ?_
          refine x_getI hx hcb hts hown hK xc8 hR (hw.lo (by decide)) (hw.s0 (by decide) rfl) 4 (by decide) rfl q_146 dX8_next_62 ?_
          refine x_top (show ((TK z (nI s_) (z.1 14 3) (nI (tN z 5))).1 14 4) = (nI s_) from rfl) ?_
          refine x_putI hx hcb hts hown hK xc8 hR hS (hw.lo (by decide)) (hw.s0 (by decide) rfl) 5 (by decide) rfl q_147 rfl (v := (nI s_)) rfl rfl dX8_next_65 (fun H locs hR hS => ?_)
          rw [show u1 (TK z (nI s_) (z.1 14 3) (nI (tN z 5))) 14 5 (nI s_) = TK z (nI s_) (z.1 14 3) (nI s_) from tk_5 ..] at hR
          refine lv_aload_n hx hcb dX8_next_68 rfl (lv_at hl 0 rfl) ?_
          refine x_getI hx hcb hts hown hK xc8 hR (hw.lo (by decide)) (hw.s0 (by decide) rfl) 4 (by decide) rfl q_146 dX8_next_69 ?_
          refine x_top (show ((TK z (nI s_) (z.1 14 3) (nI s_)).1 14 4) = (nI s_) from rfl) ?_
          refine lv_aload_n hx hcb dX8_next_72 rfl (lv_at hl 0 rfl) ?_
          refine x_getI hx hcb hts hown hK xc8 hR (hw.lo (by decide)) (hw.s0 (by decide) rfl) 2 (by decide) rfl q_142 dX8_next_73 ?_
          refine x_top (show ((TK z (nI s_) (z.1 14 3) (nI s_)).1 14 2) = (nI (tN z 2)) from hP.1) ?_
          refine lv_icmp_lt (tgt := 85) hx hcb dX8_next_76 (by decide) (fun c_20 => ?_) (fun c_20 => ?_)
          · skip
            have c_20 : s_ < (tN z 2) := (nI_ltI (by omega) (by omega)).mp c_20
            refine lv_aload_n hx hcb dX8_next_85 rfl (lv_at hl 0 rfl) ?_
            refine lv_aload_n hx hcb dX8_next_86 rfl (lv_at hl 0 rfl) ?_
            refine x_getR hx hcb hts hown hK xc8 hR (hw.lo (by decide)) (hw.s0 (by decide) rfl) 0 (by decide) rfl q_139 dX8_next_87 ?_
            refine lv_aload_n hx hcb dX8_next_90 rfl (lv_at hl 0 rfl) ?_
            refine x_getI hx hcb hts hown hK xc8 hR (hw.lo (by decide)) (hw.s0 (by decide) rfl) 4 (by decide) rfl q_146 dX8_next_91 ?_
            refine x_top (show ((TK z (nI s_) (z.1 14 3) (nI s_)).1 14 4) = (nI s_) from rfl) ?_
            refine x_bald hx hcb hK hR (hw.lo (by decide)) (hw.s0 (by decide) rfl) (k := s_) (by omega) (by decide) dX8_next_94 ?_
            refine x_top (show ((TK z (nI s_) (z.1 14 3) (nI s_)).1 15 s_) = (z.1 15 s_) from rfl) ?_
            refine x_ci0 rfl rfl (x_runS hx hcb hml hown hts (c_X8_kindOfSign l G w K hw (TK z (nI s_) (z.1 14 3) (nI s_)) _ (z.1 15 s_)) ms_X8_kindOfSign q_439 hK hZ hR hS rfl hl.1 rfl (Nat.le_of_ble_eq_true rfl) dX8_next_95 ⟨by decide, by decide⟩ ⟨by decide, by decide⟩) hS (fun r_21 z_22 H locs hp_23 hR hS => ?_)
            rw [hp_23.2] at hR; rw [hp_23.1]
            refine x_top (show (nI (kS (z.1 15 s_))) = (nI (kS (z.1 15 s_))) from rfl) ?_
            refine x_putI hx hcb hts hown hK xc8 hR hS (hw.lo (by decide)) (hw.s0 (by decide) rfl) 3 (by decide) rfl q_144 rfl (v := (nI (kS (z.1 15 s_)))) rfl rfl dX8_next_98 (fun H locs hR hS => ?_)
            rw [show u1 (TK z (nI s_) (z.1 14 3) (nI s_)) 14 3 (nI (kS (z.1 15 s_))) = TK z (nI s_) (nI (kS (z.1 15 s_))) (nI s_) from tk_3 ..] at hR
            refine lv_aload_n hx hcb dX8_next_101 rfl (lv_at hl 0 rfl) ?_
            refine lv_aload_n hx hcb dX8_next_102 rfl (lv_at hl 0 rfl) ?_
            refine x_getI hx hcb hts hown hK xc8 hR (hw.lo (by decide)) (hw.s0 (by decide) rfl) 4 (by decide) rfl q_146 dX8_next_103 ?_
            refine x_top (show ((TK z (nI s_) (nI (kS (z.1 15 s_))) (nI s_)).1 14 4) = (nI s_) from rfl) ?_
            refine lv_iconst (v := (nI 1)) hx hcb dX8_next_106 (by decide) ?_
            refine x_iaddN hx hcb dX8_next_107 ?_
            refine x_putI hx hcb hts hown hK xc8 hR hS (hw.lo (by decide)) (hw.s0 (by decide) rfl) 5 (by decide) rfl q_147 rfl (v := (nI (s_ + 1))) rfl rfl dX8_next_108 (fun H locs hR hS => ?_)
            rw [show u1 (TK z (nI s_) (nI (kS (z.1 15 s_))) (nI s_)) 14 5 (nI (s_ + 1)) = TK z (nI s_) (nI (kS (z.1 15 s_))) (nI (s_ + 1)) from tk_5 ..] at hR
            have hkb_ := kS_lt (z.1 15 s_)
            refine lv_aload_n hx hcb dX8_next_111 rfl (lv_at hl 0 rfl) ?_
            refine x_getI hx hcb hts hown hK xc8 hR (hw.lo (by decide)) (hw.s0 (by decide) rfl) 3 (by decide) rfl q_144 dX8_next_112 ?_
            refine x_top (show ((TK z (nI s_) (nI (kS (z.1 15 s_))) (nI (s_ + 1))).1 14 3) = (nI (kS (z.1 15 s_))) from rfl) ?_
            refine lv_iconst (v := (nI 1)) hx hcb dX8_next_115 (by decide) ?_
            refine lv_icmp_eq (tgt := 127) hx hcb dX8_next_116 (by decide) (fun c_24 => ?_) (fun c_24 => ?_)
            · skip
              have c_24 : (kS (z.1 15 s_)) = 1 := (nI_eq (by omega) (by omega)).mp c_24
              have hw_ : kS (z.1 15 s_) = 1 ∨ kS (z.1 15 s_) = 2 := Or.inl c_24
              suffices LP_127 : ∀ (nn : Nat) (e_ : Nat) (_ : tN z 2 - e_ < nn) (he1_ : s_ + 1 ≤ e_) (he2_ : e_ ≤ tN z 2) (he3_ : rnK (z.1 15) (kS (z.1 15 s_)) (tN z 2 - (s_ + 1)) (s_ + 1) = rnK (z.1 15) (kS (z.1 15 s_)) (tN z 2 - e_) e_) (H : Heap) (locs : List Loc) (ls : Array Slot), Rh G w (TK z (nI s_) (nI (kS (z.1 15 s_))) (nI e_)) H → va_S (xA w s.heap.size) s.heap H locs → lv_has ls 1 [(0, .ref (w.2.2 14))] → W p l e rm_X8_next s mt args below meth c H locs 0 0 Q (F0 mt 127 ls []) from LP_127 ((_) + 1) (s_ + 1) (Nat.lt_succ_self _) (Nat.le_refl _) (by omega) rfl _ _ _ hR hS (lv_sub hl [0] rfl)
              intro nn
              induction nn with
              | zero => intro e_ hm_ ; exact absurd hm_ (Nat.not_lt_zero _)
              | succ nn ih_127 =>
                intro e_ hm_127 he1_ he2_ he3_ H locs ls hR hS hl
                refine lv_aload_n hx hcb dX8_next_127 rfl (lv_at hl 0 rfl) ?_
                refine x_getI hx hcb hts hown hK xc8 hR (hw.lo (by decide)) (hw.s0 (by decide) rfl) 5 (by decide) rfl q_147 dX8_next_128 ?_
                refine x_top (show ((TK z (nI s_) (nI (kS (z.1 15 s_))) (nI e_)).1 14 5) = (nI e_) from rfl) ?_
                refine lv_aload_n hx hcb dX8_next_131 rfl (lv_at hl 0 rfl) ?_
                refine x_getI hx hcb hts hown hK xc8 hR (hw.lo (by decide)) (hw.s0 (by decide) rfl) 2 (by decide) rfl q_142 dX8_next_132 ?_
                refine x_top (show ((TK z (nI s_) (nI (kS (z.1 15 s_))) (nI e_)).1 14 2) = (nI (tN z 2)) from hP.1) ?_
                refine lv_icmp_ge (tgt := 170) hx hcb dX8_next_135 (by decide) (fun c_25 => ?_) (fun c_25 => ?_)
                · skip
                  have c_25 : (tN z 2) ≤ e_ := (nI_leI (by omega) (by omega)).mp c_25
                  have he4_ : rnK (z.1 15) (kS (z.1 15 s_)) (tN z 2 - (s_ + 1)) (s_ + 1) = e_ := by rw [he3_, show tN z 2 - e_ = 0 by omega]; rfl
                  exact hret (TK z (nI s_) (nI (kS (z.1 15 s_))) (nI e_)) _ _ _ _ dX8_next_170 hR hS (by first | exact nx_w hs4_ (by omega) hw_ he4_ | exact nx_o hs4_ (by omega) hw_)
                · skip
                  have c_25 : ¬ (tN z 2) ≤ e_ := fun h_ => c_25 ((nI_leI (by omega) (by omega)).mpr h_)
                  refine lv_aload_n hx hcb dX8_next_138 rfl (lv_at hl 0 rfl) ?_
                  refine x_getR hx hcb hts hown hK xc8 hR (hw.lo (by decide)) (hw.s0 (by decide) rfl) 0 (by decide) rfl q_139 dX8_next_139 ?_
                  refine lv_aload_n hx hcb dX8_next_142 rfl (lv_at hl 0 rfl) ?_
                  refine x_getI hx hcb hts hown hK xc8 hR (hw.lo (by decide)) (hw.s0 (by decide) rfl) 5 (by decide) rfl q_147 dX8_next_143 ?_
                  refine x_top (show ((TK z (nI s_) (nI (kS (z.1 15 s_))) (nI e_)).1 14 5) = (nI e_) from rfl) ?_
                  refine x_bald hx hcb hK hR (hw.lo (by decide)) (hw.s0 (by decide) rfl) (k := e_) (by omega) (by decide) dX8_next_146 ?_
                  refine x_top (show ((TK z (nI s_) (nI (kS (z.1 15 s_))) (nI e_)).1 15 e_) = (z.1 15 e_) from rfl) ?_
                  refine x_ci0 rfl rfl (x_runS hx hcb hml hown hts (c_X8_kindOfSign l G w K hw (TK z (nI s_) (nI (kS (z.1 15 s_))) (nI e_)) _ (z.1 15 e_)) ms_X8_kindOfSign q_439 hK hZ hR hS rfl hl.1 rfl (Nat.le_of_ble_eq_true rfl) dX8_next_147 ⟨by decide, by decide⟩ ⟨by decide, by decide⟩) hS (fun r_26 z_27 H locs hp_28 hR hS => ?_)
                  rw [hp_28.2] at hR; rw [hp_28.1]
                  refine x_top (show (nI (kS (z.1 15 e_))) = (nI (kS (z.1 15 e_))) from rfl) ?_
                  refine lv_aload_n hx hcb dX8_next_150 rfl (lv_at hl 0 rfl) ?_
                  refine x_getI hx hcb hts hown hK xc8 hR (hw.lo (by decide)) (hw.s0 (by decide) rfl) 3 (by decide) rfl q_144 dX8_next_151 ?_
                  refine x_top (show ((TK z (nI s_) (nI (kS (z.1 15 s_))) (nI e_)).1 14 3) = (nI (kS (z.1 15 s_))) from rfl) ?_
                  have hkb2_ := kS_lt (z.1 15 e_)
                  refine lv_icmp_ne (tgt := 170) hx hcb dX8_next_154 (by decide) (fun c_29 => ?_) (fun c_29 => ?_)
                  · skip
                    have c_29 : ¬ (kS (z.1 15 e_)) = (kS (z.1 15 s_)) := fun h_ => c_29 ((nI_eq (by omega) (by omega)).mpr h_)
                    have he4_ : rnK (z.1 15) (kS (z.1 15 s_)) (tN z 2 - (s_ + 1)) (s_ + 1) = e_ := by rw [he3_, rnK_s (k := tN z 2 - (e_ + 1)) (by omega), if_neg c_29]
                    exact hret (TK z (nI s_) (nI (kS (z.1 15 s_))) (nI e_)) _ _ _ _ dX8_next_170 hR hS (by first | exact nx_w hs4_ (by omega) hw_ he4_ | exact nx_o hs4_ (by omega) hw_)
                  · skip
                    have c_29 : (kS (z.1 15 e_)) = (kS (z.1 15 s_)) := (nI_eq (by omega) (by omega)).mp c_29
                    have hb_ := c_29
                    refine lv_aload_n hx hcb dX8_next_157 rfl (lv_at hl 0 rfl) ?_
                    refine lv_dup hx hcb dX8_next_158 rfl ?_
                    refine x_getI hx hcb hts hown hK xc8 hR (hw.lo (by decide)) (hw.s0 (by decide) rfl) 5 (by decide) rfl q_147 dX8_next_159 ?_
                    refine x_top (show ((TK z (nI s_) (nI (kS (z.1 15 s_))) (nI e_)).1 14 5) = (nI e_) from rfl) ?_
                    refine lv_iconst (v := (nI 1)) hx hcb dX8_next_162 (by decide) ?_
                    refine x_iaddN hx hcb dX8_next_163 ?_
                    refine x_putI hx hcb hts hown hK xc8 hR hS (hw.lo (by decide)) (hw.s0 (by decide) rfl) 5 (by decide) rfl q_147 rfl (v := (nI (e_ + 1))) rfl rfl dX8_next_164 (fun H locs hR hS => ?_)
                    refine lv_goto (tgt := 127) hx hcb dX8_next_167 (by decide) ?_
                    rw [show (u1 (TK z (nI s_) (nI (kS (z.1 15 s_))) (nI e_)) 14 5 (nI (e_ + 1))) = (TK z (nI s_) (nI (kS (z.1 15 s_))) (nI (e_ + 1))) from tk_5 ..] at hR
                    exact ih_127 (e_ + 1) (by omega) (by omega) (by omega) (by rw [he3_, rnK_s (k := tN z 2 - (e_ + 1)) (by omega), if_pos hb_]) _ _ _ hR hS (lv_sub hl [0] rfl)
            · skip
              have c_24 : ¬ (kS (z.1 15 s_)) = 1 := fun h_ => c_24 ((nI_eq (by omega) (by omega)).mpr h_)
              refine lv_aload_n hx hcb dX8_next_119 rfl (lv_at hl 0 rfl) ?_
              refine x_getI hx hcb hts hown hK xc8 hR (hw.lo (by decide)) (hw.s0 (by decide) rfl) 3 (by decide) rfl q_144 dX8_next_120 ?_
              refine x_top (show ((TK z (nI s_) (nI (kS (z.1 15 s_))) (nI (s_ + 1))).1 14 3) = (nI (kS (z.1 15 s_))) from rfl) ?_
              refine lv_iconst (v := (nI 2)) hx hcb dX8_next_123 (by decide) ?_
              refine lv_icmp_ne (tgt := 170) hx hcb dX8_next_124 (by decide) (fun c_30 => ?_) (fun c_30 => ?_)
              · skip
                have c_30 : ¬ (kS (z.1 15 s_)) = 2 := fun h_ => c_30 ((nI_eq (by omega) (by omega)).mpr h_)
                have hw_ : ¬ (kS (z.1 15 s_) = 1 ∨ kS (z.1 15 s_) = 2) := by omega
                exact hret (TK z (nI s_) (nI (kS (z.1 15 s_))) (nI (s_ + 1))) _ _ _ _ dX8_next_170 hR hS (by first | exact nx_w hs4_ (by omega) hw_ he4_ | exact nx_o hs4_ (by omega) hw_)
              · skip
                have c_30 : (kS (z.1 15 s_)) = 2 := (nI_eq (by omega) (by omega)).mp c_30
                have hw_ : kS (z.1 15 s_) = 1 ∨ kS (z.1 15 s_) = 2 := by omega
                suffices LP_127 : ∀ (nn : Nat) (e_ : Nat) (_ : tN z 2 - e_ < nn) (he1_ : s_ + 1 ≤ e_) (he2_ : e_ ≤ tN z 2) (he3_ : rnK (z.1 15) (kS (z.1 15 s_)) (tN z 2 - (s_ + 1)) (s_ + 1) = rnK (z.1 15) (kS (z.1 15 s_)) (tN z 2 - e_) e_) (H : Heap) (locs : List Loc) (ls : Array Slot), Rh G w (TK z (nI s_) (nI (kS (z.1 15 s_))) (nI e_)) H → va_S (xA w s.heap.size) s.heap H locs → lv_has ls 1 [(0, .ref (w.2.2 14))] → W p l e rm_X8_next s mt args below meth c H locs 0 0 Q (F0 mt 127 ls []) from LP_127 ((_) + 1) (s_ + 1) (Nat.lt_succ_self _) (Nat.le_refl _) (by omega) rfl _ _ _ hR hS (lv_sub hl [0] rfl)
                intro nn
                induction nn with
                | zero => intro e_ hm_ ; exact absurd hm_ (Nat.not_lt_zero _)
                | succ nn ih_127 =>
                  intro e_ hm_127 he1_ he2_ he3_ H locs ls hR hS hl
                  refine lv_aload_n hx hcb dX8_next_127 rfl (lv_at hl 0 rfl) ?_
                  refine x_getI hx hcb hts hown hK xc8 hR (hw.lo (by decide)) (hw.s0 (by decide) rfl) 5 (by decide) rfl q_147 dX8_next_128 ?_
                  refine x_top (show ((TK z (nI s_) (nI (kS (z.1 15 s_))) (nI e_)).1 14 5) = (nI e_) from rfl) ?_
                  refine lv_aload_n hx hcb dX8_next_131 rfl (lv_at hl 0 rfl) ?_
                  refine x_getI hx hcb hts hown hK xc8 hR (hw.lo (by decide)) (hw.s0 (by decide) rfl) 2 (by decide) rfl q_142 dX8_next_132 ?_
                  refine x_top (show ((TK z (nI s_) (nI (kS (z.1 15 s_))) (nI e_)).1 14 2) = (nI (tN z 2)) from hP.1) ?_
                  refine lv_icmp_ge (tgt := 170) hx hcb dX8_next_135 (by decide) (fun c_31 => ?_) (fun c_31 => ?_)
                  · skip
                    have c_31 : (tN z 2) ≤ e_ := (nI_leI (by omega) (by omega)).mp c_31
                    have he4_ : rnK (z.1 15) (kS (z.1 15 s_)) (tN z 2 - (s_ + 1)) (s_ + 1) = e_ := by rw [he3_, show tN z 2 - e_ = 0 by omega]; rfl
                    exact hret (TK z (nI s_) (nI (kS (z.1 15 s_))) (nI e_)) _ _ _ _ dX8_next_170 hR hS (by first | exact nx_w hs4_ (by omega) hw_ he4_ | exact nx_o hs4_ (by omega) hw_)
                  · skip
                    have c_31 : ¬ (tN z 2) ≤ e_ := fun h_ => c_31 ((nI_leI (by omega) (by omega)).mpr h_)
                    refine lv_aload_n hx hcb dX8_next_138 rfl (lv_at hl 0 rfl) ?_
                    refine x_getR hx hcb hts hown hK xc8 hR (hw.lo (by decide)) (hw.s0 (by decide) rfl) 0 (by decide) rfl q_139 dX8_next_139 ?_
                    refine lv_aload_n hx hcb dX8_next_142 rfl (lv_at hl 0 rfl) ?_
                    refine x_getI hx hcb hts hown hK xc8 hR (hw.lo (by decide)) (hw.s0 (by decide) rfl) 5 (by decide) rfl q_147 dX8_next_143 ?_
                    refine x_top (show ((TK z (nI s_) (nI (kS (z.1 15 s_))) (nI e_)).1 14 5) = (nI e_) from rfl) ?_
                    refine x_bald hx hcb hK hR (hw.lo (by decide)) (hw.s0 (by decide) rfl) (k := e_) (by omega) (by decide) dX8_next_146 ?_
                    refine x_top (show ((TK z (nI s_) (nI (kS (z.1 15 s_))) (nI e_)).1 15 e_) = (z.1 15 e_) from rfl) ?_
                    refine x_ci0 rfl rfl (x_runS hx hcb hml hown hts (c_X8_kindOfSign l G w K hw (TK z (nI s_) (nI (kS (z.1 15 s_))) (nI e_)) _ (z.1 15 e_)) ms_X8_kindOfSign q_439 hK hZ hR hS rfl hl.1 rfl (Nat.le_of_ble_eq_true rfl) dX8_next_147 ⟨by decide, by decide⟩ ⟨by decide, by decide⟩) hS (fun r_32 z_33 H locs hp_34 hR hS => ?_)
                    rw [hp_34.2] at hR; rw [hp_34.1]
                    refine x_top (show (nI (kS (z.1 15 e_))) = (nI (kS (z.1 15 e_))) from rfl) ?_
                    refine lv_aload_n hx hcb dX8_next_150 rfl (lv_at hl 0 rfl) ?_
                    refine x_getI hx hcb hts hown hK xc8 hR (hw.lo (by decide)) (hw.s0 (by decide) rfl) 3 (by decide) rfl q_144 dX8_next_151 ?_
                    refine x_top (show ((TK z (nI s_) (nI (kS (z.1 15 s_))) (nI e_)).1 14 3) = (nI (kS (z.1 15 s_))) from rfl) ?_
                    have hkb2_ := kS_lt (z.1 15 e_)
                    refine lv_icmp_ne (tgt := 170) hx hcb dX8_next_154 (by decide) (fun c_35 => ?_) (fun c_35 => ?_)
                    · skip
                      have c_35 : ¬ (kS (z.1 15 e_)) = (kS (z.1 15 s_)) := fun h_ => c_35 ((nI_eq (by omega) (by omega)).mpr h_)
                      have he4_ : rnK (z.1 15) (kS (z.1 15 s_)) (tN z 2 - (s_ + 1)) (s_ + 1) = e_ := by rw [he3_, rnK_s (k := tN z 2 - (e_ + 1)) (by omega), if_neg c_35]
                      exact hret (TK z (nI s_) (nI (kS (z.1 15 s_))) (nI e_)) _ _ _ _ dX8_next_170 hR hS (by first | exact nx_w hs4_ (by omega) hw_ he4_ | exact nx_o hs4_ (by omega) hw_)
                    · skip
                      have c_35 : (kS (z.1 15 e_)) = (kS (z.1 15 s_)) := (nI_eq (by omega) (by omega)).mp c_35
                      have hb_ := c_35
                      refine lv_aload_n hx hcb dX8_next_157 rfl (lv_at hl 0 rfl) ?_
                      refine lv_dup hx hcb dX8_next_158 rfl ?_
                      refine x_getI hx hcb hts hown hK xc8 hR (hw.lo (by decide)) (hw.s0 (by decide) rfl) 5 (by decide) rfl q_147 dX8_next_159 ?_
                      refine x_top (show ((TK z (nI s_) (nI (kS (z.1 15 s_))) (nI e_)).1 14 5) = (nI e_) from rfl) ?_
                      refine lv_iconst (v := (nI 1)) hx hcb dX8_next_162 (by decide) ?_
                      refine x_iaddN hx hcb dX8_next_163 ?_
                      refine x_putI hx hcb hts hown hK xc8 hR hS (hw.lo (by decide)) (hw.s0 (by decide) rfl) 5 (by decide) rfl q_147 rfl (v := (nI (e_ + 1))) rfl rfl dX8_next_164 (fun H locs hR hS => ?_)
                      refine lv_goto (tgt := 127) hx hcb dX8_next_167 (by decide) ?_
                      rw [show (u1 (TK z (nI s_) (nI (kS (z.1 15 s_))) (nI e_)) 14 5 (nI (e_ + 1))) = (TK z (nI s_) (nI (kS (z.1 15 s_))) (nI (e_ + 1))) from tk_5 ..] at hR
                      exact ih_127 (e_ + 1) (by omega) (by omega) (by omega) (by rw [he3_, rnK_s (k := tN z 2 - (e_ + 1)) (by omega), if_pos hb_]) _ _ _ hR hS (lv_sub hl [0] rfl)
          · skip
            have c_20 : ¬ s_ < (tN z 2) := fun h_ => c_20 ((nI_ltI (by omega) (by omega)).mpr h_)
            refine lv_aload_n hx hcb dX8_next_79 rfl (lv_at hl 0 rfl) ?_
            refine lv_iconst (v := (nI 0)) hx hcb dX8_next_80 (by decide) ?_
            refine x_putI hx hcb hts hown hK xc8 hR hS (hw.lo (by decide)) (hw.s0 (by decide) rfl) 3 (by decide) rfl q_144 rfl (v := 0) rfl rfl dX8_next_81 (fun H locs hR hS => ?_)
            rw [show u1 (TK z (nI s_) (z.1 14 3) (nI s_)) 14 3 0 = TK z (nI s_) 0 (nI s_) from tk_3 ..] at hR
            exact hret (TK z (nI s_) 0 (nI s_)) _ _ _ _ dX8_next_84 hR hS (nx_end hs4_ (by omega))
        · skip
          have hb_ : z.1 15 s_ = nI 32 ∨ z.1 15 s_ = nI 10 := Or.inr (c_19)
          refine lv_aload_n hx hcb dX8_next_47 rfl (lv_at hl 0 rfl) ?_
          refine lv_dup hx hcb dX8_next_48 rfl ?_
          refine x_getI hx hcb hts hown hK xc8 hR (hw.lo (by decide)) (hw.s0 (by decide) rfl) 4 (by decide) rfl q_146 dX8_next_49 ?_
          refine x_top (show ((TK z (nI s_) (z.1 14 3) (nI (tN z 5))).1 14 4) = (nI s_) from rfl) ?_
          refine lv_iconst (v := (nI 1)) hx hcb dX8_next_52 (by decide) ?_
          refine x_iaddN hx hcb dX8_next_53 ?_
          refine x_putI hx hcb hts hown hK xc8 hR hS (hw.lo (by decide)) (hw.s0 (by decide) rfl) 4 (by decide) rfl q_146 rfl (v := (nI (s_ + 1))) rfl rfl dX8_next_54 (fun H locs hR hS => ?_)
          refine lv_goto (tgt := 8) hx hcb dX8_next_57 (by decide) ?_
          rw [show (u1 (TK z (nI s_) (z.1 14 3) (nI (tN z 5))) 14 4 (nI (s_ + 1))) = (TK z (nI (s_ + 1)) (z.1 14 3) (nI (tN z 5))) from tk_4 ..] at hR
          exact ih_8 (s_ + 1) (by omega) (by omega) (by omega) (by rw [hs3_, skW_s (k := tN z 2 - (s_ + 1)) (by omega), if_pos hb_]) _ _ _ hR hS (lv_sub hl [0] rfl)
def rm_X8_open : Room := { frames := 2, cells := 0, slots := 0, locals := 40 }
set_option maxRecDepth 100000 in
set_option maxHeartbeats 4000000 in
theorem c_X8_open (l : Launch) (G : xGl) (w : xWd) (K : Nat) (hw : isC K w) (z : xSt) (sz : Nat) (n : Nat) (q : Nat) (hq : z.1 14 1 = nI q) (hq9 : q ≤ 900) (hn : n < 2147483648) : xMv l yX8_open cX8_open 2 rm_X8_open G w z sz [.ref (w.2.2 14), .int (nI n)] (fun z1 => z1 = opn z n q) := by
  refine x_mv (by decide) (Nat.le_of_ble_eq_true rfl) ?_
  intro p e s mt args below meth c ls Q hsz X hR hS hl hret
  obtain ⟨hx, hcb, hml, hown, hts, hlk, hK, hZ⟩ := X
  have hl : lv_has ls 2 [(0, .ref (w.2.2 14)), (1, .int (nI n))] := hl
  refine lv_aload_n hx hcb dX8_open_0 rfl (lv_at hl 0 rfl) ?_
  refine lv_iload_n hx hcb dX8_open_1 rfl (lv_at hl 1 rfl) ?_
  refine lv_aload_n hx hcb dX8_open_2 rfl (lv_at hl 0 rfl) ?_
  refine x_getI hx hcb hts hown hK xc8 hR (hw.lo (by decide)) (hw.s0 (by decide) rfl) 1 (by decide) rfl q_140 dX8_open_3 ?_
  refine x_top (show (z.1 14 1) = (nI q) from hq) ?_
  refine x_min hx hcb hml hown hts hl.1 q_432 (by decide) (Nat.le_of_ble_eq_true rfl) (by decide) (by decide) dX8_open_6 ?_
  refine x_top (show (if (nI q) < (nI n) then (nI q) else (nI n)) = (nI (min n q)) from nI_min (by omega) (by omega)) ?_
  refine x_putI hx hcb hts hown hK xc8 hR hS (hw.lo (by decide)) (hw.s0 (by decide) rfl) 2 (by decide) rfl q_142 rfl (v := (nI (min n q))) rfl rfl dX8_open_9 (fun H locs hR hS => ?_)
  refine lv_aload_n hx hcb dX8_open_12 rfl (lv_at hl 0 rfl) ?_
  refine lv_iconst (v := (nI 0)) hx hcb dX8_open_13 (by decide) ?_
  refine x_putI hx hcb hts hown hK xc8 hR hS (hw.lo (by decide)) (hw.s0 (by decide) rfl) 5 (by decide) rfl q_147 rfl (v := 0) rfl rfl dX8_open_14 (fun H locs hR hS => ?_)
  refine lv_aload_n hx hcb dX8_open_17 rfl (lv_at hl 0 rfl) ?_
  refine x_cv0 rfl rfl (x_runV hx hcb hml hown hts (c_X8_next l G w K hw (u1 (u1 z 14 2 (nI (min n q))) 14 5 0) _ (opn_pre hq9)) mv_X8_next q_435 hK hZ hR hS (hw.lo (by decide)) xc8 (hw.s0 (by decide) rfl) rfl hl.1 rfl (Nat.le_of_ble_eq_true rfl) dX8_open_18 ⟨by decide, by decide⟩ ⟨by decide, by decide⟩) hS (fun z_2 H locs hp_3 hR hS => ?_)
  rw [hp_3] at hR
  exact hret (nx (u1 (u1 z 14 2 (nI (min n q))) 14 5 0)) _ _ _ _ dX8_open_21 hR hS rfl
def rm_X8_isWord : Room := { frames := 4, cells := 0, slots := 0, locals := 85 }
set_option maxRecDepth 100000 in
set_option maxHeartbeats 4000000 in
theorem c_X8_isWord (l : Launch) (G : xGl) (w : xWd) (K : Nat) (hw : isC K w) (z : xSt) (sz : Nat) (tx : String) (ax : Nat) (hT : tOk z) (ht : txOk tx) : xMiE (isS tx ax) l yX8_isWord cX8_isWord 3 (some FieldType.boolean) rm_X8_isWord G w z sz [.ref (w.2.2 14), .ref ax] (fun r z1 => r = (if isW z tx then 1 else 0) ∧ z1 = z) := by
  refine x_miE (by decide) (Nat.le_of_ble_eq_true rfl) ?_
  intro p e s mt args below meth c ls Q hsz X hE0 hR hS hl hret
  obtain ⟨v_, hO, hC_, hV_, hT_⟩ := id hE0
  obtain ⟨hx, hcb, hml, hown, hts, hlk, hK, hZ⟩ := X
  have hl : lv_has ls 3 [(0, .ref (w.2.2 14)), (1, .ref ax)] := hl
  have h1_ := hT.1
  have h2_ := hT.2.1
  have h3_ := hT.2.2.1
  have h4_ := hT.2.2.2.1
  have h5_ := hT.2.2.2.2.1
  have h6_ := hT.2.2.2.2.2.1
  have h7_ := hT.2.2.2.2.2.2
  have hk_ := ht.1
  have hk3_ := tN_kind hT
  refine lv_aload_n hx hcb dX8_isWord_0 rfl (lv_at hl 0 rfl) ?_
  refine x_getI hx hcb hts hown hK xc8 hR (hw.lo (by decide)) (hw.s0 (by decide) rfl) 3 (by decide) rfl q_144 dX8_isWord_1 ?_
  refine x_top (show (z.1 14 3) = (nI (tN z 3)) from h2_) ?_
  refine lv_iconst (v := (nI 1)) hx hcb dX8_isWord_4 (by decide) ?_
  refine lv_icmp_ne (tgt := 24) hx hcb dX8_isWord_5 (by decide) (fun c_1 => ?_) (fun c_1 => ?_)
  · skip
    have c_1 : ¬ (tN z 3) = 1 := fun h_ => c_1 ((nI_eq (by omega) (by omega)).mpr h_)
    have hno_ : ¬ isW z tx := fun h_ => c_1 h_.1
    refine lv_iconst (v := (nI 0)) hx hcb dX8_isWord_24 (by decide) ?_
    exact hret (nI 0) z _ _ _ _ dX8_isWord_25 rfl hR hS (⟨(if_neg hno_).symm, rfl⟩)
  · skip
    have c_1 : (tN z 3) = 1 := (nI_eq (by omega) (by omega)).mp c_1
    have hy1_ : tN z 3 = 1 := by omega
    refine lv_aload_n hx hcb dX8_isWord_8 rfl (lv_at hl 0 rfl) ?_
    refine x_getI hx hcb hts hown hK xc8 hR (hw.lo (by decide)) (hw.s0 (by decide) rfl) 5 (by decide) rfl q_147 dX8_isWord_9 ?_
    refine x_top (show (z.1 14 5) = (nI (tN z 5)) from h4_) ?_
    refine lv_aload_n hx hcb dX8_isWord_12 rfl (lv_at hl 0 rfl) ?_
    refine x_getI hx hcb hts hown hK xc8 hR (hw.lo (by decide)) (hw.s0 (by decide) rfl) 4 (by decide) rfl q_146 dX8_isWord_13 ?_
    refine x_top (show (z.1 14 4) = (nI (tN z 4)) from h3_) ?_
    refine x_isubN hx hcb (by omega) dX8_isWord_16 ?_
    refine lv_aload_n hx hcb dX8_isWord_17 rfl (lv_at hl 1 rfl) ?_
    refine x_ci0 rfl rfl (x_runVS isS_mv hE0 hx hcb hml hown hts (c_J0_length_8abf5 l G w  z _ tx ax) mv_J0_length_8abf5 q_451 hK hZ hR hS hO rfl hl.1 rfl (Nat.le_of_ble_eq_true rfl) dX8_isWord_18 ⟨by decide, by decide⟩ ⟨by decide, by decide⟩) hS (fun r_2 z_3 H locs hp_4 hR hS => ?_)
    rw [hp_4.2] at hR; rw [hp_4.1]
    refine x_top (show (nI (slen tx)) = (nI (slen tx)) from rfl) ?_
    refine lv_icmp_eq (tgt := 26) hx hcb dX8_isWord_21 (by decide) (fun c_5 => ?_) (fun c_5 => ?_)
    · skip
      have c_5 : ((tN z 5) - (tN z 4)) = (slen tx) := (nI_eq (by omega) (by omega)).mp c_5
      have hy2_ : tN z 5 - tN z 4 = slen tx := c_5
      refine lv_iconst (v := (nI 0)) hx hcb dX8_isWord_26 (by decide) ?_
      refine lv_istore_n (lv' := [(2, .int (nI 0)), (0, .ref (w.2.2 14)), (1, .ref ax)]) hx hcb dX8_isWord_27 rfl hl (by decide) rfl (fun ls hl => ?_)
      suffices LP_28 : ∀ (nn : Nat) (i_ : Nat) (_ : slen tx - i_ < nn) (hi_ : i_ ≤ slen tx) (ha_ : ∀ j, j < i_ → z.1 15 (tN z 4 + j) = sch tx j) (H : Heap) (locs : List Loc) (ls : Array Slot), Rh G w z H → va_S (xA w s.heap.size) s.heap H locs → lv_has ls 3 [(0, .ref (w.2.2 14)), (1, .ref ax), (2, .int (nI i_))] → W p l e rm_X8_isWord s mt args below meth c H locs 0 0 Q (F0 mt 28 ls []) from LP_28 ((_) + 1) 0 (Nat.lt_succ_self _) (by omega) (fun j h_ => absurd h_ (Nat.not_lt_zero j)) _ _ _ hR hS (lv_sub hl [1, 2, 0] rfl)
      intro nn
      induction nn with
      | zero => intro i_ hm_ ; exact absurd hm_ (Nat.not_lt_zero _)
      | succ nn ih_28 =>
        intro i_ hm_28 hi_ ha_ H locs ls hR hS hl
        refine lv_iload_n hx hcb dX8_isWord_28 rfl (lv_at hl 2 rfl) ?_
        refine lv_aload_n hx hcb dX8_isWord_29 rfl (lv_at hl 1 rfl) ?_
        refine x_ci0 rfl rfl (x_runVS isS_mv hE0 hx hcb hml hown hts (c_J0_length_8abf5 l G w  z _ tx ax) mv_J0_length_8abf5 q_451 hK hZ hR hS hO rfl hl.1 rfl (Nat.le_of_ble_eq_true rfl) dX8_isWord_30 ⟨by decide, by decide⟩ ⟨by decide, by decide⟩) hS (fun r_6 z_7 H locs hp_8 hR hS => ?_)
        rw [hp_8.2] at hR; rw [hp_8.1]
        refine x_top (show (nI (slen tx)) = (nI (slen tx)) from rfl) ?_
        refine lv_icmp_ge (tgt := 76) hx hcb dX8_isWord_33 (by decide) (fun c_9 => ?_) (fun c_9 => ?_)
        · skip
          have c_9 : (slen tx) ≤ i_ := (nI_leI (by omega) (by omega)).mp c_9
          have hyes_ : isW z tx := ⟨hy1_, hy2_, fun j hj_ => ha_ j (by omega)⟩
          refine lv_iconst (v := (nI 1)) hx hcb dX8_isWord_76 (by decide) ?_
          exact hret (nI 1) z _ _ _ _ dX8_isWord_77 rfl hR hS (⟨(if_pos hyes_).symm, rfl⟩)
        · skip
          have c_9 : ¬ (slen tx) ≤ i_ := fun h_ => c_9 ((nI_leI (by omega) (by omega)).mpr h_)
          refine lv_aload_n hx hcb dX8_isWord_36 rfl (lv_at hl 0 rfl) ?_
          refine x_getI hx hcb hts hown hK xc8 hR (hw.lo (by decide)) (hw.s0 (by decide) rfl) 4 (by decide) rfl q_146 dX8_isWord_37 ?_
          refine x_top (show (z.1 14 4) = (nI (tN z 4)) from h3_) ?_
          refine lv_iload_n hx hcb dX8_isWord_40 rfl (lv_at hl 2 rfl) ?_
          refine x_iaddN hx hcb dX8_isWord_41 ?_
          refine lv_aload_n hx hcb dX8_isWord_42 rfl (lv_at hl 0 rfl) ?_
          refine x_getI hx hcb hts hown hK xc8 hR (hw.lo (by decide)) (hw.s0 (by decide) rfl) 2 (by decide) rfl q_142 dX8_isWord_43 ?_
          refine x_top (show (z.1 14 2) = (nI (tN z 2)) from h1_) ?_
          refine lv_icmp_ge (tgt := 76) hx hcb dX8_isWord_46 (by decide) (fun c_10 => ?_) (fun c_10 => ?_)
          · skip
            have c_10 : (tN z 2) ≤ ((tN z 4) + i_) := (nI_leI (by omega) (by omega)).mp c_10
            omega
          · skip
            have c_10 : ¬ (tN z 2) ≤ ((tN z 4) + i_) := fun h_ => c_10 ((nI_leI (by omega) (by omega)).mpr h_)
            refine lv_aload_n hx hcb dX8_isWord_49 rfl (lv_at hl 0 rfl) ?_
            refine x_getR hx hcb hts hown hK xc8 hR (hw.lo (by decide)) (hw.s0 (by decide) rfl) 0 (by decide) rfl q_139 dX8_isWord_50 ?_
            refine lv_aload_n hx hcb dX8_isWord_53 rfl (lv_at hl 0 rfl) ?_
            refine x_getI hx hcb hts hown hK xc8 hR (hw.lo (by decide)) (hw.s0 (by decide) rfl) 4 (by decide) rfl q_146 dX8_isWord_54 ?_
            refine x_top (show (z.1 14 4) = (nI (tN z 4)) from h3_) ?_
            refine lv_iload_n hx hcb dX8_isWord_57 rfl (lv_at hl 2 rfl) ?_
            refine x_iaddN hx hcb dX8_isWord_58 ?_
            refine x_bald hx hcb hK hR (hw.lo (by decide)) (hw.s0 (by decide) rfl) (k := ((tN z 4) + i_)) (by omega) (by decide) dX8_isWord_59 ?_
            refine x_top (show (z.1 15 ((tN z 4) + i_)) = (z.1 15 (tN z 4 + i_)) from rfl) ?_
            refine lv_aload_n hx hcb dX8_isWord_60 rfl (lv_at hl 1 rfl) ?_
            refine lv_iload_n hx hcb dX8_isWord_61 rfl (lv_at hl 2 rfl) ?_
            refine x_ci0 rfl rfl (x_runVS isS_mv hE0 hx hcb hml hown hts (c_J0_charAt_5068e l G w  z _ tx ax i_ (by omega) ht) mv_J0_charAt_5068e q_461 hK hZ hR hS hO rfl hl.1 rfl (Nat.le_of_ble_eq_true rfl) dX8_isWord_62 ⟨by decide, by decide⟩ ⟨by decide, by decide⟩) hS (fun r_11 z_12 H locs hp_13 hR hS => ?_)
            rw [hp_13.2] at hR; rw [hp_13.1]
            refine lv_icmp_eq (tgt := 70) hx hcb dX8_isWord_65 (by decide) (fun c_14 => ?_) (fun c_14 => ?_)
            · skip
              have hb_ := c_14
              refine lv_iinc (v := (nI (i_ + 1))) (lv' := [(2, .int (nI (i_ + 1))), (0, .ref (w.2.2 14)), (1, .ref ax)]) hx hcb dX8_isWord_70 hl (k := 2) rfl (x_iinc1 _) (by decide) rfl (fun ls hl => ?_)
              refine lv_goto (tgt := 28) hx hcb dX8_isWord_73 (by decide) ?_
              exact ih_28 (i_ + 1) (by omega) (by omega) (eqW_s ha_ hb_) _ _ _ hR hS (lv_sub hl [1, 2, 0] rfl)
            · skip
              have hno_ : ¬ isW z tx := fun h_ => c_14 (h_.2.2 i_ (by omega))
              refine lv_iconst (v := (nI 0)) hx hcb dX8_isWord_68 (by decide) ?_
              exact hret (nI 0) z _ _ _ _ dX8_isWord_69 rfl hR hS (⟨(if_neg hno_).symm, rfl⟩)
    · skip
      have c_5 : ¬ ((tN z 5) - (tN z 4)) = (slen tx) := fun h_ => c_5 ((nI_eq (by omega) (by omega)).mpr h_)
      have hno_ : ¬ isW z tx := fun h_ => c_5 h_.2.1
      refine lv_iconst (v := (nI 0)) hx hcb dX8_isWord_24 (by decide) ?_
      exact hret (nI 0) z _ _ _ _ dX8_isWord_25 rfl hR hS (⟨(if_neg hno_).symm, rfl⟩)
def rm_X8_isName : Room := { frames := 5, cells := 0, slots := 0, locals := 107 }
set_option maxRecDepth 100000 in
set_option maxHeartbeats 4000000 in
theorem c_X8_isName (l : Launch) (G : xGl) (w : xWd) (K : Nat) (hw : isC K w) (z : xSt) (sz : Nat)  (hT : tOk z) : xMi l yX8_isName cX8_isName 1 (some FieldType.boolean) rm_X8_isName G w z sz [.ref (w.2.2 14)] (fun r z1 => r = (if isNm z then 1 else 0) ∧ z1 = z) := by
  refine x_mi (by decide) (Nat.le_of_ble_eq_true rfl) ?_
  intro p e s mt args below meth c ls Q hsz X hR hS hl hret
  obtain ⟨hx, hcb, hml, hown, hts, hlk, hK, hZ⟩ := X
  have hl : lv_has ls 1 [(0, .ref (w.2.2 14))] := hl
  have h1_ := hT.1
  have h2_ := hT.2.1
  have h3_ := hT.2.2.1
  have h4_ := hT.2.2.2.1
  have h5_ := hT.2.2.2.2.1
  have h6_ := hT.2.2.2.2.2.1
  have h7_ := hT.2.2.2.2.2.2
  have hk3_ := tN_kind hT
  refine lv_aload_n hx hcb dX8_isName_0 rfl (lv_at hl 0 rfl) ?_
  refine x_getI hx hcb hts hown hK xc8 hR (hw.lo (by decide)) (hw.s0 (by decide) rfl) 3 (by decide) rfl q_144 dX8_isName_1 ?_
  refine x_top (show (z.1 14 3) = (nI (tN z 3)) from h2_) ?_
  refine lv_iconst (v := (nI 1)) hx hcb dX8_isName_4 (by decide) ?_
  refine lv_icmp_ne (tgt := 98) hx hcb dX8_isName_5 (by decide) (fun c_1 => ?_) (fun c_1 => ?_)
  · skip
    have c_1 : ¬ (tN z 3) = 1 := fun h_ => c_1 ((nI_eq (by omega) (by omega)).mpr h_)
    have hno_ : ¬ isNm z := fun h_ => c_1 h_.1
    refine lv_iconst (v := (nI 0)) hx hcb dX8_isName_98 (by decide) ?_
    exact hret (nI 0) z _ _ _ _ dX8_isName_99 rfl hR hS (⟨by first | rw [if_neg hno_]; rfl | rw [if_pos (show isNm z from ⟨hy_, hyl_, hw0_, hw1_, hw2_, hw3_, hw4_, hw5_, hw6_, hw7_⟩)]; rfl, rfl⟩)
  · skip
    have c_1 : (tN z 3) = 1 := (nI_eq (by omega) (by omega)).mp c_1
    have hy_ : tN z 3 = 1 := by omega
    refine lv_aload_n hx hcb dX8_isName_8 rfl (lv_at hl 0 rfl) ?_
    refine x_getI hx hcb hts hown hK xc8 hR (hw.lo (by decide)) (hw.s0 (by decide) rfl) 5 (by decide) rfl q_147 dX8_isName_9 ?_
    refine x_top (show (z.1 14 5) = (nI (tN z 5)) from h4_) ?_
    refine lv_aload_n hx hcb dX8_isName_12 rfl (lv_at hl 0 rfl) ?_
    refine x_getI hx hcb hts hown hK xc8 hR (hw.lo (by decide)) (hw.s0 (by decide) rfl) 4 (by decide) rfl q_146 dX8_isName_13 ?_
    refine x_top (show (z.1 14 4) = (nI (tN z 4)) from h3_) ?_
    refine x_isubN hx hcb (by omega) dX8_isName_16 ?_
    refine lv_bipush (v := (nI 6)) hx hcb dX8_isName_17 (by decide) ?_
    refine lv_icmp_gt (tgt := 98) hx hcb dX8_isName_19 (by decide) (fun c_2 => ?_) (fun c_2 => ?_)
    · skip
      have c_2 : 6 < ((tN z 5) - (tN z 4)) := (nI_ltI (by omega) (by omega)).mp c_2
      have hno_ : ¬ isNm z := fun h_ => absurd h_.2.1 (by omega)
      refine lv_iconst (v := (nI 0)) hx hcb dX8_isName_98 (by decide) ?_
      exact hret (nI 0) z _ _ _ _ dX8_isName_99 rfl hR hS (⟨by first | rw [if_neg hno_]; rfl | rw [if_pos (show isNm z from ⟨hy_, hyl_, hw0_, hw1_, hw2_, hw3_, hw4_, hw5_, hw6_, hw7_⟩)]; rfl, rfl⟩)
    · skip
      have c_2 : ¬ 6 < ((tN z 5) - (tN z 4)) := fun h_ => c_2 ((nI_ltI (by omega) (by omega)).mpr h_)
      have hyl_ : tN z 5 - tN z 4 ≤ 6 := by omega
      refine lv_aload_n hx hcb dX8_isName_22 rfl (lv_at hl 0 rfl) ?_
      obtain ⟨aq_3, hvq_3, hsq_3⟩ := xS_of hZ (q := (RX8, 53, "member")) (List.mem_of_getElem? (i := 1) rfl)
      refine va_ldcS hx hcb hown hvq_3 dX8_isName_23 ?_
      refine x_ci0 rfl rfl (x_runVE isS_mv hsq_3 hx hcb hml hown hts (c_X8_isWord l G w K hw z _ "member" aq_3 (by assumption) (tx_of (by decide) (by decide))) mv_X8_isWord q_513 hK hZ hR hS (hw.lo (by decide)) xc8 (hw.s0 (by decide) rfl) rfl hl.1 rfl (Nat.le_of_ble_eq_true rfl) dX8_isName_25 ⟨by decide, by decide⟩ ⟨by decide, by decide⟩) hS (fun r_4 z_5 H locs hp_6 hR hS => ?_)
      rw [hp_6.2] at hR; rw [hp_6.1]
      refine lv_if_ne (tgt := 98) hx hcb dX8_isName_28 (by decide) (fun c_7 => ?_) (fun c_7 => ?_)
      · skip
        have hno_ : ¬ isNm z := fun h_ => h_.2.2.1 (Classical.byContradiction (fun g_ => c_7 (if_neg g_)))
        refine lv_iconst (v := (nI 0)) hx hcb dX8_isName_98 (by decide) ?_
        exact hret (nI 0) z _ _ _ _ dX8_isName_99 rfl hR hS (⟨by first | rw [if_neg hno_]; rfl | rw [if_pos (show isNm z from ⟨hy_, hyl_, hw0_, hw1_, hw2_, hw3_, hw4_, hw5_, hw6_, hw7_⟩)]; rfl, rfl⟩)
      · skip
        have hw0_ : ¬ isW z "member" := fun h_ => absurd c_7 (by rw [if_pos h_]; decide)
        refine lv_aload_n hx hcb dX8_isName_31 rfl (lv_at hl 0 rfl) ?_
        obtain ⟨aq_8, hvq_8, hsq_8⟩ := xS_of hZ (q := (RX8, 59, "trade")) (List.mem_of_getElem? (i := 2) rfl)
        refine va_ldcS hx hcb hown hvq_8 dX8_isName_32 ?_
        refine x_ci0 rfl rfl (x_runVE isS_mv hsq_8 hx hcb hml hown hts (c_X8_isWord l G w K hw z _ "trade" aq_8 (by assumption) (tx_of (by decide) (by decide))) mv_X8_isWord q_513 hK hZ hR hS (hw.lo (by decide)) xc8 (hw.s0 (by decide) rfl) rfl hl.1 rfl (Nat.le_of_ble_eq_true rfl) dX8_isName_34 ⟨by decide, by decide⟩ ⟨by decide, by decide⟩) hS (fun r_9 z_10 H locs hp_11 hR hS => ?_)
        rw [hp_11.2] at hR; rw [hp_11.1]
        refine lv_if_ne (tgt := 98) hx hcb dX8_isName_37 (by decide) (fun c_12 => ?_) (fun c_12 => ?_)
        · skip
          have hno_ : ¬ isNm z := fun h_ => h_.2.2.2.1 (Classical.byContradiction (fun g_ => c_12 (if_neg g_)))
          refine lv_iconst (v := (nI 0)) hx hcb dX8_isName_98 (by decide) ?_
          exact hret (nI 0) z _ _ _ _ dX8_isName_99 rfl hR hS (⟨by first | rw [if_neg hno_]; rfl | rw [if_pos (show isNm z from ⟨hy_, hyl_, hw0_, hw1_, hw2_, hw3_, hw4_, hw5_, hw6_, hw7_⟩)]; rfl, rfl⟩)
        · skip
          have hw1_ : ¬ isW z "trade" := fun h_ => absurd c_12 (by rw [if_pos h_]; decide)
          refine lv_aload_n hx hcb dX8_isName_40 rfl (lv_at hl 0 rfl) ?_
          obtain ⟨aq_13, hvq_13, hsq_13⟩ := xS_of hZ (q := (RX8, 61, "close")) (List.mem_of_getElem? (i := 3) rfl)
          refine va_ldcS hx hcb hown hvq_13 dX8_isName_41 ?_
          refine x_ci0 rfl rfl (x_runVE isS_mv hsq_13 hx hcb hml hown hts (c_X8_isWord l G w K hw z _ "close" aq_13 (by assumption) (tx_of (by decide) (by decide))) mv_X8_isWord q_513 hK hZ hR hS (hw.lo (by decide)) xc8 (hw.s0 (by decide) rfl) rfl hl.1 rfl (Nat.le_of_ble_eq_true rfl) dX8_isName_43 ⟨by decide, by decide⟩ ⟨by decide, by decide⟩) hS (fun r_14 z_15 H locs hp_16 hR hS => ?_)
          rw [hp_16.2] at hR; rw [hp_16.1]
          refine lv_if_ne (tgt := 98) hx hcb dX8_isName_46 (by decide) (fun c_17 => ?_) (fun c_17 => ?_)
          · skip
            have hno_ : ¬ isNm z := fun h_ => h_.2.2.2.2.1 (Classical.byContradiction (fun g_ => c_17 (if_neg g_)))
            refine lv_iconst (v := (nI 0)) hx hcb dX8_isName_98 (by decide) ?_
            exact hret (nI 0) z _ _ _ _ dX8_isName_99 rfl hR hS (⟨by first | rw [if_neg hno_]; rfl | rw [if_pos (show isNm z from ⟨hy_, hyl_, hw0_, hw1_, hw2_, hw3_, hw4_, hw5_, hw6_, hw7_⟩)]; rfl, rfl⟩)
          · skip
            have hw2_ : ¬ isW z "close" := fun h_ => absurd c_17 (by rw [if_pos h_]; decide)
            refine lv_aload_n hx hcb dX8_isName_49 rfl (lv_at hl 0 rfl) ?_
            obtain ⟨aq_18, hvq_18, hsq_18⟩ := xS_of hZ (q := (RX8, 63, "set")) (List.mem_of_getElem? (i := 4) rfl)
            refine va_ldcS hx hcb hown hvq_18 dX8_isName_50 ?_
            refine x_ci0 rfl rfl (x_runVE isS_mv hsq_18 hx hcb hml hown hts (c_X8_isWord l G w K hw z _ "set" aq_18 (by assumption) (tx_of (by decide) (by decide))) mv_X8_isWord q_513 hK hZ hR hS (hw.lo (by decide)) xc8 (hw.s0 (by decide) rfl) rfl hl.1 rfl (Nat.le_of_ble_eq_true rfl) dX8_isName_52 ⟨by decide, by decide⟩ ⟨by decide, by decide⟩) hS (fun r_19 z_20 H locs hp_21 hR hS => ?_)
            rw [hp_21.2] at hR; rw [hp_21.1]
            refine lv_if_ne (tgt := 98) hx hcb dX8_isName_55 (by decide) (fun c_22 => ?_) (fun c_22 => ?_)
            · skip
              have hno_ : ¬ isNm z := fun h_ => h_.2.2.2.2.2.1 (Classical.byContradiction (fun g_ => c_22 (if_neg g_)))
              refine lv_iconst (v := (nI 0)) hx hcb dX8_isName_98 (by decide) ?_
              exact hret (nI 0) z _ _ _ _ dX8_isName_99 rfl hR hS (⟨by first | rw [if_neg hno_]; rfl | rw [if_pos (show isNm z from ⟨hy_, hyl_, hw0_, hw1_, hw2_, hw3_, hw4_, hw5_, hw6_, hw7_⟩)]; rfl, rfl⟩)
            · skip
              have hw3_ : ¬ isW z "set" := fun h_ => absurd c_22 (by rw [if_pos h_]; decide)
              refine lv_aload_n hx hcb dX8_isName_58 rfl (lv_at hl 0 rfl) ?_
              obtain ⟨aq_23, hvq_23, hsq_23⟩ := xS_of hZ (q := (RX8, 65, "cash")) (List.mem_of_getElem? (i := 5) rfl)
              refine va_ldcS hx hcb hown hvq_23 dX8_isName_59 ?_
              refine x_ci0 rfl rfl (x_runVE isS_mv hsq_23 hx hcb hml hown hts (c_X8_isWord l G w K hw z _ "cash" aq_23 (by assumption) (tx_of (by decide) (by decide))) mv_X8_isWord q_513 hK hZ hR hS (hw.lo (by decide)) xc8 (hw.s0 (by decide) rfl) rfl hl.1 rfl (Nat.le_of_ble_eq_true rfl) dX8_isName_61 ⟨by decide, by decide⟩ ⟨by decide, by decide⟩) hS (fun r_24 z_25 H locs hp_26 hR hS => ?_)
              rw [hp_26.2] at hR; rw [hp_26.1]
              refine lv_if_ne (tgt := 98) hx hcb dX8_isName_64 (by decide) (fun c_27 => ?_) (fun c_27 => ?_)
              · skip
                have hno_ : ¬ isNm z := fun h_ => h_.2.2.2.2.2.2.1 (Classical.byContradiction (fun g_ => c_27 (if_neg g_)))
                refine lv_iconst (v := (nI 0)) hx hcb dX8_isName_98 (by decide) ?_
                exact hret (nI 0) z _ _ _ _ dX8_isName_99 rfl hR hS (⟨by first | rw [if_neg hno_]; rfl | rw [if_pos (show isNm z from ⟨hy_, hyl_, hw0_, hw1_, hw2_, hw3_, hw4_, hw5_, hw6_, hw7_⟩)]; rfl, rfl⟩)
              · skip
                have hw4_ : ¬ isW z "cash" := fun h_ => absurd c_27 (by rw [if_pos h_]; decide)
                refine lv_aload_n hx hcb dX8_isName_67 rfl (lv_at hl 0 rfl) ?_
                obtain ⟨aq_28, hvq_28, hsq_28⟩ := xS_of hZ (q := (RX8, 67, "years")) (List.mem_of_getElem? (i := 6) rfl)
                refine va_ldcS hx hcb hown hvq_28 dX8_isName_68 ?_
                refine x_ci0 rfl rfl (x_runVE isS_mv hsq_28 hx hcb hml hown hts (c_X8_isWord l G w K hw z _ "years" aq_28 (by assumption) (tx_of (by decide) (by decide))) mv_X8_isWord q_513 hK hZ hR hS (hw.lo (by decide)) xc8 (hw.s0 (by decide) rfl) rfl hl.1 rfl (Nat.le_of_ble_eq_true rfl) dX8_isName_70 ⟨by decide, by decide⟩ ⟨by decide, by decide⟩) hS (fun r_29 z_30 H locs hp_31 hR hS => ?_)
                rw [hp_31.2] at hR; rw [hp_31.1]
                refine lv_if_ne (tgt := 98) hx hcb dX8_isName_73 (by decide) (fun c_32 => ?_) (fun c_32 => ?_)
                · skip
                  have hno_ : ¬ isNm z := fun h_ => h_.2.2.2.2.2.2.2.1 (Classical.byContradiction (fun g_ => c_32 (if_neg g_)))
                  refine lv_iconst (v := (nI 0)) hx hcb dX8_isName_98 (by decide) ?_
                  exact hret (nI 0) z _ _ _ _ dX8_isName_99 rfl hR hS (⟨by first | rw [if_neg hno_]; rfl | rw [if_pos (show isNm z from ⟨hy_, hyl_, hw0_, hw1_, hw2_, hw3_, hw4_, hw5_, hw6_, hw7_⟩)]; rfl, rfl⟩)
                · skip
                  have hw5_ : ¬ isW z "years" := fun h_ => absurd c_32 (by rw [if_pos h_]; decide)
                  refine lv_aload_n hx hcb dX8_isName_76 rfl (lv_at hl 0 rfl) ?_
                  obtain ⟨aq_33, hvq_33, hsq_33⟩ := xS_of hZ (q := (RX8, 69, "keep")) (List.mem_of_getElem? (i := 7) rfl)
                  refine va_ldcS hx hcb hown hvq_33 dX8_isName_77 ?_
                  refine x_ci0 rfl rfl (x_runVE isS_mv hsq_33 hx hcb hml hown hts (c_X8_isWord l G w K hw z _ "keep" aq_33 (by assumption) (tx_of (by decide) (by decide))) mv_X8_isWord q_513 hK hZ hR hS (hw.lo (by decide)) xc8 (hw.s0 (by decide) rfl) rfl hl.1 rfl (Nat.le_of_ble_eq_true rfl) dX8_isName_79 ⟨by decide, by decide⟩ ⟨by decide, by decide⟩) hS (fun r_34 z_35 H locs hp_36 hR hS => ?_)
                  rw [hp_36.2] at hR; rw [hp_36.1]
                  refine lv_if_ne (tgt := 98) hx hcb dX8_isName_82 (by decide) (fun c_37 => ?_) (fun c_37 => ?_)
                  · skip
                    have hno_ : ¬ isNm z := fun h_ => h_.2.2.2.2.2.2.2.2.1 (Classical.byContradiction (fun g_ => c_37 (if_neg g_)))
                    refine lv_iconst (v := (nI 0)) hx hcb dX8_isName_98 (by decide) ?_
                    exact hret (nI 0) z _ _ _ _ dX8_isName_99 rfl hR hS (⟨by first | rw [if_neg hno_]; rfl | rw [if_pos (show isNm z from ⟨hy_, hyl_, hw0_, hw1_, hw2_, hw3_, hw4_, hw5_, hw6_, hw7_⟩)]; rfl, rfl⟩)
                  · skip
                    have hw6_ : ¬ isW z "keep" := fun h_ => absurd c_37 (by rw [if_pos h_]; decide)
                    refine lv_aload_n hx hcb dX8_isName_85 rfl (lv_at hl 0 rfl) ?_
                    obtain ⟨aq_38, hvq_38, hsq_38⟩ := xS_of hZ (q := (RX8, 71, "policy")) (List.mem_of_getElem? (i := 8) rfl)
                    refine va_ldcS hx hcb hown hvq_38 dX8_isName_86 ?_
                    refine x_ci0 rfl rfl (x_runVE isS_mv hsq_38 hx hcb hml hown hts (c_X8_isWord l G w K hw z _ "policy" aq_38 (by assumption) (tx_of (by decide) (by decide))) mv_X8_isWord q_513 hK hZ hR hS (hw.lo (by decide)) xc8 (hw.s0 (by decide) rfl) rfl hl.1 rfl (Nat.le_of_ble_eq_true rfl) dX8_isName_88 ⟨by decide, by decide⟩ ⟨by decide, by decide⟩) hS (fun r_39 z_40 H locs hp_41 hR hS => ?_)
                    rw [hp_41.2] at hR; rw [hp_41.1]
                    refine lv_if_ne (tgt := 98) hx hcb dX8_isName_91 (by decide) (fun c_42 => ?_) (fun c_42 => ?_)
                    · skip
                      have hno_ : ¬ isNm z := fun h_ => h_.2.2.2.2.2.2.2.2.2 (Classical.byContradiction (fun g_ => c_42 (if_neg g_)))
                      refine lv_iconst (v := (nI 0)) hx hcb dX8_isName_98 (by decide) ?_
                      exact hret (nI 0) z _ _ _ _ dX8_isName_99 rfl hR hS (⟨by first | rw [if_neg hno_]; rfl | rw [if_pos (show isNm z from ⟨hy_, hyl_, hw0_, hw1_, hw2_, hw3_, hw4_, hw5_, hw6_, hw7_⟩)]; rfl, rfl⟩)
                    · skip
                      have hw7_ : ¬ isW z "policy" := fun h_ => absurd c_42 (by rw [if_pos h_]; decide)
                      refine lv_iconst (v := (nI 1)) hx hcb dX8_isName_94 (by decide) ?_
                      refine lv_goto (tgt := 99) hx hcb dX8_isName_95 (by decide) ?_
                      exact hret (nI 1) z _ _ _ _ dX8_isName_99 rfl hR hS (⟨by first | rw [if_neg hno_]; rfl | rw [if_pos (show isNm z from ⟨hy_, hyl_, hw0_, hw1_, hw2_, hw3_, hw4_, hw5_, hw6_, hw7_⟩)]; rfl, rfl⟩)
def rm_X8_letters : Room := { frames := 0, cells := 0, slots := 0, locals := 0 }
set_option maxRecDepth 100000 in
set_option maxHeartbeats 4000000 in
theorem c_X8_letters (l : Launch) (G : xGl) (w : xWd) (K : Nat) (hw : isC K w) (z : xSt) (sz : Nat)  (hT : tOk z) : xMi l yX8_letters cX8_letters 4 (some FieldType.int) rm_X8_letters G w z sz [.ref (w.2.2 14)] (fun r z1 => r = ltr z 6 ∧ z1 = z) := by
  refine x_mi (by decide) (Nat.le_of_ble_eq_true rfl) ?_
  intro p e s mt args below meth c ls Q hsz X hR hS hl hret
  obtain ⟨hx, hcb, hml, hown, hts, hlk, hK, hZ⟩ := X
  have hl : lv_has ls 4 [(0, .ref (w.2.2 14))] := hl
  have h1_ := hT.1
  have h2_ := hT.2.1
  have h3_ := hT.2.2.1
  have h4_ := hT.2.2.2.1
  have h5_ := hT.2.2.2.2.1
  have h6_ := hT.2.2.2.2.2.1
  have h7_ := hT.2.2.2.2.2.2
  refine lv_iconst (v := (nI 0)) hx hcb dX8_letters_0 (by decide) ?_
  refine lv_istore_n (lv' := [(1, .int (nI 0)), (0, .ref (w.2.2 14))]) hx hcb dX8_letters_1 rfl hl (by decide) rfl (fun ls hl => ?_)
  refine lv_iconst (v := (nI 0)) hx hcb dX8_letters_2 (by decide) ?_
  refine lv_istore_n (lv' := [(2, .int (nI 0)), (1, .int (nI 0)), (0, .ref (w.2.2 14))]) hx hcb dX8_letters_3 rfl hl (by decide) rfl (fun ls hl => ?_)
  suffices LP_4 : ∀ (nn : Nat) (i_ : Nat) (_ : 6 - i_ < nn) (hi_ : i_ ≤ 6) (H : Heap) (locs : List Loc) (ls : Array Slot), Rh G w z H → va_S (xA w s.heap.size) s.heap H locs → lv_has ls 4 [(0, .ref (w.2.2 14)), (1, .int (ltr z i_)), (2, .int (nI i_))] → W p l e rm_X8_letters s mt args below meth c H locs 0 0 Q (F0 mt 4 ls []) from LP_4 ((_) + 1) 0 (Nat.lt_succ_self _) (by omega) _ _ _ hR hS (lv_sub hl [2, 1, 0] rfl)
  intro nn
  induction nn with
  | zero => intro i_ hm_ ; exact absurd hm_ (Nat.not_lt_zero _)
  | succ nn ih_4 =>
    intro i_ hm_4 hi_ H locs ls hR hS hl
    refine lv_iload_n hx hcb dX8_letters_4 rfl (lv_at hl 2 rfl) ?_
    refine lv_bipush (v := (nI 6)) hx hcb dX8_letters_5 (by decide) ?_
    refine lv_icmp_ge (tgt := 56) hx hcb dX8_letters_7 (by decide) (fun c_1 => ?_) (fun c_1 => ?_)
    · skip
      have c_1 : 6 ≤ i_ := (nI_leI (by omega) (by omega)).mp c_1
      obtain rfl : 6 = i_ := by omega
      refine lv_iload_n hx hcb dX8_letters_56 rfl (lv_at hl 1 rfl) ?_
      exact hret (ltr z 6) z _ _ _ _ dX8_letters_57 rfl hR hS (⟨rfl, rfl⟩)
    · skip
      have c_1 : ¬ 6 ≤ i_ := fun h_ => c_1 ((nI_leI (by omega) (by omega)).mpr h_)
      refine lv_aload_n hx hcb dX8_letters_10 rfl (lv_at hl 0 rfl) ?_
      refine x_getI hx hcb hts hown hK xc8 hR (hw.lo (by decide)) (hw.s0 (by decide) rfl) 4 (by decide) rfl q_146 dX8_letters_11 ?_
      refine x_top (show (z.1 14 4) = (nI (tN z 4)) from h3_) ?_
      refine lv_iload_n hx hcb dX8_letters_14 rfl (lv_at hl 2 rfl) ?_
      refine x_iaddN hx hcb dX8_letters_15 ?_
      refine lv_aload_n hx hcb dX8_letters_16 rfl (lv_at hl 0 rfl) ?_
      refine x_getI hx hcb hts hown hK xc8 hR (hw.lo (by decide)) (hw.s0 (by decide) rfl) 5 (by decide) rfl q_147 dX8_letters_17 ?_
      refine x_top (show (z.1 14 5) = (nI (tN z 5)) from h4_) ?_
      refine lv_icmp_ge (tgt := 42) hx hcb dX8_letters_20 (by decide) (fun c_2 => ?_) (fun c_2 => ?_)
      · skip
        have c_2 : (tN z 5) ≤ ((tN z 4) + i_) := (nI_leI (by omega) (by omega)).mp c_2
        have hq_ : ¬ tN z 4 + i_ < tN z 5 := by omega
        refine lv_iconst (v := (nI 0)) hx hcb dX8_letters_42 (by decide) ?_
        refine lv_istore_n (lv' := [(3, .int (nI 0)), (0, .ref (w.2.2 14)), (1, .int (ltr z i_)), (2, .int (nI i_))]) hx hcb dX8_letters_43 rfl hl (by decide) rfl (fun ls hl => ?_)
        refine lv_iload_n hx hcb dX8_letters_44 rfl (lv_at hl 2 rfl) ?_
        refine lv_iconst (v := (nI 5)) hx hcb dX8_letters_45 (by decide) ?_
        refine lv_ishl hx hcb dX8_letters_46 ?_
        refine lv_iload_n hx hcb dX8_letters_47 rfl (lv_at hl 0 rfl) ?_
        refine lv_ior hx hcb dX8_letters_48 ?_
        refine lv_istore_n (lv' := [(1, .int (((ltr z i_) <<< ((nI 5) &&& 31)) ||| (nI 0))), (3, .int (nI 0)), (0, .ref (w.2.2 14)), (2, .int (nI i_))]) hx hcb dX8_letters_49 rfl hl (by decide) rfl (fun ls hl => ?_)
        refine lv_iinc (v := (nI (i_ + 1))) (lv' := [(2, .int (nI (i_ + 1))), (1, .int (((ltr z i_) <<< ((nI 5) &&& 31)) ||| (nI 0))), (3, .int (nI 0)), (0, .ref (w.2.2 14))]) hx hcb dX8_letters_50 hl (k := 3) rfl (x_iinc1 _) (by decide) rfl (fun ls hl => ?_)
        refine lv_goto (tgt := 4) hx hcb dX8_letters_53 (by decide) ?_
        rw [show (((ltr z i_) <<< ((nI 5) &&& 31)) ||| (nI 0)) = (ltr z (i_ + 1)) from by first | exact (ltr_y hq_).symm | exact (ltr_n hq_).symm] at hl
        exact ih_4 (i_ + 1) (by omega) (by omega) _ _ _ hR hS (lv_sub hl [3, 1, 0] rfl)
      · skip
        have c_2 : ¬ (tN z 5) ≤ ((tN z 4) + i_) := fun h_ => c_2 ((nI_leI (by omega) (by omega)).mpr h_)
        have hq_ : tN z 4 + i_ < tN z 5 := by omega
        refine lv_aload_n hx hcb dX8_letters_23 rfl (lv_at hl 0 rfl) ?_
        refine x_getR hx hcb hts hown hK xc8 hR (hw.lo (by decide)) (hw.s0 (by decide) rfl) 0 (by decide) rfl q_139 dX8_letters_24 ?_
        refine lv_aload_n hx hcb dX8_letters_27 rfl (lv_at hl 0 rfl) ?_
        refine x_getI hx hcb hts hown hK xc8 hR (hw.lo (by decide)) (hw.s0 (by decide) rfl) 4 (by decide) rfl q_146 dX8_letters_28 ?_
        refine x_top (show (z.1 14 4) = (nI (tN z 4)) from h3_) ?_
        refine lv_iload_n hx hcb dX8_letters_31 rfl (lv_at hl 2 rfl) ?_
        refine x_iaddN hx hcb dX8_letters_32 ?_
        refine x_bald hx hcb hK hR (hw.lo (by decide)) (hw.s0 (by decide) rfl) (k := ((tN z 4) + i_)) (by omega) (by decide) dX8_letters_33 ?_
        refine lv_bipush (v := (nI 97)) hx hcb dX8_letters_34 (by decide) ?_
        refine lv_isub hx hcb dX8_letters_36 ?_
        refine lv_iconst (v := (nI 1)) hx hcb dX8_letters_37 (by decide) ?_
        refine lv_iadd hx hcb dX8_letters_38 ?_
        refine lv_goto (tgt := 43) hx hcb dX8_letters_39 (by decide) ?_
        refine lv_istore_n (lv' := [(3, .int (((z.1 15 ((tN z 4) + i_)) - (nI 97)) + (nI 1))), (0, .ref (w.2.2 14)), (1, .int (ltr z i_)), (2, .int (nI i_))]) hx hcb dX8_letters_43 rfl hl (by decide) rfl (fun ls hl => ?_)
        refine lv_iload_n hx hcb dX8_letters_44 rfl (lv_at hl 2 rfl) ?_
        refine lv_iconst (v := (nI 5)) hx hcb dX8_letters_45 (by decide) ?_
        refine lv_ishl hx hcb dX8_letters_46 ?_
        refine lv_iload_n hx hcb dX8_letters_47 rfl (lv_at hl 0 rfl) ?_
        refine lv_ior hx hcb dX8_letters_48 ?_
        refine lv_istore_n (lv' := [(1, .int (((ltr z i_) <<< ((nI 5) &&& 31)) ||| (((z.1 15 ((tN z 4) + i_)) - (nI 97)) + (nI 1)))), (3, .int (((z.1 15 ((tN z 4) + i_)) - (nI 97)) + (nI 1))), (0, .ref (w.2.2 14)), (2, .int (nI i_))]) hx hcb dX8_letters_49 rfl hl (by decide) rfl (fun ls hl => ?_)
        refine lv_iinc (v := (nI (i_ + 1))) (lv' := [(2, .int (nI (i_ + 1))), (1, .int (((ltr z i_) <<< ((nI 5) &&& 31)) ||| (((z.1 15 ((tN z 4) + i_)) - (nI 97)) + (nI 1)))), (3, .int (((z.1 15 ((tN z 4) + i_)) - (nI 97)) + (nI 1))), (0, .ref (w.2.2 14))]) hx hcb dX8_letters_50 hl (k := 3) rfl (x_iinc1 _) (by decide) rfl (fun ls hl => ?_)
        refine lv_goto (tgt := 4) hx hcb dX8_letters_53 (by decide) ?_
        rw [show (((ltr z i_) <<< ((nI 5) &&& 31)) ||| (((z.1 15 ((tN z 4) + i_)) - (nI 97)) + (nI 1))) = (ltr z (i_ + 1)) from by first | exact (ltr_y hq_).symm | exact (ltr_n hq_).symm] at hl
        exact ih_4 (i_ + 1) (by omega) (by omega) _ _ _ hR hS (lv_sub hl [3, 1, 0] rfl)
def rm_X8_integer : Room := { frames := 0, cells := 0, slots := 0, locals := 0 }
set_option maxRecDepth 100000 in
set_option maxHeartbeats 4000000 in
theorem c_X8_integer (l : Launch) (G : xGl) (w : xWd) (K : Nat) (hw : isC K w) (z : xSt) (sz : Nat)  (hT : tOk z) : xMi l yX8_integer cX8_integer 3 (some FieldType.int) rm_X8_integer G w z sz [.ref (w.2.2 14)] (fun r z1 => r = intg z ∧ z1 = z) := by
  refine x_mi (by decide) (Nat.le_of_ble_eq_true rfl) ?_
  intro p e s mt args below meth c ls Q hsz X hR hS hl hret
  obtain ⟨hx, hcb, hml, hown, hts, hlk, hK, hZ⟩ := X
  have hl : lv_has ls 3 [(0, .ref (w.2.2 14))] := hl
  have h1_ := hT.1
  have h2_ := hT.2.1
  have h3_ := hT.2.2.1
  have h4_ := hT.2.2.2.1
  have h5_ := hT.2.2.2.2.1
  have h6_ := hT.2.2.2.2.2.1
  have h7_ := hT.2.2.2.2.2.2
  refine lv_iconst (v := (nI 0)) hx hcb dX8_integer_0 (by decide) ?_
  refine lv_istore_n (lv' := [(1, .int (nI 0)), (0, .ref (w.2.2 14))]) hx hcb dX8_integer_1 rfl hl (by decide) rfl (fun ls hl => ?_)
  refine lv_aload_n hx hcb dX8_integer_2 rfl (lv_at hl 1 rfl) ?_
  refine x_getI hx hcb hts hown hK xc8 hR (hw.lo (by decide)) (hw.s0 (by decide) rfl) 4 (by decide) rfl q_146 dX8_integer_3 ?_
  refine x_top (show (z.1 14 4) = (nI (tN z 4)) from h3_) ?_
  refine lv_istore_n (lv' := [(2, .int (nI (tN z 4))), (1, .int (nI 0)), (0, .ref (w.2.2 14))]) hx hcb dX8_integer_6 rfl hl (by decide) rfl (fun ls hl => ?_)
  suffices LP_7 : ∀ (nn : Nat) (i_ : Nat) (v_ : Int32) (_ : tN z 5 - i_ < nn) (hi1_ : tN z 4 ≤ i_) (hi2_ : i_ ≤ tN z 5) (hf_ : intg z = itg (z.1 15) (tN z 5 - i_) i_ v_) (H : Heap) (locs : List Loc) (ls : Array Slot), Rh G w z H → va_S (xA w s.heap.size) s.heap H locs → lv_has ls 3 [(0, .ref (w.2.2 14)), (1, .int v_), (2, .int (nI i_))] → W p l e rm_X8_integer s mt args below meth c H locs 0 0 Q (F0 mt 7 ls []) from LP_7 ((_) + 1) (tN z 4) (nI 0) (Nat.lt_succ_self _) (Nat.le_refl _) h5_ rfl _ _ _ hR hS (lv_sub hl [2, 1, 0] rfl)
  intro nn
  induction nn with
  | zero => intro i_ v_ hm_ ; exact absurd hm_ (Nat.not_lt_zero _)
  | succ nn ih_7 =>
    intro i_ v_ hm_7 hi1_ hi2_ hf_ H locs ls hR hS hl
    refine lv_iload_n hx hcb dX8_integer_7 rfl (lv_at hl 2 rfl) ?_
    refine lv_aload_n hx hcb dX8_integer_8 rfl (lv_at hl 0 rfl) ?_
    refine x_getI hx hcb hts hown hK xc8 hR (hw.lo (by decide)) (hw.s0 (by decide) rfl) 5 (by decide) rfl q_147 dX8_integer_9 ?_
    refine x_top (show (z.1 14 5) = (nI (tN z 5)) from h4_) ?_
    refine lv_icmp_ge (tgt := 42) hx hcb dX8_integer_12 (by decide) (fun c_1 => ?_) (fun c_1 => ?_)
    · skip
      have c_1 : (tN z 5) ≤ i_ := (nI_leI (by omega) (by omega)).mp c_1
      have he_ : intg z = v_ := by rw [hf_, show tN z 5 - i_ = 0 by omega]; rfl
      refine lv_iload_n hx hcb dX8_integer_42 rfl (lv_at hl 1 rfl) ?_
      exact hret v_ z _ _ _ _ dX8_integer_43 rfl hR hS (⟨he_.symm, rfl⟩)
    · skip
      have c_1 : ¬ (tN z 5) ≤ i_ := fun h_ => c_1 ((nI_leI (by omega) (by omega)).mpr h_)
      refine lv_iload_n hx hcb dX8_integer_15 rfl (lv_at hl 1 rfl) ?_
      refine lv_ldc (v := (nI 100000000)) hx hcb hown (hts _ q_572) dX8_integer_16 ?_
      refine lv_icmp_ge (tgt := 42) hx hcb dX8_integer_18 (by decide) (fun c_2 => ?_) (fun c_2 => ?_)
      · skip
        have he_ : intg z = v_ := by rw [hf_]; exact itg_no (Int32.not_lt.mpr c_2)
        refine lv_iload_n hx hcb dX8_integer_42 rfl (lv_at hl 1 rfl) ?_
        exact hret v_ z _ _ _ _ dX8_integer_43 rfl hR hS (⟨he_.symm, rfl⟩)
      · skip
        have hb_ := Int32.not_le.mp c_2
        refine lv_iload_n hx hcb dX8_integer_21 rfl (lv_at hl 1 rfl) ?_
        refine lv_bipush (v := (nI 10)) hx hcb dX8_integer_22 (by decide) ?_
        refine lv_imul hx hcb dX8_integer_24 ?_
        refine lv_aload_n hx hcb dX8_integer_25 rfl (lv_at hl 0 rfl) ?_
        refine x_getR hx hcb hts hown hK xc8 hR (hw.lo (by decide)) (hw.s0 (by decide) rfl) 0 (by decide) rfl q_139 dX8_integer_26 ?_
        refine lv_iload_n hx hcb dX8_integer_29 rfl (lv_at hl 2 rfl) ?_
        refine x_bald hx hcb hK hR (hw.lo (by decide)) (hw.s0 (by decide) rfl) (k := i_) (by omega) (by decide) dX8_integer_30 ?_
        refine lv_bipush (v := (nI 48)) hx hcb dX8_integer_31 (by decide) ?_
        refine lv_isub hx hcb dX8_integer_33 ?_
        refine lv_iadd hx hcb dX8_integer_34 ?_
        refine lv_istore_n (lv' := [(1, .int ((v_ * (nI 10)) + ((z.1 15 i_) - (nI 48)))), (0, .ref (w.2.2 14)), (2, .int (nI i_))]) hx hcb dX8_integer_35 rfl hl (by decide) rfl (fun ls hl => ?_)
        refine lv_iinc (v := (nI (i_ + 1))) (lv' := [(2, .int (nI (i_ + 1))), (1, .int ((v_ * (nI 10)) + ((z.1 15 i_) - (nI 48)))), (0, .ref (w.2.2 14))]) hx hcb dX8_integer_36 hl (k := 2) rfl (x_iinc1 _) (by decide) rfl (fun ls hl => ?_)
        refine lv_goto (tgt := 7) hx hcb dX8_integer_39 (by decide) ?_
        exact ih_7 (i_ + 1) ((v_ * (nI 10)) + ((z.1 15 i_) - (nI 48))) (by omega) (by omega) (by omega) (by rw [hf_, itg_s (k := tN z 5 - (i_ + 1)) (by omega), if_pos hb_]) _ _ _ hR hS (lv_sub hl [2, 1, 0] rfl)
