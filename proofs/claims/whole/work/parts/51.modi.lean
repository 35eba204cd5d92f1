/-! THE REFERENCE: statements -/
def rm3 (z : xSt) : xSt := nnZ (goZ (fiZ z (mQ z 12 = 8) (-16)))
def rmN (z : xSt) : Int32 := (snZ (goZ (fiZ z (mQ z 12 = 8) (-16)))).1 0 25
abbrev rmI (z : xSt) : Prop := (rm3 z).1 0 26 = 0 ∧ (rm3 z).1 0 23 = 0 ∧ (rm3 z).1 0 24 = nI 5
def rm4 (z : xSt) : xSt := if rmI z then nqZ (rm3 z) else rm3 z
theorem rm3_fr (z : xSt) : fr0 z (rm3 z) := ((fi_fr ..).tr (go_fr _)).tr (nn_fr _)
theorem rm4_fr (z : xSt) : fr0 z (rm4 z) := by
  unfold rm4; split
  · exact (rm3_fr z).tr (nq_fr _)
  · exact rm3_fr z
theorem rm3_ok {z : xSt} (h : zOk z) : zOk (rm3 z) := nn_ok (go_ok h.fi)
theorem rm4_ok {z : xSt} (h : zOk z) : zOk (rm4 z) := by
  unfold rm4; split
  · exact nq_ok (rm3_ok h).1
  · exact rm3_ok h
theorem rm4_26 (z : xSt) : (rm4 z).1 0 26 = (rm3 z).1 0 26 := by
  unfold rm4; split
  · exact nq_k (by decide)
  · rfl
theorem go_e {z : xSt} (h : (goZ z).1 0 26 = 0) : z.1 0 26 = 0 := by rw [go_k (by decide)] at h; exact h
theorem rm4_e {z : xSt} (h : (rm4 z).1 0 26 = 0) : ¬ mQ z 12 = 8 := by
  rw [rm4_26] at h
  unfold rm3 at h
  have h2 := nn_e h
  have h3 := go_e h2
  exact (fi_e (by decide) h3).2
def rmZ (z : xSt) : xSt := if (rm4 z).1 0 26 = 0 then u1 (u1 (u1 (rm4 z) 2 (0 + mQ z 12) (rmN z)) 4 (13 + mQ z 12) (if rmI z then 1 else 0)) 2 12 (nI (mQ z 12 + 1)) else rm4 z
def rpF (z : xSt) : xSt := nnZ (goZ (fiZ (fiZ z (0 < yQ z) (-15)) (mQ z 13 = 4) (-16)))
def rpN (z : xSt) : Int32 := (snZ (goZ (fiZ (fiZ z (0 < yQ z) (-15)) (mQ z 13 = 4) (-16)))).1 0 25
theorem rpF_fr (z : xSt) : fr0 z (rpF z) := by
  unfold rpF
  exact (((fi_fr ..).tr (fi_fr ..)).tr (go_fr _)).tr (nn_fr _)
theorem rpF_ok {z : xSt} (h : zOk z) : zOk (rpF z) := by
  unfold rpF
  exact nn_ok (go_ok h.fi.fi)
theorem rpF_e {z : xSt} (h : (rpF z).1 0 26 = 0) : ¬ 0 < yQ z ∧ ¬ mQ z 13 = 4 := by
  unfold rpF at h
  have h2 := nn_e h
  have h3 := go_e h2
  have h4 := fi_e (by decide) h3
  have h5 := fi_e (by decide) h4.1
  exact ⟨h5.2, h4.2⟩
def rpZ (z : xSt) : xSt := if (rpF z).1 0 26 = 0 then u1 (u1 (rpF z) 2 (8 + mQ z 13) (rpN z)) 2 13 (nI (mQ z 13 + 1)) else rpF z
def rtM (z : xSt) : Nat := onR (goZ z) 0 (mQ z 12)
def rtD (z : xSt) : Nat := onR (onZ (goZ z) 0 (mQ z 12)) 8 (mQ z 13)
def rt4 (z : xSt) : xSt := fgZ (onZ (onZ (goZ z) 0 (mQ z 12)) 8 (mQ z 13)) 1 100000
def rtA (z : xSt) : Int32 := fgR (onZ (onZ (goZ z) 0 (mQ z 12)) 8 (mQ z 13)) 1 100000
def rt5 (z : xSt) : xSt := fiZ (rt4 z) ((rt4 z).1 0 26 = 0 ∧ ¬ (rt4 z).1 4 (29 + 4 * rtM z + rtD z) + rtA z ≤ nI 1000000) (-16)
def rt6 (z : xSt) : xSt := if (rt5 z).1 0 26 = 0 then u1 (rt5 z) 4 (29 + 4 * rtM z + rtD z) ((rt5 z).1 4 (29 + 4 * rtM z + rtD z) + rtA z) else rt5 z
def rtZ (z : xSt) : xSt := goZ (rt6 z)
theorem rt4_fr (z : xSt) : fr0 z (rt4 z) := by
  unfold rt4
  exact (((go_fr z).tr (on_fr _ _ _)).tr (on_fr _ _ _)).tr (fg_fr _ _ _)
theorem rt5_fr (z : xSt) : fr0 z (rt5 z) := by
  unfold rt5
  exact (rt4_fr z).tr (fi_fr ..)
theorem rt5_ok {z : xSt} (h : zOk z) : zOk (rt5 z) := by
  unfold rt5
  have h1 : zOk (rt4 z) := by unfold rt4; exact fg_ok (on_ok (on_ok (go_ok h)))
  exact h1.fi
theorem rt6_ok {z : xSt} (h : zOk z) : zOk (rt6 z) := by
  unfold rt6; split
  · exact (rt5_ok h).of (fun k _ _ => by rw [u1_ne _ (by decide)])
  · exact rt5_ok h
def rm_X10_readMember : Room := { frames := 8, cells := 0, slots := 0, locals := 170 }
set_option maxRecDepth 100000 in
set_option maxHeartbeats 4000000 in
theorem c_X10_readMember (l : Launch) (G : xGl) (w : xWd) (hw : isM w) (z : xSt) (sz : Nat)  (hT : zOk z) (hO : rOk z) : xMv l yX10_readMember cX10_readMember 4 rm_X10_readMember G w z sz [.ref (w.2.2 0)] (fun z1 => z1 = rmZ z) := by
  refine x_mv (by decide) (Nat.le_of_ble_eq_true rfl) ?_
  intro p e s mt args below meth c ls Q hsz X hR hS hl hret
  obtain ⟨hx, hcb, hml, hown, hts, hlk, hK, hZ⟩ := X
  have hl : lv_has ls 4 [(0, .ref (w.2.2 0))] := hl
  have hm8_ := hO.2.1
  refine lv_aload_n hx hcb dX10_readMember_0 rfl (lv_at hl 0 rfl) ?_
  refine x_getR hx hcb hts hown hK xc10 hR (hw.lo (by decide)) (hw.s0 rfl) 3 (by decide) rfl q_1169 dX10_readMember_1 ?_
  refine lv_bipush (v := (nI 12)) hx hcb dX10_readMember_4 (by decide) ?_
  refine x_iald hx hcb hK hR (hw.lo (by decide)) (hw.s0 rfl) (k := 12) (by omega) (by decide) dX10_readMember_6 ?_
  refine x_top (show (z.1 2 12) = (nI (mQ z 12)) from hO.1) ?_
  refine lv_istore_n (lv' := [(1, .int (nI (mQ z 12))), (0, .ref (w.2.2 0))]) hx hcb dX10_readMember_7 rfl hl (by decide) rfl (fun ls hl => ?_)
  refine lv_aload_n hx hcb dX10_readMember_8 rfl (lv_at hl 1 rfl) ?_
  refine lv_iload_n hx hcb dX10_readMember_9 rfl (lv_at hl 0 rfl) ?_
  refine lv_bipush (v := (nI 8)) hx hcb dX10_readMember_10 (by decide) ?_
  refine lv_icmp_ne (tgt := 19) hx hcb dX10_readMember_12 (by decide) (fun c_1 => ?_) (fun c_1 => ?_)
  · skip
    have c_1 : ¬ (mQ z 12) = 8 := fun h_ => c_1 ((nI_eq (by omega) (by omega)).mpr h_)
    have hA_ : ¬ mQ z 12 = 8 := c_1
    refine lv_iconst (v := (nI 0)) hx hcb dX10_readMember_19 (by decide) ?_
    refine lv_bipush (v := (-16)) hx hcb dX10_readMember_20 (by decide) ?_
    refine x_cv0 rfl rfl (x_runV hx hcb hml hown hts (c_X10_failsIf l G w hw z _ 0 (-16) (mQ z 12 = 8) (by first | (rw [if_pos hA_]; first | done | rfl) | (rw [if_neg hA_]; first | done | rfl))) mv_X10_failsIf q_1308 hK hZ hR hS (hw.lo (by decide)) xc10 (hw.s0 rfl) rfl hl.1 rfl (Nat.le_of_ble_eq_true rfl) dX10_readMember_22 ⟨by decide, by decide⟩ ⟨by decide, by decide⟩) hS (fun z_3 H locs hp_4 hR hS => ?_)
    rw [hp_4] at hR
    refine lv_aload_n hx hcb dX10_readMember_25 rfl (lv_at hl 1 rfl) ?_
    refine x_cv0 rfl rfl (x_runV hx hcb hml hown hts (c_X10_goOn l G w hw (fiZ z (mQ z 12 = 8) (-16)) _ hT.fi.1) mv_X10_goOn q_1312 hK hZ hR hS (hw.lo (by decide)) xc10 (hw.s0 rfl) rfl hl.1 rfl (Nat.le_of_ble_eq_true rfl) dX10_readMember_26 ⟨by decide, by decide⟩ ⟨by decide, by decide⟩) hS (fun z_6 H locs hp_7 hR hS => ?_)
    rw [hp_7] at hR
    refine lv_aload_n hx hcb dX10_readMember_29 rfl (lv_at hl 1 rfl) ?_
    refine x_ci0 rfl rfl (x_runV hx hcb hml hown hts (c_X10_newName l G w hw (goZ (fiZ z (mQ z 12 = 8) (-16))) _ (go_ok hT.fi) ((go_fr _).ok ((fi_fr ..).ok hO))) mv_X10_newName q_1316 hK hZ hR hS (hw.lo (by decide)) xc10 (hw.s0 rfl) rfl hl.1 rfl (Nat.le_of_ble_eq_true rfl) dX10_readMember_30 ⟨by decide, by decide⟩ ⟨by decide, by decide⟩) hS (fun r_8 z_9 H locs hp_10 hR hS => ?_)
    rw [hp_10.2] at hR; rw [hp_10.1]
    refine x_top (show ((snZ (goZ (fiZ z (mQ z 12 = 8) (-16)))).1 0 25) = (rmN z) from rfl) ?_
    rw [show nnZ (goZ (fiZ z (mQ z 12 = 8) (-16))) = rm3 z from rfl] at hR
    refine lv_istore_n (lv' := [(2, .int (rmN z)), (1, .int (nI (mQ z 12))), (0, .ref (w.2.2 0))]) hx hcb dX10_readMember_33 rfl hl (by decide) rfl (fun ls hl => ?_)
    refine lv_aload_n hx hcb dX10_readMember_34 rfl (lv_at hl 2 rfl) ?_
    refine x_getI hx hcb hts hown hK xc10 hR (hw.lo (by decide)) (hw.s0 rfl) 26 (by decide) rfl q_1192 dX10_readMember_35 ?_
    refine lv_if_ne (tgt := 60) hx hcb dX10_readMember_38 (by decide) (fun c_11 => ?_) (fun c_11 => ?_)
    · skip
      have hI_ : ¬ rmI z := fun q_ => c_11 q_.1
      refine lv_iconst (v := (nI 0)) hx hcb dX10_readMember_60 (by decide) ?_
      refine lv_istore_n (lv' := [(3, .int (nI 0)), (2, .int (rmN z)), (1, .int (nI (mQ z 12))), (0, .ref (w.2.2 0))]) hx hcb dX10_readMember_61 rfl hl (by decide) rfl (fun ls hl => ?_)
      refine lv_iload_n hx hcb dX10_readMember_62 rfl (lv_at hl 0 rfl) ?_
      refine lv_if_eq (tgt := 70) hx hcb dX10_readMember_63 (by decide) (fun c_12 => ?_) (fun c_12 => ?_)
      · skip
        rw [show rm3 z = rm4 z from (if_neg hI_).symm] at hR
        refine lv_aload_n hx hcb dX10_readMember_70 rfl (lv_at hl 3 rfl) ?_
        refine x_getI hx hcb hts hown hK xc10 hR (hw.lo (by decide)) (hw.s0 rfl) 26 (by decide) rfl q_1192 dX10_readMember_71 ?_
        refine lv_if_eq (tgt := 78) hx hcb dX10_readMember_74 (by decide) (fun c_13 => ?_) (fun c_13 => ?_)
        · skip
          have hE_ : (rm4 z).1 0 26 = 0 := c_13
          have hM8_ := rm4_e hE_
          refine lv_aload_n hx hcb dX10_readMember_78 rfl (lv_at hl 3 rfl) ?_
          refine x_getR hx hcb hts hown hK xc10 hR (hw.lo (by decide)) (hw.s0 rfl) 3 (by decide) rfl q_1169 dX10_readMember_79 ?_
          refine lv_iconst (v := (nI 0)) hx hcb dX10_readMember_82 (by decide) ?_
          refine lv_iload_n hx hcb dX10_readMember_83 rfl (lv_at hl 2 rfl) ?_
          refine x_iaddN hx hcb dX10_readMember_84 ?_
          refine lv_iload_n hx hcb dX10_readMember_85 rfl (lv_at hl 1 rfl) ?_
          refine x_iast hx hcb hK hR hS (hw.lo (by decide)) (hw.s0 rfl) (k := (0 + (mQ z 12))) (v := (rmN z)) (by omega) (by decide) dX10_readMember_86 (fun H locs hR hS => ?_)
          refine lv_aload_n hx hcb dX10_readMember_87 rfl (lv_at hl 3 rfl) ?_
          refine x_getR hx hcb hts hown hK xc10 hR (hw.lo (by decide)) (hw.s0 rfl) 5 (by decide) rfl q_1171 dX10_readMember_88 ?_
          refine lv_bipush (v := (nI 13)) hx hcb dX10_readMember_91 (by decide) ?_
          refine lv_iload_n hx hcb dX10_readMember_93 rfl (lv_at hl 2 rfl) ?_
          refine x_iaddN hx hcb dX10_readMember_94 ?_
          refine lv_iload_n hx hcb dX10_readMember_95 rfl (lv_at hl 0 rfl) ?_
          refine lv_if_eq (tgt := 103) hx hcb dX10_readMember_96 (by decide) (fun c_14 => ?_) (fun c_14 => ?_)
          · skip
            refine lv_iconst (v := (nI 0)) hx hcb dX10_readMember_103 (by decide) ?_
            refine x_iast hx hcb hK hR hS (hw.lo (by decide)) (hw.s0 rfl) (k := (13 + (mQ z 12))) (v := 0) (by omega) (by decide) dX10_readMember_104 (fun H locs hR hS => ?_)
            refine lv_aload_n hx hcb dX10_readMember_105 rfl (lv_at hl 3 rfl) ?_
            refine x_getR hx hcb hts hown hK xc10 hR (hw.lo (by decide)) (hw.s0 rfl) 3 (by decide) rfl q_1169 dX10_readMember_106 ?_
            refine lv_bipush (v := (nI 12)) hx hcb dX10_readMember_109 (by decide) ?_
            refine lv_dup2_11 hx hcb dX10_readMember_111 rfl rfl ?_
            refine x_iald hx hcb hK hR (hw.lo (by decide)) (hw.s0 rfl) (k := 12) (by omega) (by decide) dX10_readMember_112 ?_
            refine x_top (show ((u1 (u1 (rm4 z) 2 (0 + (mQ z 12)) (rmN z)) 4 (13 + (mQ z 12)) 0).1 2 12) = (nI (mQ z 12)) from by rw [u1_ne _ (by decide), u1_sne _ _ _ (by omega), (rm4_fr z).1 2 (by decide)]; exact hO.1) ?_
            refine lv_iconst (v := (nI 1)) hx hcb dX10_readMember_113 (by decide) ?_
            refine x_iaddN hx hcb dX10_readMember_114 ?_
            refine x_iast hx hcb hK hR hS (hw.lo (by decide)) (hw.s0 rfl) (k := 12) (v := (nI ((mQ z 12) + 1))) (by omega) (by decide) dX10_readMember_115 (fun H locs hR hS => ?_)
            exact hret (u1 (u1 (u1 (rm4 z) 2 (0 + (mQ z 12)) (rmN z)) 4 (13 + (mQ z 12)) 0) 2 12 (nI ((mQ z 12) + 1))) _ _ _ _ dX10_readMember_116 hR hS (by unfold rmZ; rw [if_pos hE_]; first | (rw [if_pos hI_]; done) | (rw [if_neg hI_]; done))
          · skip
            first | exact absurd c_14 (by decide) | exact absurd (by decide) c_14
        · skip
          have hE_ : ¬ (rm4 z).1 0 26 = 0 := c_13
          exact hret (rm4 z) _ _ _ _ dX10_readMember_77 hR hS (by unfold rmZ; rw [if_neg hE_])
      · skip
        first | exact absurd c_12 (by decide) | exact absurd (by decide) c_12
    · skip
      have h1_ := c_11
      refine lv_aload_n hx hcb dX10_readMember_41 rfl (lv_at hl 2 rfl) ?_
      refine x_getI hx hcb hts hown hK xc10 hR (hw.lo (by decide)) (hw.s0 rfl) 23 (by decide) rfl q_1189 dX10_readMember_42 ?_
      refine lv_if_ne (tgt := 60) hx hcb dX10_readMember_45 (by decide) (fun c_15 => ?_) (fun c_15 => ?_)
      · skip
        have hI_ : ¬ rmI z := fun q_ => c_15 q_.2.1
        refine lv_iconst (v := (nI 0)) hx hcb dX10_readMember_60 (by decide) ?_
        refine lv_istore_n (lv' := [(3, .int (nI 0)), (2, .int (rmN z)), (1, .int (nI (mQ z 12))), (0, .ref (w.2.2 0))]) hx hcb dX10_readMember_61 rfl hl (by decide) rfl (fun ls hl => ?_)
        refine lv_iload_n hx hcb dX10_readMember_62 rfl (lv_at hl 0 rfl) ?_
        refine lv_if_eq (tgt := 70) hx hcb dX10_readMember_63 (by decide) (fun c_16 => ?_) (fun c_16 => ?_)
        · skip
          rw [show rm3 z = rm4 z from (if_neg hI_).symm] at hR
          refine lv_aload_n hx hcb dX10_readMember_70 rfl (lv_at hl 3 rfl) ?_
          refine x_getI hx hcb hts hown hK xc10 hR (hw.lo (by decide)) (hw.s0 rfl) 26 (by decide) rfl q_1192 dX10_readMember_71 ?_
          refine lv_if_eq (tgt := 78) hx hcb dX10_readMember_74 (by decide) (fun c_17 => ?_) (fun c_17 => ?_)
          · skip
            have hE_ : (rm4 z).1 0 26 = 0 := c_17
            have hM8_ := rm4_e hE_
            refine lv_aload_n hx hcb dX10_readMember_78 rfl (lv_at hl 3 rfl) ?_
            refine x_getR hx hcb hts hown hK xc10 hR (hw.lo (by decide)) (hw.s0 rfl) 3 (by decide) rfl q_1169 dX10_readMember_79 ?_
            refine lv_iconst (v := (nI 0)) hx hcb dX10_readMember_82 (by decide) ?_
            refine lv_iload_n hx hcb dX10_readMember_83 rfl (lv_at hl 2 rfl) ?_
            refine x_iaddN hx hcb dX10_readMember_84 ?_
            refine lv_iload_n hx hcb dX10_readMember_85 rfl (lv_at hl 1 rfl) ?_
            refine x_iast hx hcb hK hR hS (hw.lo (by decide)) (hw.s0 rfl) (k := (0 + (mQ z 12))) (v := (rmN z)) (by omega) (by decide) dX10_readMember_86 (fun H locs hR hS => ?_)
            refine lv_aload_n hx hcb dX10_readMember_87 rfl (lv_at hl 3 rfl) ?_
            refine x_getR hx hcb hts hown hK xc10 hR (hw.lo (by decide)) (hw.s0 rfl) 5 (by decide) rfl q_1171 dX10_readMember_88 ?_
            refine lv_bipush (v := (nI 13)) hx hcb dX10_readMember_91 (by decide) ?_
            refine lv_iload_n hx hcb dX10_readMember_93 rfl (lv_at hl 2 rfl) ?_
            refine x_iaddN hx hcb dX10_readMember_94 ?_
            refine lv_iload_n hx hcb dX10_readMember_95 rfl (lv_at hl 0 rfl) ?_
            refine lv_if_eq (tgt := 103) hx hcb dX10_readMember_96 (by decide) (fun c_18 => ?_) (fun c_18 => ?_)
            · skip
              refine lv_iconst (v := (nI 0)) hx hcb dX10_readMember_103 (by decide) ?_
              refine x_iast hx hcb hK hR hS (hw.lo (by decide)) (hw.s0 rfl) (k := (13 + (mQ z 12))) (v := 0) (by omega) (by decide) dX10_readMember_104 (fun H locs hR hS => ?_)
              refine lv_aload_n hx hcb dX10_readMember_105 rfl (lv_at hl 3 rfl) ?_
              refine x_getR hx hcb hts hown hK xc10 hR (hw.lo (by decide)) (hw.s0 rfl) 3 (by decide) rfl q_1169 dX10_readMember_106 ?_
              refine lv_bipush (v := (nI 12)) hx hcb dX10_readMember_109 (by decide) ?_
              refine lv_dup2_11 hx hcb dX10_readMember_111 rfl rfl ?_
              refine x_iald hx hcb hK hR (hw.lo (by decide)) (hw.s0 rfl) (k := 12) (by omega) (by decide) dX10_readMember_112 ?_
              refine x_top (show ((u1 (u1 (rm4 z) 2 (0 + (mQ z 12)) (rmN z)) 4 (13 + (mQ z 12)) 0).1 2 12) = (nI (mQ z 12)) from by rw [u1_ne _ (by decide), u1_sne _ _ _ (by omega), (rm4_fr z).1 2 (by decide)]; exact hO.1) ?_
              refine lv_iconst (v := (nI 1)) hx hcb dX10_readMember_113 (by decide) ?_
              refine x_iaddN hx hcb dX10_readMember_114 ?_
              refine x_iast hx hcb hK hR hS (hw.lo (by decide)) (hw.s0 rfl) (k := 12) (v := (nI ((mQ z 12) + 1))) (by omega) (by decide) dX10_readMember_115 (fun H locs hR hS => ?_)
              exact hret (u1 (u1 (u1 (rm4 z) 2 (0 + (mQ z 12)) (rmN z)) 4 (13 + (mQ z 12)) 0) 2 12 (nI ((mQ z 12) + 1))) _ _ _ _ dX10_readMember_116 hR hS (by unfold rmZ; rw [if_pos hE_]; first | (rw [if_pos hI_]; done) | (rw [if_neg hI_]; done))
            · skip
              first | exact absurd c_18 (by decide) | exact absurd (by decide) c_18
          · skip
            have hE_ : ¬ (rm4 z).1 0 26 = 0 := c_17
            exact hret (rm4 z) _ _ _ _ dX10_readMember_77 hR hS (by unfold rmZ; rw [if_neg hE_])
        · skip
          first | exact absurd c_16 (by decide) | exact absurd (by decide) c_16
      · skip
        have h2_ := c_15
        refine lv_aload_n hx hcb dX10_readMember_48 rfl (lv_at hl 2 rfl) ?_
        refine x_getI hx hcb hts hown hK xc10 hR (hw.lo (by decide)) (hw.s0 rfl) 24 (by decide) rfl q_1190 dX10_readMember_49 ?_
        refine lv_iconst (v := (nI 5)) hx hcb dX10_readMember_52 (by decide) ?_
        refine lv_icmp_ne (tgt := 60) hx hcb dX10_readMember_53 (by decide) (fun c_19 => ?_) (fun c_19 => ?_)
        · skip
          have hI_ : ¬ rmI z := fun q_ => c_19 q_.2.2
          refine lv_iconst (v := (nI 0)) hx hcb dX10_readMember_60 (by decide) ?_
          refine lv_istore_n (lv' := [(3, .int (nI 0)), (2, .int (rmN z)), (1, .int (nI (mQ z 12))), (0, .ref (w.2.2 0))]) hx hcb dX10_readMember_61 rfl hl (by decide) rfl (fun ls hl => ?_)
          refine lv_iload_n hx hcb dX10_readMember_62 rfl (lv_at hl 0 rfl) ?_
          refine lv_if_eq (tgt := 70) hx hcb dX10_readMember_63 (by decide) (fun c_20 => ?_) (fun c_20 => ?_)
          · skip
            rw [show rm3 z = rm4 z from (if_neg hI_).symm] at hR
            refine lv_aload_n hx hcb dX10_readMember_70 rfl (lv_at hl 3 rfl) ?_
            refine x_getI hx hcb hts hown hK xc10 hR (hw.lo (by decide)) (hw.s0 rfl) 26 (by decide) rfl q_1192 dX10_readMember_71 ?_
            refine lv_if_eq (tgt := 78) hx hcb dX10_readMember_74 (by decide) (fun c_21 => ?_) (fun c_21 => ?_)
            · skip
              have hE_ : (rm4 z).1 0 26 = 0 := c_21
              have hM8_ := rm4_e hE_
              refine lv_aload_n hx hcb dX10_readMember_78 rfl (lv_at hl 3 rfl) ?_
              refine x_getR hx hcb hts hown hK xc10 hR (hw.lo (by decide)) (hw.s0 rfl) 3 (by decide) rfl q_1169 dX10_readMember_79 ?_
              refine lv_iconst (v := (nI 0)) hx hcb dX10_readMember_82 (by decide) ?_
              refine lv_iload_n hx hcb dX10_readMember_83 rfl (lv_at hl 2 rfl) ?_
              refine x_iaddN hx hcb dX10_readMember_84 ?_
              refine lv_iload_n hx hcb dX10_readMember_85 rfl (lv_at hl 1 rfl) ?_
              refine x_iast hx hcb hK hR hS (hw.lo (by decide)) (hw.s0 rfl) (k := (0 + (mQ z 12))) (v := (rmN z)) (by omega) (by decide) dX10_readMember_86 (fun H locs hR hS => ?_)
              refine lv_aload_n hx hcb dX10_readMember_87 rfl (lv_at hl 3 rfl) ?_
              refine x_getR hx hcb hts hown hK xc10 hR (hw.lo (by decide)) (hw.s0 rfl) 5 (by decide) rfl q_1171 dX10_readMember_88 ?_
              refine lv_bipush (v := (nI 13)) hx hcb dX10_readMember_91 (by decide) ?_
              refine lv_iload_n hx hcb dX10_readMember_93 rfl (lv_at hl 2 rfl) ?_
              refine x_iaddN hx hcb dX10_readMember_94 ?_
              refine lv_iload_n hx hcb dX10_readMember_95 rfl (lv_at hl 0 rfl) ?_
              refine lv_if_eq (tgt := 103) hx hcb dX10_readMember_96 (by decide) (fun c_22 => ?_) (fun c_22 => ?_)
              · skip
                refine lv_iconst (v := (nI 0)) hx hcb dX10_readMember_103 (by decide) ?_
                refine x_iast hx hcb hK hR hS (hw.lo (by decide)) (hw.s0 rfl) (k := (13 + (mQ z 12))) (v := 0) (by omega) (by decide) dX10_readMember_104 (fun H locs hR hS => ?_)
                refine lv_aload_n hx hcb dX10_readMember_105 rfl (lv_at hl 3 rfl) ?_
                refine x_getR hx hcb hts hown hK xc10 hR (hw.lo (by decide)) (hw.s0 rfl) 3 (by decide) rfl q_1169 dX10_readMember_106 ?_
                refine lv_bipush (v := (nI 12)) hx hcb dX10_readMember_109 (by decide) ?_
                refine lv_dup2_11 hx hcb dX10_readMember_111 rfl rfl ?_
                refine x_iald hx hcb hK hR (hw.lo (by decide)) (hw.s0 rfl) (k := 12) (by omega) (by decide) dX10_readMember_112 ?_
                refine x_top (show ((u1 (u1 (rm4 z) 2 (0 + (mQ z 12)) (rmN z)) 4 (13 + (mQ z 12)) 0).1 2 12) = (nI (mQ z 12)) from by rw [u1_ne _ (by decide), u1_sne _ _ _ (by omega), (rm4_fr z).1 2 (by decide)]; exact hO.1) ?_
                refine lv_iconst (v := (nI 1)) hx hcb dX10_readMember_113 (by decide) ?_
                refine x_iaddN hx hcb dX10_readMember_114 ?_
                refine x_iast hx hcb hK hR hS (hw.lo (by decide)) (hw.s0 rfl) (k := 12) (v := (nI ((mQ z 12) + 1))) (by omega) (by decide) dX10_readMember_115 (fun H locs hR hS => ?_)
                exact hret (u1 (u1 (u1 (rm4 z) 2 (0 + (mQ z 12)) (rmN z)) 4 (13 + (mQ z 12)) 0) 2 12 (nI ((mQ z 12) + 1))) _ _ _ _ dX10_readMember_116 hR hS (by unfold rmZ; rw [if_pos hE_]; first | (rw [if_pos hI_]; done) | (rw [if_neg hI_]; done))
              · skip
                first | exact absurd c_22 (by decide) | exact absurd (by decide) c_22
            · skip
              have hE_ : ¬ (rm4 z).1 0 26 = 0 := c_21
              exact hret (rm4 z) _ _ _ _ dX10_readMember_77 hR hS (by unfold rmZ; rw [if_neg hE_])
          · skip
            first | exact absurd c_20 (by decide) | exact absurd (by decide) c_20
        · skip
          have hI_ : rmI z := ⟨h1_, h2_, c_19⟩
          refine lv_iconst (v := (nI 1)) hx hcb dX10_readMember_56 (by decide) ?_
          refine lv_goto (tgt := 61) hx hcb dX10_readMember_57 (by decide) ?_
          refine lv_istore_n (lv' := [(3, .int (nI 1)), (2, .int (rmN z)), (1, .int (nI (mQ z 12))), (0, .ref (w.2.2 0))]) hx hcb dX10_readMember_61 rfl hl (by decide) rfl (fun ls hl => ?_)
          refine lv_iload_n hx hcb dX10_readMember_62 rfl (lv_at hl 0 rfl) ?_
          refine lv_if_eq (tgt := 70) hx hcb dX10_readMember_63 (by decide) (fun c_23 => ?_) (fun c_23 => ?_)
          · skip
            first | exact absurd c_23 (by decide) | exact absurd (by decide) c_23
          · skip
            refine lv_aload_n hx hcb dX10_readMember_66 rfl (lv_at hl 3 rfl) ?_
            refine x_cv0 rfl rfl (x_runV hx hcb hml hown hts (c_X10_next l G w hw (rm3 z) _ ((nn_ok (go_ok hT.fi)).1)) mv_X10_next q_1278 hK hZ hR hS (hw.lo (by decide)) xc10 (hw.s0 rfl) rfl hl.1 rfl (Nat.le_of_ble_eq_true rfl) dX10_readMember_67 ⟨by decide, by decide⟩ ⟨by decide, by decide⟩) hS (fun z_25 H locs hp_26 hR hS => ?_)
            rw [hp_26] at hR
            rw [show nqZ (rm3 z) = rm4 z from (if_pos hI_).symm] at hR
            refine lv_aload_n hx hcb dX10_readMember_70 rfl (lv_at hl 3 rfl) ?_
            refine x_getI hx hcb hts hown hK xc10 hR (hw.lo (by decide)) (hw.s0 rfl) 26 (by decide) rfl q_1192 dX10_readMember_71 ?_
            refine lv_if_eq (tgt := 78) hx hcb dX10_readMember_74 (by decide) (fun c_27 => ?_) (fun c_27 => ?_)
            · skip
              have hE_ : (rm4 z).1 0 26 = 0 := c_27
              have hM8_ := rm4_e hE_
              refine lv_aload_n hx hcb dX10_readMember_78 rfl (lv_at hl 3 rfl) ?_
              refine x_getR hx hcb hts hown hK xc10 hR (hw.lo (by decide)) (hw.s0 rfl) 3 (by decide) rfl q_1169 dX10_readMember_79 ?_
              refine lv_iconst (v := (nI 0)) hx hcb dX10_readMember_82 (by decide) ?_
              refine lv_iload_n hx hcb dX10_readMember_83 rfl (lv_at hl 2 rfl) ?_
              refine x_iaddN hx hcb dX10_readMember_84 ?_
              refine lv_iload_n hx hcb dX10_readMember_85 rfl (lv_at hl 1 rfl) ?_
              refine x_iast hx hcb hK hR hS (hw.lo (by decide)) (hw.s0 rfl) (k := (0 + (mQ z 12))) (v := (rmN z)) (by omega) (by decide) dX10_readMember_86 (fun H locs hR hS => ?_)
              refine lv_aload_n hx hcb dX10_readMember_87 rfl (lv_at hl 3 rfl) ?_
              refine x_getR hx hcb hts hown hK xc10 hR (hw.lo (by decide)) (hw.s0 rfl) 5 (by decide) rfl q_1171 dX10_readMember_88 ?_
              refine lv_bipush (v := (nI 13)) hx hcb dX10_readMember_91 (by decide) ?_
              refine lv_iload_n hx hcb dX10_readMember_93 rfl (lv_at hl 2 rfl) ?_
              refine x_iaddN hx hcb dX10_readMember_94 ?_
              refine lv_iload_n hx hcb dX10_readMember_95 rfl (lv_at hl 0 rfl) ?_
              refine lv_if_eq (tgt := 103) hx hcb dX10_readMember_96 (by decide) (fun c_28 => ?_) (fun c_28 => ?_)
              · skip
                first | exact absurd c_28 (by decide) | exact absurd (by decide) c_28
              · skip
                refine lv_iconst (v := (nI 1)) hx hcb dX10_readMember_99 (by decide) ?_
                refine lv_goto (tgt := 104) hx hcb dX10_readMember_100 (by decide) ?_
                refine x_iast hx hcb hK hR hS (hw.lo (by decide)) (hw.s0 rfl) (k := (13 + (mQ z 12))) (v := 1) (by omega) (by decide) dX10_readMember_104 (fun H locs hR hS => ?_)
                refine lv_aload_n hx hcb dX10_readMember_105 rfl (lv_at hl 3 rfl) ?_
                refine x_getR hx hcb hts hown hK xc10 hR (hw.lo (by decide)) (hw.s0 rfl) 3 (by decide) rfl q_1169 dX10_readMember_106 ?_
                refine lv_bipush (v := (nI 12)) hx hcb dX10_readMember_109 (by decide) ?_
                refine lv_dup2_11 hx hcb dX10_readMember_111 rfl rfl ?_
                refine x_iald hx hcb hK hR (hw.lo (by decide)) (hw.s0 rfl) (k := 12) (by omega) (by decide) dX10_readMember_112 ?_
                refine x_top (show ((u1 (u1 (rm4 z) 2 (0 + (mQ z 12)) (rmN z)) 4 (13 + (mQ z 12)) 1).1 2 12) = (nI (mQ z 12)) from by rw [u1_ne _ (by decide), u1_sne _ _ _ (by omega), (rm4_fr z).1 2 (by decide)]; exact hO.1) ?_
                refine lv_iconst (v := (nI 1)) hx hcb dX10_readMember_113 (by decide) ?_
                refine x_iaddN hx hcb dX10_readMember_114 ?_
                refine x_iast hx hcb hK hR hS (hw.lo (by decide)) (hw.s0 rfl) (k := 12) (v := (nI ((mQ z 12) + 1))) (by omega) (by decide) dX10_readMember_115 (fun H locs hR hS => ?_)
                exact hret (u1 (u1 (u1 (rm4 z) 2 (0 + (mQ z 12)) (rmN z)) 4 (13 + (mQ z 12)) 1) 2 12 (nI ((mQ z 12) + 1))) _ _ _ _ dX10_readMember_116 hR hS (by unfold rmZ; rw [if_pos hE_]; first | (rw [if_pos hI_]; done) | (rw [if_neg hI_]; done))
            · skip
              have hE_ : ¬ (rm4 z).1 0 26 = 0 := c_27
              exact hret (rm4 z) _ _ _ _ dX10_readMember_77 hR hS (by unfold rmZ; rw [if_neg hE_])
  · skip
    have c_1 : (mQ z 12) = 8 := (nI_eq (by omega) (by omega)).mp c_1
    have hA_ : mQ z 12 = 8 := c_1
    refine lv_iconst (v := (nI 1)) hx hcb dX10_readMember_15 (by decide) ?_
    refine lv_goto (tgt := 20) hx hcb dX10_readMember_16 (by decide) ?_
    refine lv_bipush (v := (-16)) hx hcb dX10_readMember_20 (by decide) ?_
    refine x_cv0 rfl rfl (x_runV hx hcb hml hown hts (c_X10_failsIf l G w hw z _ 1 (-16) (mQ z 12 = 8) (by first | (rw [if_pos hA_]; first | done | rfl) | (rw [if_neg hA_]; first | done | rfl))) mv_X10_failsIf q_1308 hK hZ hR hS (hw.lo (by decide)) xc10 (hw.s0 rfl) rfl hl.1 rfl (Nat.le_of_ble_eq_true rfl) dX10_readMember_22 ⟨by decide, by decide⟩ ⟨by decide, by decide⟩) hS (fun z_30 H locs hp_31 hR hS => ?_)
    rw [hp_31] at hR
    refine lv_aload_n hx hcb dX10_readMember_25 rfl (lv_at hl 1 rfl) ?_
    refine x_cv0 rfl rfl (x_runV hx hcb hml hown hts (c_X10_goOn l G w hw (fiZ z (mQ z 12 = 8) (-16)) _ hT.fi.1) mv_X10_goOn q_1312 hK hZ hR hS (hw.lo (by decide)) xc10 (hw.s0 rfl) rfl hl.1 rfl (Nat.le_of_ble_eq_true rfl) dX10_readMember_26 ⟨by decide, by decide⟩ ⟨by decide, by decide⟩) hS (fun z_33 H locs hp_34 hR hS => ?_)
    rw [hp_34] at hR
    refine lv_aload_n hx hcb dX10_readMember_29 rfl (lv_at hl 1 rfl) ?_
    refine x_ci0 rfl rfl (x_runV hx hcb hml hown hts (c_X10_newName l G w hw (goZ (fiZ z (mQ z 12 = 8) (-16))) _ (go_ok hT.fi) ((go_fr _).ok ((fi_fr ..).ok hO))) mv_X10_newName q_1316 hK hZ hR hS (hw.lo (by decide)) xc10 (hw.s0 rfl) rfl hl.1 rfl (Nat.le_of_ble_eq_true rfl) dX10_readMember_30 ⟨by decide, by decide⟩ ⟨by decide, by decide⟩) hS (fun r_35 z_36 H locs hp_37 hR hS => ?_)
    rw [hp_37.2] at hR; rw [hp_37.1]
    refine x_top (show ((snZ (goZ (fiZ z (mQ z 12 = 8) (-16)))).1 0 25) = (rmN z) from rfl) ?_
    rw [show nnZ (goZ (fiZ z (mQ z 12 = 8) (-16))) = rm3 z from rfl] at hR
    refine lv_istore_n (lv' := [(2, .int (rmN z)), (1, .int (nI (mQ z 12))), (0, .ref (w.2.2 0))]) hx hcb dX10_readMember_33 rfl hl (by decide) rfl (fun ls hl => ?_)
    refine lv_aload_n hx hcb dX10_readMember_34 rfl (lv_at hl 2 rfl) ?_
    refine x_getI hx hcb hts hown hK xc10 hR (hw.lo (by decide)) (hw.s0 rfl) 26 (by decide) rfl q_1192 dX10_readMember_35 ?_
    refine lv_if_ne (tgt := 60) hx hcb dX10_readMember_38 (by decide) (fun c_38 => ?_) (fun c_38 => ?_)
    · skip
      have hI_ : ¬ rmI z := fun q_ => c_38 q_.1
      refine lv_iconst (v := (nI 0)) hx hcb dX10_readMember_60 (by decide) ?_
      refine lv_istore_n (lv' := [(3, .int (nI 0)), (2, .int (rmN z)), (1, .int (nI (mQ z 12))), (0, .ref (w.2.2 0))]) hx hcb dX10_readMember_61 rfl hl (by decide) rfl (fun ls hl => ?_)
      refine lv_iload_n hx hcb dX10_readMember_62 rfl (lv_at hl 0 rfl) ?_
      refine lv_if_eq (tgt := 70) hx hcb dX10_readMember_63 (by decide) (fun c_39 => ?_) (fun c_39 => ?_)
      · skip
        rw [show rm3 z = rm4 z from (if_neg hI_).symm] at hR
        refine lv_aload_n hx hcb dX10_readMember_70 rfl (lv_at hl 3 rfl) ?_
        refine x_getI hx hcb hts hown hK xc10 hR (hw.lo (by decide)) (hw.s0 rfl) 26 (by decide) rfl q_1192 dX10_readMember_71 ?_
        refine lv_if_eq (tgt := 78) hx hcb dX10_readMember_74 (by decide) (fun c_40 => ?_) (fun c_40 => ?_)
        · skip
          have hE_ : (rm4 z).1 0 26 = 0 := c_40
          have hM8_ := rm4_e hE_
          refine lv_aload_n hx hcb dX10_readMember_78 rfl (lv_at hl 3 rfl) ?_
          refine x_getR hx hcb hts hown hK xc10 hR (hw.lo (by decide)) (hw.s0 rfl) 3 (by decide) rfl q_1169 dX10_readMember_79 ?_
          refine lv_iconst (v := (nI 0)) hx hcb dX10_readMember_82 (by decide) ?_
          refine lv_iload_n hx hcb dX10_readMember_83 rfl (lv_at hl 2 rfl) ?_
          refine x_iaddN hx hcb dX10_readMember_84 ?_
          refine lv_iload_n hx hcb dX10_readMember_85 rfl (lv_at hl 1 rfl) ?_
          refine x_iast hx hcb hK hR hS (hw.lo (by decide)) (hw.s0 rfl) (k := (0 + (mQ z 12))) (v := (rmN z)) (by omega) (by decide) dX10_readMember_86 (fun H locs hR hS => ?_)
          refine lv_aload_n hx hcb dX10_readMember_87 rfl (lv_at hl 3 rfl) ?_
          refine x_getR hx hcb hts hown hK xc10 hR (hw.lo (by decide)) (hw.s0 rfl) 5 (by decide) rfl q_1171 dX10_readMember_88 ?_
          refine lv_bipush (v := (nI 13)) hx hcb dX10_readMember_91 (by decide) ?_
          refine lv_iload_n hx hcb dX10_readMember_93 rfl (lv_at hl 2 rfl) ?_
          refine x_iaddN hx hcb dX10_readMember_94 ?_
          refine lv_iload_n hx hcb dX10_readMember_95 rfl (lv_at hl 0 rfl) ?_
          refine lv_if_eq (tgt := 103) hx hcb dX10_readMember_96 (by decide) (fun c_41 => ?_) (fun c_41 => ?_)
          · skip
            refine lv_iconst (v := (nI 0)) hx hcb dX10_readMember_103 (by decide) ?_
            refine x_iast hx hcb hK hR hS (hw.lo (by decide)) (hw.s0 rfl) (k := (13 + (mQ z 12))) (v := 0) (by omega) (by decide) dX10_readMember_104 (fun H locs hR hS => ?_)
            refine lv_aload_n hx hcb dX10_readMember_105 rfl (lv_at hl 3 rfl) ?_
            refine x_getR hx hcb hts hown hK xc10 hR (hw.lo (by decide)) (hw.s0 rfl) 3 (by decide) rfl q_1169 dX10_readMember_106 ?_
            refine lv_bipush (v := (nI 12)) hx hcb dX10_readMember_109 (by decide) ?_
            refine lv_dup2_11 hx hcb dX10_readMember_111 rfl rfl ?_
            refine x_iald hx hcb hK hR (hw.lo (by decide)) (hw.s0 rfl) (k := 12) (by omega) (by decide) dX10_readMember_112 ?_
            refine x_top (show ((u1 (u1 (rm4 z) 2 (0 + (mQ z 12)) (rmN z)) 4 (13 + (mQ z 12)) 0).1 2 12) = (nI (mQ z 12)) from by rw [u1_ne _ (by decide), u1_sne _ _ _ (by omega), (rm4_fr z).1 2 (by decide)]; exact hO.1) ?_
            refine lv_iconst (v := (nI 1)) hx hcb dX10_readMember_113 (by decide) ?_
            refine x_iaddN hx hcb dX10_readMember_114 ?_
            refine x_iast hx hcb hK hR hS (hw.lo (by decide)) (hw.s0 rfl) (k := 12) (v := (nI ((mQ z 12) + 1))) (by omega) (by decide) dX10_readMember_115 (fun H locs hR hS => ?_)
            exact hret (u1 (u1 (u1 (rm4 z) 2 (0 + (mQ z 12)) (rmN z)) 4 (13 + (mQ z 12)) 0) 2 12 (nI ((mQ z 12) + 1))) _ _ _ _ dX10_readMember_116 hR hS (by unfold rmZ; rw [if_pos hE_]; first | (rw [if_pos hI_]; done) | (rw [if_neg hI_]; done))
          · skip
            first | exact absurd c_41 (by decide) | exact absurd (by decide) c_41
        · skip
          have hE_ : ¬ (rm4 z).1 0 26 = 0 := c_40
          exact hret (rm4 z) _ _ _ _ dX10_readMember_77 hR hS (by unfold rmZ; rw [if_neg hE_])
      · skip
        first | exact absurd c_39 (by decide) | exact absurd (by decide) c_39
    · skip
      have h1_ := c_38
      refine lv_aload_n hx hcb dX10_readMember_41 rfl (lv_at hl 2 rfl) ?_
      refine x_getI hx hcb hts hown hK xc10 hR (hw.lo (by decide)) (hw.s0 rfl) 23 (by decide) rfl q_1189 dX10_readMember_42 ?_
      refine lv_if_ne (tgt := 60) hx hcb dX10_readMember_45 (by decide) (fun c_42 => ?_) (fun c_42 => ?_)
      · skip
        have hI_ : ¬ rmI z := fun q_ => c_42 q_.2.1
        refine lv_iconst (v := (nI 0)) hx hcb dX10_readMember_60 (by decide) ?_
        refine lv_istore_n (lv' := [(3, .int (nI 0)), (2, .int (rmN z)), (1, .int (nI (mQ z 12))), (0, .ref (w.2.2 0))]) hx hcb dX10_readMember_61 rfl hl (by decide) rfl (fun ls hl => ?_)
        refine lv_iload_n hx hcb dX10_readMember_62 rfl (lv_at hl 0 rfl) ?_
        refine lv_if_eq (tgt := 70) hx hcb dX10_readMember_63 (by decide) (fun c_43 => ?_) (fun c_43 => ?_)
        · skip
          rw [show rm3 z = rm4 z from (if_neg hI_).symm] at hR
          refine lv_aload_n hx hcb dX10_readMember_70 rfl (lv_at hl 3 rfl) ?_
          refine x_getI hx hcb hts hown hK xc10 hR (hw.lo (by decide)) (hw.s0 rfl) 26 (by decide) rfl q_1192 dX10_readMember_71 ?_
          refine lv_if_eq (tgt := 78) hx hcb dX10_readMember_74 (by decide) (fun c_44 => ?_) (fun c_44 => ?_)
          · skip
            have hE_ : (rm4 z).1 0 26 = 0 := c_44
            have hM8_ := rm4_e hE_
            refine lv_aload_n hx hcb dX10_readMember_78 rfl (lv_at hl 3 rfl) ?_
            refine x_getR hx hcb hts hown hK xc10 hR (hw.lo (by decide)) (hw.s0 rfl) 3 (by decide) rfl q_1169 dX10_readMember_79 ?_
            refine lv_iconst (v := (nI 0)) hx hcb dX10_readMember_82 (by decide) ?_
            refine lv_iload_n hx hcb dX10_readMember_83 rfl (lv_at hl 2 rfl) ?_
            refine x_iaddN hx hcb dX10_readMember_84 ?_
            refine lv_iload_n hx hcb dX10_readMember_85 rfl (lv_at hl 1 rfl) ?_
            refine x_iast hx hcb hK hR hS (hw.lo (by decide)) (hw.s0 rfl) (k := (0 + (mQ z 12))) (v := (rmN z)) (by omega) (by decide) dX10_readMember_86 (fun H locs hR hS => ?_)
            refine lv_aload_n hx hcb dX10_readMember_87 rfl (lv_at hl 3 rfl) ?_
            refine x_getR hx hcb hts hown hK xc10 hR (hw.lo (by decide)) (hw.s0 rfl) 5 (by decide) rfl q_1171 dX10_readMember_88 ?_
            refine lv_bipush (v := (nI 13)) hx hcb dX10_readMember_91 (by decide) ?_
            refine lv_iload_n hx hcb dX10_readMember_93 rfl (lv_at hl 2 rfl) ?_
            refine x_iaddN hx hcb dX10_readMember_94 ?_
            refine lv_iload_n hx hcb dX10_readMember_95 rfl (lv_at hl 0 rfl) ?_
            refine lv_if_eq (tgt := 103) hx hcb dX10_readMember_96 (by decide) (fun c_45 => ?_) (fun c_45 => ?_)
            · skip
              refine lv_iconst (v := (nI 0)) hx hcb dX10_readMember_103 (by decide) ?_
              refine x_iast hx hcb hK hR hS (hw.lo (by decide)) (hw.s0 rfl) (k := (13 + (mQ z 12))) (v := 0) (by omega) (by decide) dX10_readMember_104 (fun H locs hR hS => ?_)
              refine lv_aload_n hx hcb dX10_readMember_105 rfl (lv_at hl 3 rfl) ?_
              refine x_getR hx hcb hts hown hK xc10 hR (hw.lo (by decide)) (hw.s0 rfl) 3 (by decide) rfl q_1169 dX10_readMember_106 ?_
              refine lv_bipush (v := (nI 12)) hx hcb dX10_readMember_109 (by decide) ?_
              refine lv_dup2_11 hx hcb dX10_readMember_111 rfl rfl ?_
              refine x_iald hx hcb hK hR (hw.lo (by decide)) (hw.s0 rfl) (k := 12) (by omega) (by decide) dX10_readMember_112 ?_
              refine x_top (show ((u1 (u1 (rm4 z) 2 (0 + (mQ z 12)) (rmN z)) 4 (13 + (mQ z 12)) 0).1 2 12) = (nI (mQ z 12)) from by rw [u1_ne _ (by decide), u1_sne _ _ _ (by omega), (rm4_fr z).1 2 (by decide)]; exact hO.1) ?_
              refine lv_iconst (v := (nI 1)) hx hcb dX10_readMember_113 (by decide) ?_
              refine x_iaddN hx hcb dX10_readMember_114 ?_
              refine x_iast hx hcb hK hR hS (hw.lo (by decide)) (hw.s0 rfl) (k := 12) (v := (nI ((mQ z 12) + 1))) (by omega) (by decide) dX10_readMember_115 (fun H locs hR hS => ?_)
              exact hret (u1 (u1 (u1 (rm4 z) 2 (0 + (mQ z 12)) (rmN z)) 4 (13 + (mQ z 12)) 0) 2 12 (nI ((mQ z 12) + 1))) _ _ _ _ dX10_readMember_116 hR hS (by unfold rmZ; rw [if_pos hE_]; first | (rw [if_pos hI_]; done) | (rw [if_neg hI_]; done))
            · skip
              first | exact absurd c_45 (by decide) | exact absurd (by decide) c_45
          · skip
            have hE_ : ¬ (rm4 z).1 0 26 = 0 := c_44
            exact hret (rm4 z) _ _ _ _ dX10_readMember_77 hR hS (by unfold rmZ; rw [if_neg hE_])
        · skip
          first | exact absurd c_43 (by decide) | exact absurd (by decide) c_43
      · skip
        have h2_ := c_42
        refine lv_aload_n hx hcb dX10_readMember_48 rfl (lv_at hl 2 rfl) ?_
        refine x_getI hx hcb hts hown hK xc10 hR (hw.lo (by decide)) (hw.s0 rfl) 24 (by decide) rfl q_1190 dX10_readMember_49 ?_
        refine lv_iconst (v := (nI 5)) hx hcb dX10_readMember_52 (by decide) ?_
        refine lv_icmp_ne (tgt := 60) hx hcb dX10_readMember_53 (by decide) (fun c_46 => ?_) (fun c_46 => ?_)
        · skip
          have hI_ : ¬ rmI z := fun q_ => c_46 q_.2.2
          refine lv_iconst (v := (nI 0)) hx hcb dX10_readMember_60 (by decide) ?_
          refine lv_istore_n (lv' := [(3, .int (nI 0)), (2, .int (rmN z)), (1, .int (nI (mQ z 12))), (0, .ref (w.2.2 0))]) hx hcb dX10_readMember_61 rfl hl (by decide) rfl (fun ls hl => ?_)
          refine lv_iload_n hx hcb dX10_readMember_62 rfl (lv_at hl 0 rfl) ?_
          refine lv_if_eq (tgt := 70) hx hcb dX10_readMember_63 (by decide) (fun c_47 => ?_) (fun c_47 => ?_)
          · skip
            rw [show rm3 z = rm4 z from (if_neg hI_).symm] at hR
            refine lv_aload_n hx hcb dX10_readMember_70 rfl (lv_at hl 3 rfl) ?_
            refine x_getI hx hcb hts hown hK xc10 hR (hw.lo (by decide)) (hw.s0 rfl) 26 (by decide) rfl q_1192 dX10_readMember_71 ?_
            refine lv_if_eq (tgt := 78) hx hcb dX10_readMember_74 (by decide) (fun c_48 => ?_) (fun c_48 => ?_)
            · skip
              have hE_ : (rm4 z).1 0 26 = 0 := c_48
              have hM8_ := rm4_e hE_
              refine lv_aload_n hx hcb dX10_readMember_78 rfl (lv_at hl 3 rfl) ?_
              refine x_getR hx hcb hts hown hK xc10 hR (hw.lo (by decide)) (hw.s0 rfl) 3 (by decide) rfl q_1169 dX10_readMember_79 ?_
              refine lv_iconst (v := (nI 0)) hx hcb dX10_readMember_82 (by decide) ?_
              refine lv_iload_n hx hcb dX10_readMember_83 rfl (lv_at hl 2 rfl) ?_
              refine x_iaddN hx hcb dX10_readMember_84 ?_
              refine lv_iload_n hx hcb dX10_readMember_85 rfl (lv_at hl 1 rfl) ?_
              refine x_iast hx hcb hK hR hS (hw.lo (by decide)) (hw.s0 rfl) (k := (0 + (mQ z 12))) (v := (rmN z)) (by omega) (by decide) dX10_readMember_86 (fun H locs hR hS => ?_)
              refine lv_aload_n hx hcb dX10_readMember_87 rfl (lv_at hl 3 rfl) ?_
              refine x_getR hx hcb hts hown hK xc10 hR (hw.lo (by decide)) (hw.s0 rfl) 5 (by decide) rfl q_1171 dX10_readMember_88 ?_
              refine lv_bipush (v := (nI 13)) hx hcb dX10_readMember_91 (by decide) ?_
              refine lv_iload_n hx hcb dX10_readMember_93 rfl (lv_at hl 2 rfl) ?_
              refine x_iaddN hx hcb dX10_readMember_94 ?_
              refine lv_iload_n hx hcb dX10_readMember_95 rfl (lv_at hl 0 rfl) ?_
              refine lv_if_eq (tgt := 103) hx hcb dX10_readMember_96 (by decide) (fun c_49 => ?_) (fun c_49 => ?_)
              · skip
                refine lv_iconst (v := (nI 0)) hx hcb dX10_readMember_103 (by decide) ?_
                refine x_iast hx hcb hK hR hS (hw.lo (by decide)) (hw.s0 rfl) (k := (13 + (mQ z 12))) (v := 0) (by omega) (by decide) dX10_readMember_104 (fun H locs hR hS => ?_)
                refine lv_aload_n hx hcb dX10_readMember_105 rfl (lv_at hl 3 rfl) ?_
                refine x_getR hx hcb hts hown hK xc10 hR (hw.lo (by decide)) (hw.s0 rfl) 3 (by decide) rfl q_1169 dX10_readMember_106 ?_
                refine lv_bipush (v := (nI 12)) hx hcb dX10_readMember_109 (by decide) ?_
                refine lv_dup2_11 hx hcb dX10_readMember_111 rfl rfl ?_
                refine x_iald hx hcb hK hR (hw.lo (by decide)) (hw.s0 rfl) (k := 12) (by omega) (by decide) dX10_readMember_112 ?_
                refine x_top (show ((u1 (u1 (rm4 z) 2 (0 + (mQ z 12)) (rmN z)) 4 (13 + (mQ z 12)) 0).1 2 12) = (nI (mQ z 12)) from by rw [u1_ne _ (by decide), u1_sne _ _ _ (by omega), (rm4_fr z).1 2 (by decide)]; exact hO.1) ?_
                refine lv_iconst (v := (nI 1)) hx hcb dX10_readMember_113 (by decide) ?_
                refine x_iaddN hx hcb dX10_readMember_114 ?_
                refine x_iast hx hcb hK hR hS (hw.lo (by decide)) (hw.s0 rfl) (k := 12) (v := (nI ((mQ z 12) + 1))) (by omega) (by decide) dX10_readMember_115 (fun H locs hR hS => ?_)
                exact hret (u1 (u1 (u1 (rm4 z) 2 (0 + (mQ z 12)) (rmN z)) 4 (13 + (mQ z 12)) 0) 2 12 (nI ((mQ z 12) + 1))) _ _ _ _ dX10_readMember_116 hR hS (by unfold rmZ; rw [if_pos hE_]; first | (rw [if_pos hI_]; done) | (rw [if_neg hI_]; done))
              · skip
                first | exact absurd c_49 (by decide) | exact absurd (by decide) c_49
            · skip
              have hE_ : ¬ (rm4 z).1 0 26 = 0 := c_48
              exact hret (rm4 z) _ _ _ _ dX10_readMember_77 hR hS (by unfold rmZ; rw [if_neg hE_])
          · skip
            first | exact absurd c_47 (by decide) | exact absurd (by decide) c_47
        · skip
          have hI_ : rmI z := ⟨h1_, h2_, c_46⟩
          refine lv_iconst (v := (nI 1)) hx hcb dX10_readMember_56 (by decide) ?_
          refine lv_goto (tgt := 61) hx hcb dX10_readMember_57 (by decide) ?_
          refine lv_istore_n (lv' := [(3, .int (nI 1)), (2, .int (rmN z)), (1, .int (nI (mQ z 12))), (0, .ref (w.2.2 0))]) hx hcb dX10_readMember_61 rfl hl (by decide) rfl (fun ls hl => ?_)
          refine lv_iload_n hx hcb dX10_readMember_62 rfl (lv_at hl 0 rfl) ?_
          refine lv_if_eq (tgt := 70) hx hcb dX10_readMember_63 (by decide) (fun c_50 => ?_) (fun c_50 => ?_)
          · skip
            first | exact absurd c_50 (by decide) | exact absurd (by decide) c_50
          · skip
            refine lv_aload_n hx hcb dX10_readMember_66 rfl (lv_at hl 3 rfl) ?_
            refine x_cv0 rfl rfl (x_runV hx hcb hml hown hts (c_X10_next l G w hw (rm3 z) _ ((nn_ok (go_ok hT.fi)).1)) mv_X10_next q_1278 hK hZ hR hS (hw.lo (by decide)) xc10 (hw.s0 rfl) rfl hl.1 rfl (Nat.le_of_ble_eq_true rfl) dX10_readMember_67 ⟨by decide, by decide⟩ ⟨by decide, by decide⟩) hS (fun z_52 H locs hp_53 hR hS => ?_)
            rw [hp_53] at hR
            rw [show nqZ (rm3 z) = rm4 z from (if_pos hI_).symm] at hR
            refine lv_aload_n hx hcb dX10_readMember_70 rfl (lv_at hl 3 rfl) ?_
            refine x_getI hx hcb hts hown hK xc10 hR (hw.lo (by decide)) (hw.s0 rfl) 26 (by decide) rfl q_1192 dX10_readMember_71 ?_
            refine lv_if_eq (tgt := 78) hx hcb dX10_readMember_74 (by decide) (fun c_54 => ?_) (fun c_54 => ?_)
            · skip
              have hE_ : (rm4 z).1 0 26 = 0 := c_54
              have hM8_ := rm4_e hE_
              refine lv_aload_n hx hcb dX10_readMember_78 rfl (lv_at hl 3 rfl) ?_
              refine x_getR hx hcb hts hown hK xc10 hR (hw.lo (by decide)) (hw.s0 rfl) 3 (by decide) rfl q_1169 dX10_readMember_79 ?_
              refine lv_iconst (v := (nI 0)) hx hcb dX10_readMember_82 (by decide) ?_
              refine lv_iload_n hx hcb dX10_readMember_83 rfl (lv_at hl 2 rfl) ?_
              refine x_iaddN hx hcb dX10_readMember_84 ?_
              refine lv_iload_n hx hcb dX10_readMember_85 rfl (lv_at hl 1 rfl) ?_
              refine x_iast hx hcb hK hR hS (hw.lo (by decide)) (hw.s0 rfl) (k := (0 + (mQ z 12))) (v := (rmN z)) (by omega) (by decide) dX10_readMember_86 (fun H locs hR hS => ?_)
              refine lv_aload_n hx hcb dX10_readMember_87 rfl (lv_at hl 3 rfl) ?_
              refine x_getR hx hcb hts hown hK xc10 hR (hw.lo (by decide)) (hw.s0 rfl) 5 (by decide) rfl q_1171 dX10_readMember_88 ?_
              refine lv_bipush (v := (nI 13)) hx hcb dX10_readMember_91 (by decide) ?_
              refine lv_iload_n hx hcb dX10_readMember_93 rfl (lv_at hl 2 rfl) ?_
              refine x_iaddN hx hcb dX10_readMember_94 ?_
              refine lv_iload_n hx hcb dX10_readMember_95 rfl (lv_at hl 0 rfl) ?_
              refine lv_if_eq (tgt := 103) hx hcb dX10_readMember_96 (by decide) (fun c_55 => ?_) (fun c_55 => ?_)
              · skip
                first | exact absurd c_55 (by decide) | exact absurd (by decide) c_55
              · skip
                refine lv_iconst (v := (nI 1)) hx hcb dX10_readMember_99 (by decide) ?_
                refine lv_goto (tgt := 104) hx hcb dX10_readMember_100 (by decide) ?_
                refine x_iast hx hcb hK hR hS (hw.lo (by decide)) (hw.s0 rfl) (k := (13 + (mQ z 12))) (v := 1) (by omega) (by decide) dX10_readMember_104 (fun H locs hR hS => ?_)
                refine lv_aload_n hx hcb dX10_readMember_105 rfl (lv_at hl 3 rfl) ?_
                refine x_getR hx hcb hts hown hK xc10 hR (hw.lo (by decide)) (hw.s0 rfl) 3 (by decide) rfl q_1169 dX10_readMember_106 ?_
                refine lv_bipush (v := (nI 12)) hx hcb dX10_readMember_109 (by decide) ?_
                refine lv_dup2_11 hx hcb dX10_readMember_111 rfl rfl ?_
                refine x_iald hx hcb hK hR (hw.lo (by decide)) (hw.s0 rfl) (k := 12) (by omega) (by decide) dX10_readMember_112 ?_
                refine x_top (show ((u1 (u1 (rm4 z) 2 (0 + (mQ z 12)) (rmN z)) 4 (13 + (mQ z 12)) 1).1 2 12) = (nI (mQ z 12)) from by rw [u1_ne _ (by decide), u1_sne _ _ _ (by omega), (rm4_fr z).1 2 (by decide)]; exact hO.1) ?_
                refine lv_iconst (v := (nI 1)) hx hcb dX10_readMember_113 (by decide) ?_
                refine x_iaddN hx hcb dX10_readMember_114 ?_
                refine x_iast hx hcb hK hR hS (hw.lo (by decide)) (hw.s0 rfl) (k := 12) (v := (nI ((mQ z 12) + 1))) (by omega) (by decide) dX10_readMember_115 (fun H locs hR hS => ?_)
                exact hret (u1 (u1 (u1 (rm4 z) 2 (0 + (mQ z 12)) (rmN z)) 4 (13 + (mQ z 12)) 1) 2 12 (nI ((mQ z 12) + 1))) _ _ _ _ dX10_readMember_116 hR hS (by unfold rmZ; rw [if_pos hE_]; first | (rw [if_pos hI_]; done) | (rw [if_neg hI_]; done))
            · skip
              have hE_ : ¬ (rm4 z).1 0 26 = 0 := c_54
              exact hret (rm4 z) _ _ _ _ dX10_readMember_77 hR hS (by unfold rmZ; rw [if_neg hE_])
def rm_X10_readSection : Room := { frames := 8, cells := 0, slots := 0, locals := 170 }
set_option maxRecDepth 100000 in
set_option maxHeartbeats 4000000 in
theorem c_X10_readSection (l : Launch) (G : xGl) (w : xWd) (hw : isM w) (z : xSt) (sz : Nat)  (hT : zOk z) (hO : rOk z) : xMv l yX10_readSection cX10_readSection 3 rm_X10_readSection G w z sz [.ref (w.2.2 0)] (fun z1 => z1 = rpZ z) := by
  refine x_mv (by decide) (Nat.le_of_ble_eq_true rfl) ?_
  intro p e s mt args below meth c ls Q hsz X hR hS hl hret
  obtain ⟨hx, hcb, hml, hown, hts, hlk, hK, hZ⟩ := X
  have hl : lv_has ls 3 [(0, .ref (w.2.2 0))] := hl
  have hd4_ := hO.2.2.2.1
  have hy24_ := hO.2.2.2.2.2
  refine lv_aload_n hx hcb dX10_readSection_0 rfl (lv_at hl 0 rfl) ?_
  refine x_getR hx hcb hts hown hK xc10 hR (hw.lo (by decide)) (hw.s0 rfl) 3 (by decide) rfl q_1169 dX10_readSection_1 ?_
  refine lv_bipush (v := (nI 13)) hx hcb dX10_readSection_4 (by decide) ?_
  refine x_iald hx hcb hK hR (hw.lo (by decide)) (hw.s0 rfl) (k := 13) (by omega) (by decide) dX10_readSection_6 ?_
  refine x_top (show (z.1 2 13) = (nI (mQ z 13)) from hO.2.2.1) ?_
  refine lv_istore_n (lv' := [(1, .int (nI (mQ z 13))), (0, .ref (w.2.2 0))]) hx hcb dX10_readSection_7 rfl hl (by decide) rfl (fun ls hl => ?_)
  refine lv_aload_n hx hcb dX10_readSection_8 rfl (lv_at hl 1 rfl) ?_
  refine lv_aload_n hx hcb dX10_readSection_9 rfl (lv_at hl 1 rfl) ?_
  refine x_getR hx hcb hts hown hK xc10 hR (hw.lo (by decide)) (hw.s0 rfl) 5 (by decide) rfl q_1171 dX10_readSection_10 ?_
  refine lv_sipush (v := (nI 494)) hx hcb dX10_readSection_13 (by decide) ?_
  refine x_iald hx hcb hK hR (hw.lo (by decide)) (hw.s0 rfl) (k := 494) (by omega) (by decide) dX10_readSection_16 ?_
  refine x_top (show (z.1 4 494) = (nI (yQ z)) from hO.2.2.2.2.1) ?_
  refine lv_if_le (tgt := 24) hx hcb dX10_readSection_17 (by decide) (fun c_1 => ?_) (fun c_1 => ?_)
  · skip
    have c_1 : (yQ z) ≤ 0 := (nI_leI (a := (yQ z)) (b := 0) (by omega) (by omega)).mp c_1
    have hA_ : ¬ 0 < yQ z := by omega
    refine lv_iconst (v := (nI 0)) hx hcb dX10_readSection_24 (by decide) ?_
    refine lv_bipush (v := (-15)) hx hcb dX10_readSection_25 (by decide) ?_
    refine x_cv0 rfl rfl (x_runV hx hcb hml hown hts (c_X10_failsIf l G w hw z _ 0 (-15) (0 < yQ z) (by first | (rw [if_pos hA_]; first | done | rfl) | (rw [if_neg hA_]; first | done | rfl))) mv_X10_failsIf q_1308 hK hZ hR hS (hw.lo (by decide)) xc10 (hw.s0 rfl) rfl hl.1 rfl (Nat.le_of_ble_eq_true rfl) dX10_readSection_27 ⟨by decide, by decide⟩ ⟨by decide, by decide⟩) hS (fun z_3 H locs hp_4 hR hS => ?_)
    rw [hp_4] at hR
    refine lv_aload_n hx hcb dX10_readSection_30 rfl (lv_at hl 1 rfl) ?_
    refine lv_iload_n hx hcb dX10_readSection_31 rfl (lv_at hl 0 rfl) ?_
    refine lv_iconst (v := (nI 4)) hx hcb dX10_readSection_32 (by decide) ?_
    refine lv_icmp_ne (tgt := 40) hx hcb dX10_readSection_33 (by decide) (fun c_5 => ?_) (fun c_5 => ?_)
    · skip
      have c_5 : ¬ (mQ z 13) = 4 := fun h_ => c_5 ((nI_eq (by omega) (by omega)).mpr h_)
      have hB_ : ¬ mQ z 13 = 4 := c_5
      refine lv_iconst (v := (nI 0)) hx hcb dX10_readSection_40 (by decide) ?_
      refine lv_bipush (v := (-16)) hx hcb dX10_readSection_41 (by decide) ?_
      refine x_cv0 rfl rfl (x_runV hx hcb hml hown hts (c_X10_failsIf l G w hw (fiZ z (0 < yQ z) (-15)) _ 0 (-16) (mQ z 13 = 4) (by first | (rw [if_pos hB_]; first | done | rfl) | (rw [if_neg hB_]; first | done | rfl))) mv_X10_failsIf q_1308 hK hZ hR hS (hw.lo (by decide)) xc10 (hw.s0 rfl) rfl hl.1 rfl (Nat.le_of_ble_eq_true rfl) dX10_readSection_43 ⟨by decide, by decide⟩ ⟨by decide, by decide⟩) hS (fun z_7 H locs hp_8 hR hS => ?_)
      rw [hp_8] at hR
      refine lv_aload_n hx hcb dX10_readSection_46 rfl (lv_at hl 1 rfl) ?_
      refine x_cv0 rfl rfl (x_runV hx hcb hml hown hts (c_X10_goOn l G w hw (fiZ (fiZ z (0 < yQ z) (-15)) (mQ z 13 = 4) (-16)) _ hT.fi.fi.1) mv_X10_goOn q_1312 hK hZ hR hS (hw.lo (by decide)) xc10 (hw.s0 rfl) rfl hl.1 rfl (Nat.le_of_ble_eq_true rfl) dX10_readSection_47 ⟨by decide, by decide⟩ ⟨by decide, by decide⟩) hS (fun z_10 H locs hp_11 hR hS => ?_)
      rw [hp_11] at hR
      refine lv_aload_n hx hcb dX10_readSection_50 rfl (lv_at hl 1 rfl) ?_
      refine x_ci0 rfl rfl (x_runV hx hcb hml hown hts (c_X10_newName l G w hw (goZ (fiZ (fiZ z (0 < yQ z) (-15)) (mQ z 13 = 4) (-16))) _ (go_ok hT.fi.fi) ((go_fr _).ok ((fi_fr ..).ok ((fi_fr ..).ok hO)))) mv_X10_newName q_1316 hK hZ hR hS (hw.lo (by decide)) xc10 (hw.s0 rfl) rfl hl.1 rfl (Nat.le_of_ble_eq_true rfl) dX10_readSection_51 ⟨by decide, by decide⟩ ⟨by decide, by decide⟩) hS (fun r_12 z_13 H locs hp_14 hR hS => ?_)
      rw [hp_14.2] at hR; rw [hp_14.1]
      refine x_top (show ((snZ (goZ (fiZ (fiZ z (0 < yQ z) (-15)) (mQ z 13 = 4) (-16)))).1 0 25) = (rpN z) from rfl) ?_
      rw [show nnZ (goZ (fiZ (fiZ z (0 < yQ z) (-15)) (mQ z 13 = 4) (-16))) = rpF z from rfl] at hR
      refine lv_istore_n (lv' := [(2, .int (rpN z)), (1, .int (nI (mQ z 13))), (0, .ref (w.2.2 0))]) hx hcb dX10_readSection_54 rfl hl (by decide) rfl (fun ls hl => ?_)
      refine lv_aload_n hx hcb dX10_readSection_55 rfl (lv_at hl 2 rfl) ?_
      refine x_getI hx hcb hts hown hK xc10 hR (hw.lo (by decide)) (hw.s0 rfl) 26 (by decide) rfl q_1192 dX10_readSection_56 ?_
      refine lv_if_eq (tgt := 63) hx hcb dX10_readSection_59 (by decide) (fun c_15 => ?_) (fun c_15 => ?_)
      · skip
        have hE_ : (rpF z).1 0 26 = 0 := c_15
        have hD4_ := (rpF_e hE_).2
        refine lv_aload_n hx hcb dX10_readSection_63 rfl (lv_at hl 2 rfl) ?_
        refine x_getR hx hcb hts hown hK xc10 hR (hw.lo (by decide)) (hw.s0 rfl) 3 (by decide) rfl q_1169 dX10_readSection_64 ?_
        refine lv_bipush (v := (nI 8)) hx hcb dX10_readSection_67 (by decide) ?_
        refine lv_iload_n hx hcb dX10_readSection_69 rfl (lv_at hl 1 rfl) ?_
        refine x_iaddN hx hcb dX10_readSection_70 ?_
        refine lv_iload_n hx hcb dX10_readSection_71 rfl (lv_at hl 0 rfl) ?_
        refine x_iast hx hcb hK hR hS (hw.lo (by decide)) (hw.s0 rfl) (k := (8 + (mQ z 13))) (v := (rpN z)) (by omega) (by decide) dX10_readSection_72 (fun H locs hR hS => ?_)
        refine lv_aload_n hx hcb dX10_readSection_73 rfl (lv_at hl 2 rfl) ?_
        refine x_getR hx hcb hts hown hK xc10 hR (hw.lo (by decide)) (hw.s0 rfl) 3 (by decide) rfl q_1169 dX10_readSection_74 ?_
        refine lv_bipush (v := (nI 13)) hx hcb dX10_readSection_77 (by decide) ?_
        refine lv_dup2_11 hx hcb dX10_readSection_79 rfl rfl ?_
        refine x_iald hx hcb hK hR (hw.lo (by decide)) (hw.s0 rfl) (k := 13) (by omega) (by decide) dX10_readSection_80 ?_
        refine x_top (show ((u1 (rpF z) 2 (8 + (mQ z 13)) (rpN z)).1 2 13) = (nI (mQ z 13)) from by rw [u1_sne _ _ _ (by omega), (rpF_fr z).1 2 (by decide)]; exact hO.2.2.1) ?_
        refine lv_iconst (v := (nI 1)) hx hcb dX10_readSection_81 (by decide) ?_
        refine x_iaddN hx hcb dX10_readSection_82 ?_
        refine x_iast hx hcb hK hR hS (hw.lo (by decide)) (hw.s0 rfl) (k := 13) (v := (nI ((mQ z 13) + 1))) (by omega) (by decide) dX10_readSection_83 (fun H locs hR hS => ?_)
        exact hret (u1 (u1 (rpF z) 2 (8 + (mQ z 13)) (rpN z)) 2 13 (nI ((mQ z 13) + 1))) _ _ _ _ dX10_readSection_84 hR hS (by unfold rpZ; rw [if_pos hE_])
      · skip
        have hE_ : ¬ (rpF z).1 0 26 = 0 := c_15
        exact hret (rpF z) _ _ _ _ dX10_readSection_62 hR hS (by unfold rpZ; rw [if_neg hE_])
    · skip
      have c_5 : (mQ z 13) = 4 := (nI_eq (by omega) (by omega)).mp c_5
      have hB_ : mQ z 13 = 4 := c_5
      refine lv_iconst (v := (nI 1)) hx hcb dX10_readSection_36 (by decide) ?_
      refine lv_goto (tgt := 41) hx hcb dX10_readSection_37 (by decide) ?_
      refine lv_bipush (v := (-16)) hx hcb dX10_readSection_41 (by decide) ?_
      refine x_cv0 rfl rfl (x_runV hx hcb hml hown hts (c_X10_failsIf l G w hw (fiZ z (0 < yQ z) (-15)) _ 1 (-16) (mQ z 13 = 4) (by first | (rw [if_pos hB_]; first | done | rfl) | (rw [if_neg hB_]; first | done | rfl))) mv_X10_failsIf q_1308 hK hZ hR hS (hw.lo (by decide)) xc10 (hw.s0 rfl) rfl hl.1 rfl (Nat.le_of_ble_eq_true rfl) dX10_readSection_43 ⟨by decide, by decide⟩ ⟨by decide, by decide⟩) hS (fun z_17 H locs hp_18 hR hS => ?_)
      rw [hp_18] at hR
      refine lv_aload_n hx hcb dX10_readSection_46 rfl (lv_at hl 1 rfl) ?_
      refine x_cv0 rfl rfl (x_runV hx hcb hml hown hts (c_X10_goOn l G w hw (fiZ (fiZ z (0 < yQ z) (-15)) (mQ z 13 = 4) (-16)) _ hT.fi.fi.1) mv_X10_goOn q_1312 hK hZ hR hS (hw.lo (by decide)) xc10 (hw.s0 rfl) rfl hl.1 rfl (Nat.le_of_ble_eq_true rfl) dX10_readSection_47 ⟨by decide, by decide⟩ ⟨by decide, by decide⟩) hS (fun z_20 H locs hp_21 hR hS => ?_)
      rw [hp_21] at hR
      refine lv_aload_n hx hcb dX10_readSection_50 rfl (lv_at hl 1 rfl) ?_
      refine x_ci0 rfl rfl (x_runV hx hcb hml hown hts (c_X10_newName l G w hw (goZ (fiZ (fiZ z (0 < yQ z) (-15)) (mQ z 13 = 4) (-16))) _ (go_ok hT.fi.fi) ((go_fr _).ok ((fi_fr ..).ok ((fi_fr ..).ok hO)))) mv_X10_newName q_1316 hK hZ hR hS (hw.lo (by decide)) xc10 (hw.s0 rfl) rfl hl.1 rfl (Nat.le_of_ble_eq_true rfl) dX10_readSection_51 ⟨by decide, by decide⟩ ⟨by decide, by decide⟩) hS (fun r_22 z_23 H locs hp_24 hR hS => ?_)
      rw [hp_24.2] at hR; rw [hp_24.1]
      refine x_top (show ((snZ (goZ (fiZ (fiZ z (0 < yQ z) (-15)) (mQ z 13 = 4) (-16)))).1 0 25) = (rpN z) from rfl) ?_
      rw [show nnZ (goZ (fiZ (fiZ z (0 < yQ z) (-15)) (mQ z 13 = 4) (-16))) = rpF z from rfl] at hR
      refine lv_istore_n (lv' := [(2, .int (rpN z)), (1, .int (nI (mQ z 13))), (0, .ref (w.2.2 0))]) hx hcb dX10_readSection_54 rfl hl (by decide) rfl (fun ls hl => ?_)
      refine lv_aload_n hx hcb dX10_readSection_55 rfl (lv_at hl 2 rfl) ?_
      refine x_getI hx hcb hts hown hK xc10 hR (hw.lo (by decide)) (hw.s0 rfl) 26 (by decide) rfl q_1192 dX10_readSection_56 ?_
      refine lv_if_eq (tgt := 63) hx hcb dX10_readSection_59 (by decide) (fun c_25 => ?_) (fun c_25 => ?_)
      · skip
        have hE_ : (rpF z).1 0 26 = 0 := c_25
        have hD4_ := (rpF_e hE_).2
        refine lv_aload_n hx hcb dX10_readSection_63 rfl (lv_at hl 2 rfl) ?_
        refine x_getR hx hcb hts hown hK xc10 hR (hw.lo (by decide)) (hw.s0 rfl) 3 (by decide) rfl q_1169 dX10_readSection_64 ?_
        refine lv_bipush (v := (nI 8)) hx hcb dX10_readSection_67 (by decide) ?_
        refine lv_iload_n hx hcb dX10_readSection_69 rfl (lv_at hl 1 rfl) ?_
        refine x_iaddN hx hcb dX10_readSection_70 ?_
        refine lv_iload_n hx hcb dX10_readSection_71 rfl (lv_at hl 0 rfl) ?_
        refine x_iast hx hcb hK hR hS (hw.lo (by decide)) (hw.s0 rfl) (k := (8 + (mQ z 13))) (v := (rpN z)) (by omega) (by decide) dX10_readSection_72 (fun H locs hR hS => ?_)
        refine lv_aload_n hx hcb dX10_readSection_73 rfl (lv_at hl 2 rfl) ?_
        refine x_getR hx hcb hts hown hK xc10 hR (hw.lo (by decide)) (hw.s0 rfl) 3 (by decide) rfl q_1169 dX10_readSection_74 ?_
        refine lv_bipush (v := (nI 13)) hx hcb dX10_readSection_77 (by decide) ?_
        refine lv_dup2_11 hx hcb dX10_readSection_79 rfl rfl ?_
        refine x_iald hx hcb hK hR (hw.lo (by decide)) (hw.s0 rfl) (k := 13) (by omega) (by decide) dX10_readSection_80 ?_
        refine x_top (show ((u1 (rpF z) 2 (8 + (mQ z 13)) (rpN z)).1 2 13) = (nI (mQ z 13)) from by rw [u1_sne _ _ _ (by omega), (rpF_fr z).1 2 (by decide)]; exact hO.2.2.1) ?_
        refine lv_iconst (v := (nI 1)) hx hcb dX10_readSection_81 (by decide) ?_
        refine x_iaddN hx hcb dX10_readSection_82 ?_
        refine x_iast hx hcb hK hR hS (hw.lo (by decide)) (hw.s0 rfl) (k := 13) (v := (nI ((mQ z 13) + 1))) (by omega) (by decide) dX10_readSection_83 (fun H locs hR hS => ?_)
        exact hret (u1 (u1 (rpF z) 2 (8 + (mQ z 13)) (rpN z)) 2 13 (nI ((mQ z 13) + 1))) _ _ _ _ dX10_readSection_84 hR hS (by unfold rpZ; rw [if_pos hE_])
      · skip
        have hE_ : ¬ (rpF z).1 0 26 = 0 := c_25
        exact hret (rpF z) _ _ _ _ dX10_readSection_62 hR hS (by unfold rpZ; rw [if_neg hE_])
  · skip
    have c_1 : ¬ (yQ z) ≤ 0 := fun h_ => c_1 ((nI_leI (a := (yQ z)) (b := 0) (by omega) (by omega)).mpr h_)
    have hA_ : 0 < yQ z := by omega
    refine lv_iconst (v := (nI 1)) hx hcb dX10_readSection_20 (by decide) ?_
    refine lv_goto (tgt := 25) hx hcb dX10_readSection_21 (by decide) ?_
    refine lv_bipush (v := (-15)) hx hcb dX10_readSection_25 (by decide) ?_
    refine x_cv0 rfl rfl (x_runV hx hcb hml hown hts (c_X10_failsIf l G w hw z _ 1 (-15) (0 < yQ z) (by first | (rw [if_pos hA_]; first | done | rfl) | (rw [if_neg hA_]; first | done | rfl))) mv_X10_failsIf q_1308 hK hZ hR hS (hw.lo (by decide)) xc10 (hw.s0 rfl) rfl hl.1 rfl (Nat.le_of_ble_eq_true rfl) dX10_readSection_27 ⟨by decide, by decide⟩ ⟨by decide, by decide⟩) hS (fun z_27 H locs hp_28 hR hS => ?_)
    rw [hp_28] at hR
    refine lv_aload_n hx hcb dX10_readSection_30 rfl (lv_at hl 1 rfl) ?_
    refine lv_iload_n hx hcb dX10_readSection_31 rfl (lv_at hl 0 rfl) ?_
    refine lv_iconst (v := (nI 4)) hx hcb dX10_readSection_32 (by decide) ?_
    refine lv_icmp_ne (tgt := 40) hx hcb dX10_readSection_33 (by decide) (fun c_29 => ?_) (fun c_29 => ?_)
    · skip
      have c_29 : ¬ (mQ z 13) = 4 := fun h_ => c_29 ((nI_eq (by omega) (by omega)).mpr h_)
      have hB_ : ¬ mQ z 13 = 4 := c_29
      refine lv_iconst (v := (nI 0)) hx hcb dX10_readSection_40 (by decide) ?_
      refine lv_bipush (v := (-16)) hx hcb dX10_readSection_41 (by decide) ?_
      refine x_cv0 rfl rfl (x_runV hx hcb hml hown hts (c_X10_failsIf l G w hw (fiZ z (0 < yQ z) (-15)) _ 0 (-16) (mQ z 13 = 4) (by first | (rw [if_pos hB_]; first | done | rfl) | (rw [if_neg hB_]; first | done | rfl))) mv_X10_failsIf q_1308 hK hZ hR hS (hw.lo (by decide)) xc10 (hw.s0 rfl) rfl hl.1 rfl (Nat.le_of_ble_eq_true rfl) dX10_readSection_43 ⟨by decide, by decide⟩ ⟨by decide, by decide⟩) hS (fun z_31 H locs hp_32 hR hS => ?_)
      rw [hp_32] at hR
      refine lv_aload_n hx hcb dX10_readSection_46 rfl (lv_at hl 1 rfl) ?_
      refine x_cv0 rfl rfl (x_runV hx hcb hml hown hts (c_X10_goOn l G w hw (fiZ (fiZ z (0 < yQ z) (-15)) (mQ z 13 = 4) (-16)) _ hT.fi.fi.1) mv_X10_goOn q_1312 hK hZ hR hS (hw.lo (by decide)) xc10 (hw.s0 rfl) rfl hl.1 rfl (Nat.le_of_ble_eq_true rfl) dX10_readSection_47 ⟨by decide, by decide⟩ ⟨by decide, by decide⟩) hS (fun z_34 H locs hp_35 hR hS => ?_)
      rw [hp_35] at hR
      refine lv_aload_n hx hcb dX10_readSection_50 rfl (lv_at hl 1 rfl) ?_
      refine x_ci0 rfl rfl (x_runV hx hcb hml hown hts (c_X10_newName l G w hw (goZ (fiZ (fiZ z (0 < yQ z) (-15)) (mQ z 13 = 4) (-16))) _ (go_ok hT.fi.fi) ((go_fr _).ok ((fi_fr ..).ok ((fi_fr ..).ok hO)))) mv_X10_newName q_1316 hK hZ hR hS (hw.lo (by decide)) xc10 (hw.s0 rfl) rfl hl.1 rfl (Nat.le_of_ble_eq_true rfl) dX10_readSection_51 ⟨by decide, by decide⟩ ⟨by decide, by decide⟩) hS (fun r_36 z_37 H locs hp_38 hR hS => ?_)
      rw [hp_38.2] at hR; rw [hp_38.1]
      refine x_top (show ((snZ (goZ (fiZ (fiZ z (0 < yQ z) (-15)) (mQ z 13 = 4) (-16)))).1 0 25) = (rpN z) from rfl) ?_
      rw [show nnZ (goZ (fiZ (fiZ z (0 < yQ z) (-15)) (mQ z 13 = 4) (-16))) = rpF z from rfl] at hR
      refine lv_istore_n (lv' := [(2, .int (rpN z)), (1, .int (nI (mQ z 13))), (0, .ref (w.2.2 0))]) hx hcb dX10_readSection_54 rfl hl (by decide) rfl (fun ls hl => ?_)
      refine lv_aload_n hx hcb dX10_readSection_55 rfl (lv_at hl 2 rfl) ?_
      refine x_getI hx hcb hts hown hK xc10 hR (hw.lo (by decide)) (hw.s0 rfl) 26 (by decide) rfl q_1192 dX10_readSection_56 ?_
      refine lv_if_eq (tgt := 63) hx hcb dX10_readSection_59 (by decide) (fun c_39 => ?_) (fun c_39 => ?_)
      · skip
        have hE_ : (rpF z).1 0 26 = 0 := c_39
        have hD4_ := (rpF_e hE_).2
        refine lv_aload_n hx hcb dX10_readSection_63 rfl (lv_at hl 2 rfl) ?_
        refine x_getR hx hcb hts hown hK xc10 hR (hw.lo (by decide)) (hw.s0 rfl) 3 (by decide) rfl q_1169 dX10_readSection_64 ?_
        refine lv_bipush (v := (nI 8)) hx hcb dX10_readSection_67 (by decide) ?_
        refine lv_iload_n hx hcb dX10_readSection_69 rfl (lv_at hl 1 rfl) ?_
        refine x_iaddN hx hcb dX10_readSection_70 ?_
        refine lv_iload_n hx hcb dX10_readSection_71 rfl (lv_at hl 0 rfl) ?_
        refine x_iast hx hcb hK hR hS (hw.lo (by decide)) (hw.s0 rfl) (k := (8 + (mQ z 13))) (v := (rpN z)) (by omega) (by decide) dX10_readSection_72 (fun H locs hR hS => ?_)
        refine lv_aload_n hx hcb dX10_readSection_73 rfl (lv_at hl 2 rfl) ?_
        refine x_getR hx hcb hts hown hK xc10 hR (hw.lo (by decide)) (hw.s0 rfl) 3 (by decide) rfl q_1169 dX10_readSection_74 ?_
        refine lv_bipush (v := (nI 13)) hx hcb dX10_readSection_77 (by decide) ?_
        refine lv_dup2_11 hx hcb dX10_readSection_79 rfl rfl ?_
        refine x_iald hx hcb hK hR (hw.lo (by decide)) (hw.s0 rfl) (k := 13) (by omega) (by decide) dX10_readSection_80 ?_
        refine x_top (show ((u1 (rpF z) 2 (8 + (mQ z 13)) (rpN z)).1 2 13) = (nI (mQ z 13)) from by rw [u1_sne _ _ _ (by omega), (rpF_fr z).1 2 (by decide)]; exact hO.2.2.1) ?_
        refine lv_iconst (v := (nI 1)) hx hcb dX10_readSection_81 (by decide) ?_
        refine x_iaddN hx hcb dX10_readSection_82 ?_
        refine x_iast hx hcb hK hR hS (hw.lo (by decide)) (hw.s0 rfl) (k := 13) (v := (nI ((mQ z 13) + 1))) (by omega) (by decide) dX10_readSection_83 (fun H locs hR hS => ?_)
        exact hret (u1 (u1 (rpF z) 2 (8 + (mQ z 13)) (rpN z)) 2 13 (nI ((mQ z 13) + 1))) _ _ _ _ dX10_readSection_84 hR hS (by unfold rpZ; rw [if_pos hE_])
      · skip
        have hE_ : ¬ (rpF z).1 0 26 = 0 := c_39
        exact hret (rpF z) _ _ _ _ dX10_readSection_62 hR hS (by unfold rpZ; rw [if_neg hE_])
    · skip
      have c_29 : (mQ z 13) = 4 := (nI_eq (by omega) (by omega)).mp c_29
      have hB_ : mQ z 13 = 4 := c_29
      refine lv_iconst (v := (nI 1)) hx hcb dX10_readSection_36 (by decide) ?_
      refine lv_goto (tgt := 41) hx hcb dX10_readSection_37 (by decide) ?_
      refine lv_bipush (v := (-16)) hx hcb dX10_readSection_41 (by decide) ?_
      refine x_cv0 rfl rfl (x_runV hx hcb hml hown hts (c_X10_failsIf l G w hw (fiZ z (0 < yQ z) (-15)) _ 1 (-16) (mQ z 13 = 4) (by first | (rw [if_pos hB_]; first | done | rfl) | (rw [if_neg hB_]; first | done | rfl))) mv_X10_failsIf q_1308 hK hZ hR hS (hw.lo (by decide)) xc10 (hw.s0 rfl) rfl hl.1 rfl (Nat.le_of_ble_eq_true rfl) dX10_readSection_43 ⟨by decide, by decide⟩ ⟨by decide, by decide⟩) hS (fun z_41 H locs hp_42 hR hS => ?_)
      rw [hp_42] at hR
      refine lv_aload_n hx hcb dX10_readSection_46 rfl (lv_at hl 1 rfl) ?_
      refine x_cv0 rfl rfl (x_runV hx hcb hml hown hts (c_X10_goOn l G w hw (fiZ (fiZ z (0 < yQ z) (-15)) (mQ z 13 = 4) (-16)) _ hT.fi.fi.1) mv_X10_goOn q_1312 hK hZ hR hS (hw.lo (by decide)) xc10 (hw.s0 rfl) rfl hl.1 rfl (Nat.le_of_ble_eq_true rfl) dX10_readSection_47 ⟨by decide, by decide⟩ ⟨by decide, by decide⟩) hS (fun z_44 H locs hp_45 hR hS => ?_)
      rw [hp_45] at hR
      refine lv_aload_n hx hcb dX10_readSection_50 rfl (lv_at hl 1 rfl) ?_
      refine x_ci0 rfl rfl (x_runV hx hcb hml hown hts (c_X10_newName l G w hw (goZ (fiZ (fiZ z (0 < yQ z) (-15)) (mQ z 13 = 4) (-16))) _ (go_ok hT.fi.fi) ((go_fr _).ok ((fi_fr ..).ok ((fi_fr ..).ok hO)))) mv_X10_newName q_1316 hK hZ hR hS (hw.lo (by decide)) xc10 (hw.s0 rfl) rfl hl.1 rfl (Nat.le_of_ble_eq_true rfl) dX10_readSection_51 ⟨by decide, by decide⟩ ⟨by decide, by decide⟩) hS (fun r_46 z_47 H locs hp_48 hR hS => ?_)
      rw [hp_48.2] at hR; rw [hp_48.1]
      refine x_top (show ((snZ (goZ (fiZ (fiZ z (0 < yQ z) (-15)) (mQ z 13 = 4) (-16)))).1 0 25) = (rpN z) from rfl) ?_
      rw [show nnZ (goZ (fiZ (fiZ z (0 < yQ z) (-15)) (mQ z 13 = 4) (-16))) = rpF z from rfl] at hR
      refine lv_istore_n (lv' := [(2, .int (rpN z)), (1, .int (nI (mQ z 13))), (0, .ref (w.2.2 0))]) hx hcb dX10_readSection_54 rfl hl (by decide) rfl (fun ls hl => ?_)
      refine lv_aload_n hx hcb dX10_readSection_55 rfl (lv_at hl 2 rfl) ?_
      refine x_getI hx hcb hts hown hK xc10 hR (hw.lo (by decide)) (hw.s0 rfl) 26 (by decide) rfl q_1192 dX10_readSection_56 ?_
      refine lv_if_eq (tgt := 63) hx hcb dX10_readSection_59 (by decide) (fun c_49 => ?_) (fun c_49 => ?_)
      · skip
        have hE_ : (rpF z).1 0 26 = 0 := c_49
        have hD4_ := (rpF_e hE_).2
        refine lv_aload_n hx hcb dX10_readSection_63 rfl (lv_at hl 2 rfl) ?_
        refine x_getR hx hcb hts hown hK xc10 hR (hw.lo (by decide)) (hw.s0 rfl) 3 (by decide) rfl q_1169 dX10_readSection_64 ?_
        refine lv_bipush (v := (nI 8)) hx hcb dX10_readSection_67 (by decide) ?_
        refine lv_iload_n hx hcb dX10_readSection_69 rfl (lv_at hl 1 rfl) ?_
        refine x_iaddN hx hcb dX10_readSection_70 ?_
        refine lv_iload_n hx hcb dX10_readSection_71 rfl (lv_at hl 0 rfl) ?_
        refine x_iast hx hcb hK hR hS (hw.lo (by decide)) (hw.s0 rfl) (k := (8 + (mQ z 13))) (v := (rpN z)) (by omega) (by decide) dX10_readSection_72 (fun H locs hR hS => ?_)
        refine lv_aload_n hx hcb dX10_readSection_73 rfl (lv_at hl 2 rfl) ?_
        refine x_getR hx hcb hts hown hK xc10 hR (hw.lo (by decide)) (hw.s0 rfl) 3 (by decide) rfl q_1169 dX10_readSection_74 ?_
        refine lv_bipush (v := (nI 13)) hx hcb dX10_readSection_77 (by decide) ?_
        refine lv_dup2_11 hx hcb dX10_readSection_79 rfl rfl ?_
        refine x_iald hx hcb hK hR (hw.lo (by decide)) (hw.s0 rfl) (k := 13) (by omega) (by decide) dX10_readSection_80 ?_
        refine x_top (show ((u1 (rpF z) 2 (8 + (mQ z 13)) (rpN z)).1 2 13) = (nI (mQ z 13)) from by rw [u1_sne _ _ _ (by omega), (rpF_fr z).1 2 (by decide)]; exact hO.2.2.1) ?_
        refine lv_iconst (v := (nI 1)) hx hcb dX10_readSection_81 (by decide) ?_
        refine x_iaddN hx hcb dX10_readSection_82 ?_
        refine x_iast hx hcb hK hR hS (hw.lo (by decide)) (hw.s0 rfl) (k := 13) (v := (nI ((mQ z 13) + 1))) (by omega) (by decide) dX10_readSection_83 (fun H locs hR hS => ?_)
        exact hret (u1 (u1 (rpF z) 2 (8 + (mQ z 13)) (rpN z)) 2 13 (nI ((mQ z 13) + 1))) _ _ _ _ dX10_readSection_84 hR hS (by unfold rpZ; rw [if_pos hE_])
      · skip
        have hE_ : ¬ (rpF z).1 0 26 = 0 := c_49
        exact hret (rpF z) _ _ _ _ dX10_readSection_62 hR hS (by unfold rpZ; rw [if_neg hE_])
def rm_X10_readTrade : Room := { frames := 8, cells := 0, slots := 0, locals := 172 }
set_option maxRecDepth 100000 in
set_option maxHeartbeats 4000000 in
theorem c_X10_readTrade (l : Launch) (G : xGl) (w : xWd) (hw : isM w) (z : xSt) (sz : Nat)  (hT : zOk z) (hO : rOk z) : xMv l yX10_readTrade cX10_readTrade 4 rm_X10_readTrade G w z sz [.ref (w.2.2 0)] (fun z1 => z1 = rtZ z) := by
  refine x_mv (by decide) (Nat.le_of_ble_eq_true rfl) ?_
  intro p e s mt args below meth c ls Q hsz X hR hS hl hret
  obtain ⟨hx, hcb, hml, hown, hts, hlk, hK, hZ⟩ := X
  have hl : lv_has ls 4 [(0, .ref (w.2.2 0))] := hl
  have hm8_ := hO.2.1
  have hd4_ := hO.2.2.2.1
  have hml_ : rtM z < 8 := on_lt hm8_
  have hdl_ : rtD z < 8 := on_lt (by omega)
  refine lv_aload_n hx hcb dX10_readTrade_0 rfl (lv_at hl 0 rfl) ?_
  refine x_cv0 rfl rfl (x_runV hx hcb hml hown hts (c_X10_goOn l G w hw z _ hT.1) mv_X10_goOn q_1312 hK hZ hR hS (hw.lo (by decide)) xc10 (hw.s0 rfl) rfl hl.1 rfl (Nat.le_of_ble_eq_true rfl) dX10_readTrade_1 ⟨by decide, by decide⟩ ⟨by decide, by decide⟩) hS (fun z_2 H locs hp_3 hR hS => ?_)
  rw [hp_3] at hR
  refine lv_aload_n hx hcb dX10_readTrade_4 rfl (lv_at hl 0 rfl) ?_
  refine lv_iconst (v := (nI 0)) hx hcb dX10_readTrade_5 (by decide) ?_
  refine lv_aload_n hx hcb dX10_readTrade_6 rfl (lv_at hl 0 rfl) ?_
  refine x_getR hx hcb hts hown hK xc10 hR (hw.lo (by decide)) (hw.s0 rfl) 3 (by decide) rfl q_1169 dX10_readTrade_7 ?_
  refine lv_bipush (v := (nI 12)) hx hcb dX10_readTrade_10 (by decide) ?_
  refine x_iald hx hcb hK hR (hw.lo (by decide)) (hw.s0 rfl) (k := 12) (by omega) (by decide) dX10_readTrade_12 ?_
  refine x_top (show ((goZ z).1 2 12) = (nI (mQ z 12)) from by rw [(go_fr z).1 2 (by decide)]; exact hO.1) ?_
  refine x_ci0 rfl rfl (x_runV hx hcb hml hown hts (c_X10_oldName l G w hw (goZ z) _ 0 (mQ z 12) (go_ok hT) (by omega) (by omega)) mv_X10_oldName q_1336 hK hZ hR hS (hw.lo (by decide)) xc10 (hw.s0 rfl) rfl hl.1 rfl (Nat.le_of_ble_eq_true rfl) dX10_readTrade_13 ⟨by decide, by decide⟩ ⟨by decide, by decide⟩) hS (fun r_4 z_5 H locs hp_6 hR hS => ?_)
  rw [hp_6.2] at hR; rw [hp_6.1]
  refine x_top (show (nI (onR (goZ z) 0 (mQ z 12))) = (nI (rtM z)) from rfl) ?_
  refine lv_istore_n (lv' := [(1, .int (nI (rtM z))), (0, .ref (w.2.2 0))]) hx hcb dX10_readTrade_16 rfl hl (by decide) rfl (fun ls hl => ?_)
  refine lv_aload_n hx hcb dX10_readTrade_17 rfl (lv_at hl 1 rfl) ?_
  refine lv_bipush (v := (nI 8)) hx hcb dX10_readTrade_18 (by decide) ?_
  refine lv_aload_n hx hcb dX10_readTrade_20 rfl (lv_at hl 1 rfl) ?_
  refine x_getR hx hcb hts hown hK xc10 hR (hw.lo (by decide)) (hw.s0 rfl) 3 (by decide) rfl q_1169 dX10_readTrade_21 ?_
  refine lv_bipush (v := (nI 13)) hx hcb dX10_readTrade_24 (by decide) ?_
  refine x_iald hx hcb hK hR (hw.lo (by decide)) (hw.s0 rfl) (k := 13) (by omega) (by decide) dX10_readTrade_26 ?_
  refine x_top (show ((onZ (goZ z) 0 (mQ z 12)).1 2 13) = (nI (mQ z 13)) from by rw [((go_fr z).tr (on_fr _ _ _)).1 2 (by decide)]; exact hO.2.2.1) ?_
  refine x_ci0 rfl rfl (x_runV hx hcb hml hown hts (c_X10_oldName l G w hw (onZ (goZ z) 0 (mQ z 12)) _ 8 (mQ z 13) (on_ok (go_ok hT)) (by omega) (by omega)) mv_X10_oldName q_1336 hK hZ hR hS (hw.lo (by decide)) xc10 (hw.s0 rfl) rfl hl.1 rfl (Nat.le_of_ble_eq_true rfl) dX10_readTrade_27 ⟨by decide, by decide⟩ ⟨by decide, by decide⟩) hS (fun r_7 z_8 H locs hp_9 hR hS => ?_)
  rw [hp_9.2] at hR; rw [hp_9.1]
  refine x_top (show (nI (onR (onZ (goZ z) 0 (mQ z 12)) 8 (mQ z 13))) = (nI (rtD z)) from rfl) ?_
  refine lv_istore_n (lv' := [(2, .int (nI (rtD z))), (1, .int (nI (rtM z))), (0, .ref (w.2.2 0))]) hx hcb dX10_readTrade_30 rfl hl (by decide) rfl (fun ls hl => ?_)
  refine lv_aload_n hx hcb dX10_readTrade_31 rfl (lv_at hl 2 rfl) ?_
  refine lv_iconst (v := (nI 1)) hx hcb dX10_readTrade_32 (by decide) ?_
  refine lv_ldc (v := (nI 100000)) hx hcb hown (hts _ q_1340) dX10_readTrade_33 ?_
  refine x_ci0 rfl rfl (x_runV hx hcb hml hown hts (c_X10_figure l G w hw (onZ (onZ (goZ z) 0 (mQ z 12)) 8 (mQ z 13)) _ 1 100000) mv_X10_figure q_1341 hK hZ hR hS (hw.lo (by decide)) xc10 (hw.s0 rfl) rfl hl.1 rfl (Nat.le_of_ble_eq_true rfl) dX10_readTrade_35 ⟨by decide, by decide⟩ ⟨by decide, by decide⟩) hS (fun r_10 z_11 H locs hp_12 hR hS => ?_)
  rw [hp_12.2] at hR; rw [hp_12.1]
  refine x_top (show (fgR (onZ (onZ (goZ z) 0 (mQ z 12)) 8 (mQ z 13)) 1 100000) = (rtA z) from rfl) ?_
  rw [show fgZ (onZ (onZ (goZ z) 0 (mQ z 12)) 8 (mQ z 13)) 1 100000 = rt4 z from rfl] at hR
  refine lv_istore_n (lv' := [(3, .int (rtA z)), (2, .int (nI (rtD z))), (1, .int (nI (rtM z))), (0, .ref (w.2.2 0))]) hx hcb dX10_readTrade_38 rfl hl (by decide) rfl (fun ls hl => ?_)
  refine lv_aload_n hx hcb dX10_readTrade_39 rfl (lv_at hl 3 rfl) ?_
  refine lv_aload_n hx hcb dX10_readTrade_40 rfl (lv_at hl 3 rfl) ?_
  refine x_getI hx hcb hts hown hK xc10 hR (hw.lo (by decide)) (hw.s0 rfl) 26 (by decide) rfl q_1192 dX10_readTrade_41 ?_
  refine lv_if_ne (tgt := 71) hx hcb dX10_readTrade_44 (by decide) (fun c_13 => ?_) (fun c_13 => ?_)
  · skip
    have hB_ : ¬ ((rt4 z).1 0 26 = 0 ∧ ¬ (rt4 z).1 4 (29 + 4 * rtM z + rtD z) + rtA z ≤ nI 1000000) := fun q_ => c_13 q_.1
    refine lv_iconst (v := (nI 0)) hx hcb dX10_readTrade_71 (by decide) ?_
    refine lv_bipush (v := (-16)) hx hcb dX10_readTrade_72 (by decide) ?_
    refine x_cv0 rfl rfl (x_runV hx hcb hml hown hts (c_X10_failsIf l G w hw (rt4 z) _ 0 (-16) ((rt4 z).1 0 26 = 0 ∧ ¬ (rt4 z).1 4 (29 + 4 * rtM z + rtD z) + rtA z ≤ nI 1000000) (by first | (rw [if_pos hB_]; first | done | rfl) | (rw [if_neg hB_]; first | done | rfl))) mv_X10_failsIf q_1308 hK hZ hR hS (hw.lo (by decide)) xc10 (hw.s0 rfl) rfl hl.1 rfl (Nat.le_of_ble_eq_true rfl) dX10_readTrade_74 ⟨by decide, by decide⟩ ⟨by decide, by decide⟩) hS (fun z_15 H locs hp_16 hR hS => ?_)
    rw [hp_16] at hR
    rw [show fiZ (rt4 z) ((rt4 z).1 0 26 = 0 ∧ ¬ (rt4 z).1 4 (29 + 4 * rtM z + rtD z) + rtA z ≤ nI 1000000) (-16) = rt5 z from rfl] at hR
    refine lv_aload_n hx hcb dX10_readTrade_77 rfl (lv_at hl 3 rfl) ?_
    refine x_getI hx hcb hts hown hK xc10 hR (hw.lo (by decide)) (hw.s0 rfl) 26 (by decide) rfl q_1192 dX10_readTrade_78 ?_
    refine lv_if_ne (tgt := 101) hx hcb dX10_readTrade_81 (by decide) (fun c_17 => ?_) (fun c_17 => ?_)
    · skip
      have hE5_ : ¬ (rt5 z).1 0 26 = 0 := c_17
      rw [show rt5 z = rt6 z from (if_neg hE5_).symm] at hR
      refine lv_aload_n hx hcb dX10_readTrade_101 rfl (lv_at hl 3 rfl) ?_
      refine x_cv0 rfl rfl (x_runV hx hcb hml hown hts (c_X10_goOn l G w hw (rt6 z) _ ((rt6_ok hT).1)) mv_X10_goOn q_1312 hK hZ hR hS (hw.lo (by decide)) xc10 (hw.s0 rfl) rfl hl.1 rfl (Nat.le_of_ble_eq_true rfl) dX10_readTrade_102 ⟨by decide, by decide⟩ ⟨by decide, by decide⟩) hS (fun z_19 H locs hp_20 hR hS => ?_)
      rw [hp_20] at hR
      exact hret (goZ (rt6 z)) _ _ _ _ dX10_readTrade_105 hR hS rfl
    · skip
      have hE5_ : (rt5 z).1 0 26 = 0 := c_17
      refine lv_aload_n hx hcb dX10_readTrade_84 rfl (lv_at hl 3 rfl) ?_
      refine x_getR hx hcb hts hown hK xc10 hR (hw.lo (by decide)) (hw.s0 rfl) 5 (by decide) rfl q_1171 dX10_readTrade_85 ?_
      refine lv_bipush (v := (nI 29)) hx hcb dX10_readTrade_88 (by decide) ?_
      refine lv_iconst (v := (nI 4)) hx hcb dX10_readTrade_90 (by decide) ?_
      refine lv_iload_n hx hcb dX10_readTrade_91 rfl (lv_at hl 2 rfl) ?_
      refine x_imulN hx hcb dX10_readTrade_92 ?_
      refine x_iaddN hx hcb dX10_readTrade_93 ?_
      refine lv_iload_n hx hcb dX10_readTrade_94 rfl (lv_at hl 1 rfl) ?_
      refine x_iaddN hx hcb dX10_readTrade_95 ?_
      refine lv_dup2_11 hx hcb dX10_readTrade_96 rfl rfl ?_
      refine x_iald hx hcb hK hR (hw.lo (by decide)) (hw.s0 rfl) (k := ((29 + (4 * (rtM z))) + (rtD z))) (by omega) (by decide) dX10_readTrade_97 ?_
      refine lv_iload_n hx hcb dX10_readTrade_98 rfl (lv_at hl 0 rfl) ?_
      refine lv_iadd hx hcb dX10_readTrade_99 ?_
      refine x_iast hx hcb hK hR hS (hw.lo (by decide)) (hw.s0 rfl) (k := ((29 + (4 * (rtM z))) + (rtD z))) (v := (((rt5 z).1 4 ((29 + (4 * (rtM z))) + (rtD z))) + (rtA z))) (by omega) (by decide) dX10_readTrade_100 (fun H locs hR hS => ?_)
      rw [show u1 (rt5 z) 4 ((29 + (4 * (rtM z))) + (rtD z)) (((rt5 z).1 4 ((29 + (4 * (rtM z))) + (rtD z))) + (rtA z)) = rt6 z from (if_pos hE5_).symm] at hR
      refine lv_aload_n hx hcb dX10_readTrade_101 rfl (lv_at hl 3 rfl) ?_
      refine x_cv0 rfl rfl (x_runV hx hcb hml hown hts (c_X10_goOn l G w hw (rt6 z) _ ((rt6_ok hT).1)) mv_X10_goOn q_1312 hK hZ hR hS (hw.lo (by decide)) xc10 (hw.s0 rfl) rfl hl.1 rfl (Nat.le_of_ble_eq_true rfl) dX10_readTrade_102 ⟨by decide, by decide⟩ ⟨by decide, by decide⟩) hS (fun z_22 H locs hp_23 hR hS => ?_)
      rw [hp_23] at hR
      exact hret (goZ (rt6 z)) _ _ _ _ dX10_readTrade_105 hR hS rfl
  · skip
    have h1_ := c_13
    refine lv_aload_n hx hcb dX10_readTrade_47 rfl (lv_at hl 3 rfl) ?_
    refine x_getR hx hcb hts hown hK xc10 hR (hw.lo (by decide)) (hw.s0 rfl) 5 (by decide) rfl q_1171 dX10_readTrade_48 ?_
    refine lv_bipush (v := (nI 29)) hx hcb dX10_readTrade_51 (by decide) ?_
    refine lv_iconst (v := (nI 4)) hx hcb dX10_readTrade_53 (by decide) ?_
    refine lv_iload_n hx hcb dX10_readTrade_54 rfl (lv_at hl 2 rfl) ?_
    refine x_imulN hx hcb dX10_readTrade_55 ?_
    refine x_iaddN hx hcb dX10_readTrade_56 ?_
    refine lv_iload_n hx hcb dX10_readTrade_57 rfl (lv_at hl 1 rfl) ?_
    refine x_iaddN hx hcb dX10_readTrade_58 ?_
    refine x_iald hx hcb hK hR (hw.lo (by decide)) (hw.s0 rfl) (k := ((29 + (4 * (rtM z))) + (rtD z))) (by omega) (by decide) dX10_readTrade_59 ?_
    refine lv_iload_n hx hcb dX10_readTrade_60 rfl (lv_at hl 0 rfl) ?_
    refine lv_iadd hx hcb dX10_readTrade_61 ?_
    refine lv_ldc (v := (nI 1000000)) hx hcb hown (hts _ q_1345) dX10_readTrade_62 ?_
    refine lv_icmp_le (tgt := 71) hx hcb dX10_readTrade_64 (by decide) (fun c_24 => ?_) (fun c_24 => ?_)
    · skip
      have hB_ : ¬ ((rt4 z).1 0 26 = 0 ∧ ¬ (rt4 z).1 4 (29 + 4 * rtM z + rtD z) + rtA z ≤ nI 1000000) := fun q_ => q_.2 c_24
      refine lv_iconst (v := (nI 0)) hx hcb dX10_readTrade_71 (by decide) ?_
      refine lv_bipush (v := (-16)) hx hcb dX10_readTrade_72 (by decide) ?_
      refine x_cv0 rfl rfl (x_runV hx hcb hml hown hts (c_X10_failsIf l G w hw (rt4 z) _ 0 (-16) ((rt4 z).1 0 26 = 0 ∧ ¬ (rt4 z).1 4 (29 + 4 * rtM z + rtD z) + rtA z ≤ nI 1000000) (by first | (rw [if_pos hB_]; first | done | rfl) | (rw [if_neg hB_]; first | done | rfl))) mv_X10_failsIf q_1308 hK hZ hR hS (hw.lo (by decide)) xc10 (hw.s0 rfl) rfl hl.1 rfl (Nat.le_of_ble_eq_true rfl) dX10_readTrade_74 ⟨by decide, by decide⟩ ⟨by decide, by decide⟩) hS (fun z_26 H locs hp_27 hR hS => ?_)
      rw [hp_27] at hR
      rw [show fiZ (rt4 z) ((rt4 z).1 0 26 = 0 ∧ ¬ (rt4 z).1 4 (29 + 4 * rtM z + rtD z) + rtA z ≤ nI 1000000) (-16) = rt5 z from rfl] at hR
      refine lv_aload_n hx hcb dX10_readTrade_77 rfl (lv_at hl 3 rfl) ?_
      refine x_getI hx hcb hts hown hK xc10 hR (hw.lo (by decide)) (hw.s0 rfl) 26 (by decide) rfl q_1192 dX10_readTrade_78 ?_
      refine lv_if_ne (tgt := 101) hx hcb dX10_readTrade_81 (by decide) (fun c_28 => ?_) (fun c_28 => ?_)
      · skip
        have hE5_ : ¬ (rt5 z).1 0 26 = 0 := c_28
        rw [show rt5 z = rt6 z from (if_neg hE5_).symm] at hR
        refine lv_aload_n hx hcb dX10_readTrade_101 rfl (lv_at hl 3 rfl) ?_
        refine x_cv0 rfl rfl (x_runV hx hcb hml hown hts (c_X10_goOn l G w hw (rt6 z) _ ((rt6_ok hT).1)) mv_X10_goOn q_1312 hK hZ hR hS (hw.lo (by decide)) xc10 (hw.s0 rfl) rfl hl.1 rfl (Nat.le_of_ble_eq_true rfl) dX10_readTrade_102 ⟨by decide, by decide⟩ ⟨by decide, by decide⟩) hS (fun z_30 H locs hp_31 hR hS => ?_)
        rw [hp_31] at hR
        exact hret (goZ (rt6 z)) _ _ _ _ dX10_readTrade_105 hR hS rfl
      · skip
        have hE5_ : (rt5 z).1 0 26 = 0 := c_28
        refine lv_aload_n hx hcb dX10_readTrade_84 rfl (lv_at hl 3 rfl) ?_
        refine x_getR hx hcb hts hown hK xc10 hR (hw.lo (by decide)) (hw.s0 rfl) 5 (by decide) rfl q_1171 dX10_readTrade_85 ?_
        refine lv_bipush (v := (nI 29)) hx hcb dX10_readTrade_88 (by decide) ?_
        refine lv_iconst (v := (nI 4)) hx hcb dX10_readTrade_90 (by decide) ?_
        refine lv_iload_n hx hcb dX10_readTrade_91 rfl (lv_at hl 2 rfl) ?_
        refine x_imulN hx hcb dX10_readTrade_92 ?_
        refine x_iaddN hx hcb dX10_readTrade_93 ?_
        refine lv_iload_n hx hcb dX10_readTrade_94 rfl (lv_at hl 1 rfl) ?_
        refine x_iaddN hx hcb dX10_readTrade_95 ?_
        refine lv_dup2_11 hx hcb dX10_readTrade_96 rfl rfl ?_
        refine x_iald hx hcb hK hR (hw.lo (by decide)) (hw.s0 rfl) (k := ((29 + (4 * (rtM z))) + (rtD z))) (by omega) (by decide) dX10_readTrade_97 ?_
        refine lv_iload_n hx hcb dX10_readTrade_98 rfl (lv_at hl 0 rfl) ?_
        refine lv_iadd hx hcb dX10_readTrade_99 ?_
        refine x_iast hx hcb hK hR hS (hw.lo (by decide)) (hw.s0 rfl) (k := ((29 + (4 * (rtM z))) + (rtD z))) (v := (((rt5 z).1 4 ((29 + (4 * (rtM z))) + (rtD z))) + (rtA z))) (by omega) (by decide) dX10_readTrade_100 (fun H locs hR hS => ?_)
        rw [show u1 (rt5 z) 4 ((29 + (4 * (rtM z))) + (rtD z)) (((rt5 z).1 4 ((29 + (4 * (rtM z))) + (rtD z))) + (rtA z)) = rt6 z from (if_pos hE5_).symm] at hR
        refine lv_aload_n hx hcb dX10_readTrade_101 rfl (lv_at hl 3 rfl) ?_
        refine x_cv0 rfl rfl (x_runV hx hcb hml hown hts (c_X10_goOn l G w hw (rt6 z) _ ((rt6_ok hT).1)) mv_X10_goOn q_1312 hK hZ hR hS (hw.lo (by decide)) xc10 (hw.s0 rfl) rfl hl.1 rfl (Nat.le_of_ble_eq_true rfl) dX10_readTrade_102 ⟨by decide, by decide⟩ ⟨by decide, by decide⟩) hS (fun z_33 H locs hp_34 hR hS => ?_)
        rw [hp_34] at hR
        exact hret (goZ (rt6 z)) _ _ _ _ dX10_readTrade_105 hR hS rfl
    · skip
      have hB_ : ((rt4 z).1 0 26 = 0 ∧ ¬ (rt4 z).1 4 (29 + 4 * rtM z + rtD z) + rtA z ≤ nI 1000000) := ⟨h1_, c_24⟩
      refine lv_iconst (v := (nI 1)) hx hcb dX10_readTrade_67 (by decide) ?_
      refine lv_goto (tgt := 72) hx hcb dX10_readTrade_68 (by decide) ?_
      refine lv_bipush (v := (-16)) hx hcb dX10_readTrade_72 (by decide) ?_
      refine x_cv0 rfl rfl (x_runV hx hcb hml hown hts (c_X10_failsIf l G w hw (rt4 z) _ 1 (-16) ((rt4 z).1 0 26 = 0 ∧ ¬ (rt4 z).1 4 (29 + 4 * rtM z + rtD z) + rtA z ≤ nI 1000000) (by first | (rw [if_pos hB_]; first | done | rfl) | (rw [if_neg hB_]; first | done | rfl))) mv_X10_failsIf q_1308 hK hZ hR hS (hw.lo (by decide)) xc10 (hw.s0 rfl) rfl hl.1 rfl (Nat.le_of_ble_eq_true rfl) dX10_readTrade_74 ⟨by decide, by decide⟩ ⟨by decide, by decide⟩) hS (fun z_36 H locs hp_37 hR hS => ?_)
      rw [hp_37] at hR
      rw [show fiZ (rt4 z) ((rt4 z).1 0 26 = 0 ∧ ¬ (rt4 z).1 4 (29 + 4 * rtM z + rtD z) + rtA z ≤ nI 1000000) (-16) = rt5 z from rfl] at hR
      refine lv_aload_n hx hcb dX10_readTrade_77 rfl (lv_at hl 3 rfl) ?_
      refine x_getI hx hcb hts hown hK xc10 hR (hw.lo (by decide)) (hw.s0 rfl) 26 (by decide) rfl q_1192 dX10_readTrade_78 ?_
      refine lv_if_ne (tgt := 101) hx hcb dX10_readTrade_81 (by decide) (fun c_38 => ?_) (fun c_38 => ?_)
      · skip
        have hE5_ : ¬ (rt5 z).1 0 26 = 0 := c_38
        rw [show rt5 z = rt6 z from (if_neg hE5_).symm] at hR
        refine lv_aload_n hx hcb dX10_readTrade_101 rfl (lv_at hl 3 rfl) ?_
        refine x_cv0 rfl rfl (x_runV hx hcb hml hown hts (c_X10_goOn l G w hw (rt6 z) _ ((rt6_ok hT).1)) mv_X10_goOn q_1312 hK hZ hR hS (hw.lo (by decide)) xc10 (hw.s0 rfl) rfl hl.1 rfl (Nat.le_of_ble_eq_true rfl) dX10_readTrade_102 ⟨by decide, by decide⟩ ⟨by decide, by decide⟩) hS (fun z_40 H locs hp_41 hR hS => ?_)
        rw [hp_41] at hR
        exact hret (goZ (rt6 z)) _ _ _ _ dX10_readTrade_105 hR hS rfl
      · skip
        have hE5_ : (rt5 z).1 0 26 = 0 := c_38
        refine lv_aload_n hx hcb dX10_readTrade_84 rfl (lv_at hl 3 rfl) ?_
        refine x_getR hx hcb hts hown hK xc10 hR (hw.lo (by decide)) (hw.s0 rfl) 5 (by decide) rfl q_1171 dX10_readTrade_85 ?_
        refine lv_bipush (v := (nI 29)) hx hcb dX10_readTrade_88 (by decide) ?_
        refine lv_iconst (v := (nI 4)) hx hcb dX10_readTrade_90 (by decide) ?_
        refine lv_iload_n hx hcb dX10_readTrade_91 rfl (lv_at hl 2 rfl) ?_
        refine x_imulN hx hcb dX10_readTrade_92 ?_
        refine x_iaddN hx hcb dX10_readTrade_93 ?_
        refine lv_iload_n hx hcb dX10_readTrade_94 rfl (lv_at hl 1 rfl) ?_
        refine x_iaddN hx hcb dX10_readTrade_95 ?_
        refine lv_dup2_11 hx hcb dX10_readTrade_96 rfl rfl ?_
        refine x_iald hx hcb hK hR (hw.lo (by decide)) (hw.s0 rfl) (k := ((29 + (4 * (rtM z))) + (rtD z))) (by omega) (by decide) dX10_readTrade_97 ?_
        refine lv_iload_n hx hcb dX10_readTrade_98 rfl (lv_at hl 0 rfl) ?_
        refine lv_iadd hx hcb dX10_readTrade_99 ?_
        refine x_iast hx hcb hK hR hS (hw.lo (by decide)) (hw.s0 rfl) (k := ((29 + (4 * (rtM z))) + (rtD z))) (v := (((rt5 z).1 4 ((29 + (4 * (rtM z))) + (rtD z))) + (rtA z))) (by omega) (by decide) dX10_readTrade_100 (fun H locs hR hS => ?_)
        rw [show u1 (rt5 z) 4 ((29 + (4 * (rtM z))) + (rtD z)) (((rt5 z).1 4 ((29 + (4 * (rtM z))) + (rtD z))) + (rtA z)) = rt6 z from (if_pos hE5_).symm] at hR
        refine lv_aload_n hx hcb dX10_readTrade_101 rfl (lv_at hl 3 rfl) ?_
        refine x_cv0 rfl rfl (x_runV hx hcb hml hown hts (c_X10_goOn l G w hw (rt6 z) _ ((rt6_ok hT).1)) mv_X10_goOn q_1312 hK hZ hR hS (hw.lo (by decide)) xc10 (hw.s0 rfl) rfl hl.1 rfl (Nat.le_of_ble_eq_true rfl) dX10_readTrade_102 ⟨by decide, by decide⟩ ⟨by decide, by decide⟩) hS (fun z_43 H locs hp_44 hR hS => ?_)
        rw [hp_44] at hR
        exact hret (goZ (rt6 z)) _ _ _ _ dX10_readTrade_105 hR hS rfl
