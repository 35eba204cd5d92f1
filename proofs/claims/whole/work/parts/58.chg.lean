/-! THE COMPONENT: changes that can be undone -/
theorem keZ_o {K : Nat} {z : xSt} {f c b mc dc o : Nat} (h : o ≠ 2) (h2 : o < 115) : (keZ K z f c b mc dc).1 o = z.1 o := by
  unfold keZ
  rw [u1_ne _ h, cpA_out (by omega), kzE_o h (by omega)]
def slv (z : xSt) (m : Nat) (y : Int32) : xSt := if 0 < bx_sum (z.1 (oLf 0 m)) 25 then u1 (u1 z (oM 0 m) 2 1) (oM 0 m) 3 y else u1 (u1 z (oM 0 m) 2 2) (oM 0 m) 3 0
theorem adV_lo {z : xSt} {g : Nat → Int32} {n q : Nat} (h : q < 5) : (adV z g n).1 q = z.1 q := by unfold adV; rw [ur_ne _ _ (by omega), ur_ne _ _ (by omega), u1_ne _ (by omega)]
theorem psZ_lo {z : xSt} {f t q : Nat} {a : Int32} (h : q < 5) : (psZ z f t a).1 q = z.1 q := by unfold psZ psh; rw [ur_ne _ _ (by omega), shZ_ne (by omega), adV_lo h]
theorem pbY_lo {z : xSt} {bud : Int32} {n q : Nat} (h : q < 5) : ∀ y, (pbY z bud n y).1.1 q = z.1 q
  | 0 => rfl
  | y + 1 => by
    unfold pbY
    dsimp only
    rw [psZ_lo h]
    exact pbY_lo h y
theorem plZ_lo {z : xSt} {b mc q : Nat} {bud : Int32} (h : q < 5) : (plZ z b mc bud).1 q = z.1 q := by
  unfold plZ
  dsimp only
  split
  · rw [ur_ne _ _ (by omega), cS_hi (by omega)]
  · split
    · rw [pbY_lo h, cS_hi (by omega)]
    · split
      · rw [psZ_lo h, cS_hi (by omega)]
      · rw [ur_ne _ _ (by omega), cS_hi (by omega)]
def rix (f c : Nat) : Nat := (f + c - 1) % 10
def rm_X9_trade : Room := { frames := 4, cells := 48, slots := 574, locals := 112 }
set_option maxRecDepth 100000 in
set_option maxHeartbeats 4000000 in
theorem c_X9_trade (l : Launch) (G : xGl) (w : xWd) (K : Nat) (hw : isC K w) (z : xSt) (sz : Nat) (x : Int32) (y : Int32) (a : Int32) (f cq : Nat) (hB : bOk z 0) (hC : cnB z 0) (hf : z.1 2 1 = nI f) (hc : z.1 2 2 = nI cq) (hf10 : f < 10) (hc10 : cq ≤ 10) (hix : kix f cq ≤ K) : xMgi l yX9_trade cX9_trade 5 (some FieldType.int) rm_X9_trade G w z sz [.ref (w.2.2 0), .int x, .int y, .int a] (fun r u => ∃ K2, isC K2 u.1 ∧ wX w u.1 sz ∧ (r, K2, u.2) = if ¬ (inR x (bN z 0 3) ∧ inR y (bN z 0 4)) then ((-1), K, z) else (if a < nI 1 ∨ ¬ a ≤ nI 100000 then ((-2), K, z) else (if ¬ z.1 (oM 0 x.toNatClampNeg) 2 = 0 then ((-4), K, z) else (if ¬ z.1 (oPt 0 x.toNatClampNeg) y.toNatClampNeg + a ≤ nI 1000000 then ((-3), K, z) else ((z.1 (oPt 0 x.toNatClampNeg) y.toNatClampNeg + a, keK K f cq, u1 (keZ K z f cq 0 (bN z 0 3) (bN z 0 4)) (oPt 0 x.toNatClampNeg) y.toNatClampNeg (z.1 (oPt 0 x.toNatClampNeg) y.toNatClampNeg + a))))))) := by
  refine x_mgi (by decide) (Nat.le_of_ble_eq_true rfl) ?_
  intro p e s mt args below meth c ls Q hsz X hR hS hl hret
  obtain ⟨hx, hcb, hml, hown, hts, hlk, hK, hZ⟩ := X
  have hl : lv_has ls 5 [(0, .ref (w.2.2 0)), (1, .int x), (2, .int y), (3, .int a)] := hl
  have hb3_ := hB.2.1
  have hb4_ := hB.2.2.2.1
  have hb5_ := hB.2.2.2.2.2
  have hK10_ := hw.2.2
  refine lv_aload_n hx hcb dX9_trade_0 rfl (lv_at hl 0 rfl) ?_
  refine lv_iload_n hx hcb dX9_trade_1 rfl (lv_at hl 1 rfl) ?_
  refine x_ci0 rfl rfl (x_runV hx hcb hml hown hts (c_X9_isMember l G w K hw z _ x hB) mv_X9_isMember q_837 hK hZ hR hS (hw.lo (by decide)) xc9 (hw.s0 (by decide) rfl) rfl hl.1 rfl (Nat.le_of_ble_eq_true rfl) dX9_trade_2 ⟨by decide, by decide⟩ ⟨by decide, by decide⟩) hS (fun r_1 z_2 H locs hp_3 hR hS => ?_)
  rw [hp_3.2] at hR; rw [hp_3.1]
  refine x_top (show (if inR x (bN z 0 3) then 1 else 0) = (if inR x (bN z 0 3) then 1 else 0) from rfl) ?_
  refine lv_if_eq (tgt := 16) hx hcb dX9_trade_5 (by decide) (fun c_4 => ?_) (fun c_4 => ?_)
  · skip
    have h1_ : ¬ (inR x (bN z 0 3)) := fun q_ => absurd c_4 (by rw [if_pos q_]; decide)
    have hA_ : ¬ (inR x (bN z 0 3) ∧ inR y (bN z 0 4)) := fun q_ => h1_ q_.1
    refine lv_iconst (v := (-1)) hx hcb dX9_trade_16 (by decide) ?_
    refine W.widen (k := 48) (n := 574) (by decide) (by decide) ?_
    exact hret (-1) w z _ _ _ _ dX9_trade_17 rfl hR hS ⟨K, hw, wX.r0, (by rw [if_pos hA_])⟩
  · skip
    have h1_ : inR x (bN z 0 3) := Classical.byContradiction (fun q_ => c_4 (if_neg q_))
    refine lv_aload_n hx hcb dX9_trade_8 rfl (lv_at hl 0 rfl) ?_
    refine lv_iload_n hx hcb dX9_trade_9 rfl (lv_at hl 2 rfl) ?_
    refine x_ci0 rfl rfl (x_runV hx hcb hml hown hts (c_X9_isDepartment l G w K hw z _ y hB) mv_X9_isDepartment q_841 hK hZ hR hS (hw.lo (by decide)) xc9 (hw.s0 (by decide) rfl) rfl hl.1 rfl (Nat.le_of_ble_eq_true rfl) dX9_trade_10 ⟨by decide, by decide⟩ ⟨by decide, by decide⟩) hS (fun r_5 z_6 H locs hp_7 hR hS => ?_)
    rw [hp_7.2] at hR; rw [hp_7.1]
    refine x_top (show (if inR y (bN z 0 4) then 1 else 0) = (if inR y (bN z 0 4) then 1 else 0) from rfl) ?_
    refine lv_if_ne (tgt := 18) hx hcb dX9_trade_13 (by decide) (fun c_8 => ?_) (fun c_8 => ?_)
    · skip
      have h2_ : inR y (bN z 0 4) := Classical.byContradiction (fun q_ => c_8 (if_neg q_))
      have hA_ : ¬ ¬ (inR x (bN z 0 3) ∧ inR y (bN z 0 4)) := fun q_ => q_ ⟨h1_, h2_⟩
      have hxk_ := inR_k (n := bN z 0 3) (by omega) h1_
      obtain ⟨k_, ek_⟩ : ∃ q_, q_ = x.toNatClampNeg := ⟨_, rfl⟩
      rw [← ek_] at hxk_
      have hltk_ := hxk_.2
      rw [hxk_.1] at hl
      have hxj_ := inR_k (n := bN z 0 4) (by omega) h2_
      obtain ⟨j_, ej_⟩ : ∃ q_, q_ = y.toNatClampNeg := ⟨_, rfl⟩
      rw [← ej_] at hxj_
      have hltj_ := hxj_.2
      rw [hxj_.1] at hl
      refine lv_iload_n hx hcb dX9_trade_18 rfl (lv_at hl 3 rfl) ?_
      refine lv_iconst (v := (nI 1)) hx hcb dX9_trade_19 (by decide) ?_
      refine lv_icmp_lt (tgt := 29) hx hcb dX9_trade_20 (by decide) (fun c_9 => ?_) (fun c_9 => ?_)
      · skip
        have hB_ : a < nI 1 ∨ ¬ a ≤ nI 100000 := Or.inl c_9
        refine lv_bipush (v := (-2)) hx hcb dX9_trade_29 (by decide) ?_
        refine W.widen (k := 48) (n := 574) (by decide) (by decide) ?_
        exact hret (-2) w z _ _ _ _ dX9_trade_31 rfl hR hS ⟨K, hw, wX.r0, (by rw [if_neg hA_, if_pos hB_])⟩
      · skip
        have hB0_ := c_9
        refine lv_iload_n hx hcb dX9_trade_23 rfl (lv_at hl 3 rfl) ?_
        refine lv_ldc (v := (nI 100000)) hx hcb hown (hts _ q_845) dX9_trade_24 ?_
        refine lv_icmp_le (tgt := 32) hx hcb dX9_trade_26 (by decide) (fun c_10 => ?_) (fun c_10 => ?_)
        · skip
          have hB_ : ¬ (a < nI 1 ∨ ¬ a ≤ nI 100000) := fun q_ => q_.elim hB0_ (fun t_ => t_ c_10)
          refine lv_aload_n hx hcb dX9_trade_32 rfl (lv_at hl 0 rfl) ?_
          refine x_getR hx hcb hts hown hK xc9 hR (hw.lo (by decide)) (hw.s0 (by decide) rfl) 0 (by decide) rfl q_376 dX9_trade_33 ?_
          refine x_getR hx hcb hts hown hK xc0 hR (hoB hw (by omega)) (hsB hw) 0 (by decide) rfl q_259 dX9_trade_36 ?_
          refine lv_iload_n hx hcb dX9_trade_39 rfl (lv_at hl 1 rfl) ?_
          have hk_40 : k_ < 8 := (by omega)
          refine x_aald hx hcb hK hR (hoMs hw (by omega)) (hsMs hw) rfl (oMs_at hk_40) (Nat.lt_of_lt_of_le (Nat.lt_succ_self _) (Nat.le_of_ble_eq_true rfl)) dX9_trade_40 ?_
          refine lv_astore (lv' := [(4, .ref (w.2.2 (oM 0 k_))), (0, .ref (w.2.2 0)), (1, .int (nI k_)), (2, .int (nI j_)), (3, .int a)]) hx hcb dX9_trade_41 hl (by decide) rfl (fun ls hl => ?_)
          refine lv_aload hx hcb dX9_trade_43 (lv_at hl 0 rfl) ?_
          refine x_getI hx hcb hts hown hK xc5 hR (hoM hw (by omega) hk_40) (hsM hw hk_40) 2 (by decide) rfl q_186 dX9_trade_45 ?_
          refine lv_if_eq (tgt := 54) hx hcb dX9_trade_48 (by decide) (fun c_11 => ?_) (fun c_11 => ?_)
          · skip
            have hC_ : ¬ ¬ z.1 (oM 0 k_) 2 = 0 := fun q_ => q_ c_11
            refine lv_aload hx hcb dX9_trade_54 (lv_at hl 0 rfl) ?_
            refine x_getR hx hcb hts hown hK xc5 hR (hoM hw (by omega) hk_40) (hsM hw hk_40) 6 (by decide) rfl q_199 dX9_trade_56 ?_
            refine lv_iload_n hx hcb dX9_trade_59 rfl (lv_at hl 3 rfl) ?_
            refine x_iald hx hcb hK hR (hoPt hw (by omega) hk_40) (hsPt hw hk_40) (k := j_) (by omega) (by decide) dX9_trade_60 ?_
            refine lv_iload_n hx hcb dX9_trade_61 rfl (lv_at hl 4 rfl) ?_
            refine lv_iadd hx hcb dX9_trade_62 ?_
            refine lv_ldcw (v := (nI 1000000)) hx hcb hown (hts _ q_730) dX9_trade_63 ?_
            refine lv_icmp_le (tgt := 72) hx hcb dX9_trade_66 (by decide) (fun c_12 => ?_) (fun c_12 => ?_)
            · skip
              have hD_ : ¬ ¬ z.1 (oPt 0 k_) j_ + a ≤ nI 1000000 := fun q_ => q_ c_12
              refine lv_aload_n hx hcb dX9_trade_72 rfl (lv_at hl 1 rfl) ?_
              refine x_getR hx hcb hts hown hK xc9 hR (hw.lo (by decide)) (hw.s0 (by decide) rfl) 3 (by decide) rfl q_379 dX9_trade_73 ?_
              refine lv_aload_n hx hcb dX9_trade_76 rfl (lv_at hl 1 rfl) ?_
              refine x_getR hx hcb hts hown hK xc9 hR (hw.lo (by decide)) (hw.s0 (by decide) rfl) 0 (by decide) rfl q_376 dX9_trade_77 ?_
              have hsl_ := hS.1
              refine x_cgv (x_runV hx hcb hml hown hts (c_X3_keep l G w K hw z _ 0 (by omega) f cq (bN z 0 3) (bN z 0 4) hf hc hf10 hc10 hix (by omega) hB.1 hb3_ hB.2.2.1 hb4_ (fun m hm => hC m (by omega))) mv_X3_keep q_846 hK hZ hR hS (hw.lo (by decide)) xc3 (hw.s0 (by decide) rfl) rfl hl.1 rfl (Nat.le_of_ble_eq_true rfl) dX9_trade_80 ⟨by decide, by decide⟩ ⟨by decide, by decide⟩) hS (fun w2 z_14 H locs hp_15 hR hS => ?_)
              have hw2 : isC (keK K f cq) w2 := hp_15.1
              have hX : wX w w2 s.heap.size := hp_15.2.1.mo hsl_
              rw [show z_14 = keZ K z f cq 0 (bN z 0 3) (bN z 0 4) from hp_15.2.2] at hR
              rw [← hX.A] at hS
              have hZ2 : xZ (xA w2 s.heap.size) s s.heap := by rw [hX.A]; exact hZ
              rw [← hX.2.1 (oM 0 k_) (hoM hw (by omega) hk_40)] at hl
              rw [← hX.2.1 0 (hw.lo (by decide))] at hl
              refine W.widen (k := 48) (n := 574) (by decide) (by decide) ?_
              refine lv_aload hx hcb dX9_trade_83 (lv_at hl 0 rfl) ?_
              refine x_getR hx hcb hts hown hK xc5 hR (hoM hw2 (by omega) hk_40) (hsM hw2 hk_40) 6 (by decide) rfl q_199 dX9_trade_85 ?_
              refine lv_iload_n hx hcb dX9_trade_88 rfl (lv_at hl 3 rfl) ?_
              refine lv_dup2_11 hx hcb dX9_trade_89 rfl rfl ?_
              refine x_iald hx hcb hK hR (hoPt hw2 (by omega) hk_40) (hsPt hw2 hk_40) (k := j_) (by omega) (by decide) dX9_trade_90 ?_
              refine x_top (show ((keZ K z f cq 0 (bN z 0 3) (bN z 0 4)).1 (oPt 0 k_) j_) = (z.1 (oPt 0 k_) j_) from by rw [keZ_o (by (try simp only [oB, oM, oPt, oLf, oKd, oPd, oSt, oD, oMs, oDs]); omega) (by (try simp only [oB, oM, oPt, oLf, oKd, oPd, oSt, oD, oMs, oDs]); omega)]) ?_
              refine lv_iload_n hx hcb dX9_trade_91 rfl (lv_at hl 4 rfl) ?_
              refine lv_iadd hx hcb dX9_trade_92 ?_
              refine x_iast hx hcb hK hR hS (hoPt hw2 (by omega) hk_40) (hsPt hw2 hk_40) (k := j_) (v := ((z.1 (oPt 0 k_) j_) + a)) (by omega) (by decide) dX9_trade_93 (fun H locs hR hS => ?_)
              refine lv_aload hx hcb dX9_trade_94 (lv_at hl 0 rfl) ?_
              refine x_getR hx hcb hts hown hK xc5 hR (hoM hw2 (by omega) hk_40) (hsM hw2 hk_40) 6 (by decide) rfl q_199 dX9_trade_96 ?_
              refine lv_iload_n hx hcb dX9_trade_99 rfl (lv_at hl 3 rfl) ?_
              refine x_iald hx hcb hK hR (hoPt hw2 (by omega) hk_40) (hsPt hw2 hk_40) (k := j_) (by omega) (by decide) dX9_trade_100 ?_
              refine x_top (show ((u1 (keZ K z f cq 0 (bN z 0 3) (bN z 0 4)) (oPt 0 k_) j_ ((z.1 (oPt 0 k_) j_) + a)).1 (oPt 0 k_) j_) = (z.1 (oPt 0 k_) j_ + a) from by rw [u1_at, va_up_self]) ?_
              exact hret (z.1 (oPt 0 k_) j_ + a) w2 (u1 (keZ K z f cq 0 (bN z 0 3) (bN z 0 4)) (oPt 0 k_) j_ ((z.1 (oPt 0 k_) j_) + a)) _ _ _ _ dX9_trade_101 rfl hR (by rw [← hX.A]; exact hS) ⟨_, hw2, by rw [hsz]; exact hX, (by rw [if_neg hA_, if_neg hB_, ← ek_, if_neg hC_, ← ej_, if_neg hD_])⟩
            · skip
              have hD_ : ¬ z.1 (oPt 0 k_) j_ + a ≤ nI 1000000 := c_12
              refine lv_bipush (v := (-3)) hx hcb dX9_trade_69 (by decide) ?_
              refine W.widen (k := 48) (n := 574) (by decide) (by decide) ?_
              exact hret (-3) w z _ _ _ _ dX9_trade_71 rfl hR hS ⟨K, hw, wX.r0, (by rw [if_neg hA_, if_neg hB_, ← ek_, if_neg hC_, ← ej_, if_pos hD_])⟩
          · skip
            have hC_ : ¬ z.1 (oM 0 k_) 2 = 0 := c_11
            refine lv_bipush (v := (-4)) hx hcb dX9_trade_51 (by decide) ?_
            refine W.widen (k := 48) (n := 574) (by decide) (by decide) ?_
            exact hret (-4) w z _ _ _ _ dX9_trade_53 rfl hR hS ⟨K, hw, wX.r0, (by rw [if_neg hA_, if_neg hB_, ← ek_, if_pos hC_])⟩
        · skip
          have hB_ : a < nI 1 ∨ ¬ a ≤ nI 100000 := Or.inr c_10
          refine lv_bipush (v := (-2)) hx hcb dX9_trade_29 (by decide) ?_
          refine W.widen (k := 48) (n := 574) (by decide) (by decide) ?_
          exact hret (-2) w z _ _ _ _ dX9_trade_31 rfl hR hS ⟨K, hw, wX.r0, (by rw [if_neg hA_, if_pos hB_])⟩
    · skip
      have h2_ : ¬ (inR y (bN z 0 4)) := fun q_ => absurd c_8 (by rw [if_pos q_]; decide)
      have hA_ : ¬ (inR x (bN z 0 3) ∧ inR y (bN z 0 4)) := fun q_ => h2_ q_.2
      refine lv_iconst (v := (-1)) hx hcb dX9_trade_16 (by decide) ?_
      refine W.widen (k := 48) (n := 574) (by decide) (by decide) ?_
      exact hret (-1) w z _ _ _ _ dX9_trade_17 rfl hR hS ⟨K, hw, wX.r0, (by rw [if_pos hA_])⟩
def rm_X9_setSetting : Room := { frames := 4, cells := 48, slots := 574, locals := 112 }
set_option maxRecDepth 100000 in
set_option maxHeartbeats 4000000 in
theorem c_X9_setSetting (l : Launch) (G : xGl) (w : xWd) (K : Nat) (hw : isC K w) (z : xSt) (sz : Nat) (x : Int32) (v : Int32) (f cq : Nat) (hB : bOk z 0) (hC : cnB z 0) (hf : z.1 2 1 = nI f) (hc : z.1 2 2 = nI cq) (hf10 : f < 10) (hc10 : cq ≤ 10) (hix : kix f cq ≤ K) : xMgi l yX9_setSetting cX9_setSetting 4 (some FieldType.int) rm_X9_setSetting G w z sz [.ref (w.2.2 0), .int x, .int v] (fun r u => ∃ K2, isC K2 u.1 ∧ wX w u.1 sz ∧ (r, K2, u.2) = if ¬ inR x 5 ∨ ¬ (xLea x.toNatClampNeg ≤ v ∧ v ≤ xGre x.toNatClampNeg) then ((-2), K, z) else ((z.1 (oSt 0) x.toNatClampNeg, keK K f cq, u1 (keZ K z f cq 0 (bN z 0 3) (bN z 0 4)) (oSt 0) x.toNatClampNeg v))) := by
  refine x_mgi (by decide) (Nat.le_of_ble_eq_true rfl) ?_
  intro p e s mt args below meth c ls Q hsz X hR hS hl hret
  obtain ⟨hx, hcb, hml, hown, hts, hlk, hK, hZ⟩ := X
  have hl : lv_has ls 4 [(0, .ref (w.2.2 0)), (1, .int x), (2, .int v)] := hl
  have hb3_ := hB.2.1
  have hb4_ := hB.2.2.2.1
  have hb5_ := hB.2.2.2.2.2
  have hK10_ := hw.2.2
  refine lv_iload_n hx hcb dX9_setSetting_0 rfl (lv_at hl 1 rfl) ?_
  refine x_ci0 rfl rfl (x_runS hx hcb hml hown hts (c_X9_isSetting l G w K hw z _ x) ms_X9_isSetting q_702 hK hZ hR hS rfl hl.1 rfl (Nat.le_of_ble_eq_true rfl) dX9_setSetting_1 ⟨by decide, by decide⟩ ⟨by decide, by decide⟩) hS (fun r_1 z_2 H locs hp_3 hR hS => ?_)
  rw [hp_3.2] at hR; rw [hp_3.1]
  refine x_top (show (if inR x 5 then 1 else 0) = (if inR x 5 then 1 else 0) from rfl) ?_
  refine lv_if_eq (tgt := 15) hx hcb dX9_setSetting_4 (by decide) (fun c_4 => ?_) (fun c_4 => ?_)
  · skip
    have h1_ : ¬ (inR x 5) := fun q_ => absurd c_4 (by rw [if_pos q_]; decide)
    have hA_ : ¬ inR x 5 ∨ ¬ (xLea x.toNatClampNeg ≤ v ∧ v ≤ xGre x.toNatClampNeg) := Or.inl h1_
    refine lv_bipush (v := (-2)) hx hcb dX9_setSetting_15 (by decide) ?_
    refine W.widen (k := 48) (n := 574) (by decide) (by decide) ?_
    exact hret (-2) w z _ _ _ _ dX9_setSetting_17 rfl hR hS ⟨K, hw, wX.r0, (by rw [if_pos hA_])⟩
  · skip
    have h1_ : inR x 5 := Classical.byContradiction (fun q_ => c_4 (if_neg q_))
    have hxk_ := inR_k (n := 5) (by omega) h1_
    obtain ⟨k_, ek_⟩ : ∃ q_, q_ = x.toNatClampNeg := ⟨_, rfl⟩
    rw [← ek_] at hxk_
    have hltk_ := hxk_.2
    rw [hxk_.1] at hl
    refine lv_iload_n hx hcb dX9_setSetting_7 rfl (lv_at hl 1 rfl) ?_
    refine lv_iload_n hx hcb dX9_setSetting_8 rfl (lv_at hl 2 rfl) ?_
    refine x_ci0 rfl rfl (x_runS hx hcb hml hown hts (c_X9_isInRange l G w K hw z _ k_ v (by omega)) ms_X9_isInRange q_880 hK hZ hR hS rfl hl.1 rfl (Nat.le_of_ble_eq_true rfl) dX9_setSetting_9 ⟨by decide, by decide⟩ ⟨by decide, by decide⟩) hS (fun r_5 z_6 H locs hp_7 hR hS => ?_)
    rw [hp_7.2] at hR; rw [hp_7.1]
    refine x_top (show (if xLea k_ ≤ v ∧ v ≤ xGre k_ then 1 else 0) = (if (xLea k_ ≤ v ∧ v ≤ xGre k_) then 1 else 0) from rfl) ?_
    refine lv_if_ne (tgt := 18) hx hcb dX9_setSetting_12 (by decide) (fun c_8 => ?_) (fun c_8 => ?_)
    · skip
      have h2_ : (xLea k_ ≤ v ∧ v ≤ xGre k_) := Classical.byContradiction (fun q_ => c_8 (if_neg q_))
      have hA_ : ¬ (¬ inR x 5 ∨ ¬ (xLea x.toNatClampNeg ≤ v ∧ v ≤ xGre x.toNatClampNeg)) := fun q_ => q_.elim (fun t_ => t_ h1_) (fun t_ => t_ (by rw [← ek_]; exact h2_))
      refine lv_aload_n hx hcb dX9_setSetting_18 rfl (lv_at hl 0 rfl) ?_
      refine x_getR hx hcb hts hown hK xc9 hR (hw.lo (by decide)) (hw.s0 (by decide) rfl) 3 (by decide) rfl q_379 dX9_setSetting_19 ?_
      refine lv_aload_n hx hcb dX9_setSetting_22 rfl (lv_at hl 0 rfl) ?_
      refine x_getR hx hcb hts hown hK xc9 hR (hw.lo (by decide)) (hw.s0 (by decide) rfl) 0 (by decide) rfl q_376 dX9_setSetting_23 ?_
      have hsl_ := hS.1
      refine x_cgv (x_runV hx hcb hml hown hts (c_X3_keep l G w K hw z _ 0 (by omega) f cq (bN z 0 3) (bN z 0 4) hf hc hf10 hc10 hix (by omega) hB.1 hb3_ hB.2.2.1 hb4_ (fun m hm => hC m (by omega))) mv_X3_keep q_846 hK hZ hR hS (hw.lo (by decide)) xc3 (hw.s0 (by decide) rfl) rfl hl.1 rfl (Nat.le_of_ble_eq_true rfl) dX9_setSetting_26 ⟨by decide, by decide⟩ ⟨by decide, by decide⟩) hS (fun w2 z_10 H locs hp_11 hR hS => ?_)
      have hw2 : isC (keK K f cq) w2 := hp_11.1
      have hX : wX w w2 s.heap.size := hp_11.2.1.mo hsl_
      rw [show z_10 = keZ K z f cq 0 (bN z 0 3) (bN z 0 4) from hp_11.2.2] at hR
      rw [← hX.A] at hS
      have hZ2 : xZ (xA w2 s.heap.size) s s.heap := by rw [hX.A]; exact hZ
      rw [← hX.2.1 0 (hw.lo (by decide))] at hl
      refine W.widen (k := 48) (n := 574) (by decide) (by decide) ?_
      refine lv_aload_n hx hcb dX9_setSetting_29 rfl (lv_at hl 0 rfl) ?_
      refine x_getR hx hcb hts hown hK xc9 hR (hw2.lo (by decide)) (hw2.s0 (by decide) rfl) 0 (by decide) rfl q_376 dX9_setSetting_30 ?_
      refine x_getR hx hcb hts hown hK xc0 hR (hoB hw2 (by omega)) (hsB hw2) 2 (by decide) rfl q_267 dX9_setSetting_33 ?_
      refine lv_iload_n hx hcb dX9_setSetting_36 rfl (lv_at hl 1 rfl) ?_
      refine x_iald hx hcb hK hR (hoSt hw2 (by omega)) (hsSt hw2) (k := k_) (by omega) (by decide) dX9_setSetting_37 ?_
      refine x_top (show ((keZ K z f cq 0 (bN z 0 3) (bN z 0 4)).1 (oSt 0) k_) = (z.1 (oSt 0) k_) from by rw [keZ_o (by (try simp only [oB, oM, oPt, oLf, oKd, oPd, oSt, oD, oMs, oDs]); omega) (by (try simp only [oB, oM, oPt, oLf, oKd, oPd, oSt, oD, oMs, oDs]); omega)]) ?_
      refine lv_istore_n (lv' := [(3, .int (z.1 (oSt 0) k_)), (0, .ref (w2.2.2 0)), (1, .int (nI k_)), (2, .int v)]) hx hcb dX9_setSetting_38 rfl hl (by decide) rfl (fun ls hl => ?_)
      refine lv_aload_n hx hcb dX9_setSetting_39 rfl (lv_at hl 1 rfl) ?_
      refine x_getR hx hcb hts hown hK xc9 hR (hw2.lo (by decide)) (hw2.s0 (by decide) rfl) 0 (by decide) rfl q_376 dX9_setSetting_40 ?_
      refine x_getR hx hcb hts hown hK xc0 hR (hoB hw2 (by omega)) (hsB hw2) 2 (by decide) rfl q_267 dX9_setSetting_43 ?_
      refine lv_iload_n hx hcb dX9_setSetting_46 rfl (lv_at hl 2 rfl) ?_
      refine lv_iload_n hx hcb dX9_setSetting_47 rfl (lv_at hl 3 rfl) ?_
      refine x_iast hx hcb hK hR hS (hoSt hw2 (by omega)) (hsSt hw2) (k := k_) (v := v) (by omega) (by decide) dX9_setSetting_48 (fun H locs hR hS => ?_)
      refine lv_iload_n hx hcb dX9_setSetting_49 rfl (lv_at hl 0 rfl) ?_
      exact hret (z.1 (oSt 0) k_) w2 (u1 (keZ K z f cq 0 (bN z 0 3) (bN z 0 4)) (oSt 0) k_ v) _ _ _ _ dX9_setSetting_50 rfl hR (by rw [← hX.A]; exact hS) ⟨_, hw2, by rw [hsz]; exact hX, (by rw [if_neg hA_, ← ek_])⟩
    · skip
      have h2_ : ¬ ((xLea k_ ≤ v ∧ v ≤ xGre k_)) := fun q_ => absurd c_8 (by rw [if_pos q_]; decide)
      have hA_ : ¬ inR x 5 ∨ ¬ (xLea x.toNatClampNeg ≤ v ∧ v ≤ xGre x.toNatClampNeg) := Or.inr (by rw [← ek_]; exact h2_)
      refine lv_bipush (v := (-2)) hx hcb dX9_setSetting_15 (by decide) ?_
      refine W.widen (k := 48) (n := 574) (by decide) (by decide) ?_
      exact hret (-2) w z _ _ _ _ dX9_setSetting_17 rfl hR hS ⟨K, hw, wX.r0, (by rw [if_pos hA_])⟩
def rm_X9_setConsent : Room := { frames := 4, cells := 48, slots := 574, locals := 112 }
set_option maxRecDepth 100000 in
set_option maxHeartbeats 4000000 in
theorem c_X9_setConsent (l : Launch) (G : xGl) (w : xWd) (K : Nat) (hw : isC K w) (z : xSt) (sz : Nat) (x : Int32) (v : Int32) (f cq : Nat) (hB : bOk z 0) (hC : cnB z 0) (hf : z.1 2 1 = nI f) (hc : z.1 2 2 = nI cq) (hf10 : f < 10) (hc10 : cq ≤ 10) (hix : kix f cq ≤ K) (hv : v = 0 ∨ v = 1) : xMgi l yX9_setConsent cX9_setConsent 5 (some FieldType.int) rm_X9_setConsent G w z sz [.ref (w.2.2 0), .int x, .int v] (fun r u => ∃ K2, isC K2 u.1 ∧ wX w u.1 sz ∧ (r, K2, u.2) = if ¬ (inR x (bN z 0 3)) then ((-1), K, z) else ((nI (ctN (fun m => decide (¬ (u1 (keZ K z f cq 0 (bN z 0 3) (bN z 0 4)) (oM 0 x.toNatClampNeg) 1 v).1 (oM 0 m) 1 = 0)) (bN z 0 3)), keK K f cq, u1 (keZ K z f cq 0 (bN z 0 3) (bN z 0 4)) (oM 0 x.toNatClampNeg) 1 v))) := by
  refine x_mgi (by decide) (Nat.le_of_ble_eq_true rfl) ?_
  intro p e s mt args below meth c ls Q hsz X hR hS hl hret
  obtain ⟨hx, hcb, hml, hown, hts, hlk, hK, hZ⟩ := X
  have hl : lv_has ls 5 [(0, .ref (w.2.2 0)), (1, .int x), (2, .int v)] := hl
  have hb3_ := hB.2.1
  have hb4_ := hB.2.2.2.1
  have hb5_ := hB.2.2.2.2.2
  have hK10_ := hw.2.2
  refine lv_aload_n hx hcb dX9_setConsent_0 rfl (lv_at hl 0 rfl) ?_
  refine lv_iload_n hx hcb dX9_setConsent_1 rfl (lv_at hl 1 rfl) ?_
  refine x_ci0 rfl rfl (x_runV hx hcb hml hown hts (c_X9_isMember l G w K hw z _ x hB) mv_X9_isMember q_837 hK hZ hR hS (hw.lo (by decide)) xc9 (hw.s0 (by decide) rfl) rfl hl.1 rfl (Nat.le_of_ble_eq_true rfl) dX9_setConsent_2 ⟨by decide, by decide⟩ ⟨by decide, by decide⟩) hS (fun r_1 z_2 H locs hp_3 hR hS => ?_)
  rw [hp_3.2] at hR; rw [hp_3.1]
  refine x_top (show (if inR x (bN z 0 3) then 1 else 0) = (if inR x (bN z 0 3) then 1 else 0) from rfl) ?_
  refine lv_if_ne (tgt := 10) hx hcb dX9_setConsent_5 (by decide) (fun c_4 => ?_) (fun c_4 => ?_)
  · skip
    have h_ : inR x (bN z 0 3) := Classical.byContradiction (fun q_ => c_4 (if_neg q_))
    have hxk_ := inR_k (n := bN z 0 3) (by omega) h_
    obtain ⟨k_, ek_⟩ : ∃ q_, q_ = x.toNatClampNeg := ⟨_, rfl⟩
    rw [← ek_] at hxk_
    have hltk_ := hxk_.2
    rw [hxk_.1] at hl
    refine lv_aload_n hx hcb dX9_setConsent_10 rfl (lv_at hl 0 rfl) ?_
    refine x_getR hx hcb hts hown hK xc9 hR (hw.lo (by decide)) (hw.s0 (by decide) rfl) 3 (by decide) rfl q_379 dX9_setConsent_11 ?_
    refine lv_aload_n hx hcb dX9_setConsent_14 rfl (lv_at hl 0 rfl) ?_
    refine x_getR hx hcb hts hown hK xc9 hR (hw.lo (by decide)) (hw.s0 (by decide) rfl) 0 (by decide) rfl q_376 dX9_setConsent_15 ?_
    have hsl_ := hS.1
    refine x_cgv (x_runV hx hcb hml hown hts (c_X3_keep l G w K hw z _ 0 (by omega) f cq (bN z 0 3) (bN z 0 4) hf hc hf10 hc10 hix (by omega) hB.1 hb3_ hB.2.2.1 hb4_ (fun m hm => hC m (by omega))) mv_X3_keep q_846 hK hZ hR hS (hw.lo (by decide)) xc3 (hw.s0 (by decide) rfl) rfl hl.1 rfl (Nat.le_of_ble_eq_true rfl) dX9_setConsent_18 ⟨by decide, by decide⟩ ⟨by decide, by decide⟩) hS (fun w2 z_6 H locs hp_7 hR hS => ?_)
    have hw2 : isC (keK K f cq) w2 := hp_7.1
    have hX : wX w w2 s.heap.size := hp_7.2.1.mo hsl_
    rw [show z_6 = keZ K z f cq 0 (bN z 0 3) (bN z 0 4) from hp_7.2.2] at hR
    rw [← hX.A] at hS
    have hZ2 : xZ (xA w2 s.heap.size) s s.heap := by rw [hX.A]; exact hZ
    rw [← hX.2.1 0 (hw.lo (by decide))] at hl
    refine W.widen (k := 48) (n := 574) (by decide) (by decide) ?_
    refine lv_aload_n hx hcb dX9_setConsent_21 rfl (lv_at hl 0 rfl) ?_
    refine x_getR hx hcb hts hown hK xc9 hR (hw2.lo (by decide)) (hw2.s0 (by decide) rfl) 0 (by decide) rfl q_376 dX9_setConsent_22 ?_
    refine x_getR hx hcb hts hown hK xc0 hR (hoB hw2 (by omega)) (hsB hw2) 0 (by decide) rfl q_259 dX9_setConsent_25 ?_
    refine lv_iload_n hx hcb dX9_setConsent_28 rfl (lv_at hl 1 rfl) ?_
    have hk_29 : k_ < 8 := (by omega)
    refine x_aald hx hcb hK hR (hoMs hw2 (by omega)) (hsMs hw2) rfl (oMs_at hk_29) (Nat.lt_of_lt_of_le (Nat.lt_succ_self _) (Nat.le_of_ble_eq_true rfl)) dX9_setConsent_29 ?_
    refine lv_iload_n hx hcb dX9_setConsent_30 rfl (lv_at hl 2 rfl) ?_
    refine x_putI hx hcb hts hown hK xc5 hR hS (hoM hw2 (by omega) hk_29) (hsM hw2 hk_29) 1 (by decide) rfl q_182 rfl (v := v) (by rcases hv with h_ | h_ <;> rw [h_] <;> rfl) (by rcases hv with h_ | h_ <;> rw [h_] <;> rfl) dX9_setConsent_31 (fun H locs hR hS => ?_)
    refine lv_iconst (v := (nI 0)) hx hcb dX9_setConsent_34 (by decide) ?_
    refine lv_istore_n (lv' := [(3, .int (nI 0)), (0, .ref (w2.2.2 0)), (1, .int (nI k_)), (2, .int v)]) hx hcb dX9_setConsent_35 rfl hl (by decide) rfl (fun ls hl => ?_)
    refine lv_iconst (v := (nI 0)) hx hcb dX9_setConsent_36 (by decide) ?_
    refine lv_istore (lv' := [(4, .int (nI 0)), (3, .int (nI 0)), (0, .ref (w2.2.2 0)), (1, .int (nI k_)), (2, .int v)]) hx hcb dX9_setConsent_37 hl (by decide) rfl (fun ls hl => ?_)
    rw [show (nI 0) = (nI (ctN (fun m => decide (¬ (u1 (keZ K z f cq 0 (bN z 0 3) (bN z 0 4)) (oM 0 k_) 1 v).1 (oM 0 m) 1 = 0)) 0)) from rfl] at hl
    suffices LP_39 : ∀ (nn : Nat) (i_ : Nat) (_ : bN z 0 3 - i_ < nn) (hi_ : i_ ≤ bN z 0 3) (H : Heap) (locs : List Loc) (ls : Array Slot), Rh G w2 (u1 (keZ K z f cq 0 (bN z 0 3) (bN z 0 4)) (oM 0 k_) 1 v) H → va_S (xA w2 s.heap.size) s.heap H locs → lv_has ls 5 [(0, .ref (w2.2.2 0)), (3, .int (nI (ctN (fun m => decide (¬ (u1 (keZ K z f cq 0 (bN z 0 3) (bN z 0 4)) (oM 0 k_) 1 v).1 (oM 0 m) 1 = 0)) i_))), (4, .int (nI i_))] → W p l e rm_X9_setConsent s mt args below meth c H locs 48 574 Q (F0 mt 39 ls []) from LP_39 ((_) + 1) 0 (Nat.lt_succ_self _) (Nat.zero_le _) _ _ _ hR hS (lv_sub hl [2, 1, 0] rfl)
    intro nn
    induction nn with
    | zero => intro i_ hm_ ; exact absurd hm_ (Nat.not_lt_zero _)
    | succ nn ih_39 =>
      intro i_ hm_39 hi_ H locs ls hR hS hl
      refine lv_iload hx hcb dX9_setConsent_39 (lv_at hl 2 rfl) ?_
      refine lv_aload_n hx hcb dX9_setConsent_41 rfl (lv_at hl 0 rfl) ?_
      refine x_getR hx hcb hts hown hK xc9 hR (hw2.lo (by decide)) (hw2.s0 (by decide) rfl) 0 (by decide) rfl q_376 dX9_setConsent_42 ?_
      refine x_getI hx hcb hts hown hK xc0 hR (hoB hw2 (by omega)) (hsB hw2) 3 (by decide) rfl q_271 dX9_setConsent_45 ?_
      refine x_top (show ((u1 (keZ K z f cq 0 (bN z 0 3) (bN z 0 4)) (oM 0 k_) 1 v).1 (oB 0) 3) = (nI (bN z 0 3)) from by rw [u1_ne _ (by (try simp only [oB, oM, oPt, oLf, oKd, oPd, oSt, oD, oMs, oDs]); omega), keZ_o (by (try simp only [oB, oM, oPt, oLf, oKd, oPd, oSt, oD, oMs, oDs]); omega) (by (try simp only [oB, oM, oPt, oLf, oKd, oPd, oSt, oD, oMs, oDs]); omega)]; exact hB.1) ?_
      refine lv_icmp_ge (tgt := 76) hx hcb dX9_setConsent_48 (by decide) (fun c_8 => ?_) (fun c_8 => ?_)
      · skip
        have c_8 : (bN z 0 3) ≤ i_ := (nI_leI (by omega) (by omega)).mp c_8
        obtain rfl : bN z 0 3 = i_ := by omega
        refine lv_iload_n hx hcb dX9_setConsent_76 rfl (lv_at hl 1 rfl) ?_
        exact hret (nI (ctN (fun m => decide (¬ (u1 (keZ K z f cq 0 (bN z 0 3) (bN z 0 4)) (oM 0 k_) 1 v).1 (oM 0 m) 1 = 0)) (bN z 0 3))) w2 (u1 (keZ K z f cq 0 (bN z 0 3) (bN z 0 4)) (oM 0 k_) 1 v) _ _ _ _ dX9_setConsent_77 rfl hR (by rw [← hX.A]; exact hS) ⟨_, hw2, by rw [hsz]; exact hX, (by rw [if_neg (fun q_ => q_ h_), ← ek_])⟩
      · skip
        have c_8 : ¬ (bN z 0 3) ≤ i_ := fun h_ => c_8 ((nI_leI (by omega) (by omega)).mpr h_)
        refine lv_aload_n hx hcb dX9_setConsent_51 rfl (lv_at hl 0 rfl) ?_
        refine x_getR hx hcb hts hown hK xc9 hR (hw2.lo (by decide)) (hw2.s0 (by decide) rfl) 0 (by decide) rfl q_376 dX9_setConsent_52 ?_
        refine x_getR hx hcb hts hown hK xc0 hR (hoB hw2 (by omega)) (hsB hw2) 0 (by decide) rfl q_259 dX9_setConsent_55 ?_
        refine lv_iload hx hcb dX9_setConsent_58 (lv_at hl 2 rfl) ?_
        have hk_60 : i_ < 8 := (by omega)
        refine x_aald hx hcb hK hR (hoMs hw2 (by omega)) (hsMs hw2) rfl (oMs_at hk_60) (Nat.lt_of_lt_of_le (Nat.lt_succ_self _) (Nat.le_of_ble_eq_true rfl)) dX9_setConsent_60 ?_
        refine x_getI hx hcb hts hown hK xc5 hR (hoM hw2 (by omega) hk_60) (hsM hw2 hk_60) 1 (by decide) rfl q_182 dX9_setConsent_61 ?_
        refine x_top (show ((u1 (keZ K z f cq 0 (bN z 0 3) (bN z 0 4)) (oM 0 k_) 1 v).1 (oM 0 i_) 1) = ((u1 (keZ K z f cq 0 (bN z 0 3) (bN z 0 4)) (oM 0 k_) 1 v).1 (oM 0 i_) 1) from rfl) ?_
        refine lv_if_eq (tgt := 70) hx hcb dX9_setConsent_64 (by decide) (fun c_9 => ?_) (fun c_9 => ?_)
        · skip
          have hq_ : (u1 (keZ K z f cq 0 (bN z 0 3) (bN z 0 4)) (oM 0 k_) 1 v).1 (oM 0 i_) 1 = 0 := c_9
          refine lv_iinc (v := (nI (i_ + 1))) (lv' := [(4, .int (nI (i_ + 1))), (0, .ref (w2.2.2 0)), (3, .int (nI (ctN (fun m => decide (¬ (u1 (keZ K z f cq 0 (bN z 0 3) (bN z 0 4)) (oM 0 k_) 1 v).1 (oM 0 m) 1 = 0)) i_)))]) hx hcb dX9_setConsent_70 hl (k := 2) rfl (x_iinc1 _) (by decide) rfl (fun ls hl => ?_)
          refine lv_goto (tgt := 39) hx hcb dX9_setConsent_73 (by decide) ?_
          rw [show (nI (ctN (fun m => decide (¬ (u1 (keZ K z f cq 0 (bN z 0 3) (bN z 0 4)) (oM 0 k_) 1 v).1 (oM 0 m) 1 = 0)) i_)) = (nI (ctN (fun m => decide (¬ (u1 (keZ K z f cq 0 (bN z 0 3) (bN z 0 4)) (oM 0 k_) 1 v).1 (oM 0 m) 1 = 0)) (i_ + 1))) from by first | rw [ctN_y (decide_eq_true hq_)] | (rw [ctN_n (fun q_ => (of_decide_eq_true q_) hq_)]; done)] at hl
          exact ih_39 (i_ + 1) (by omega) (by omega) _ _ _ hR hS (lv_sub hl [1, 2, 0] rfl)
        · skip
          have hq_ : ¬ (u1 (keZ K z f cq 0 (bN z 0 3) (bN z 0 4)) (oM 0 k_) 1 v).1 (oM 0 i_) 1 = 0 := c_9
          refine lv_iinc (v := (nI ((ctN (fun m => decide (¬ (u1 (keZ K z f cq 0 (bN z 0 3) (bN z 0 4)) (oM 0 k_) 1 v).1 (oM 0 m) 1 = 0)) i_) + 1))) (lv' := [(3, .int (nI ((ctN (fun m => decide (¬ (u1 (keZ K z f cq 0 (bN z 0 3) (bN z 0 4)) (oM 0 k_) 1 v).1 (oM 0 m) 1 = 0)) i_) + 1))), (0, .ref (w2.2.2 0)), (4, .int (nI i_))]) hx hcb dX9_setConsent_67 hl (k := 1) rfl (x_iinc1 _) (by decide) rfl (fun ls hl => ?_)
          refine lv_iinc (v := (nI (i_ + 1))) (lv' := [(4, .int (nI (i_ + 1))), (3, .int (nI ((ctN (fun m => decide (¬ (u1 (keZ K z f cq 0 (bN z 0 3) (bN z 0 4)) (oM 0 k_) 1 v).1 (oM 0 m) 1 = 0)) i_) + 1))), (0, .ref (w2.2.2 0))]) hx hcb dX9_setConsent_70 hl (k := 2) rfl (x_iinc1 _) (by decide) rfl (fun ls hl => ?_)
          refine lv_goto (tgt := 39) hx hcb dX9_setConsent_73 (by decide) ?_
          rw [show (nI ((ctN (fun m => decide (¬ (u1 (keZ K z f cq 0 (bN z 0 3) (bN z 0 4)) (oM 0 k_) 1 v).1 (oM 0 m) 1 = 0)) i_) + 1)) = (nI (ctN (fun m => decide (¬ (u1 (keZ K z f cq 0 (bN z 0 3) (bN z 0 4)) (oM 0 k_) 1 v).1 (oM 0 m) 1 = 0)) (i_ + 1))) from by first | rw [ctN_y (decide_eq_true hq_)] | (rw [ctN_n (fun q_ => (of_decide_eq_true q_) hq_)]; done)] at hl
          exact ih_39 (i_ + 1) (by omega) (by omega) _ _ _ hR hS (lv_sub hl [2, 1, 0] rfl)
  · skip
    have h_ : ¬ (inR x (bN z 0 3)) := fun q_ => absurd c_4 (by rw [if_pos q_]; decide)
    refine lv_iconst (v := (-1)) hx hcb dX9_setConsent_8 (by decide) ?_
    refine W.widen (k := 48) (n := 574) (by decide) (by decide) ?_
    exact hret (-1) w z _ _ _ _ dX9_setConsent_9 rfl hR hS ⟨K, hw, wX.r0, (by rw [if_pos h_])⟩
def rm_X9_leave : Room := { frames := 4, cells := 48, slots := 574, locals := 112 }
set_option maxRecDepth 100000 in
set_option maxHeartbeats 4000000 in
theorem c_X9_leave (l : Launch) (G : xGl) (w : xWd) (K : Nat) (hw : isC K w) (z : xSt) (sz : Nat) (x : Int32) (f cq : Nat) (hB : bOk z 0) (hC : cnB z 0) (hf : z.1 2 1 = nI f) (hc : z.1 2 2 = nI cq) (hf10 : f < 10) (hc10 : cq ≤ 10) (hix : kix f cq ≤ K) : xMgi l yX9_leave cX9_leave 3 (some FieldType.int) rm_X9_leave G w z sz [.ref (w.2.2 0), .int x] (fun r u => ∃ K2, isC K2 u.1 ∧ wX w u.1 sz ∧ (r, K2, u.2) = if ¬ (inR x (bN z 0 3)) then ((-1), K, z) else (if ¬ z.1 (oM 0 x.toNatClampNeg) 2 = 0 ∨ ¬ xan (fun y => decide (0 < z.1 (oPt 0 x.toNatClampNeg) y)) 4 0 = 0 then ((-4), K, z) else (((slv (keZ K z f cq 0 (bN z 0 3) (bN z 0 4)) x.toNatClampNeg (z.1 (oSt 0) 2)).1 (oM 0 x.toNatClampNeg) 3, keK K f cq, slv (keZ K z f cq 0 (bN z 0 3) (bN z 0 4)) x.toNatClampNeg (z.1 (oSt 0) 2))))) := by
  refine x_mgi (by decide) (Nat.le_of_ble_eq_true rfl) ?_
  intro p e s mt args below meth c ls Q hsz X hR hS hl hret
  obtain ⟨hx, hcb, hml, hown, hts, hlk, hK, hZ⟩ := X
  have hl : lv_has ls 3 [(0, .ref (w.2.2 0)), (1, .int x)] := hl
  have hb3_ := hB.2.1
  have hb4_ := hB.2.2.2.1
  have hb5_ := hB.2.2.2.2.2
  have hK10_ := hw.2.2
  refine lv_aload_n hx hcb dX9_leave_0 rfl (lv_at hl 0 rfl) ?_
  refine lv_iload_n hx hcb dX9_leave_1 rfl (lv_at hl 1 rfl) ?_
  refine x_ci0 rfl rfl (x_runV hx hcb hml hown hts (c_X9_isMember l G w K hw z _ x hB) mv_X9_isMember q_837 hK hZ hR hS (hw.lo (by decide)) xc9 (hw.s0 (by decide) rfl) rfl hl.1 rfl (Nat.le_of_ble_eq_true rfl) dX9_leave_2 ⟨by decide, by decide⟩ ⟨by decide, by decide⟩) hS (fun r_1 z_2 H locs hp_3 hR hS => ?_)
  rw [hp_3.2] at hR; rw [hp_3.1]
  refine x_top (show (if inR x (bN z 0 3) then 1 else 0) = (if inR x (bN z 0 3) then 1 else 0) from rfl) ?_
  refine lv_if_ne (tgt := 10) hx hcb dX9_leave_5 (by decide) (fun c_4 => ?_) (fun c_4 => ?_)
  · skip
    have h_ : inR x (bN z 0 3) := Classical.byContradiction (fun q_ => c_4 (if_neg q_))
    have hxk_ := inR_k (n := bN z 0 3) (by omega) h_
    obtain ⟨k_, ek_⟩ : ∃ q_, q_ = x.toNatClampNeg := ⟨_, rfl⟩
    rw [← ek_] at hxk_
    have hltk_ := hxk_.2
    rw [hxk_.1] at hl
    refine lv_aload_n hx hcb dX9_leave_10 rfl (lv_at hl 0 rfl) ?_
    refine x_getR hx hcb hts hown hK xc9 hR (hw.lo (by decide)) (hw.s0 (by decide) rfl) 0 (by decide) rfl q_376 dX9_leave_11 ?_
    refine x_getR hx hcb hts hown hK xc0 hR (hoB hw (by omega)) (hsB hw) 0 (by decide) rfl q_259 dX9_leave_14 ?_
    refine lv_iload_n hx hcb dX9_leave_17 rfl (lv_at hl 1 rfl) ?_
    have hk_18 : k_ < 8 := (by omega)
    refine x_aald hx hcb hK hR (hoMs hw (by omega)) (hsMs hw) rfl (oMs_at hk_18) (Nat.lt_of_lt_of_le (Nat.lt_succ_self _) (Nat.le_of_ble_eq_true rfl)) dX9_leave_18 ?_
    refine lv_astore_n (lv' := [(2, .ref (w.2.2 (oM 0 k_))), (0, .ref (w.2.2 0)), (1, .int (nI k_))]) hx hcb dX9_leave_19 rfl hl (by decide) rfl (fun ls hl => ?_)
    refine lv_aload_n hx hcb dX9_leave_20 rfl (lv_at hl 0 rfl) ?_
    refine x_getI hx hcb hts hown hK xc5 hR (hoM hw (by omega) hk_18) (hsM hw hk_18) 2 (by decide) rfl q_186 dX9_leave_21 ?_
    refine lv_if_ne (tgt := 34) hx hcb dX9_leave_24 (by decide) (fun c_5 => ?_) (fun c_5 => ?_)
    · skip
      have hC_ : ¬ z.1 (oM 0 k_) 2 = 0 ∨ ¬ xan (fun y => decide (0 < z.1 (oPt 0 k_) y)) 4 0 = 0 := Or.inl c_5
      refine lv_bipush (v := (-4)) hx hcb dX9_leave_34 (by decide) ?_
      refine W.widen (k := 48) (n := 574) (by decide) (by decide) ?_
      exact hret (-4) w z _ _ _ _ dX9_leave_36 rfl hR hS ⟨K, hw, wX.r0, (by rw [if_neg (fun q_ => q_ h_), ← ek_, if_pos hC_])⟩
    · skip
      have hC0_ := c_5
      refine lv_aload_n hx hcb dX9_leave_27 rfl (lv_at hl 0 rfl) ?_
      refine x_ci0 rfl rfl (x_runV hx hcb hml hown hts (c_X5_hasPatronage l G w K hw z _ 0 k_ (by omega) hk_18) mv_X5_hasPatronage q_864 hK hZ hR hS (hoM hw (by omega) hk_18) xc5 (hsM hw hk_18) rfl hl.1 rfl (Nat.le_of_ble_eq_true rfl) dX9_leave_28 ⟨by decide, by decide⟩ ⟨by decide, by decide⟩) hS (fun r_6 z_7 H locs hp_8 hR hS => ?_)
      rw [hp_8.2] at hR; rw [hp_8.1]
      refine x_top (show (xan (fun y => decide (0 < z.1 (oPt 0 k_) y)) 4 0) = (xan (fun y => decide (0 < z.1 (oPt 0 k_) y)) 4 0) from rfl) ?_
      refine lv_if_eq (tgt := 37) hx hcb dX9_leave_31 (by decide) (fun c_9 => ?_) (fun c_9 => ?_)
      · skip
        have hC_ : ¬ (¬ z.1 (oM 0 k_) 2 = 0 ∨ ¬ xan (fun y => decide (0 < z.1 (oPt 0 k_) y)) 4 0 = 0) := fun q_ => q_.elim (fun t_ => t_ hC0_) (fun t_ => t_ c_9)
        refine lv_aload_n hx hcb dX9_leave_37 rfl (lv_at hl 1 rfl) ?_
        refine x_getR hx hcb hts hown hK xc9 hR (hw.lo (by decide)) (hw.s0 (by decide) rfl) 3 (by decide) rfl q_379 dX9_leave_38 ?_
        refine lv_aload_n hx hcb dX9_leave_41 rfl (lv_at hl 1 rfl) ?_
        refine x_getR hx hcb hts hown hK xc9 hR (hw.lo (by decide)) (hw.s0 (by decide) rfl) 0 (by decide) rfl q_376 dX9_leave_42 ?_
        have hsl_ := hS.1
        refine x_cgv (x_runV hx hcb hml hown hts (c_X3_keep l G w K hw z _ 0 (by omega) f cq (bN z 0 3) (bN z 0 4) hf hc hf10 hc10 hix (by omega) hB.1 hb3_ hB.2.2.1 hb4_ (fun m hm => hC m (by omega))) mv_X3_keep q_846 hK hZ hR hS (hw.lo (by decide)) xc3 (hw.s0 (by decide) rfl) rfl hl.1 rfl (Nat.le_of_ble_eq_true rfl) dX9_leave_45 ⟨by decide, by decide⟩ ⟨by decide, by decide⟩) hS (fun w2 z_11 H locs hp_12 hR hS => ?_)
        have hw2 : isC (keK K f cq) w2 := hp_12.1
        have hX : wX w w2 s.heap.size := hp_12.2.1.mo hsl_
        rw [show z_11 = keZ K z f cq 0 (bN z 0 3) (bN z 0 4) from hp_12.2.2] at hR
        rw [← hX.A] at hS
        have hZ2 : xZ (xA w2 s.heap.size) s s.heap := by rw [hX.A]; exact hZ
        rw [← hX.2.1 (oM 0 k_) (hoM hw (by omega) hk_18)] at hl
        rw [← hX.2.1 0 (hw.lo (by decide))] at hl
        refine W.widen (k := 48) (n := 574) (by decide) (by decide) ?_
        refine lv_aload_n hx hcb dX9_leave_48 rfl (lv_at hl 0 rfl) ?_
        refine lv_aload_n hx hcb dX9_leave_49 rfl (lv_at hl 1 rfl) ?_
        refine x_getR hx hcb hts hown hK xc9 hR (hw2.lo (by decide)) (hw2.s0 (by decide) rfl) 0 (by decide) rfl q_376 dX9_leave_50 ?_
        refine x_getR hx hcb hts hown hK xc0 hR (hoB hw2 (by omega)) (hsB hw2) 2 (by decide) rfl q_267 dX9_leave_53 ?_
        refine lv_iconst (v := (nI 2)) hx hcb dX9_leave_56 (by decide) ?_
        refine x_iald hx hcb hK hR (hoSt hw2 (by omega)) (hsSt hw2) (k := 2) (by omega) (by decide) dX9_leave_57 ?_
        refine x_top (show ((keZ K z f cq 0 (bN z 0 3) (bN z 0 4)).1 (oSt 0) 2) = (z.1 (oSt 0) 2) from by rw [keZ_o (by (try simp only [oB, oM, oPt, oLf, oKd, oPd, oSt, oD, oMs, oDs]); omega) (by (try simp only [oB, oM, oPt, oLf, oKd, oPd, oSt, oD, oMs, oDs]); omega)]) ?_
        refine x_cv0 rfl rfl (x_runV hx hcb hml hown hts (c_X5_startLeaving l G w2 (keK K f cq) hw2 (keZ K z f cq 0 (bN z 0 3) (bN z 0 4)) _ 0 k_ (by omega) hk_18 (z.1 (oSt 0) 2)) mv_X5_startLeaving q_868 hK hZ2 hR hS (hoM hw2 (by omega) hk_18) xc5 (hsM hw2 hk_18) rfl hl.1 rfl (Nat.le_of_ble_eq_true rfl) dX9_leave_58 ⟨by decide, by decide⟩ ⟨by decide, by decide⟩) hS (fun z_14 H locs hp_15 hR hS => ?_)
        rw [hp_15] at hR
        rw [show (if 0 < bx_sum ((keZ K z f cq 0 (bN z 0 3) (bN z 0 4)).1 (oLf 0 k_)) 25 then u1 (u1 (keZ K z f cq 0 (bN z 0 3) (bN z 0 4)) (oM 0 k_) 2 1) (oM 0 k_) 3 (z.1 (oSt 0) 2) else u1 (u1 (keZ K z f cq 0 (bN z 0 3) (bN z 0 4)) (oM 0 k_) 2 2) (oM 0 k_) 3 0) = slv (keZ K z f cq 0 (bN z 0 3) (bN z 0 4)) k_ (z.1 (oSt 0) 2) from rfl] at hR
        refine lv_aload_n hx hcb dX9_leave_61 rfl (lv_at hl 0 rfl) ?_
        refine x_getI hx hcb hts hown hK xc5 hR (hoM hw2 (by omega) hk_18) (hsM hw2 hk_18) 3 (by decide) rfl q_188 dX9_leave_62 ?_
        exact hret ((slv (keZ K z f cq 0 (bN z 0 3) (bN z 0 4)) k_ (z.1 (oSt 0) 2)).1 (oM 0 k_) 3) w2 (slv (keZ K z f cq 0 (bN z 0 3) (bN z 0 4)) k_ (z.1 (oSt 0) 2)) _ _ _ _ dX9_leave_65 rfl hR (by rw [← hX.A]; exact hS) ⟨_, hw2, by rw [hsz]; exact hX, (by rw [if_neg (fun q_ => q_ h_), ← ek_, if_neg hC_])⟩
      · skip
        have hC_ : ¬ z.1 (oM 0 k_) 2 = 0 ∨ ¬ xan (fun y => decide (0 < z.1 (oPt 0 k_) y)) 4 0 = 0 := Or.inr c_9
        refine lv_bipush (v := (-4)) hx hcb dX9_leave_34 (by decide) ?_
        refine W.widen (k := 48) (n := 574) (by decide) (by decide) ?_
        exact hret (-4) w z _ _ _ _ dX9_leave_36 rfl hR hS ⟨K, hw, wX.r0, (by rw [if_neg (fun q_ => q_ h_), ← ek_, if_pos hC_])⟩
  · skip
    have h_ : ¬ (inR x (bN z 0 3)) := fun q_ => absurd c_4 (by rw [if_pos q_]; decide)
    refine lv_iconst (v := (-1)) hx hcb dX9_leave_8 (by decide) ?_
    refine W.widen (k := 48) (n := 574) (by decide) (by decide) ?_
    exact hret (-1) w z _ _ _ _ dX9_leave_9 rfl hR hS ⟨K, hw, wX.r0, (by rw [if_pos h_])⟩
def rm_X9_close : Room := { frames := 4, cells := 48, slots := 574, locals := 112 }
set_option maxRecDepth 100000 in
set_option maxHeartbeats 4000000 in
theorem c_X9_close (l : Launch) (G : xGl) (w : xWd) (K : Nat) (hw : isC K w) (z : xSt) (sz : Nat) (a : Int32) (b : Int32) (c_ : Int32) (d : Int32) (f cq : Nat) (hB : bOk z 0) (hC : cnB z 0) (hf : z.1 2 1 = nI f) (hc : z.1 2 2 = nI cq) (hf10 : f < 10) (hc10 : cq ≤ 10) (hix : kix f cq ≤ K) : xMgi l yX9_close cX9_close 6 (some FieldType.int) rm_X9_close G w z sz [.ref (w.2.2 0), .int a, .int b, .int c_, .int d] (fun r u => ∃ K2, isC K2 u.1 ∧ wX w u.1 sz ∧ (r, K2, u.2) = if ¬ okR (bN z 0 4) ((zR z a b c_ d).1 1) then ((-2), K, (zR z a b c_ d)) else (if ¬ bN z 0 5 < 24 then ((-3), K, (zR z a b c_ d)) else ((nI (bN z 0 5), keK K f cq, clos (keZ K (zR z a b c_ d) f cq 0 (bN z 0 3) (bN z 0 4)) 0 1 (bN z 0 3) (bN z 0 4) (bN z 0 5))))) := by
  refine x_mgi (by decide) (Nat.le_of_ble_eq_true rfl) ?_
  intro p e s mt args below meth c ls Q hsz X hR hS hl hret
  obtain ⟨hx, hcb, hml, hown, hts, hlk, hK, hZ⟩ := X
  have hl : lv_has ls 6 [(0, .ref (w.2.2 0)), (1, .int a), (2, .int b), (3, .int c_), (4, .int d)] := hl
  have hb3_ := hB.2.1
  have hb4_ := hB.2.2.2.1
  have hb5_ := hB.2.2.2.2.2
  have hK10_ := hw.2.2
  refine lv_aload_n hx hcb dX9_close_0 rfl (lv_at hl 0 rfl) ?_
  refine lv_iload_n hx hcb dX9_close_1 rfl (lv_at hl 1 rfl) ?_
  refine lv_iload_n hx hcb dX9_close_2 rfl (lv_at hl 2 rfl) ?_
  refine lv_iload_n hx hcb dX9_close_3 rfl (lv_at hl 3 rfl) ?_
  refine lv_iload hx hcb dX9_close_4 (lv_at hl 4 rfl) ?_
  refine x_ci0 rfl rfl (x_runV hx hcb hml hown hts (c_X9_takeResults l G w K hw z _ a b c_ d hB) mv_X9_takeResults q_726 hK hZ hR hS (hw.lo (by decide)) xc9 (hw.s0 (by decide) rfl) rfl hl.1 rfl (Nat.le_of_ble_eq_true rfl) dX9_close_6 ⟨by decide, by decide⟩ ⟨by decide, by decide⟩) hS (fun r_1 z_2 H locs hp_3 hR hS => ?_)
  rw [hp_3.2] at hR; rw [hp_3.1]
  refine x_top (show (if okR (bN z 0 4) ((zR z a b c_ d).1 1) then 1 else 0) = (if okR (bN z 0 4) ((zR z a b c_ d).1 1) then 1 else 0) from rfl) ?_
  refine lv_if_ne (tgt := 15) hx hcb dX9_close_9 (by decide) (fun c_4 => ?_) (fun c_4 => ?_)
  · skip
    have h_ : okR (bN z 0 4) ((zR z a b c_ d).1 1) := Classical.byContradiction (fun q_ => c_4 (if_neg q_))
    refine lv_aload_n hx hcb dX9_close_15 rfl (lv_at hl 0 rfl) ?_
    refine x_getR hx hcb hts hown hK xc9 hR (hw.lo (by decide)) (hw.s0 (by decide) rfl) 0 (by decide) rfl q_376 dX9_close_16 ?_
    refine x_getI hx hcb hts hown hK xc0 hR (hoB hw (by omega)) (hsB hw) 5 (by decide) rfl q_280 dX9_close_19 ?_
    refine x_top (show ((zR z a b c_ d).1 (oB 0) 5) = (nI (bN z 0 5)) from by rw [zR_ne (by (try simp only [oB, oM, oPt, oLf, oKd, oPd, oSt, oD, oMs, oDs]); omega)]; exact hB.2.2.2.2.1) ?_
    refine lv_istore (lv' := [(5, .int (nI (bN z 0 5))), (0, .ref (w.2.2 0)), (1, .int a), (2, .int b), (3, .int c_), (4, .int d)]) hx hcb dX9_close_22 hl (by decide) rfl (fun ls hl => ?_)
    refine lv_iload hx hcb dX9_close_24 (lv_at hl 0 rfl) ?_
    refine lv_bipush (v := (nI 24)) hx hcb dX9_close_26 (by decide) ?_
    refine lv_icmp_lt (tgt := 34) hx hcb dX9_close_28 (by decide) (fun c_5 => ?_) (fun c_5 => ?_)
    · skip
      have c_5 : (bN z 0 5) < 24 := (nI_ltI (by omega) (by omega)).mp c_5
      have h2_ : ¬ ¬ bN z 0 5 < 24 := fun q_ => q_ (by omega)
      refine lv_aload_n hx hcb dX9_close_34 rfl (lv_at hl 1 rfl) ?_
      refine x_getR hx hcb hts hown hK xc9 hR (hw.lo (by decide)) (hw.s0 (by decide) rfl) 3 (by decide) rfl q_379 dX9_close_35 ?_
      refine lv_aload_n hx hcb dX9_close_38 rfl (lv_at hl 1 rfl) ?_
      refine x_getR hx hcb hts hown hK xc9 hR (hw.lo (by decide)) (hw.s0 (by decide) rfl) 0 (by decide) rfl q_376 dX9_close_39 ?_
      have hsl_ := hS.1
      refine x_cgv (x_runV hx hcb hml hown hts (c_X3_keep l G w K hw (zR z a b c_ d) _ 0 (by omega) f cq (bN z 0 3) (bN z 0 4) (by rw [zR_ne (by (try simp only [oB, oM, oPt, oLf, oKd, oPd, oSt, oD, oMs, oDs]); omega)]; exact hf) (by rw [zR_ne (by (try simp only [oB, oM, oPt, oLf, oKd, oPd, oSt, oD, oMs, oDs]); omega)]; exact hc) hf10 hc10 hix (by omega) (by rw [zR_ne (by (try simp only [oB, oM, oPt, oLf, oKd, oPd, oSt, oD, oMs, oDs]); omega)]; exact hB.1) hb3_ (by rw [zR_ne (by (try simp only [oB, oM, oPt, oLf, oKd, oPd, oSt, oD, oMs, oDs]); omega)]; exact hB.2.2.1) hb4_ (fun m hm => by rw [zR_ne (by (try simp only [oB, oM, oPt, oLf, oKd, oPd, oSt, oD, oMs, oDs]); omega)]; exact hC m (by omega))) mv_X3_keep q_846 hK hZ hR hS (hw.lo (by decide)) xc3 (hw.s0 (by decide) rfl) rfl hl.1 rfl (Nat.le_of_ble_eq_true rfl) dX9_close_42 ⟨by decide, by decide⟩ ⟨by decide, by decide⟩) hS (fun w2 z_7 H locs hp_8 hR hS => ?_)
      have hw2 : isC (keK K f cq) w2 := hp_8.1
      have hX : wX w w2 s.heap.size := hp_8.2.1.mo hsl_
      rw [show z_7 = keZ K (zR z a b c_ d) f cq 0 (bN z 0 3) (bN z 0 4) from hp_8.2.2] at hR
      rw [← hX.A] at hS
      have hZ2 : xZ (xA w2 s.heap.size) s s.heap := by rw [hX.A]; exact hZ
      rw [← hX.2.1 0 (hw.lo (by decide))] at hl
      refine W.widen (k := 48) (n := 574) (by decide) (by decide) ?_
      refine lv_aload_n hx hcb dX9_close_45 rfl (lv_at hl 1 rfl) ?_
      refine x_getR hx hcb hts hown hK xc9 hR (hw2.lo (by decide)) (hw2.s0 (by decide) rfl) 4 (by decide) rfl q_380 dX9_close_46 ?_
      refine lv_aload_n hx hcb dX9_close_49 rfl (lv_at hl 1 rfl) ?_
      refine x_getR hx hcb hts hown hK xc9 hR (hw2.lo (by decide)) (hw2.s0 (by decide) rfl) 0 (by decide) rfl q_376 dX9_close_50 ?_
      refine lv_aload_n hx hcb dX9_close_53 rfl (lv_at hl 1 rfl) ?_
      refine x_getR hx hcb hts hown hK xc9 hR (hw2.lo (by decide)) (hw2.s0 (by decide) rfl) 2 (by decide) rfl q_378 dX9_close_54 ?_
      refine x_cv0 rfl rfl (x_runV hx hcb hml hown hts (c_X1_carryOut l G w2 (keK K f cq) hw2 (keZ K (zR z a b c_ d) f cq 0 (bN z 0 3) (bN z 0 4)) _ 0 (by omega) 1 4 (hw2.lo (by decide)) (hw2.s0 (by decide) rfl) (by decide) (bN z 0 3) (bN z 0 4) (bN z 0 5) (⟨rfl, Or.inl rfl⟩) (by rw [keZ_o (by (try simp only [oB, oM, oPt, oLf, oKd, oPd, oSt, oD, oMs, oDs]); omega) (by (try simp only [oB, oM, oPt, oLf, oKd, oPd, oSt, oD, oMs, oDs]); omega), zR_ne (by (try simp only [oB, oM, oPt, oLf, oKd, oPd, oSt, oD, oMs, oDs]); omega)]; exact hB.1) hb3_ (by rw [keZ_o (by (try simp only [oB, oM, oPt, oLf, oKd, oPd, oSt, oD, oMs, oDs]); omega) (by (try simp only [oB, oM, oPt, oLf, oKd, oPd, oSt, oD, oMs, oDs]); omega), zR_ne (by (try simp only [oB, oM, oPt, oLf, oKd, oPd, oSt, oD, oMs, oDs]); omega)]; exact hB.2.2.1) hb4_ (by rw [keZ_o (by (try simp only [oB, oM, oPt, oLf, oKd, oPd, oSt, oD, oMs, oDs]); omega) (by (try simp only [oB, oM, oPt, oLf, oKd, oPd, oSt, oD, oMs, oDs]); omega), zR_ne (by (try simp only [oB, oM, oPt, oLf, oKd, oPd, oSt, oD, oMs, oDs]); omega)]; exact hB.2.2.2.2.1) (by omega)) mv_X1_carryOut q_731 hK hZ2 hR hS (hw2.lo (by decide)) xc1 (hw2.s0 (by decide) rfl) rfl hl.1 rfl (Nat.le_of_ble_eq_true rfl) dX9_close_57 ⟨by decide, by decide⟩ ⟨by decide, by decide⟩) hS (fun z_10 H locs hp_11 hR hS => ?_)
      rw [hp_11] at hR
      refine lv_iload hx hcb dX9_close_60 (lv_at hl 0 rfl) ?_
      exact hret (nI (bN z 0 5)) w2 (clos (keZ K (zR z a b c_ d) f cq 0 (bN z 0 3) (bN z 0 4)) 0 1 (bN z 0 3) (bN z 0 4) (bN z 0 5)) _ _ _ _ dX9_close_62 rfl hR (by rw [← hX.A]; exact hS) ⟨_, hw2, by rw [hsz]; exact hX, (by rw [if_neg (fun q_ => q_ h_), if_neg h2_])⟩
    · skip
      have c_5 : ¬ (bN z 0 5) < 24 := fun h_ => c_5 ((nI_ltI (by omega) (by omega)).mpr h_)
      have h2_ : ¬ bN z 0 5 < 24 := by omega
      refine lv_bipush (v := (-3)) hx hcb dX9_close_31 (by decide) ?_
      refine W.widen (k := 48) (n := 574) (by decide) (by decide) ?_
      exact hret (-3) w (zR z a b c_ d) _ _ _ _ dX9_close_33 rfl hR hS ⟨K, hw, wX.r0, (by rw [if_neg (fun q_ => q_ h_), if_pos h2_])⟩
  · skip
    have h_ : ¬ (okR (bN z 0 4) ((zR z a b c_ d).1 1)) := fun q_ => absurd c_4 (by rw [if_pos q_]; decide)
    refine lv_bipush (v := (-2)) hx hcb dX9_close_12 (by decide) ?_
    refine W.widen (k := 48) (n := 574) (by decide) (by decide) ?_
    exact hret (-2) w (zR z a b c_ d) _ _ _ _ dX9_close_14 rfl hR hS ⟨K, hw, wX.r0, (by rw [if_pos h_])⟩
def rm_X9_redeem : Room := { frames := 4, cells := 48, slots := 574, locals := 112 }
set_option maxRecDepth 100000 in
set_option maxHeartbeats 4000000 in
theorem c_X9_redeem (l : Launch) (G : xGl) (w : xWd) (K : Nat) (hw : isC K w) (z : xSt) (sz : Nat) (x : Int32) (f cq : Nat) (hB : bOk z 0) (hC : cnB z 0) (hf : z.1 2 1 = nI f) (hc : z.1 2 2 = nI cq) (hf10 : f < 10) (hc10 : cq ≤ 10) (hix : kix f cq ≤ K) : xMgi l yX9_redeem cX9_redeem 3 (some FieldType.int) rm_X9_redeem G w z sz [.ref (w.2.2 0), .int x] (fun r u => ∃ K2, isC K2 u.1 ∧ wX w u.1 sz ∧ (r, K2, u.2) = if ¬ (¬ x < 0 ∧ x ≤ nI 10000000) then ((-2), K, z) else (if ¬ 0 < plR z 0 (bN z 0 3) x then (plR z 0 (bN z 0 3) x, K, (plZ z 0 (bN z 0 3) x)) else (plR z 0 (bN z 0 3) x, keK K f cq, crO (keZ K (plZ z 0 (bN z 0 3) x) f cq 0 (bN z 0 3) (bN z 0 4)) 0 (plM z 0 (bN z 0 3)) (plY z 0 (bN z 0 3)) (plN z 0 (bN z 0 3))))) := by
  refine x_mgi (by decide) (Nat.le_of_ble_eq_true rfl) ?_
  intro p e s mt args below meth c ls Q hsz X hR hS hl hret
  obtain ⟨hx, hcb, hml, hown, hts, hlk, hK, hZ⟩ := X
  have hl : lv_has ls 3 [(0, .ref (w.2.2 0)), (1, .int x)] := hl
  have hb3_ := hB.2.1
  have hb4_ := hB.2.2.2.1
  have hb5_ := hB.2.2.2.2.2
  have hK10_ := hw.2.2
  refine lv_iload_n hx hcb dX9_redeem_0 rfl (lv_at hl 1 rfl) ?_
  refine x_ci0 rfl rfl (x_runS hx hcb hml hown hts (c_X9_isBudget l G w K hw z _ x) ms_X9_isBudget q_821 hK hZ hR hS rfl hl.1 rfl (Nat.le_of_ble_eq_true rfl) dX9_redeem_1 ⟨by decide, by decide⟩ ⟨by decide, by decide⟩) hS (fun r_1 z_2 H locs hp_3 hR hS => ?_)
  rw [hp_3.2] at hR; rw [hp_3.1]
  refine x_top (show (if ¬ x < 0 ∧ x ≤ nI 10000000 then 1 else 0) = (if ¬ x < 0 ∧ x ≤ nI 10000000 then 1 else 0) from rfl) ?_
  refine lv_if_ne (tgt := 10) hx hcb dX9_redeem_4 (by decide) (fun c_4 => ?_) (fun c_4 => ?_)
  · skip
    have h_ : ¬ x < 0 ∧ x ≤ nI 10000000 := Classical.byContradiction (fun q_ => c_4 (if_neg q_))
    refine lv_aload_n hx hcb dX9_redeem_10 rfl (lv_at hl 0 rfl) ?_
    refine x_getR hx hcb hts hown hK xc9 hR (hw.lo (by decide)) (hw.s0 (by decide) rfl) 5 (by decide) rfl q_381 dX9_redeem_11 ?_
    refine lv_aload_n hx hcb dX9_redeem_14 rfl (lv_at hl 0 rfl) ?_
    refine x_getR hx hcb hts hown hK xc9 hR (hw.lo (by decide)) (hw.s0 (by decide) rfl) 0 (by decide) rfl q_376 dX9_redeem_15 ?_
    refine lv_iload_n hx hcb dX9_redeem_18 rfl (lv_at hl 1 rfl) ?_
    refine x_ci0 rfl rfl (x_runV hx hcb hml hown hts (c_X6_plan l G w K hw z _ 0 (by omega) x (bN z 0 3) hB.1 hb3_) mv_X6_plan q_764 hK hZ hR hS (hw.lo (by decide)) xc6 (hw.s0 (by decide) rfl) rfl hl.1 rfl (Nat.le_of_ble_eq_true rfl) dX9_redeem_19 ⟨by decide, by decide⟩ ⟨by decide, by decide⟩) hS (fun r_5 z_6 H locs hp_7 hR hS => ?_)
    rw [hp_7.2] at hR; rw [hp_7.1]
    refine x_top (show (plR z 0 (bN z 0 3) x) = (plR z 0 (bN z 0 3) x) from rfl) ?_
    refine lv_istore_n (lv' := [(2, .int (plR z 0 (bN z 0 3) x)), (0, .ref (w.2.2 0)), (1, .int x)]) hx hcb dX9_redeem_22 rfl hl (by decide) rfl (fun ls hl => ?_)
    refine lv_iload_n hx hcb dX9_redeem_23 rfl (lv_at hl 0 rfl) ?_
    refine lv_if_le (tgt := 49) hx hcb dX9_redeem_24 (by decide) (fun c_8 => ?_) (fun c_8 => ?_)
    · skip
      have h0_ : ¬ 0 < plR z 0 (bN z 0 3) x := Int32.not_lt.mpr c_8
      refine lv_iload_n hx hcb dX9_redeem_49 rfl (lv_at hl 0 rfl) ?_
      refine W.widen (k := 48) (n := 574) (by decide) (by decide) ?_
      exact hret (plR z 0 (bN z 0 3) x) w (plZ z 0 (bN z 0 3) x) _ _ _ _ dX9_redeem_50 rfl hR hS ⟨K, hw, wX.r0, (by rw [if_neg (fun q_ => q_ h_)]; first | rw [if_pos h0_] | rw [if_neg h0_])⟩
    · skip
      have h0_ : ¬ ¬ 0 < plR z 0 (bN z 0 3) x := fun q_ => q_ (Int32.not_le.mp c_8)
      refine lv_aload_n hx hcb dX9_redeem_27 rfl (lv_at hl 1 rfl) ?_
      refine x_getR hx hcb hts hown hK xc9 hR (hw.lo (by decide)) (hw.s0 (by decide) rfl) 3 (by decide) rfl q_379 dX9_redeem_28 ?_
      refine lv_aload_n hx hcb dX9_redeem_31 rfl (lv_at hl 1 rfl) ?_
      refine x_getR hx hcb hts hown hK xc9 hR (hw.lo (by decide)) (hw.s0 (by decide) rfl) 0 (by decide) rfl q_376 dX9_redeem_32 ?_
      have hsl_ := hS.1
      refine x_cgv (x_runV hx hcb hml hown hts (c_X3_keep l G w K hw (plZ z 0 (bN z 0 3) x) _ 0 (by omega) f cq (bN z 0 3) (bN z 0 4) (by rw [plZ_lo (by (try simp only [oB, oM, oPt, oLf, oKd, oPd, oSt, oD, oMs, oDs]); omega)]; exact hf) (by rw [plZ_lo (by (try simp only [oB, oM, oPt, oLf, oKd, oPd, oSt, oD, oMs, oDs]); omega)]; exact hc) hf10 hc10 hix (by omega) (by rw [plZ_hi (by (try simp only [oB, oM, oPt, oLf, oKd, oPd, oSt, oD, oMs, oDs]); omega)]; exact hB.1) hb3_ (by rw [plZ_hi (by (try simp only [oB, oM, oPt, oLf, oKd, oPd, oSt, oD, oMs, oDs]); omega)]; exact hB.2.2.1) hb4_ (fun m hm => by rw [plZ_hi (by (try simp only [oB, oM, oPt, oLf, oKd, oPd, oSt, oD, oMs, oDs]); omega)]; exact hC m (by omega))) mv_X3_keep q_846 hK hZ hR hS (hw.lo (by decide)) xc3 (hw.s0 (by decide) rfl) rfl hl.1 rfl (Nat.le_of_ble_eq_true rfl) dX9_redeem_35 ⟨by decide, by decide⟩ ⟨by decide, by decide⟩) hS (fun w2 z_10 H locs hp_11 hR hS => ?_)
      have hw2 : isC (keK K f cq) w2 := hp_11.1
      have hX : wX w w2 s.heap.size := hp_11.2.1.mo hsl_
      rw [show z_10 = keZ K (plZ z 0 (bN z 0 3) x) f cq 0 (bN z 0 3) (bN z 0 4) from hp_11.2.2] at hR
      rw [← hX.A] at hS
      have hZ2 : xZ (xA w2 s.heap.size) s s.heap := by rw [hX.A]; exact hZ
      rw [← hX.2.1 0 (hw.lo (by decide))] at hl
      refine W.widen (k := 48) (n := 574) (by decide) (by decide) ?_
      refine lv_aload_n hx hcb dX9_redeem_38 rfl (lv_at hl 1 rfl) ?_
      refine x_getR hx hcb hts hown hK xc9 hR (hw2.lo (by decide)) (hw2.s0 (by decide) rfl) 5 (by decide) rfl q_381 dX9_redeem_39 ?_
      refine lv_aload_n hx hcb dX9_redeem_42 rfl (lv_at hl 1 rfl) ?_
      refine x_getR hx hcb hts hown hK xc9 hR (hw2.lo (by decide)) (hw2.s0 (by decide) rfl) 0 (by decide) rfl q_376 dX9_redeem_43 ?_
      refine x_cv0 rfl rfl (x_runV hx hcb hml hown hts (c_X6_carryOut l G w2 (keK K f cq) hw2 (keZ K (plZ z 0 (bN z 0 3) x) f cq 0 (bN z 0 3) (bN z 0 4)) _ 0 (by omega) (plN z 0 (bN z 0 3)) (plM z 0 (bN z 0 3)) (plY z 0 (bN z 0 3)) (by rw [keZ_o (by decide) (by decide)]; exact plZ_n) (plN_le hb3_) (fun i hi => by rw [keZ_o (by decide) (by decide), keZ_o (by decide) (by decide)]; exact plZ_L hb3_ hi)) mv_X6_carryOut q_829 hK hZ2 hR hS (hw2.lo (by decide)) xc6 (hw2.s0 (by decide) rfl) rfl hl.1 rfl (Nat.le_of_ble_eq_true rfl) dX9_redeem_46 ⟨by decide, by decide⟩ ⟨by decide, by decide⟩) hS (fun z_13 H locs hp_14 hR hS => ?_)
      rw [hp_14] at hR
      refine lv_iload_n hx hcb dX9_redeem_49 rfl (lv_at hl 0 rfl) ?_
      exact hret (plR z 0 (bN z 0 3) x) w2 (crO (keZ K (plZ z 0 (bN z 0 3) x) f cq 0 (bN z 0 3) (bN z 0 4)) 0 (plM z 0 (bN z 0 3)) (plY z 0 (bN z 0 3)) (plN z 0 (bN z 0 3))) _ _ _ _ dX9_redeem_50 rfl hR (by rw [← hX.A]; exact hS) ⟨_, hw2, by rw [hsz]; exact hX, (by rw [if_neg (fun q_ => q_ h_)]; first | rw [if_pos h0_] | rw [if_neg h0_])⟩
  · skip
    have h_ : ¬ (¬ x < 0 ∧ x ≤ nI 10000000) := fun q_ => absurd c_4 (by rw [if_pos q_]; decide)
    refine lv_bipush (v := (-2)) hx hcb dX9_redeem_7 (by decide) ?_
    refine W.widen (k := 48) (n := 574) (by decide) (by decide) ?_
    exact hret (-2) w z _ _ _ _ dX9_redeem_9 rfl hR hS ⟨K, hw, wX.r0, (by rw [if_pos h_])⟩
def rm_X3_restore : Room := { frames := 3, cells := 0, slots := 0, locals := 83 }
set_option maxRecDepth 100000 in
set_option maxHeartbeats 4000000 in
theorem c_X3_restore (l : Launch) (G : xGl) (w : xWd) (K : Nat) (hw : isC K w) (z : xSt) (sz : Nat) (bx : Nat) (hbx : bx < 2 + K) (f cq mc dc : Nat) (hf : z.1 2 1 = nI f) (hc : z.1 2 2 = nI cq) (hf10 : f < 10) (hc10 : cq ≤ 10) (hb2 : bx < 2) (hri : ¬ cq = 0 → rix f cq < K) (hmc : ¬ cq = 0 → z.1 (oB (2 + rix f cq)) 3 = nI mc) (hmc8 : mc ≤ 8) (hdc : ¬ cq = 0 → z.1 (oB (2 + rix f cq)) 4 = nI dc) (hdc4 : dc ≤ 4) (hcn : ¬ cq = 0 → ∀ m, m < mc → z.1 (oM (2 + rix f cq) m) 1 = 0 ∨ z.1 (oM (2 + rix f cq) m) 1 = 1) : xMi l yX3_restore cX3_restore 3 (some FieldType.boolean) rm_X3_restore G w z sz [.ref (w.2.2 2), .ref (w.2.2 (oB bx))] (fun r z1 => (r, z1) = if cq = 0 then (0, z) else (1, u1 (cpA z bx (2 + rix f cq) mc dc) 2 2 (nI (cq - 1)))) := by
  refine x_mi (by decide) (Nat.le_of_ble_eq_true rfl) ?_
  intro p e s mt args below meth c ls Q hsz X hR hS hl hret
  obtain ⟨hx, hcb, hml, hown, hts, hlk, hK, hZ⟩ := X
  have hl : lv_has ls 3 [(0, .ref (w.2.2 2)), (1, .ref (w.2.2 (oB bx)))] := hl
  refine lv_aload_n hx hcb dX3_restore_0 rfl (lv_at hl 0 rfl) ?_
  refine x_getI hx hcb hts hown hK xc3 hR (hw.lo (by decide)) (hw.s0 (by decide) rfl) 2 (by decide) rfl q_319 dX3_restore_1 ?_
  refine x_top (show (z.1 2 2) = (nI cq) from hc) ?_
  refine lv_if_ne (tgt := 9) hx hcb dX3_restore_4 (by decide) (fun c_1 => ?_) (fun c_1 => ?_)
  · skip
    have c_1 : ¬ cq = 0 := fun h_ => c_1 ((nI_eq (a := cq) (b := 0) (by omega) (by omega)).mpr h_)
    have h_ : ¬ cq = 0 := c_1
    refine lv_aload_n hx hcb dX3_restore_9 rfl (lv_at hl 0 rfl) ?_
    refine x_getR hx hcb hts hown hK xc3 hR (hw.lo (by decide)) (hw.s0 (by decide) rfl) 0 (by decide) rfl q_317 dX3_restore_10 ?_
    refine lv_aload_n hx hcb dX3_restore_13 rfl (lv_at hl 0 rfl) ?_
    refine x_getI hx hcb hts hown hK xc3 hR (hw.lo (by decide)) (hw.s0 (by decide) rfl) 1 (by decide) rfl q_318 dX3_restore_14 ?_
    refine x_top (show (z.1 2 1) = (nI f) from hf) ?_
    refine lv_aload_n hx hcb dX3_restore_17 rfl (lv_at hl 0 rfl) ?_
    refine x_getI hx hcb hts hown hK xc3 hR (hw.lo (by decide)) (hw.s0 (by decide) rfl) 2 (by decide) rfl q_319 dX3_restore_18 ?_
    refine x_top (show (z.1 2 2) = (nI cq) from hc) ?_
    refine x_iaddN hx hcb dX3_restore_21 ?_
    refine lv_iconst (v := (nI 1)) hx hcb dX3_restore_22 (by decide) ?_
    refine x_isubN hx hcb (by omega) dX3_restore_23 ?_
    refine lv_bipush (v := (nI 10)) hx hcb dX3_restore_24 (by decide) ?_
    refine lv_irem hx hcb dX3_restore_26 (by decide) ?_
    refine x_top (show ((nI ((f + cq) - 1)) - (nI ((f + cq) - 1)) / (nI 10) * (nI 10)) = (nI (rix f cq)) from nI_m10 (by omega)) ?_
    refine x_aald hx hcb hK hR (hw.lo (by decide)) (hw.s0 (by decide) rfl) rfl (kepts_y (hri h_) (Nat.mod_lt _ (by decide))) (by rw [kepts_len]; decide) dX3_restore_27 ?_
    refine lv_astore_n (lv' := [(2, .ref (w.2.2 (oB (2 + rix f cq)))), (0, .ref (w.2.2 2)), (1, .ref (w.2.2 (oB bx)))]) hx hcb dX3_restore_28 rfl hl (by decide) rfl (fun ls hl => ?_)
    refine lv_aload_n hx hcb dX3_restore_29 rfl (lv_at hl 0 rfl) ?_
    refine lv_ifnonnull (tgt := 35) hx hcb dX3_restore_30 (by decide) ?_
    refine lv_aload_n hx hcb dX3_restore_35 rfl (lv_at hl 2 rfl) ?_
    refine lv_aload_n hx hcb dX3_restore_36 rfl (lv_at hl 0 rfl) ?_
    refine x_cv0 rfl rfl (x_runV hx hcb hml hown hts (c_X0_copyFrom l G w K hw z _ bx hbx (2 + rix f cq) (by have := hri h_; omega) mc dc (by omega) (hmc h_) hmc8 (hdc h_) hdc4 (hcn h_)) mv_X0_copyFrom q_851 hK hZ hR hS (hoB hw hbx) xc0 (hsB hw) rfl hl.1 rfl (Nat.le_of_ble_eq_true rfl) dX3_restore_37 ⟨by decide, by decide⟩ ⟨by decide, by decide⟩) hS (fun z_3 H locs hp_4 hR hS => ?_)
    rw [hp_4] at hR
    refine lv_aload_n hx hcb dX3_restore_40 rfl (lv_at hl 1 rfl) ?_
    refine lv_dup hx hcb dX3_restore_41 rfl ?_
    refine x_getI hx hcb hts hown hK xc3 hR (hw.lo (by decide)) (hw.s0 (by decide) rfl) 2 (by decide) rfl q_319 dX3_restore_42 ?_
    refine x_top (show ((cpA z bx (2 + rix f cq) mc dc).1 2 2) = (nI cq) from by rw [cpA_out (by (try simp only [oB, oM, oPt, oLf, oKd, oPd, oSt, oD, oMs, oDs]); omega)]; exact hc) ?_
    refine lv_iconst (v := (nI 1)) hx hcb dX3_restore_45 (by decide) ?_
    refine x_isubN hx hcb (by omega) dX3_restore_46 ?_
    refine x_putI hx hcb hts hown hK xc3 hR hS (hw.lo (by decide)) (hw.s0 (by decide) rfl) 2 (by decide) rfl q_319 rfl (v := (nI (cq - 1))) rfl rfl dX3_restore_47 (fun H locs hR hS => ?_)
    refine lv_iconst (v := (nI 1)) hx hcb dX3_restore_50 (by decide) ?_
    exact hret (nI 1) (u1 (cpA z bx (2 + rix f cq) mc dc) 2 2 (nI (cq - 1))) _ _ _ _ dX3_restore_51 rfl hR hS (by rw [if_neg h_]; first | done | rfl)
  · skip
    have c_1 : cq = 0 := (nI_eq (a := cq) (b := 0) (by omega) (by omega)).mp c_1
    have h_ : cq = 0 := c_1
    refine lv_iconst (v := (nI 0)) hx hcb dX3_restore_7 (by decide) ?_
    exact hret (nI 0) z _ _ _ _ dX3_restore_8 rfl hR hS (by rw [if_pos h_]; first | done | rfl)
def rm_X9_undo : Room := { frames := 4, cells := 0, slots := 0, locals := 105 }
set_option maxRecDepth 100000 in
set_option maxHeartbeats 4000000 in
theorem c_X9_undo (l : Launch) (G : xGl) (w : xWd) (K : Nat) (hw : isC K w) (z : xSt) (sz : Nat)  (f cq mc dc : Nat) (hf : z.1 2 1 = nI f) (hc : z.1 2 2 = nI cq) (hf10 : f < 10) (hc10 : cq ≤ 10) (hri : ¬ cq = 0 → rix f cq < K) (hmc : ¬ cq = 0 → z.1 (oB (2 + rix f cq)) 3 = nI mc) (hmc8 : mc ≤ 8) (hdc : ¬ cq = 0 → z.1 (oB (2 + rix f cq)) 4 = nI dc) (hdc4 : dc ≤ 4) (hcn : ¬ cq = 0 → ∀ m, m < mc → z.1 (oM (2 + rix f cq) m) 1 = 0 ∨ z.1 (oM (2 + rix f cq) m) 1 = 1) : xMi l yX9_undo cX9_undo 1 (some FieldType.int) rm_X9_undo G w z sz [.ref (w.2.2 0)] (fun r z1 => (r, z1) = if cq = 0 then ((-1), z) else (nI (cq - 1), u1 (cpA z 0 (2 + rix f cq) mc dc) 2 2 (nI (cq - 1)))) := by
  refine x_mi (by decide) (Nat.le_of_ble_eq_true rfl) ?_
  intro p e s mt args below meth c ls Q hsz X hR hS hl hret
  obtain ⟨hx, hcb, hml, hown, hts, hlk, hK, hZ⟩ := X
  have hl : lv_has ls 1 [(0, .ref (w.2.2 0))] := hl
  refine lv_aload_n hx hcb dX9_undo_0 rfl (lv_at hl 0 rfl) ?_
  refine x_getR hx hcb hts hown hK xc9 hR (hw.lo (by decide)) (hw.s0 (by decide) rfl) 3 (by decide) rfl q_379 dX9_undo_1 ?_
  refine lv_aload_n hx hcb dX9_undo_4 rfl (lv_at hl 0 rfl) ?_
  refine x_getR hx hcb hts hown hK xc9 hR (hw.lo (by decide)) (hw.s0 (by decide) rfl) 0 (by decide) rfl q_376 dX9_undo_5 ?_
  refine x_ci0 rfl rfl (x_runV hx hcb hml hown hts (c_X3_restore l G w K hw z _ 0 (by omega) f cq mc dc hf hc hf10 hc10 (by omega) hri hmc hmc8 hdc hdc4 hcn) mv_X3_restore q_889 hK hZ hR hS (hw.lo (by decide)) xc3 (hw.s0 (by decide) rfl) rfl hl.1 rfl (Nat.le_of_ble_eq_true rfl) dX9_undo_8 ⟨by decide, by decide⟩ ⟨by decide, by decide⟩) hS (fun r_1 z_2 H locs hp_3 hR hS => ?_)
  have hps_ := hp_3
  refine lv_if_eq (tgt := 24) hx hcb dX9_undo_11 (by decide) (fun c_4 => ?_) (fun c_4 => ?_)
  · skip
    have h_ : cq = 0 := Classical.byContradiction (fun q_ => by rw [if_neg q_] at hps_; rw [c_4] at hps_; exact absurd (Prod.mk.inj hps_).1 (by decide))
    rw [if_pos h_] at hps_
    have hz_ := (Prod.mk.inj hps_).2
    rw [hz_] at hR
    refine lv_iconst (v := (-1)) hx hcb dX9_undo_24 (by decide) ?_
    exact hret (-1) z _ _ _ _ dX9_undo_25 rfl hR hS (by first | (rw [if_pos h_]; done) | (rw [if_neg h_]; done))
  · skip
    have h_ : ¬ cq = 0 := fun q_ => c_4 (by rw [if_pos q_] at hps_; exact (Prod.mk.inj hps_).1)
    rw [if_neg h_] at hps_
    have hz_ := (Prod.mk.inj hps_).2
    rw [hz_] at hR
    refine lv_aload_n hx hcb dX9_undo_14 rfl (lv_at hl 0 rfl) ?_
    refine x_getR hx hcb hts hown hK xc9 hR (hw.lo (by decide)) (hw.s0 (by decide) rfl) 3 (by decide) rfl q_379 dX9_undo_15 ?_
    refine x_getN hx hcb hts hown hK xc3 hR (hw.lo (by decide)) (hw.s0 (by decide) rfl) 2 (by decide) rfl (hZ.1.1 _ (List.mem_of_getElem? (i := 9) rfl)) dX9_undo_18 ?_
    refine x_top (show ((u1 (cpA z 0 (2 + rix f cq) mc dc) 2 2 (nI (cq - 1))).1 2 2) = (nI (cq - 1)) from rfl) ?_
    refine lv_goto (tgt := 25) hx hcb dX9_undo_21 (by decide) ?_
    exact hret (nI (cq - 1)) (u1 (cpA z 0 (2 + rix f cq) mc dc) 2 2 (nI (cq - 1))) _ _ _ _ dX9_undo_25 rfl hR hS (by first | (rw [if_pos h_]; done) | (rw [if_neg h_]; done))
