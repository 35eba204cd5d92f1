/-! THE REFERENCE: small changes -/
theorem kpS_4 (z : xSt) (u : Nat) : (kpS z u).1 4 = z.1 4 := by unfold kpS; split <;> rfl
theorem kpS_2 (z : xSt) (u : Nat) : (kpS z u).1 2 = z.1 2 := by unfold kpS; split <;> rfl
def lvQ (z : xSt) (k u : Nat) : Int32 × xSt :=
  if eqQ z k = 0 then (nI 0, u1 (u1 (kpS (u1 z 0 0 0) u) 4 (5 + k) 2) 4 (21 + k) 0) else (z.1 4 2, u1 (u1 (kpS (u1 z 0 0 0) u) 4 (5 + k) 1) 4 (21 + k) (z.1 4 2))
def cbQ (v : Int32) : Int32 := if v = 0 then nI 0 else nI 1
def fdV (a b c d e : Int32) (k : Nat) : Int32 := if k < 4 then a else if k < 8 then b else if k < 12 then c else if k < 16 then d else e
def fdB (a b c d e : Int32) (k : Nat) : Int32 := (fdV a b c d e k >>> (nI (24 - 8 * (k % 4)) &&& 31)) &&& nI 255
theorem nI_m4 {i : Nat} (h : i < 20) : nI i - nI i / nI 4 * nI 4 = nI (i % 4) := by
  have : ∀ j : Fin 20, nI j.1 - nI j.1 / nI 4 * nI 4 = nI (j.1 % 4) := by decide
  exact this ⟨i, h⟩
def bkR {α : Type} (q n : Nat) (f g : Nat → α) : Nat → α := fun j => if q ≤ j ∧ j < q + n then f (j - q) else g j
theorem bk_0 {α : Type} (q : Nat) (f g : Nat → α) : bkR q 0 f g = g := funext (fun j => if_neg (by omega))
theorem bk_s {α : Type} (q n : Nat) (f g : Nat → α) : va_up (bkR q n f g) (q + n) (f n) = bkR q (n + 1) f g := by
  refine funext fun j => ?_
  unfold bkR
  by_cases hj : j = q + n
  · rw [hj, va_up_self, if_pos (by omega), Nat.add_sub_cancel_left]
  · rw [va_up_ne _ _ hj]
    by_cases h2 : q ≤ j ∧ j < q + n
    · rw [if_pos h2, if_pos (by omega)]
    · rw [if_neg h2, if_neg (by omega)]
def rm_X10_trade : Room := { frames := 1, cells := 0, slots := 0, locals := 21 }
set_option maxRecDepth 100000 in
set_option maxHeartbeats 4000000 in
theorem c_X10_trade (l : Launch) (G : xGl) (w : xWd) (hw : isM w) (z : xSt) (sz : Nat) (x : Int32) (y : Int32) (a : Int32) (u : Nat) (hO : rOk z) (hu : z.1 0 8 = nI u) (hu10 : u ≤ 10) : xMi l yX10_trade cX10_trade 5 (some FieldType.int) rm_X10_trade G w z sz [.ref (w.2.2 0), .int x, .int y, .int a] (fun r z1 => (r, z1) = if ¬ (inR x (mQ z 12) ∧ inR y (mQ z 13)) then ((-1), u1 z 0 0 0) else (if a < nI 1 ∨ ¬ a ≤ nI 100000 then ((-2), u1 z 0 0 0) else (if ¬ z.1 4 (5 + x.toNatClampNeg) = 0 then ((-4), u1 z 0 0 0) else (if ¬ z.1 4 (29 + 4 * x.toNatClampNeg + y.toNatClampNeg) + a ≤ nI 1000000 then ((-3), u1 z 0 0 0) else ((z.1 4 (29 + 4 * x.toNatClampNeg + y.toNatClampNeg) + a, u1 (kpS (u1 z 0 0 0) u) 4 (29 + 4 * x.toNatClampNeg + y.toNatClampNeg) (z.1 4 (29 + 4 * x.toNatClampNeg + y.toNatClampNeg) + a))))))) := by
  refine x_mi (by decide) (Nat.le_of_ble_eq_true rfl) ?_
  intro p e s mt args below meth c ls Q hsz X hR hS hl hret
  obtain ⟨hx, hcb, hml, hown, hts, hlk, hK, hZ⟩ := X
  have hl : lv_has ls 5 [(0, .ref (w.2.2 0)), (1, .int x), (2, .int y), (3, .int a)] := hl
  have hm8_ := hO.2.1
  have hd4_ := hO.2.2.2.1
  have hy24_ := hO.2.2.2.2.2
  refine lv_aload_n hx hcb dX10_trade_0 rfl (lv_at hl 0 rfl) ?_
  refine lv_iconst (v := (nI 0)) hx hcb dX10_trade_1 (by decide) ?_
  refine x_putI hx hcb hts hown hK xc10 hR hS (hw.lo (by decide)) (hw.s0 rfl) 0 (by decide) rfl q_1166 rfl (v := 0) rfl rfl dX10_trade_2 (fun H locs hR hS => ?_)
  refine lv_aload_n hx hcb dX10_trade_5 rfl (lv_at hl 0 rfl) ?_
  refine lv_iload_n hx hcb dX10_trade_6 rfl (lv_at hl 1 rfl) ?_
  refine x_ci0 rfl rfl (x_runV hx hcb hml hown hts (c_X10_isMember l G w hw (u1 z 0 0 0) _ x hO) mv_X10_isMember q_1456 hK hZ hR hS (hw.lo (by decide)) xc10 (hw.s0 rfl) rfl hl.1 rfl (Nat.le_of_ble_eq_true rfl) dX10_trade_7 ⟨by decide, by decide⟩ ⟨by decide, by decide⟩) hS (fun r_1 z_2 H locs hp_3 hR hS => ?_)
  rw [hp_3.2] at hR; rw [hp_3.1]
  refine x_top (show (if inR x (mQ (u1 z 0 0 0) 12) then 1 else 0) = (if inR x (mQ z 12) then 1 else 0) from rfl) ?_
  refine lv_if_eq (tgt := 21) hx hcb dX10_trade_10 (by decide) (fun c_4 => ?_) (fun c_4 => ?_)
  · skip
    have h1_ : ¬ (inR x (mQ z 12)) := fun q_ => absurd c_4 (by rw [if_pos q_]; decide)
    have hA_ : ¬ (inR x (mQ z 12) ∧ inR y (mQ z 13)) := fun q_ => h1_ q_.1
    refine lv_iconst (v := (-1)) hx hcb dX10_trade_21 (by decide) ?_
    exact hret (-1) (u1 z 0 0 0) _ _ _ _ dX10_trade_22 rfl hR hS (by rw [if_pos hA_])
  · skip
    have h1_ : inR x (mQ z 12) := Classical.byContradiction (fun q_ => c_4 (if_neg q_))
    refine lv_aload_n hx hcb dX10_trade_13 rfl (lv_at hl 0 rfl) ?_
    refine lv_iload_n hx hcb dX10_trade_14 rfl (lv_at hl 2 rfl) ?_
    refine x_ci0 rfl rfl (x_runV hx hcb hml hown hts (c_X10_isDepartment l G w hw (u1 z 0 0 0) _ y hO) mv_X10_isDepartment q_1472 hK hZ hR hS (hw.lo (by decide)) xc10 (hw.s0 rfl) rfl hl.1 rfl (Nat.le_of_ble_eq_true rfl) dX10_trade_15 ⟨by decide, by decide⟩ ⟨by decide, by decide⟩) hS (fun r_5 z_6 H locs hp_7 hR hS => ?_)
    rw [hp_7.2] at hR; rw [hp_7.1]
    refine x_top (show (if inR y (mQ (u1 z 0 0 0) 13) then 1 else 0) = (if inR y (mQ z 13) then 1 else 0) from rfl) ?_
    refine lv_if_ne (tgt := 23) hx hcb dX10_trade_18 (by decide) (fun c_8 => ?_) (fun c_8 => ?_)
    · skip
      have h2_ : inR y (mQ z 13) := Classical.byContradiction (fun q_ => c_8 (if_neg q_))
      have hA_ : ¬ ¬ (inR x (mQ z 12) ∧ inR y (mQ z 13)) := fun q_ => q_ ⟨h1_, h2_⟩
      have hxk_ := inR_k (n := mQ z 12) (by omega) h1_
      obtain ⟨k_, ek_⟩ : ∃ q_, q_ = x.toNatClampNeg := ⟨_, rfl⟩
      rw [← ek_] at hxk_
      have hltk_ := hxk_.2
      rw [hxk_.1] at hl
      have hxj_ := inR_k (n := mQ z 13) (by omega) h2_
      obtain ⟨j_, ej_⟩ : ∃ q_, q_ = y.toNatClampNeg := ⟨_, rfl⟩
      rw [← ej_] at hxj_
      have hltj_ := hxj_.2
      rw [hxj_.1] at hl
      refine lv_iload_n hx hcb dX10_trade_23 rfl (lv_at hl 3 rfl) ?_
      refine lv_iconst (v := (nI 1)) hx hcb dX10_trade_24 (by decide) ?_
      refine lv_icmp_lt (tgt := 34) hx hcb dX10_trade_25 (by decide) (fun c_9 => ?_) (fun c_9 => ?_)
      · skip
        have hB_ : a < nI 1 ∨ ¬ a ≤ nI 100000 := Or.inl c_9
        refine lv_bipush (v := (-2)) hx hcb dX10_trade_34 (by decide) ?_
        exact hret (-2) (u1 z 0 0 0) _ _ _ _ dX10_trade_36 rfl hR hS (by rw [if_neg hA_, if_pos hB_])
      · skip
        have hB0_ := c_9
        refine lv_iload_n hx hcb dX10_trade_28 rfl (lv_at hl 3 rfl) ?_
        refine lv_ldc (v := (nI 100000)) hx hcb hown (hts _ q_1340) dX10_trade_29 ?_
        refine lv_icmp_le (tgt := 37) hx hcb dX10_trade_31 (by decide) (fun c_10 => ?_) (fun c_10 => ?_)
        · skip
          have hB_ : ¬ (a < nI 1 ∨ ¬ a ≤ nI 100000) := fun q_ => q_.elim hB0_ (fun t_ => t_ c_10)
          refine lv_aload_n hx hcb dX10_trade_37 rfl (lv_at hl 0 rfl) ?_
          refine x_getR hx hcb hts hown hK xc10 hR (hw.lo (by decide)) (hw.s0 rfl) 5 (by decide) rfl q_1171 dX10_trade_38 ?_
          refine lv_iconst (v := (nI 5)) hx hcb dX10_trade_41 (by decide) ?_
          refine lv_iload_n hx hcb dX10_trade_42 rfl (lv_at hl 1 rfl) ?_
          refine x_iaddN hx hcb dX10_trade_43 ?_
          refine x_iald hx hcb hK hR (hw.lo (by decide)) (hw.s0 rfl) (k := (5 + k_)) (by omega) (by decide) dX10_trade_44 ?_
          refine lv_if_eq (tgt := 51) hx hcb dX10_trade_45 (by decide) (fun c_11 => ?_) (fun c_11 => ?_)
          · skip
            have hC_ : ¬ ¬ z.1 4 (5 + k_) = 0 := fun q_ => q_ c_11
            refine lv_bipush (v := (nI 29)) hx hcb dX10_trade_51 (by decide) ?_
            refine lv_iconst (v := (nI 4)) hx hcb dX10_trade_53 (by decide) ?_
            refine lv_iload_n hx hcb dX10_trade_54 rfl (lv_at hl 1 rfl) ?_
            refine x_imulN hx hcb dX10_trade_55 ?_
            refine x_iaddN hx hcb dX10_trade_56 ?_
            refine lv_iload_n hx hcb dX10_trade_57 rfl (lv_at hl 2 rfl) ?_
            refine x_iaddN hx hcb dX10_trade_58 ?_
            refine lv_istore (lv' := [(4, .int (nI ((29 + (4 * k_)) + j_))), (0, .ref (w.2.2 0)), (1, .int (nI k_)), (2, .int (nI j_)), (3, .int a)]) hx hcb dX10_trade_59 hl (by decide) rfl (fun ls hl => ?_)
            refine lv_aload_n hx hcb dX10_trade_61 rfl (lv_at hl 1 rfl) ?_
            refine x_getR hx hcb hts hown hK xc10 hR (hw.lo (by decide)) (hw.s0 rfl) 5 (by decide) rfl q_1171 dX10_trade_62 ?_
            refine lv_iload hx hcb dX10_trade_65 (lv_at hl 0 rfl) ?_
            refine x_iald hx hcb hK hR (hw.lo (by decide)) (hw.s0 rfl) (k := ((29 + (4 * k_)) + j_)) (by omega) (by decide) dX10_trade_67 ?_
            refine x_top (show ((u1 z 0 0 0).1 4 ((29 + (4 * k_)) + j_)) = (z.1 4 (29 + 4 * k_ + j_)) from rfl) ?_
            refine lv_iload_n hx hcb dX10_trade_68 rfl (lv_at hl 4 rfl) ?_
            refine lv_iadd hx hcb dX10_trade_69 ?_
            refine lv_ldc (v := (nI 1000000)) hx hcb hown (hts _ q_1345) dX10_trade_70 ?_
            refine lv_icmp_le (tgt := 78) hx hcb dX10_trade_72 (by decide) (fun c_12 => ?_) (fun c_12 => ?_)
            · skip
              have hD_ : ¬ ¬ z.1 4 (29 + 4 * k_ + j_) + a ≤ nI 1000000 := fun q_ => q_ c_12
              refine lv_aload_n hx hcb dX10_trade_78 rfl (lv_at hl 1 rfl) ?_
              refine x_cv0 rfl rfl (x_runV hx hcb hml hown hts (c_X10_keeps l G w hw (u1 z 0 0 0) _ u hu hu10) mv_X10_keeps q_1669 hK hZ hR hS (hw.lo (by decide)) xc10 (hw.s0 rfl) rfl hl.1 rfl (Nat.le_of_ble_eq_true rfl) dX10_trade_79 ⟨by decide, by decide⟩ ⟨by decide, by decide⟩) hS (fun z_14 H locs hp_15 hR hS => ?_)
              rw [hp_15] at hR
              refine lv_aload_n hx hcb dX10_trade_82 rfl (lv_at hl 1 rfl) ?_
              refine x_getR hx hcb hts hown hK xc10 hR (hw.lo (by decide)) (hw.s0 rfl) 5 (by decide) rfl q_1171 dX10_trade_83 ?_
              refine lv_iload hx hcb dX10_trade_86 (lv_at hl 0 rfl) ?_
              refine lv_dup2_11 hx hcb dX10_trade_88 rfl rfl ?_
              refine x_iald hx hcb hK hR (hw.lo (by decide)) (hw.s0 rfl) (k := ((29 + (4 * k_)) + j_)) (by omega) (by decide) dX10_trade_89 ?_
              refine x_top (show ((kpS (u1 z 0 0 0) u).1 4 ((29 + (4 * k_)) + j_)) = (z.1 4 (29 + 4 * k_ + j_)) from by rw [kpS_4]; rfl) ?_
              refine lv_iload_n hx hcb dX10_trade_90 rfl (lv_at hl 4 rfl) ?_
              refine lv_iadd hx hcb dX10_trade_91 ?_
              refine x_iast hx hcb hK hR hS (hw.lo (by decide)) (hw.s0 rfl) (k := ((29 + (4 * k_)) + j_)) (v := ((z.1 4 (29 + 4 * k_ + j_)) + a)) (by omega) (by decide) dX10_trade_92 (fun H locs hR hS => ?_)
              refine lv_aload_n hx hcb dX10_trade_93 rfl (lv_at hl 1 rfl) ?_
              refine x_getR hx hcb hts hown hK xc10 hR (hw.lo (by decide)) (hw.s0 rfl) 5 (by decide) rfl q_1171 dX10_trade_94 ?_
              refine lv_iload hx hcb dX10_trade_97 (lv_at hl 0 rfl) ?_
              refine x_iald hx hcb hK hR (hw.lo (by decide)) (hw.s0 rfl) (k := ((29 + (4 * k_)) + j_)) (by omega) (by decide) dX10_trade_99 ?_
              refine x_top (show ((u1 (kpS (u1 z 0 0 0) u) 4 ((29 + (4 * k_)) + j_) ((z.1 4 (29 + 4 * k_ + j_)) + a)).1 4 ((29 + (4 * k_)) + j_)) = (z.1 4 (29 + 4 * k_ + j_) + a) from by rw [u1_at, va_up_self]) ?_
              exact hret (z.1 4 (29 + 4 * k_ + j_) + a) (u1 (kpS (u1 z 0 0 0) u) 4 ((29 + (4 * k_)) + j_) ((z.1 4 (29 + 4 * k_ + j_)) + a)) _ _ _ _ dX10_trade_100 rfl hR hS (by rw [if_neg hA_, if_neg hB_, ← ek_, if_neg hC_, ← ej_, if_neg hD_])
            · skip
              have hD_ : ¬ z.1 4 (29 + 4 * k_ + j_) + a ≤ nI 1000000 := c_12
              refine lv_bipush (v := (-3)) hx hcb dX10_trade_75 (by decide) ?_
              exact hret (-3) (u1 z 0 0 0) _ _ _ _ dX10_trade_77 rfl hR hS (by rw [if_neg hA_, if_neg hB_, ← ek_, if_neg hC_, ← ej_, if_pos hD_])
          · skip
            have hC_ : ¬ z.1 4 (5 + k_) = 0 := c_11
            refine lv_bipush (v := (-4)) hx hcb dX10_trade_48 (by decide) ?_
            exact hret (-4) (u1 z 0 0 0) _ _ _ _ dX10_trade_50 rfl hR hS (by rw [if_neg hA_, if_neg hB_, ← ek_, if_pos hC_])
        · skip
          have hB_ : a < nI 1 ∨ ¬ a ≤ nI 100000 := Or.inr c_10
          refine lv_bipush (v := (-2)) hx hcb dX10_trade_34 (by decide) ?_
          exact hret (-2) (u1 z 0 0 0) _ _ _ _ dX10_trade_36 rfl hR hS (by rw [if_neg hA_, if_pos hB_])
    · skip
      have h2_ : ¬ (inR y (mQ z 13)) := fun q_ => absurd c_8 (by rw [if_pos q_]; decide)
      have hA_ : ¬ (inR x (mQ z 12) ∧ inR y (mQ z 13)) := fun q_ => h2_ q_.2
      refine lv_iconst (v := (-1)) hx hcb dX10_trade_21 (by decide) ?_
      exact hret (-1) (u1 z 0 0 0) _ _ _ _ dX10_trade_22 rfl hR hS (by rw [if_pos hA_])
def rm_X10_leave : Room := { frames := 2, cells := 0, slots := 0, locals := 45 }
set_option maxRecDepth 100000 in
set_option maxHeartbeats 4000000 in
theorem c_X10_leave (l : Launch) (G : xGl) (w : xWd) (hw : isM w) (z : xSt) (sz : Nat) (x : Int32) (u : Nat) (hO : rOk z) (hu : z.1 0 8 = nI u) (hu10 : u ≤ 10) : xMi l yX10_leave cX10_leave 3 (some FieldType.int) rm_X10_leave G w z sz [.ref (w.2.2 0), .int x] (fun r z1 => (r, z1) = if ¬ (inR x (mQ z 12)) then ((-1), u1 z 0 0 0) else (if ¬ z.1 4 (5 + x.toNatClampNeg) = 0 then ((-4), u1 z 0 0 0) else (if xan (fun y => decide (0 < z.1 4 (29 + 4 * x.toNatClampNeg + y))) 4 0 = 1 then ((-4), u1 z 0 0 0) else (lvQ z x.toNatClampNeg u)))) := by
  refine x_mi (by decide) (Nat.le_of_ble_eq_true rfl) ?_
  intro p e s mt args below meth c ls Q hsz X hR hS hl hret
  obtain ⟨hx, hcb, hml, hown, hts, hlk, hK, hZ⟩ := X
  have hl : lv_has ls 3 [(0, .ref (w.2.2 0)), (1, .int x)] := hl
  have hm8_ := hO.2.1
  have hd4_ := hO.2.2.2.1
  have hy24_ := hO.2.2.2.2.2
  refine lv_aload_n hx hcb dX10_leave_0 rfl (lv_at hl 0 rfl) ?_
  refine lv_iconst (v := (nI 0)) hx hcb dX10_leave_1 (by decide) ?_
  refine x_putI hx hcb hts hown hK xc10 hR hS (hw.lo (by decide)) (hw.s0 rfl) 0 (by decide) rfl q_1166 rfl (v := 0) rfl rfl dX10_leave_2 (fun H locs hR hS => ?_)
  refine lv_aload_n hx hcb dX10_leave_5 rfl (lv_at hl 0 rfl) ?_
  refine lv_iload_n hx hcb dX10_leave_6 rfl (lv_at hl 1 rfl) ?_
  refine x_ci0 rfl rfl (x_runV hx hcb hml hown hts (c_X10_isMember l G w hw (u1 z 0 0 0) _ x hO) mv_X10_isMember q_1456 hK hZ hR hS (hw.lo (by decide)) xc10 (hw.s0 rfl) rfl hl.1 rfl (Nat.le_of_ble_eq_true rfl) dX10_leave_7 ⟨by decide, by decide⟩ ⟨by decide, by decide⟩) hS (fun r_1 z_2 H locs hp_3 hR hS => ?_)
  rw [hp_3.2] at hR; rw [hp_3.1]
  refine x_top (show (if inR x (mQ (u1 z 0 0 0) 12) then 1 else 0) = (if inR x (mQ z 12) then 1 else 0) from rfl) ?_
  refine lv_if_ne (tgt := 15) hx hcb dX10_leave_10 (by decide) (fun c_4 => ?_) (fun c_4 => ?_)
  · skip
    have h_ : inR x (mQ z 12) := Classical.byContradiction (fun q_ => c_4 (if_neg q_))
    have hxk_ := inR_k (n := mQ z 12) (by omega) h_
    obtain ⟨k_, ek_⟩ : ∃ q_, q_ = x.toNatClampNeg := ⟨_, rfl⟩
    rw [← ek_] at hxk_
    have hltk_ := hxk_.2
    rw [hxk_.1] at hl
    refine lv_aload_n hx hcb dX10_leave_15 rfl (lv_at hl 0 rfl) ?_
    refine x_getR hx hcb hts hown hK xc10 hR (hw.lo (by decide)) (hw.s0 rfl) 5 (by decide) rfl q_1171 dX10_leave_16 ?_
    refine lv_iconst (v := (nI 5)) hx hcb dX10_leave_19 (by decide) ?_
    refine lv_iload_n hx hcb dX10_leave_20 rfl (lv_at hl 1 rfl) ?_
    refine x_iaddN hx hcb dX10_leave_21 ?_
    refine x_iald hx hcb hK hR (hw.lo (by decide)) (hw.s0 rfl) (k := (5 + k_)) (by omega) (by decide) dX10_leave_22 ?_
    refine lv_if_eq (tgt := 29) hx hcb dX10_leave_23 (by decide) (fun c_5 => ?_) (fun c_5 => ?_)
    · skip
      have hC_ : ¬ ¬ z.1 4 (5 + k_) = 0 := fun q_ => q_ c_5
      refine lv_iconst (v := (nI 0)) hx hcb dX10_leave_29 (by decide) ?_
      refine lv_istore_n (lv' := [(2, .int (nI 0)), (0, .ref (w.2.2 0)), (1, .int (nI k_))]) hx hcb dX10_leave_30 rfl hl (by decide) rfl (fun ls hl => ?_)
      suffices LP_31 : ∀ (nn : Nat) (i_ : Nat) (_ : 4 - i_ < nn) (hi_ : i_ ≤ 4) (hf_ : xan (fun y => decide (0 < z.1 4 (29 + 4 * k_ + y))) 4 0 = xan (fun y => decide (0 < z.1 4 (29 + 4 * k_ + y))) (4 - i_) i_) (H : Heap) (locs : List Loc) (ls : Array Slot), Rh G w (u1 z 0 0 0) H → va_S (xA w s.heap.size) s.heap H locs → lv_has ls 3 [(0, .ref (w.2.2 0)), (1, .int (nI k_)), (2, .int (nI i_))] → W p l e rm_X10_leave s mt args below meth c H locs 0 0 Q (F0 mt 31 ls []) from LP_31 ((_) + 1) 0 (Nat.lt_succ_self _) (by omega) rfl _ _ _ hR hS (lv_sub hl [1, 2, 0] rfl)
      intro nn
      induction nn with
      | zero => intro i_ hm_ ; exact absurd hm_ (Nat.not_lt_zero _)
      | succ nn ih_31 =>
        intro i_ hm_31 hi_ hf_ H locs ls hR hS hl
        refine lv_iload_n hx hcb dX10_leave_31 rfl (lv_at hl 2 rfl) ?_
        refine lv_iconst (v := (nI 4)) hx hcb dX10_leave_32 (by decide) ?_
        refine lv_icmp_ge (tgt := 61) hx hcb dX10_leave_33 (by decide) (fun c_6 => ?_) (fun c_6 => ?_)
        · skip
          have c_6 : 4 ≤ i_ := (nI_leI (by omega) (by omega)).mp c_6
          have hP_ : ¬ xan (fun y => decide (0 < z.1 4 (29 + 4 * k_ + y))) 4 0 = 1 := by rw [hf_, show 4 - i_ = 0 by omega]; exact (by decide : ¬ (0 : Int32) = 1)
          refine lv_aload_n hx hcb dX10_leave_61 rfl (lv_at hl 0 rfl) ?_
          refine x_cv0 rfl rfl (x_runV hx hcb hml hown hts (c_X10_keeps l G w hw (u1 z 0 0 0) _ u hu hu10) mv_X10_keeps q_1669 hK hZ hR hS (hw.lo (by decide)) xc10 (hw.s0 rfl) rfl hl.1 rfl (Nat.le_of_ble_eq_true rfl) dX10_leave_62 ⟨by decide, by decide⟩ ⟨by decide, by decide⟩) hS (fun z_8 H locs hp_9 hR hS => ?_)
          rw [hp_9] at hR
          refine lv_aload_n hx hcb dX10_leave_65 rfl (lv_at hl 0 rfl) ?_
          refine lv_iload_n hx hcb dX10_leave_66 rfl (lv_at hl 1 rfl) ?_
          refine x_ci0 rfl rfl (x_runV hx hcb hml hown hts (c_X10_equity l G w hw (kpS (u1 z 0 0 0) u) _ k_ (by omega)) mv_X10_equity q_1403 hK hZ hR hS (hw.lo (by decide)) xc10 (hw.s0 rfl) rfl hl.1 rfl (Nat.le_of_ble_eq_true rfl) dX10_leave_67 ⟨by decide, by decide⟩ ⟨by decide, by decide⟩) hS (fun r_10 z_11 H locs hp_12 hR hS => ?_)
          rw [hp_12.2] at hR; rw [hp_12.1]
          refine x_top (show (eqQ (kpS (u1 z 0 0 0) u) k_) = (eqQ z k_) from by unfold eqQ lfQ; rw [kpS_4]; rfl) ?_
          refine lv_if_ne (tgt := 77) hx hcb dX10_leave_70 (by decide) (fun c_13 => ?_) (fun c_13 => ?_)
          · skip
            have hE_ : ¬ eqQ z k_ = 0 := c_13
            refine lv_iconst (v := (nI 0)) hx hcb dX10_leave_77 (by decide) ?_
            refine lv_istore_n (lv' := [(2, .int (nI 0)), (0, .ref (w.2.2 0)), (1, .int (nI k_))]) hx hcb dX10_leave_78 rfl hl (by decide) rfl (fun ls hl => ?_)
            refine lv_aload_n hx hcb dX10_leave_79 rfl (lv_at hl 1 rfl) ?_
            refine x_getR hx hcb hts hown hK xc10 hR (hw.lo (by decide)) (hw.s0 rfl) 5 (by decide) rfl q_1171 dX10_leave_80 ?_
            refine lv_iconst (v := (nI 5)) hx hcb dX10_leave_83 (by decide) ?_
            refine lv_iload_n hx hcb dX10_leave_84 rfl (lv_at hl 2 rfl) ?_
            refine x_iaddN hx hcb dX10_leave_85 ?_
            refine lv_iload_n hx hcb dX10_leave_86 rfl (lv_at hl 0 rfl) ?_
            refine lv_if_eq (tgt := 94) hx hcb dX10_leave_87 (by decide) (fun c_14 => ?_) (fun c_14 => ?_)
            · skip
              refine lv_iconst (v := (nI 1)) hx hcb dX10_leave_94 (by decide) ?_
              refine x_iast hx hcb hK hR hS (hw.lo (by decide)) (hw.s0 rfl) (k := (5 + k_)) (v := 1) (by omega) (by decide) dX10_leave_95 (fun H locs hR hS => ?_)
              refine lv_aload_n hx hcb dX10_leave_96 rfl (lv_at hl 1 rfl) ?_
              refine x_getR hx hcb hts hown hK xc10 hR (hw.lo (by decide)) (hw.s0 rfl) 5 (by decide) rfl q_1171 dX10_leave_97 ?_
              refine lv_bipush (v := (nI 21)) hx hcb dX10_leave_100 (by decide) ?_
              refine lv_iload_n hx hcb dX10_leave_102 rfl (lv_at hl 2 rfl) ?_
              refine x_iaddN hx hcb dX10_leave_103 ?_
              refine lv_iload_n hx hcb dX10_leave_104 rfl (lv_at hl 0 rfl) ?_
              refine lv_if_eq (tgt := 112) hx hcb dX10_leave_105 (by decide) (fun c_15 => ?_) (fun c_15 => ?_)
              · skip
                refine lv_aload_n hx hcb dX10_leave_112 rfl (lv_at hl 1 rfl) ?_
                refine x_getR hx hcb hts hown hK xc10 hR (hw.lo (by decide)) (hw.s0 rfl) 5 (by decide) rfl q_1171 dX10_leave_113 ?_
                refine lv_iconst (v := (nI 2)) hx hcb dX10_leave_116 (by decide) ?_
                refine x_iald hx hcb hK hR (hw.lo (by decide)) (hw.s0 rfl) (k := 2) (by omega) (by decide) dX10_leave_117 ?_
                refine x_top (show ((u1 (kpS (u1 z 0 0 0) u) 4 (5 + k_) 1).1 4 2) = (z.1 4 2) from by rw [u1_sne _ _ _ (by omega), kpS_4]; rfl) ?_
                refine x_iast hx hcb hK hR hS (hw.lo (by decide)) (hw.s0 rfl) (k := (21 + k_)) (v := (z.1 4 2)) (by omega) (by decide) dX10_leave_118 (fun H locs hR hS => ?_)
                refine lv_aload_n hx hcb dX10_leave_119 rfl (lv_at hl 1 rfl) ?_
                refine x_getR hx hcb hts hown hK xc10 hR (hw.lo (by decide)) (hw.s0 rfl) 5 (by decide) rfl q_1171 dX10_leave_120 ?_
                refine lv_bipush (v := (nI 21)) hx hcb dX10_leave_123 (by decide) ?_
                refine lv_iload_n hx hcb dX10_leave_125 rfl (lv_at hl 2 rfl) ?_
                refine x_iaddN hx hcb dX10_leave_126 ?_
                refine x_iald hx hcb hK hR (hw.lo (by decide)) (hw.s0 rfl) (k := (21 + k_)) (by omega) (by decide) dX10_leave_127 ?_
                exact hret ((u1 (u1 (kpS (u1 z 0 0 0) u) 4 (5 + k_) 1) 4 (21 + k_) (z.1 4 2)).1 4 (21 + k_)) (u1 (u1 (kpS (u1 z 0 0 0) u) 4 (5 + k_) 1) 4 (21 + k_) (z.1 4 2)) _ _ _ _ dX10_leave_128 rfl hR hS (by rw [if_neg (fun q_ => q_ h_), ← ek_, if_neg hC_, if_neg hP_]; unfold lvQ; first | (rw [if_pos hE_, u1_at, va_up_self]; first | done | rfl) | (rw [if_neg hE_, u1_at, va_up_self]; first | done | rfl))
              · skip
                first | exact absurd c_15 (by decide) | exact absurd (by decide) c_15
            · skip
              first | exact absurd c_14 (by decide) | exact absurd (by decide) c_14
          · skip
            have hE_ : eqQ z k_ = 0 := c_13
            refine lv_iconst (v := (nI 1)) hx hcb dX10_leave_73 (by decide) ?_
            refine lv_goto (tgt := 78) hx hcb dX10_leave_74 (by decide) ?_
            refine lv_istore_n (lv' := [(2, .int (nI 1)), (0, .ref (w.2.2 0)), (1, .int (nI k_))]) hx hcb dX10_leave_78 rfl hl (by decide) rfl (fun ls hl => ?_)
            refine lv_aload_n hx hcb dX10_leave_79 rfl (lv_at hl 1 rfl) ?_
            refine x_getR hx hcb hts hown hK xc10 hR (hw.lo (by decide)) (hw.s0 rfl) 5 (by decide) rfl q_1171 dX10_leave_80 ?_
            refine lv_iconst (v := (nI 5)) hx hcb dX10_leave_83 (by decide) ?_
            refine lv_iload_n hx hcb dX10_leave_84 rfl (lv_at hl 2 rfl) ?_
            refine x_iaddN hx hcb dX10_leave_85 ?_
            refine lv_iload_n hx hcb dX10_leave_86 rfl (lv_at hl 0 rfl) ?_
            refine lv_if_eq (tgt := 94) hx hcb dX10_leave_87 (by decide) (fun c_16 => ?_) (fun c_16 => ?_)
            · skip
              first | exact absurd c_16 (by decide) | exact absurd (by decide) c_16
            · skip
              refine lv_iconst (v := (nI 2)) hx hcb dX10_leave_90 (by decide) ?_
              refine lv_goto (tgt := 95) hx hcb dX10_leave_91 (by decide) ?_
              refine x_iast hx hcb hK hR hS (hw.lo (by decide)) (hw.s0 rfl) (k := (5 + k_)) (v := 2) (by omega) (by decide) dX10_leave_95 (fun H locs hR hS => ?_)
              refine lv_aload_n hx hcb dX10_leave_96 rfl (lv_at hl 1 rfl) ?_
              refine x_getR hx hcb hts hown hK xc10 hR (hw.lo (by decide)) (hw.s0 rfl) 5 (by decide) rfl q_1171 dX10_leave_97 ?_
              refine lv_bipush (v := (nI 21)) hx hcb dX10_leave_100 (by decide) ?_
              refine lv_iload_n hx hcb dX10_leave_102 rfl (lv_at hl 2 rfl) ?_
              refine x_iaddN hx hcb dX10_leave_103 ?_
              refine lv_iload_n hx hcb dX10_leave_104 rfl (lv_at hl 0 rfl) ?_
              refine lv_if_eq (tgt := 112) hx hcb dX10_leave_105 (by decide) (fun c_17 => ?_) (fun c_17 => ?_)
              · skip
                first | exact absurd c_17 (by decide) | exact absurd (by decide) c_17
              · skip
                refine lv_iconst (v := (nI 0)) hx hcb dX10_leave_108 (by decide) ?_
                refine lv_goto (tgt := 118) hx hcb dX10_leave_109 (by decide) ?_
                refine x_iast hx hcb hK hR hS (hw.lo (by decide)) (hw.s0 rfl) (k := (21 + k_)) (v := 0) (by omega) (by decide) dX10_leave_118 (fun H locs hR hS => ?_)
                refine lv_aload_n hx hcb dX10_leave_119 rfl (lv_at hl 1 rfl) ?_
                refine x_getR hx hcb hts hown hK xc10 hR (hw.lo (by decide)) (hw.s0 rfl) 5 (by decide) rfl q_1171 dX10_leave_120 ?_
                refine lv_bipush (v := (nI 21)) hx hcb dX10_leave_123 (by decide) ?_
                refine lv_iload_n hx hcb dX10_leave_125 rfl (lv_at hl 2 rfl) ?_
                refine x_iaddN hx hcb dX10_leave_126 ?_
                refine x_iald hx hcb hK hR (hw.lo (by decide)) (hw.s0 rfl) (k := (21 + k_)) (by omega) (by decide) dX10_leave_127 ?_
                exact hret ((u1 (u1 (kpS (u1 z 0 0 0) u) 4 (5 + k_) 2) 4 (21 + k_) 0).1 4 (21 + k_)) (u1 (u1 (kpS (u1 z 0 0 0) u) 4 (5 + k_) 2) 4 (21 + k_) 0) _ _ _ _ dX10_leave_128 rfl hR hS (by rw [if_neg (fun q_ => q_ h_), ← ek_, if_neg hC_, if_neg hP_]; unfold lvQ; first | (rw [if_pos hE_, u1_at, va_up_self]; first | done | rfl) | (rw [if_neg hE_, u1_at, va_up_self]; first | done | rfl))
        · skip
          have c_6 : ¬ 4 ≤ i_ := fun h_ => c_6 ((nI_leI (by omega) (by omega)).mpr h_)
          refine lv_aload_n hx hcb dX10_leave_36 rfl (lv_at hl 0 rfl) ?_
          refine x_getR hx hcb hts hown hK xc10 hR (hw.lo (by decide)) (hw.s0 rfl) 5 (by decide) rfl q_1171 dX10_leave_37 ?_
          refine lv_bipush (v := (nI 29)) hx hcb dX10_leave_40 (by decide) ?_
          refine lv_iconst (v := (nI 4)) hx hcb dX10_leave_42 (by decide) ?_
          refine lv_iload_n hx hcb dX10_leave_43 rfl (lv_at hl 1 rfl) ?_
          refine x_imulN hx hcb dX10_leave_44 ?_
          refine x_iaddN hx hcb dX10_leave_45 ?_
          refine lv_iload_n hx hcb dX10_leave_46 rfl (lv_at hl 2 rfl) ?_
          refine x_iaddN hx hcb dX10_leave_47 ?_
          refine x_iald hx hcb hK hR (hw.lo (by decide)) (hw.s0 rfl) (k := ((29 + (4 * k_)) + i_)) (by omega) (by decide) dX10_leave_48 ?_
          refine lv_if_le (tgt := 55) hx hcb dX10_leave_49 (by decide) (fun c_18 => ?_) (fun c_18 => ?_)
          · skip
            have hq_ : ¬ 0 < z.1 4 (29 + 4 * k_ + i_) := Int32.not_lt.mpr c_18
            refine lv_iinc (v := (nI (i_ + 1))) (lv' := [(2, .int (nI (i_ + 1))), (0, .ref (w.2.2 0)), (1, .int (nI k_))]) hx hcb dX10_leave_55 hl (k := 2) rfl (x_iinc1 _) (by decide) rfl (fun ls hl => ?_)
            refine lv_goto (tgt := 31) hx hcb dX10_leave_58 (by decide) ?_
            exact ih_31 (i_ + 1) (by omega) (by omega) (by rw [hf_, xan_s (k := 4 - (i_ + 1)) (by omega), if_neg (by simpa using hq_)]) _ _ _ hR hS (lv_sub hl [1, 2, 0] rfl)
          · skip
            have hq_ : 0 < z.1 4 (29 + 4 * k_ + i_) := Int32.not_le.mp c_18
            have hP_ : xan (fun y => decide (0 < z.1 4 (29 + 4 * k_ + y))) 4 0 = 1 := by rw [hf_, xan_s (k := 4 - (i_ + 1)) (by omega), if_pos (by simpa using hq_)]
            refine lv_bipush (v := (-4)) hx hcb dX10_leave_52 (by decide) ?_
            exact hret (-4) (u1 z 0 0 0) _ _ _ _ dX10_leave_54 rfl hR hS (by rw [if_neg (fun q_ => q_ h_), ← ek_, if_neg hC_, if_pos hP_])
    · skip
      have hC_ : ¬ z.1 4 (5 + k_) = 0 := c_5
      refine lv_bipush (v := (-4)) hx hcb dX10_leave_26 (by decide) ?_
      exact hret (-4) (u1 z 0 0 0) _ _ _ _ dX10_leave_28 rfl hR hS (by rw [if_neg (fun q_ => q_ h_), ← ek_, if_pos hC_])
  · skip
    have h_ : ¬ (inR x (mQ z 12)) := fun q_ => absurd c_4 (by rw [if_pos q_]; decide)
    refine lv_iconst (v := (-1)) hx hcb dX10_leave_13 (by decide) ?_
    exact hret (-1) (u1 z 0 0 0) _ _ _ _ dX10_leave_14 rfl hR hS (by rw [if_pos h_])
def rm_X10_setConsent : Room := { frames := 1, cells := 0, slots := 0, locals := 21 }
set_option maxRecDepth 100000 in
set_option maxHeartbeats 4000000 in
theorem c_X10_setConsent (l : Launch) (G : xGl) (w : xWd) (hw : isM w) (z : xSt) (sz : Nat) (x : Int32) (v : Int32) (u : Nat) (hO : rOk z) (hu : z.1 0 8 = nI u) (hu10 : u ≤ 10) : xMi l yX10_setConsent cX10_setConsent 5 (some FieldType.int) rm_X10_setConsent G w z sz [.ref (w.2.2 0), .int x, .int v] (fun r z1 => (r, z1) = if ¬ (inR x (mQ z 12)) then ((-1), u1 z 0 0 0) else (bx_sum (fun m => (u1 (kpS (u1 z 0 0 0) u) 4 (13 + x.toNatClampNeg) (cbQ v)).1 4 (13 + m)) (mQ z 12), u1 (kpS (u1 z 0 0 0) u) 4 (13 + x.toNatClampNeg) (cbQ v))) := by
  refine x_mi (by decide) (Nat.le_of_ble_eq_true rfl) ?_
  intro p e s mt args below meth c ls Q hsz X hR hS hl hret
  obtain ⟨hx, hcb, hml, hown, hts, hlk, hK, hZ⟩ := X
  have hl : lv_has ls 5 [(0, .ref (w.2.2 0)), (1, .int x), (2, .int v)] := hl
  have hm8_ := hO.2.1
  have hd4_ := hO.2.2.2.1
  have hy24_ := hO.2.2.2.2.2
  refine lv_aload_n hx hcb dX10_setConsent_0 rfl (lv_at hl 0 rfl) ?_
  refine lv_iconst (v := (nI 0)) hx hcb dX10_setConsent_1 (by decide) ?_
  refine x_putI hx hcb hts hown hK xc10 hR hS (hw.lo (by decide)) (hw.s0 rfl) 0 (by decide) rfl q_1166 rfl (v := 0) rfl rfl dX10_setConsent_2 (fun H locs hR hS => ?_)
  refine lv_aload_n hx hcb dX10_setConsent_5 rfl (lv_at hl 0 rfl) ?_
  refine lv_iload_n hx hcb dX10_setConsent_6 rfl (lv_at hl 1 rfl) ?_
  refine x_ci0 rfl rfl (x_runV hx hcb hml hown hts (c_X10_isMember l G w hw (u1 z 0 0 0) _ x hO) mv_X10_isMember q_1456 hK hZ hR hS (hw.lo (by decide)) xc10 (hw.s0 rfl) rfl hl.1 rfl (Nat.le_of_ble_eq_true rfl) dX10_setConsent_7 ⟨by decide, by decide⟩ ⟨by decide, by decide⟩) hS (fun r_1 z_2 H locs hp_3 hR hS => ?_)
  rw [hp_3.2] at hR; rw [hp_3.1]
  refine x_top (show (if inR x (mQ (u1 z 0 0 0) 12) then 1 else 0) = (if inR x (mQ z 12) then 1 else 0) from rfl) ?_
  refine lv_if_ne (tgt := 15) hx hcb dX10_setConsent_10 (by decide) (fun c_4 => ?_) (fun c_4 => ?_)
  · skip
    have h_ : inR x (mQ z 12) := Classical.byContradiction (fun q_ => c_4 (if_neg q_))
    have hxk_ := inR_k (n := mQ z 12) (by omega) h_
    obtain ⟨k_, ek_⟩ : ∃ q_, q_ = x.toNatClampNeg := ⟨_, rfl⟩
    rw [← ek_] at hxk_
    have hltk_ := hxk_.2
    rw [hxk_.1] at hl
    refine lv_aload_n hx hcb dX10_setConsent_15 rfl (lv_at hl 0 rfl) ?_
    refine x_cv0 rfl rfl (x_runV hx hcb hml hown hts (c_X10_keeps l G w hw (u1 z 0 0 0) _ u hu hu10) mv_X10_keeps q_1669 hK hZ hR hS (hw.lo (by decide)) xc10 (hw.s0 rfl) rfl hl.1 rfl (Nat.le_of_ble_eq_true rfl) dX10_setConsent_16 ⟨by decide, by decide⟩ ⟨by decide, by decide⟩) hS (fun z_6 H locs hp_7 hR hS => ?_)
    rw [hp_7] at hR
    refine lv_aload_n hx hcb dX10_setConsent_19 rfl (lv_at hl 0 rfl) ?_
    refine x_getR hx hcb hts hown hK xc10 hR (hw.lo (by decide)) (hw.s0 rfl) 5 (by decide) rfl q_1171 dX10_setConsent_20 ?_
    refine lv_bipush (v := (nI 13)) hx hcb dX10_setConsent_23 (by decide) ?_
    refine lv_iload_n hx hcb dX10_setConsent_25 rfl (lv_at hl 1 rfl) ?_
    refine x_iaddN hx hcb dX10_setConsent_26 ?_
    refine lv_iload_n hx hcb dX10_setConsent_27 rfl (lv_at hl 2 rfl) ?_
    refine lv_if_eq (tgt := 35) hx hcb dX10_setConsent_28 (by decide) (fun c_8 => ?_) (fun c_8 => ?_)
    · skip
      have hv_ : v = 0 := c_8
      refine lv_iconst (v := (nI 0)) hx hcb dX10_setConsent_35 (by decide) ?_
      refine x_top (show (nI 0) = cbQ v from by unfold cbQ; first | rw [if_pos hv_] | rw [if_neg hv_]) ?_
      refine x_iast hx hcb hK hR hS (hw.lo (by decide)) (hw.s0 rfl) (k := (13 + k_)) (v := (cbQ v)) (by omega) (by decide) dX10_setConsent_36 (fun H locs hR hS => ?_)
      refine lv_iconst (v := (nI 0)) hx hcb dX10_setConsent_37 (by decide) ?_
      refine lv_istore_n (lv' := [(3, .int (nI 0)), (0, .ref (w.2.2 0)), (1, .int (nI k_)), (2, .int v)]) hx hcb dX10_setConsent_38 rfl hl (by decide) rfl (fun ls hl => ?_)
      refine lv_iconst (v := (nI 0)) hx hcb dX10_setConsent_39 (by decide) ?_
      refine lv_istore (lv' := [(4, .int (nI 0)), (3, .int (nI 0)), (0, .ref (w.2.2 0)), (1, .int (nI k_)), (2, .int v)]) hx hcb dX10_setConsent_40 hl (by decide) rfl (fun ls hl => ?_)
      rw [show (nI 0) = (bx_sum (fun m => (u1 (kpS (u1 z 0 0 0) u) 4 (13 + k_) (cbQ v)).1 4 (13 + m)) 0) from rfl] at hl
      suffices LP_42 : ∀ (nn : Nat) (i_ : Nat) (_ : mQ z 12 - i_ < nn) (hi_ : i_ ≤ mQ z 12) (H : Heap) (locs : List Loc) (ls : Array Slot), Rh G w (u1 (kpS (u1 z 0 0 0) u) 4 (13 + k_) (cbQ v)) H → va_S (xA w s.heap.size) s.heap H locs → lv_has ls 5 [(0, .ref (w.2.2 0)), (3, .int (bx_sum (fun m => (u1 (kpS (u1 z 0 0 0) u) 4 (13 + k_) (cbQ v)).1 4 (13 + m)) i_)), (4, .int (nI i_))] → W p l e rm_X10_setConsent s mt args below meth c H locs 0 0 Q (F0 mt 42 ls []) from LP_42 ((_) + 1) 0 (Nat.lt_succ_self _) (Nat.zero_le _) _ _ _ hR hS (lv_sub hl [2, 1, 0] rfl)
      intro nn
      induction nn with
      | zero => intro i_ hm_ ; exact absurd hm_ (Nat.not_lt_zero _)
      | succ nn ih_42 =>
        intro i_ hm_42 hi_ H locs ls hR hS hl
        refine lv_iload hx hcb dX10_setConsent_42 (lv_at hl 2 rfl) ?_
        refine lv_aload_n hx hcb dX10_setConsent_44 rfl (lv_at hl 0 rfl) ?_
        refine x_getR hx hcb hts hown hK xc10 hR (hw.lo (by decide)) (hw.s0 rfl) 3 (by decide) rfl q_1169 dX10_setConsent_45 ?_
        refine lv_bipush (v := (nI 12)) hx hcb dX10_setConsent_48 (by decide) ?_
        refine x_iald hx hcb hK hR (hw.lo (by decide)) (hw.s0 rfl) (k := 12) (by omega) (by decide) dX10_setConsent_50 ?_
        refine x_top (show ((u1 (kpS (u1 z 0 0 0) u) 4 (13 + k_) (cbQ v)).1 2 12) = (nI (mQ z 12)) from by show (kpS (u1 z 0 0 0) u).1 2 12 = _; rw [kpS_2]; exact hO.1) ?_
        refine lv_icmp_ge (tgt := 73) hx hcb dX10_setConsent_51 (by decide) (fun c_9 => ?_) (fun c_9 => ?_)
        · skip
          have c_9 : (mQ z 12) ≤ i_ := (nI_leI (by omega) (by omega)).mp c_9
          obtain rfl : mQ z 12 = i_ := by omega
          refine lv_iload_n hx hcb dX10_setConsent_73 rfl (lv_at hl 1 rfl) ?_
          exact hret (bx_sum (fun m => (u1 (kpS (u1 z 0 0 0) u) 4 (13 + k_) (cbQ v)).1 4 (13 + m)) (mQ z 12)) (u1 (kpS (u1 z 0 0 0) u) 4 (13 + k_) (cbQ v)) _ _ _ _ dX10_setConsent_74 rfl hR hS (by rw [if_neg (fun q_ => q_ h_), ← ek_])
        · skip
          have c_9 : ¬ (mQ z 12) ≤ i_ := fun h_ => c_9 ((nI_leI (by omega) (by omega)).mpr h_)
          refine lv_iload_n hx hcb dX10_setConsent_54 rfl (lv_at hl 1 rfl) ?_
          refine lv_aload_n hx hcb dX10_setConsent_55 rfl (lv_at hl 0 rfl) ?_
          refine x_getR hx hcb hts hown hK xc10 hR (hw.lo (by decide)) (hw.s0 rfl) 5 (by decide) rfl q_1171 dX10_setConsent_56 ?_
          refine lv_bipush (v := (nI 13)) hx hcb dX10_setConsent_59 (by decide) ?_
          refine lv_iload hx hcb dX10_setConsent_61 (lv_at hl 2 rfl) ?_
          refine x_iaddN hx hcb dX10_setConsent_63 ?_
          refine x_iald hx hcb hK hR (hw.lo (by decide)) (hw.s0 rfl) (k := (13 + i_)) (by omega) (by decide) dX10_setConsent_64 ?_
          refine x_top (show ((u1 (kpS (u1 z 0 0 0) u) 4 (13 + k_) (cbQ v)).1 4 (13 + i_)) = ((u1 (kpS (u1 z 0 0 0) u) 4 (13 + k_) (cbQ v)).1 4 (13 + i_)) from rfl) ?_
          refine lv_iadd hx hcb dX10_setConsent_65 ?_
          refine lv_istore_n (lv' := [(3, .int ((bx_sum (fun m => (u1 (kpS (u1 z 0 0 0) u) 4 (13 + k_) (cbQ v)).1 4 (13 + m)) i_) + ((u1 (kpS (u1 z 0 0 0) u) 4 (13 + k_) (cbQ v)).1 4 (13 + i_)))), (0, .ref (w.2.2 0)), (4, .int (nI i_))]) hx hcb dX10_setConsent_66 rfl hl (by decide) rfl (fun ls hl => ?_)
          refine lv_iinc (v := (nI (i_ + 1))) (lv' := [(4, .int (nI (i_ + 1))), (3, .int ((bx_sum (fun m => (u1 (kpS (u1 z 0 0 0) u) 4 (13 + k_) (cbQ v)).1 4 (13 + m)) i_) + ((u1 (kpS (u1 z 0 0 0) u) 4 (13 + k_) (cbQ v)).1 4 (13 + i_)))), (0, .ref (w.2.2 0))]) hx hcb dX10_setConsent_67 hl (k := 2) rfl (x_iinc1 _) (by decide) rfl (fun ls hl => ?_)
          refine lv_goto (tgt := 42) hx hcb dX10_setConsent_70 (by decide) ?_
          rw [show ((bx_sum (fun m => (u1 (kpS (u1 z 0 0 0) u) 4 (13 + k_) (cbQ v)).1 4 (13 + m)) i_) + ((u1 (kpS (u1 z 0 0 0) u) 4 (13 + k_) (cbQ v)).1 4 (13 + i_))) = (bx_sum (fun m => (u1 (kpS (u1 z 0 0 0) u) 4 (13 + k_) (cbQ v)).1 4 (13 + m)) (i_ + 1)) from rfl] at hl
          exact ih_42 (i_ + 1) (by omega) (by omega) _ _ _ hR hS (lv_sub hl [2, 1, 0] rfl)
    · skip
      have hv_ : ¬ v = 0 := c_8
      refine lv_iconst (v := (nI 1)) hx hcb dX10_setConsent_31 (by decide) ?_
      refine lv_goto (tgt := 36) hx hcb dX10_setConsent_32 (by decide) ?_
      refine x_top (show (nI 1) = cbQ v from by unfold cbQ; first | rw [if_pos hv_] | rw [if_neg hv_]) ?_
      refine x_iast hx hcb hK hR hS (hw.lo (by decide)) (hw.s0 rfl) (k := (13 + k_)) (v := (cbQ v)) (by omega) (by decide) dX10_setConsent_36 (fun H locs hR hS => ?_)
      refine lv_iconst (v := (nI 0)) hx hcb dX10_setConsent_37 (by decide) ?_
      refine lv_istore_n (lv' := [(3, .int (nI 0)), (0, .ref (w.2.2 0)), (1, .int (nI k_)), (2, .int v)]) hx hcb dX10_setConsent_38 rfl hl (by decide) rfl (fun ls hl => ?_)
      refine lv_iconst (v := (nI 0)) hx hcb dX10_setConsent_39 (by decide) ?_
      refine lv_istore (lv' := [(4, .int (nI 0)), (3, .int (nI 0)), (0, .ref (w.2.2 0)), (1, .int (nI k_)), (2, .int v)]) hx hcb dX10_setConsent_40 hl (by decide) rfl (fun ls hl => ?_)
      rw [show (nI 0) = (bx_sum (fun m => (u1 (kpS (u1 z 0 0 0) u) 4 (13 + k_) (cbQ v)).1 4 (13 + m)) 0) from rfl] at hl
      suffices LP_42 : ∀ (nn : Nat) (i_ : Nat) (_ : mQ z 12 - i_ < nn) (hi_ : i_ ≤ mQ z 12) (H : Heap) (locs : List Loc) (ls : Array Slot), Rh G w (u1 (kpS (u1 z 0 0 0) u) 4 (13 + k_) (cbQ v)) H → va_S (xA w s.heap.size) s.heap H locs → lv_has ls 5 [(0, .ref (w.2.2 0)), (3, .int (bx_sum (fun m => (u1 (kpS (u1 z 0 0 0) u) 4 (13 + k_) (cbQ v)).1 4 (13 + m)) i_)), (4, .int (nI i_))] → W p l e rm_X10_setConsent s mt args below meth c H locs 0 0 Q (F0 mt 42 ls []) from LP_42 ((_) + 1) 0 (Nat.lt_succ_self _) (Nat.zero_le _) _ _ _ hR hS (lv_sub hl [2, 1, 0] rfl)
      intro nn
      induction nn with
      | zero => intro i_ hm_ ; exact absurd hm_ (Nat.not_lt_zero _)
      | succ nn ih_42 =>
        intro i_ hm_42 hi_ H locs ls hR hS hl
        refine lv_iload hx hcb dX10_setConsent_42 (lv_at hl 2 rfl) ?_
        refine lv_aload_n hx hcb dX10_setConsent_44 rfl (lv_at hl 0 rfl) ?_
        refine x_getR hx hcb hts hown hK xc10 hR (hw.lo (by decide)) (hw.s0 rfl) 3 (by decide) rfl q_1169 dX10_setConsent_45 ?_
        refine lv_bipush (v := (nI 12)) hx hcb dX10_setConsent_48 (by decide) ?_
        refine x_iald hx hcb hK hR (hw.lo (by decide)) (hw.s0 rfl) (k := 12) (by omega) (by decide) dX10_setConsent_50 ?_
        refine x_top (show ((u1 (kpS (u1 z 0 0 0) u) 4 (13 + k_) (cbQ v)).1 2 12) = (nI (mQ z 12)) from by show (kpS (u1 z 0 0 0) u).1 2 12 = _; rw [kpS_2]; exact hO.1) ?_
        refine lv_icmp_ge (tgt := 73) hx hcb dX10_setConsent_51 (by decide) (fun c_10 => ?_) (fun c_10 => ?_)
        · skip
          have c_10 : (mQ z 12) ≤ i_ := (nI_leI (by omega) (by omega)).mp c_10
          obtain rfl : mQ z 12 = i_ := by omega
          refine lv_iload_n hx hcb dX10_setConsent_73 rfl (lv_at hl 1 rfl) ?_
          exact hret (bx_sum (fun m => (u1 (kpS (u1 z 0 0 0) u) 4 (13 + k_) (cbQ v)).1 4 (13 + m)) (mQ z 12)) (u1 (kpS (u1 z 0 0 0) u) 4 (13 + k_) (cbQ v)) _ _ _ _ dX10_setConsent_74 rfl hR hS (by rw [if_neg (fun q_ => q_ h_), ← ek_])
        · skip
          have c_10 : ¬ (mQ z 12) ≤ i_ := fun h_ => c_10 ((nI_leI (by omega) (by omega)).mpr h_)
          refine lv_iload_n hx hcb dX10_setConsent_54 rfl (lv_at hl 1 rfl) ?_
          refine lv_aload_n hx hcb dX10_setConsent_55 rfl (lv_at hl 0 rfl) ?_
          refine x_getR hx hcb hts hown hK xc10 hR (hw.lo (by decide)) (hw.s0 rfl) 5 (by decide) rfl q_1171 dX10_setConsent_56 ?_
          refine lv_bipush (v := (nI 13)) hx hcb dX10_setConsent_59 (by decide) ?_
          refine lv_iload hx hcb dX10_setConsent_61 (lv_at hl 2 rfl) ?_
          refine x_iaddN hx hcb dX10_setConsent_63 ?_
          refine x_iald hx hcb hK hR (hw.lo (by decide)) (hw.s0 rfl) (k := (13 + i_)) (by omega) (by decide) dX10_setConsent_64 ?_
          refine x_top (show ((u1 (kpS (u1 z 0 0 0) u) 4 (13 + k_) (cbQ v)).1 4 (13 + i_)) = ((u1 (kpS (u1 z 0 0 0) u) 4 (13 + k_) (cbQ v)).1 4 (13 + i_)) from rfl) ?_
          refine lv_iadd hx hcb dX10_setConsent_65 ?_
          refine lv_istore_n (lv' := [(3, .int ((bx_sum (fun m => (u1 (kpS (u1 z 0 0 0) u) 4 (13 + k_) (cbQ v)).1 4 (13 + m)) i_) + ((u1 (kpS (u1 z 0 0 0) u) 4 (13 + k_) (cbQ v)).1 4 (13 + i_)))), (0, .ref (w.2.2 0)), (4, .int (nI i_))]) hx hcb dX10_setConsent_66 rfl hl (by decide) rfl (fun ls hl => ?_)
          refine lv_iinc (v := (nI (i_ + 1))) (lv' := [(4, .int (nI (i_ + 1))), (3, .int ((bx_sum (fun m => (u1 (kpS (u1 z 0 0 0) u) 4 (13 + k_) (cbQ v)).1 4 (13 + m)) i_) + ((u1 (kpS (u1 z 0 0 0) u) 4 (13 + k_) (cbQ v)).1 4 (13 + i_)))), (0, .ref (w.2.2 0))]) hx hcb dX10_setConsent_67 hl (k := 2) rfl (x_iinc1 _) (by decide) rfl (fun ls hl => ?_)
          refine lv_goto (tgt := 42) hx hcb dX10_setConsent_70 (by decide) ?_
          rw [show ((bx_sum (fun m => (u1 (kpS (u1 z 0 0 0) u) 4 (13 + k_) (cbQ v)).1 4 (13 + m)) i_) + ((u1 (kpS (u1 z 0 0 0) u) 4 (13 + k_) (cbQ v)).1 4 (13 + i_))) = (bx_sum (fun m => (u1 (kpS (u1 z 0 0 0) u) 4 (13 + k_) (cbQ v)).1 4 (13 + m)) (i_ + 1)) from rfl] at hl
          exact ih_42 (i_ + 1) (by omega) (by omega) _ _ _ hR hS (lv_sub hl [2, 1, 0] rfl)
  · skip
    have h_ : ¬ (inR x (mQ z 12)) := fun q_ => absurd c_4 (by rw [if_pos q_]; decide)
    refine lv_iconst (v := (-1)) hx hcb dX10_setConsent_13 (by decide) ?_
    exact hret (-1) (u1 z 0 0 0) _ _ _ _ dX10_setConsent_14 rfl hR hS (by rw [if_pos h_])
def rm_X10_setSetting : Room := { frames := 1, cells := 0, slots := 0, locals := 21 }
set_option maxRecDepth 100000 in
set_option maxHeartbeats 4000000 in
theorem c_X10_setSetting (l : Launch) (G : xGl) (w : xWd) (hw : isM w) (z : xSt) (sz : Nat) (x : Int32) (v : Int32) (u : Nat) (hu : z.1 0 8 = nI u) (hu10 : u ≤ 10) : xMi l yX10_setSetting cX10_setSetting 4 (some FieldType.int) rm_X10_setSetting G w z sz [.ref (w.2.2 0), .int x, .int v] (fun r z1 => (r, z1) = if ¬ inR x 5 ∨ v < xLea x.toNatClampNeg ∨ ¬ v ≤ xGre x.toNatClampNeg then ((-2), u1 z 0 0 0) else (z.1 4 (0 + x.toNatClampNeg), u1 (kpS (u1 z 0 0 0) u) 4 (0 + x.toNatClampNeg) v)) := by
  refine x_mi (by decide) (Nat.le_of_ble_eq_true rfl) ?_
  intro p e s mt args below meth c ls Q hsz X hR hS hl hret
  obtain ⟨hx, hcb, hml, hown, hts, hlk, hK, hZ⟩ := X
  have hl : lv_has ls 4 [(0, .ref (w.2.2 0)), (1, .int x), (2, .int v)] := hl
  refine lv_aload_n hx hcb dX10_setSetting_0 rfl (lv_at hl 0 rfl) ?_
  refine lv_iconst (v := (nI 0)) hx hcb dX10_setSetting_1 (by decide) ?_
  refine x_putI hx hcb hts hown hK xc10 hR hS (hw.lo (by decide)) (hw.s0 rfl) 0 (by decide) rfl q_1166 rfl (v := 0) rfl rfl dX10_setSetting_2 (fun H locs hR hS => ?_)
  refine lv_iload_n hx hcb dX10_setSetting_5 rfl (lv_at hl 1 rfl) ?_
  refine x_ci0 rfl rfl (x_runS hx hcb hml hown hts (c_X10_isSetting l G w hw (u1 z 0 0 0) _ x) ms_X10_isSetting q_1449 hK hZ hR hS rfl hl.1 rfl (Nat.le_of_ble_eq_true rfl) dX10_setSetting_6 ⟨by decide, by decide⟩ ⟨by decide, by decide⟩) hS (fun r_1 z_2 H locs hp_3 hR hS => ?_)
  rw [hp_3.2] at hR; rw [hp_3.1]
  refine x_top (show (if inR x 5 then 1 else 0) = (if inR x 5 then 1 else 0) from rfl) ?_
  refine lv_if_eq (tgt := 28) hx hcb dX10_setSetting_9 (by decide) (fun c_4 => ?_) (fun c_4 => ?_)
  · skip
    have h1_ : ¬ (inR x 5) := fun q_ => absurd c_4 (by rw [if_pos q_]; decide)
    have hA_ : ¬ inR x 5 ∨ v < xLea x.toNatClampNeg ∨ ¬ v ≤ xGre x.toNatClampNeg := Or.inl h1_
    refine lv_bipush (v := (-2)) hx hcb dX10_setSetting_28 (by decide) ?_
    exact hret (-2) (u1 z 0 0 0) _ _ _ _ dX10_setSetting_30 rfl hR hS (by rw [if_pos hA_])
  · skip
    have h1_ : inR x 5 := Classical.byContradiction (fun q_ => c_4 (if_neg q_))
    have hxk_ := inR_k (n := 5) (by omega) h1_
    obtain ⟨k_, ek_⟩ : ∃ q_, q_ = x.toNatClampNeg := ⟨_, rfl⟩
    rw [← ek_] at hxk_
    have hltk_ := hxk_.2
    rw [hxk_.1] at hl
    refine lv_iload_n hx hcb dX10_setSetting_12 rfl (lv_at hl 2 rfl) ?_
    refine lv_iload_n hx hcb dX10_setSetting_13 rfl (lv_at hl 1 rfl) ?_
    refine x_ci0 rfl rfl (x_runS hx hcb hml hown hts (c_X10_leastOf l G w hw (u1 z 0 0 0) _ k_ (by omega)) ms_X10_leastOf q_1411 hK hZ hR hS rfl hl.1 rfl (Nat.le_of_ble_eq_true rfl) dX10_setSetting_14 ⟨by decide, by decide⟩ ⟨by decide, by decide⟩) hS (fun r_5 z_6 H locs hp_7 hR hS => ?_)
    rw [hp_7.2] at hR; rw [hp_7.1]
    refine x_top (show (xLea k_) = (xLea k_) from rfl) ?_
    refine lv_icmp_lt (tgt := 28) hx hcb dX10_setSetting_17 (by decide) (fun c_8 => ?_) (fun c_8 => ?_)
    · skip
      have hA_ : ¬ inR x 5 ∨ v < xLea x.toNatClampNeg ∨ ¬ v ≤ xGre x.toNatClampNeg := Or.inr (Or.inl (by rw [← ek_]; exact c_8))
      refine lv_bipush (v := (-2)) hx hcb dX10_setSetting_28 (by decide) ?_
      exact hret (-2) (u1 z 0 0 0) _ _ _ _ dX10_setSetting_30 rfl hR hS (by rw [if_pos hA_])
    · skip
      have hB0_ := c_8
      refine lv_iload_n hx hcb dX10_setSetting_20 rfl (lv_at hl 2 rfl) ?_
      refine lv_iload_n hx hcb dX10_setSetting_21 rfl (lv_at hl 1 rfl) ?_
      refine x_ci0 rfl rfl (x_runS hx hcb hml hown hts (c_X10_mostOf l G w hw (u1 z 0 0 0) _ k_ (by omega)) ms_X10_mostOf q_1414 hK hZ hR hS rfl hl.1 rfl (Nat.le_of_ble_eq_true rfl) dX10_setSetting_22 ⟨by decide, by decide⟩ ⟨by decide, by decide⟩) hS (fun r_9 z_10 H locs hp_11 hR hS => ?_)
      rw [hp_11.2] at hR; rw [hp_11.1]
      refine x_top (show (xGre k_) = (xGre k_) from rfl) ?_
      refine lv_icmp_le (tgt := 31) hx hcb dX10_setSetting_25 (by decide) (fun c_12 => ?_) (fun c_12 => ?_)
      · skip
        have hA_ : ¬ (¬ inR x 5 ∨ v < xLea x.toNatClampNeg ∨ ¬ v ≤ xGre x.toNatClampNeg) := fun q_ => q_.elim (fun t_ => t_ h1_) (fun q_ => q_.elim (fun t_ => hB0_ (by rw [ek_]; exact t_)) (fun t_ => t_ (by rw [← ek_]; exact c_12)))
        refine lv_aload_n hx hcb dX10_setSetting_31 rfl (lv_at hl 0 rfl) ?_
        refine x_cv0 rfl rfl (x_runV hx hcb hml hown hts (c_X10_keeps l G w hw (u1 z 0 0 0) _ u hu hu10) mv_X10_keeps q_1669 hK hZ hR hS (hw.lo (by decide)) xc10 (hw.s0 rfl) rfl hl.1 rfl (Nat.le_of_ble_eq_true rfl) dX10_setSetting_32 ⟨by decide, by decide⟩ ⟨by decide, by decide⟩) hS (fun z_14 H locs hp_15 hR hS => ?_)
        rw [hp_15] at hR
        refine lv_aload_n hx hcb dX10_setSetting_35 rfl (lv_at hl 0 rfl) ?_
        refine x_getR hx hcb hts hown hK xc10 hR (hw.lo (by decide)) (hw.s0 rfl) 5 (by decide) rfl q_1171 dX10_setSetting_36 ?_
        refine lv_iconst (v := (nI 0)) hx hcb dX10_setSetting_39 (by decide) ?_
        refine lv_iload_n hx hcb dX10_setSetting_40 rfl (lv_at hl 1 rfl) ?_
        refine x_iaddN hx hcb dX10_setSetting_41 ?_
        refine x_iald hx hcb hK hR (hw.lo (by decide)) (hw.s0 rfl) (k := (0 + k_)) (by omega) (by decide) dX10_setSetting_42 ?_
        refine x_top (show ((kpS (u1 z 0 0 0) u).1 4 (0 + k_)) = (z.1 4 (0 + k_)) from by rw [kpS_4]; rfl) ?_
        refine lv_istore_n (lv' := [(3, .int (z.1 4 (0 + k_))), (0, .ref (w.2.2 0)), (1, .int (nI k_)), (2, .int v)]) hx hcb dX10_setSetting_43 rfl hl (by decide) rfl (fun ls hl => ?_)
        refine lv_aload_n hx hcb dX10_setSetting_44 rfl (lv_at hl 1 rfl) ?_
        refine x_getR hx hcb hts hown hK xc10 hR (hw.lo (by decide)) (hw.s0 rfl) 5 (by decide) rfl q_1171 dX10_setSetting_45 ?_
        refine lv_iconst (v := (nI 0)) hx hcb dX10_setSetting_48 (by decide) ?_
        refine lv_iload_n hx hcb dX10_setSetting_49 rfl (lv_at hl 2 rfl) ?_
        refine x_iaddN hx hcb dX10_setSetting_50 ?_
        refine lv_iload_n hx hcb dX10_setSetting_51 rfl (lv_at hl 3 rfl) ?_
        refine x_iast hx hcb hK hR hS (hw.lo (by decide)) (hw.s0 rfl) (k := (0 + k_)) (v := v) (by omega) (by decide) dX10_setSetting_52 (fun H locs hR hS => ?_)
        refine lv_iload_n hx hcb dX10_setSetting_53 rfl (lv_at hl 0 rfl) ?_
        exact hret (z.1 4 (0 + k_)) (u1 (kpS (u1 z 0 0 0) u) 4 (0 + k_) v) _ _ _ _ dX10_setSetting_54 rfl hR hS (by rw [if_neg hA_, ← ek_])
      · skip
        have hA_ : ¬ inR x 5 ∨ v < xLea x.toNatClampNeg ∨ ¬ v ≤ xGre x.toNatClampNeg := Or.inr (Or.inr (by rw [← ek_]; exact c_12))
        refine lv_bipush (v := (-2)) hx hcb dX10_setSetting_28 (by decide) ?_
        exact hret (-2) (u1 z 0 0 0) _ _ _ _ dX10_setSetting_30 rfl hR hS (by rw [if_pos hA_])
def rm_X10_feed : Room := { frames := 0, cells := 0, slots := 0, locals := 0 }
set_option maxRecDepth 100000 in
set_option maxHeartbeats 4000000 in
theorem c_X10_feed (l : Launch) (G : xGl) (w : xWd) (hw : isM w) (z : xSt) (sz : Nat) (a : Int32) (b : Int32) (c_ : Int32) (d : Int32) (e_ : Int32) (q : Nat) (hq : z.1 0 2 = nI q) (hq9 : q ≤ 900) : xMi l yX10_feed cX10_feed 8 (some FieldType.int) rm_X10_feed G w z sz [.ref (w.2.2 0), .int a, .int b, .int c_, .int d, .int e_] (fun r z1 => (r, z1) = if q + 20 ≤ 900 then (nI (q + 20), u1 (ur (u1 z 0 0 0) 1 (bkR q 20 (fdB a b c_ d e_) (z.1 1))) 0 2 (nI (q + 20))) else ((-3), u1 z 0 0 0)) := by
  refine x_mi (by decide) (Nat.le_of_ble_eq_true rfl) ?_
  intro p e s mt args below meth c ls Q hsz X hR hS hl hret
  obtain ⟨hx, hcb, hml, hown, hts, hlk, hK, hZ⟩ := X
  have hl : lv_has ls 8 [(0, .ref (w.2.2 0)), (1, .int a), (2, .int b), (3, .int c_), (4, .int d), (5, .int e_)] := hl
  refine lv_aload_n hx hcb dX10_feed_0 rfl (lv_at hl 0 rfl) ?_
  refine lv_iconst (v := (nI 0)) hx hcb dX10_feed_1 (by decide) ?_
  refine x_putI hx hcb hts hown hK xc10 hR hS (hw.lo (by decide)) (hw.s0 rfl) 0 (by decide) rfl q_1166 rfl (v := 0) rfl rfl dX10_feed_2 (fun H locs hR hS => ?_)
  refine lv_aload_n hx hcb dX10_feed_5 rfl (lv_at hl 0 rfl) ?_
  refine x_getI hx hcb hts hown hK xc10 hR (hw.lo (by decide)) (hw.s0 rfl) 2 (by decide) rfl q_1168 dX10_feed_6 ?_
  refine x_top (show ((u1 z 0 0 0).1 0 2) = (nI q) from hq) ?_
  refine lv_bipush (v := (nI 20)) hx hcb dX10_feed_9 (by decide) ?_
  refine x_iaddN hx hcb dX10_feed_11 ?_
  refine lv_sipush (v := (nI 900)) hx hcb dX10_feed_12 (by decide) ?_
  refine lv_icmp_le (tgt := 21) hx hcb dX10_feed_15 (by decide) (fun c_1 => ?_) (fun c_1 => ?_)
  · skip
    have c_1 : (q + 20) ≤ 900 := (nI_leI (by omega) (by omega)).mp c_1
    have h_ : q + 20 ≤ 900 := c_1
    refine lv_iconst (v := (nI 0)) hx hcb dX10_feed_21 (by decide) ?_
    refine lv_istore (lv' := [(6, .int (nI 0)), (0, .ref (w.2.2 0)), (1, .int a), (2, .int b), (3, .int c_), (4, .int d), (5, .int e_)]) hx hcb dX10_feed_22 hl (by decide) rfl (fun ls hl => ?_)
    rw [show u1 z 0 0 0 = ur (u1 z 0 0 0) 1 (bkR q 0 (fdB a b c_ d e_) (z.1 1)) from by rw [bk_0]; exact (ur_id ..).symm] at hR
    suffices LP_24 : ∀ (nn : Nat) (i_ : Nat) (_ : 20 - i_ < nn) (hi_ : i_ ≤ 20) (H : Heap) (locs : List Loc) (ls : Array Slot), Rh G w (ur (u1 z 0 0 0) 1 (bkR q i_ (fdB a b c_ d e_) (z.1 1))) H → va_S (xA w s.heap.size) s.heap H locs → lv_has ls 8 [(0, .ref (w.2.2 0)), (1, .int a), (2, .int b), (3, .int c_), (4, .int d), (5, .int e_), (6, .int (nI i_))] → W p l e rm_X10_feed s mt args below meth c H locs 0 0 Q (F0 mt 24 ls []) from LP_24 ((_) + 1) 0 (Nat.lt_succ_self _) (by omega) _ _ _ hR hS (lv_sub hl [1, 2, 3, 4, 5, 6, 0] rfl)
    intro nn
    induction nn with
    | zero => intro i_ hm_ ; exact absurd hm_ (Nat.not_lt_zero _)
    | succ nn ih_24 =>
      intro i_ hm_24 hi_ H locs ls hR hS hl
      refine lv_iload hx hcb dX10_feed_24 (lv_at hl 6 rfl) ?_
      refine lv_bipush (v := (nI 20)) hx hcb dX10_feed_26 (by decide) ?_
      refine lv_icmp_ge (tgt := 114) hx hcb dX10_feed_28 (by decide) (fun c_2 => ?_) (fun c_2 => ?_)
      · skip
        have c_2 : 20 ≤ i_ := (nI_leI (by omega) (by omega)).mp c_2
        obtain rfl : 20 = i_ := by omega
        refine lv_aload_n hx hcb dX10_feed_114 rfl (lv_at hl 0 rfl) ?_
        refine lv_dup hx hcb dX10_feed_115 rfl ?_
        refine x_getI hx hcb hts hown hK xc10 hR (hw.lo (by decide)) (hw.s0 rfl) 2 (by decide) rfl q_1168 dX10_feed_116 ?_
        refine x_top (show ((ur (u1 z 0 0 0) 1 (bkR q 20 (fdB a b c_ d e_) (z.1 1))).1 0 2) = (nI q) from hq) ?_
        refine lv_bipush (v := (nI 20)) hx hcb dX10_feed_119 (by decide) ?_
        refine x_iaddN hx hcb dX10_feed_121 ?_
        refine x_putI hx hcb hts hown hK xc10 hR hS (hw.lo (by decide)) (hw.s0 rfl) 2 (by decide) rfl q_1168 rfl (v := (nI (q + 20))) rfl rfl dX10_feed_122 (fun H locs hR hS => ?_)
        refine lv_aload_n hx hcb dX10_feed_125 rfl (lv_at hl 0 rfl) ?_
        refine x_getI hx hcb hts hown hK xc10 hR (hw.lo (by decide)) (hw.s0 rfl) 2 (by decide) rfl q_1168 dX10_feed_126 ?_
        refine x_top (show ((u1 (ur (u1 z 0 0 0) 1 (bkR q 20 (fdB a b c_ d e_) (z.1 1))) 0 2 (nI (q + 20))).1 0 2) = (nI (q + 20)) from rfl) ?_
        exact hret (nI (q + 20)) (u1 (ur (u1 z 0 0 0) 1 (bkR q 20 (fdB a b c_ d e_) (z.1 1))) 0 2 (nI (q + 20))) _ _ _ _ dX10_feed_129 rfl hR hS (by rw [if_pos h_])
      · skip
        have c_2 : ¬ 20 ≤ i_ := fun h_ => c_2 ((nI_leI (by omega) (by omega)).mpr h_)
        have hi20_ : i_ < 20 := by omega
        refine lv_iload hx hcb dX10_feed_31 (lv_at hl 6 rfl) ?_
        refine lv_iconst (v := (nI 4)) hx hcb dX10_feed_33 (by decide) ?_
        refine lv_icmp_ge (tgt := 41) hx hcb dX10_feed_34 (by decide) (fun c_3 => ?_) (fun c_3 => ?_)
        · skip
          have c_3 : 4 ≤ i_ := (nI_leI (by omega) (by omega)).mp c_3
          have h1_ : ¬ i_ < 4 := by omega
          refine lv_iload hx hcb dX10_feed_41 (lv_at hl 6 rfl) ?_
          refine lv_bipush (v := (nI 8)) hx hcb dX10_feed_43 (by decide) ?_
          refine lv_icmp_ge (tgt := 52) hx hcb dX10_feed_45 (by decide) (fun c_4 => ?_) (fun c_4 => ?_)
          · skip
            have c_4 : 8 ≤ i_ := (nI_leI (by omega) (by omega)).mp c_4
            have h2_ : ¬ i_ < 8 := by omega
            refine lv_iload hx hcb dX10_feed_52 (lv_at hl 6 rfl) ?_
            refine lv_bipush (v := (nI 12)) hx hcb dX10_feed_54 (by decide) ?_
            refine lv_icmp_ge (tgt := 63) hx hcb dX10_feed_56 (by decide) (fun c_5 => ?_) (fun c_5 => ?_)
            · skip
              have c_5 : 12 ≤ i_ := (nI_leI (by omega) (by omega)).mp c_5
              have h3_ : ¬ i_ < 12 := by omega
              refine lv_iload hx hcb dX10_feed_63 (lv_at hl 6 rfl) ?_
              refine lv_bipush (v := (nI 16)) hx hcb dX10_feed_65 (by decide) ?_
              refine lv_icmp_ge (tgt := 75) hx hcb dX10_feed_67 (by decide) (fun c_6 => ?_) (fun c_6 => ?_)
              · skip
                have c_6 : 16 ≤ i_ := (nI_leI (by omega) (by omega)).mp c_6
                have h4_ : ¬ i_ < 16 := by omega
                refine lv_iload hx hcb dX10_feed_75 (lv_at hl 5 rfl) ?_
                refine x_top (show e_ = fdV a b c_ d e_ i_ from by unfold fdV; first | rw [if_pos h1_] | rw [if_neg h1_, if_pos h2_] | rw [if_neg h1_, if_neg h2_, if_pos h3_] | rw [if_neg h1_, if_neg h2_, if_neg h3_, if_pos h4_] | rw [if_neg h1_, if_neg h2_, if_neg h3_, if_neg h4_]) ?_
                refine lv_istore (lv' := [(7, .int (fdV a b c_ d e_ i_)), (0, .ref (w.2.2 0)), (1, .int a), (2, .int b), (3, .int c_), (4, .int d), (5, .int e_), (6, .int (nI i_))]) hx hcb dX10_feed_77 hl (by decide) rfl (fun ls hl => ?_)
                refine lv_aload_n hx hcb dX10_feed_79 rfl (lv_at hl 1 rfl) ?_
                refine x_getR hx hcb hts hown hK xc10 hR (hw.lo (by decide)) (hw.s0 rfl) 1 (by decide) rfl q_1167 dX10_feed_80 ?_
                refine lv_aload_n hx hcb dX10_feed_83 rfl (lv_at hl 1 rfl) ?_
                refine x_getI hx hcb hts hown hK xc10 hR (hw.lo (by decide)) (hw.s0 rfl) 2 (by decide) rfl q_1168 dX10_feed_84 ?_
                refine x_top (show ((ur (u1 z 0 0 0) 1 (bkR q i_ (fdB a b c_ d e_) (z.1 1))).1 0 2) = (nI q) from hq) ?_
                refine lv_iload hx hcb dX10_feed_87 (lv_at hl 7 rfl) ?_
                refine x_iaddN hx hcb dX10_feed_89 ?_
                refine lv_iload hx hcb dX10_feed_90 (lv_at hl 0 rfl) ?_
                refine lv_bipush (v := (nI 24)) hx hcb dX10_feed_92 (by decide) ?_
                refine lv_bipush (v := (nI 8)) hx hcb dX10_feed_94 (by decide) ?_
                refine lv_iload hx hcb dX10_feed_96 (lv_at hl 7 rfl) ?_
                refine lv_iconst (v := (nI 4)) hx hcb dX10_feed_98 (by decide) ?_
                refine lv_irem hx hcb dX10_feed_99 (by decide) ?_
                refine x_top (show ((nI i_) - (nI i_) / (nI 4) * (nI 4)) = (nI (i_ % 4)) from nI_m4 hi20_) ?_
                refine x_imulN hx hcb dX10_feed_100 ?_
                refine x_isubN hx hcb (by omega) dX10_feed_101 ?_
                refine lv_ishr hx hcb dX10_feed_102 ?_
                refine lv_sipush (v := (nI 255)) hx hcb dX10_feed_103 (by decide) ?_
                refine lv_iand hx hcb dX10_feed_106 ?_
                refine x_top (show (((fdV a b c_ d e_ i_) >>> ((nI (24 - (8 * (i_ % 4)))) &&& 31)) &&& (nI 255)) = ((fdB a b c_ d e_) i_) from rfl) ?_
                refine x_iast hx hcb hK hR hS (hw.lo (by decide)) (hw.s0 rfl) (k := (q + i_)) (v := ((fdB a b c_ d e_) i_)) (by omega) (by decide) dX10_feed_107 (fun H locs hR hS => ?_)
                refine lv_iinc (v := (nI (i_ + 1))) (lv' := [(6, .int (nI (i_ + 1))), (7, .int (fdV a b c_ d e_ i_)), (0, .ref (w.2.2 0)), (1, .int a), (2, .int b), (3, .int c_), (4, .int d), (5, .int e_)]) hx hcb dX10_feed_108 hl (k := 7) rfl (x_iinc1 _) (by decide) rfl (fun ls hl => ?_)
                refine lv_goto (tgt := 24) hx hcb dX10_feed_111 (by decide) ?_
                rw [show (u1 (ur (u1 z 0 0 0) 1 (bkR q i_ (fdB a b c_ d e_) (z.1 1))) 1 (q + i_) ((fdB a b c_ d e_) i_)) = (ur (u1 z 0 0 0) 1 (bkR q (i_ + 1) (fdB a b c_ d e_) (z.1 1))) from by rw [u1_ur]; exact congrArg (ur (u1 z 0 0 0) 1) (bk_s q i_ (fdB a b c_ d e_) (z.1 1))] at hR
                exact ih_24 (i_ + 1) (by omega) (by omega) _ _ _ hR hS (lv_sub hl [2, 3, 4, 5, 6, 7, 0] rfl)
              · skip
                have c_6 : ¬ 16 ≤ i_ := fun h_ => c_6 ((nI_leI (by omega) (by omega)).mpr h_)
                have h4_ : i_ < 16 := by omega
                refine lv_iload hx hcb dX10_feed_70 (lv_at hl 4 rfl) ?_
                refine lv_goto (tgt := 77) hx hcb dX10_feed_72 (by decide) ?_
                refine x_top (show d = fdV a b c_ d e_ i_ from by unfold fdV; first | rw [if_pos h1_] | rw [if_neg h1_, if_pos h2_] | rw [if_neg h1_, if_neg h2_, if_pos h3_] | rw [if_neg h1_, if_neg h2_, if_neg h3_, if_pos h4_] | rw [if_neg h1_, if_neg h2_, if_neg h3_, if_neg h4_]) ?_
                refine lv_istore (lv' := [(7, .int (fdV a b c_ d e_ i_)), (0, .ref (w.2.2 0)), (1, .int a), (2, .int b), (3, .int c_), (4, .int d), (5, .int e_), (6, .int (nI i_))]) hx hcb dX10_feed_77 hl (by decide) rfl (fun ls hl => ?_)
                refine lv_aload_n hx hcb dX10_feed_79 rfl (lv_at hl 1 rfl) ?_
                refine x_getR hx hcb hts hown hK xc10 hR (hw.lo (by decide)) (hw.s0 rfl) 1 (by decide) rfl q_1167 dX10_feed_80 ?_
                refine lv_aload_n hx hcb dX10_feed_83 rfl (lv_at hl 1 rfl) ?_
                refine x_getI hx hcb hts hown hK xc10 hR (hw.lo (by decide)) (hw.s0 rfl) 2 (by decide) rfl q_1168 dX10_feed_84 ?_
                refine x_top (show ((ur (u1 z 0 0 0) 1 (bkR q i_ (fdB a b c_ d e_) (z.1 1))).1 0 2) = (nI q) from hq) ?_
                refine lv_iload hx hcb dX10_feed_87 (lv_at hl 7 rfl) ?_
                refine x_iaddN hx hcb dX10_feed_89 ?_
                refine lv_iload hx hcb dX10_feed_90 (lv_at hl 0 rfl) ?_
                refine lv_bipush (v := (nI 24)) hx hcb dX10_feed_92 (by decide) ?_
                refine lv_bipush (v := (nI 8)) hx hcb dX10_feed_94 (by decide) ?_
                refine lv_iload hx hcb dX10_feed_96 (lv_at hl 7 rfl) ?_
                refine lv_iconst (v := (nI 4)) hx hcb dX10_feed_98 (by decide) ?_
                refine lv_irem hx hcb dX10_feed_99 (by decide) ?_
                refine x_top (show ((nI i_) - (nI i_) / (nI 4) * (nI 4)) = (nI (i_ % 4)) from nI_m4 hi20_) ?_
                refine x_imulN hx hcb dX10_feed_100 ?_
                refine x_isubN hx hcb (by omega) dX10_feed_101 ?_
                refine lv_ishr hx hcb dX10_feed_102 ?_
                refine lv_sipush (v := (nI 255)) hx hcb dX10_feed_103 (by decide) ?_
                refine lv_iand hx hcb dX10_feed_106 ?_
                refine x_top (show (((fdV a b c_ d e_ i_) >>> ((nI (24 - (8 * (i_ % 4)))) &&& 31)) &&& (nI 255)) = ((fdB a b c_ d e_) i_) from rfl) ?_
                refine x_iast hx hcb hK hR hS (hw.lo (by decide)) (hw.s0 rfl) (k := (q + i_)) (v := ((fdB a b c_ d e_) i_)) (by omega) (by decide) dX10_feed_107 (fun H locs hR hS => ?_)
                refine lv_iinc (v := (nI (i_ + 1))) (lv' := [(6, .int (nI (i_ + 1))), (7, .int (fdV a b c_ d e_ i_)), (0, .ref (w.2.2 0)), (1, .int a), (2, .int b), (3, .int c_), (4, .int d), (5, .int e_)]) hx hcb dX10_feed_108 hl (k := 7) rfl (x_iinc1 _) (by decide) rfl (fun ls hl => ?_)
                refine lv_goto (tgt := 24) hx hcb dX10_feed_111 (by decide) ?_
                rw [show (u1 (ur (u1 z 0 0 0) 1 (bkR q i_ (fdB a b c_ d e_) (z.1 1))) 1 (q + i_) ((fdB a b c_ d e_) i_)) = (ur (u1 z 0 0 0) 1 (bkR q (i_ + 1) (fdB a b c_ d e_) (z.1 1))) from by rw [u1_ur]; exact congrArg (ur (u1 z 0 0 0) 1) (bk_s q i_ (fdB a b c_ d e_) (z.1 1))] at hR
                exact ih_24 (i_ + 1) (by omega) (by omega) _ _ _ hR hS (lv_sub hl [2, 3, 4, 5, 6, 7, 0] rfl)
            · skip
              have c_5 : ¬ 12 ≤ i_ := fun h_ => c_5 ((nI_leI (by omega) (by omega)).mpr h_)
              have h3_ : i_ < 12 := by omega
              refine lv_iload_n hx hcb dX10_feed_59 rfl (lv_at hl 3 rfl) ?_
              refine lv_goto (tgt := 77) hx hcb dX10_feed_60 (by decide) ?_
              refine x_top (show c_ = fdV a b c_ d e_ i_ from by unfold fdV; first | rw [if_pos h1_] | rw [if_neg h1_, if_pos h2_] | rw [if_neg h1_, if_neg h2_, if_pos h3_] | rw [if_neg h1_, if_neg h2_, if_neg h3_, if_pos h4_] | rw [if_neg h1_, if_neg h2_, if_neg h3_, if_neg h4_]) ?_
              refine lv_istore (lv' := [(7, .int (fdV a b c_ d e_ i_)), (0, .ref (w.2.2 0)), (1, .int a), (2, .int b), (3, .int c_), (4, .int d), (5, .int e_), (6, .int (nI i_))]) hx hcb dX10_feed_77 hl (by decide) rfl (fun ls hl => ?_)
              refine lv_aload_n hx hcb dX10_feed_79 rfl (lv_at hl 1 rfl) ?_
              refine x_getR hx hcb hts hown hK xc10 hR (hw.lo (by decide)) (hw.s0 rfl) 1 (by decide) rfl q_1167 dX10_feed_80 ?_
              refine lv_aload_n hx hcb dX10_feed_83 rfl (lv_at hl 1 rfl) ?_
              refine x_getI hx hcb hts hown hK xc10 hR (hw.lo (by decide)) (hw.s0 rfl) 2 (by decide) rfl q_1168 dX10_feed_84 ?_
              refine x_top (show ((ur (u1 z 0 0 0) 1 (bkR q i_ (fdB a b c_ d e_) (z.1 1))).1 0 2) = (nI q) from hq) ?_
              refine lv_iload hx hcb dX10_feed_87 (lv_at hl 7 rfl) ?_
              refine x_iaddN hx hcb dX10_feed_89 ?_
              refine lv_iload hx hcb dX10_feed_90 (lv_at hl 0 rfl) ?_
              refine lv_bipush (v := (nI 24)) hx hcb dX10_feed_92 (by decide) ?_
              refine lv_bipush (v := (nI 8)) hx hcb dX10_feed_94 (by decide) ?_
              refine lv_iload hx hcb dX10_feed_96 (lv_at hl 7 rfl) ?_
              refine lv_iconst (v := (nI 4)) hx hcb dX10_feed_98 (by decide) ?_
              refine lv_irem hx hcb dX10_feed_99 (by decide) ?_
              refine x_top (show ((nI i_) - (nI i_) / (nI 4) * (nI 4)) = (nI (i_ % 4)) from nI_m4 hi20_) ?_
              refine x_imulN hx hcb dX10_feed_100 ?_
              refine x_isubN hx hcb (by omega) dX10_feed_101 ?_
              refine lv_ishr hx hcb dX10_feed_102 ?_
              refine lv_sipush (v := (nI 255)) hx hcb dX10_feed_103 (by decide) ?_
              refine lv_iand hx hcb dX10_feed_106 ?_
              refine x_top (show (((fdV a b c_ d e_ i_) >>> ((nI (24 - (8 * (i_ % 4)))) &&& 31)) &&& (nI 255)) = ((fdB a b c_ d e_) i_) from rfl) ?_
              refine x_iast hx hcb hK hR hS (hw.lo (by decide)) (hw.s0 rfl) (k := (q + i_)) (v := ((fdB a b c_ d e_) i_)) (by omega) (by decide) dX10_feed_107 (fun H locs hR hS => ?_)
              refine lv_iinc (v := (nI (i_ + 1))) (lv' := [(6, .int (nI (i_ + 1))), (7, .int (fdV a b c_ d e_ i_)), (0, .ref (w.2.2 0)), (1, .int a), (2, .int b), (3, .int c_), (4, .int d), (5, .int e_)]) hx hcb dX10_feed_108 hl (k := 7) rfl (x_iinc1 _) (by decide) rfl (fun ls hl => ?_)
              refine lv_goto (tgt := 24) hx hcb dX10_feed_111 (by decide) ?_
              rw [show (u1 (ur (u1 z 0 0 0) 1 (bkR q i_ (fdB a b c_ d e_) (z.1 1))) 1 (q + i_) ((fdB a b c_ d e_) i_)) = (ur (u1 z 0 0 0) 1 (bkR q (i_ + 1) (fdB a b c_ d e_) (z.1 1))) from by rw [u1_ur]; exact congrArg (ur (u1 z 0 0 0) 1) (bk_s q i_ (fdB a b c_ d e_) (z.1 1))] at hR
              exact ih_24 (i_ + 1) (by omega) (by omega) _ _ _ hR hS (lv_sub hl [2, 3, 4, 5, 6, 7, 0] rfl)
          · skip
            have c_4 : ¬ 8 ≤ i_ := fun h_ => c_4 ((nI_leI (by omega) (by omega)).mpr h_)
            have h2_ : i_ < 8 := by omega
            refine lv_iload_n hx hcb dX10_feed_48 rfl (lv_at hl 2 rfl) ?_
            refine lv_goto (tgt := 77) hx hcb dX10_feed_49 (by decide) ?_
            refine x_top (show b = fdV a b c_ d e_ i_ from by unfold fdV; first | rw [if_pos h1_] | rw [if_neg h1_, if_pos h2_] | rw [if_neg h1_, if_neg h2_, if_pos h3_] | rw [if_neg h1_, if_neg h2_, if_neg h3_, if_pos h4_] | rw [if_neg h1_, if_neg h2_, if_neg h3_, if_neg h4_]) ?_
            refine lv_istore (lv' := [(7, .int (fdV a b c_ d e_ i_)), (0, .ref (w.2.2 0)), (1, .int a), (2, .int b), (3, .int c_), (4, .int d), (5, .int e_), (6, .int (nI i_))]) hx hcb dX10_feed_77 hl (by decide) rfl (fun ls hl => ?_)
            refine lv_aload_n hx hcb dX10_feed_79 rfl (lv_at hl 1 rfl) ?_
            refine x_getR hx hcb hts hown hK xc10 hR (hw.lo (by decide)) (hw.s0 rfl) 1 (by decide) rfl q_1167 dX10_feed_80 ?_
            refine lv_aload_n hx hcb dX10_feed_83 rfl (lv_at hl 1 rfl) ?_
            refine x_getI hx hcb hts hown hK xc10 hR (hw.lo (by decide)) (hw.s0 rfl) 2 (by decide) rfl q_1168 dX10_feed_84 ?_
            refine x_top (show ((ur (u1 z 0 0 0) 1 (bkR q i_ (fdB a b c_ d e_) (z.1 1))).1 0 2) = (nI q) from hq) ?_
            refine lv_iload hx hcb dX10_feed_87 (lv_at hl 7 rfl) ?_
            refine x_iaddN hx hcb dX10_feed_89 ?_
            refine lv_iload hx hcb dX10_feed_90 (lv_at hl 0 rfl) ?_
            refine lv_bipush (v := (nI 24)) hx hcb dX10_feed_92 (by decide) ?_
            refine lv_bipush (v := (nI 8)) hx hcb dX10_feed_94 (by decide) ?_
            refine lv_iload hx hcb dX10_feed_96 (lv_at hl 7 rfl) ?_
            refine lv_iconst (v := (nI 4)) hx hcb dX10_feed_98 (by decide) ?_
            refine lv_irem hx hcb dX10_feed_99 (by decide) ?_
            refine x_top (show ((nI i_) - (nI i_) / (nI 4) * (nI 4)) = (nI (i_ % 4)) from nI_m4 hi20_) ?_
            refine x_imulN hx hcb dX10_feed_100 ?_
            refine x_isubN hx hcb (by omega) dX10_feed_101 ?_
            refine lv_ishr hx hcb dX10_feed_102 ?_
            refine lv_sipush (v := (nI 255)) hx hcb dX10_feed_103 (by decide) ?_
            refine lv_iand hx hcb dX10_feed_106 ?_
            refine x_top (show (((fdV a b c_ d e_ i_) >>> ((nI (24 - (8 * (i_ % 4)))) &&& 31)) &&& (nI 255)) = ((fdB a b c_ d e_) i_) from rfl) ?_
            refine x_iast hx hcb hK hR hS (hw.lo (by decide)) (hw.s0 rfl) (k := (q + i_)) (v := ((fdB a b c_ d e_) i_)) (by omega) (by decide) dX10_feed_107 (fun H locs hR hS => ?_)
            refine lv_iinc (v := (nI (i_ + 1))) (lv' := [(6, .int (nI (i_ + 1))), (7, .int (fdV a b c_ d e_ i_)), (0, .ref (w.2.2 0)), (1, .int a), (2, .int b), (3, .int c_), (4, .int d), (5, .int e_)]) hx hcb dX10_feed_108 hl (k := 7) rfl (x_iinc1 _) (by decide) rfl (fun ls hl => ?_)
            refine lv_goto (tgt := 24) hx hcb dX10_feed_111 (by decide) ?_
            rw [show (u1 (ur (u1 z 0 0 0) 1 (bkR q i_ (fdB a b c_ d e_) (z.1 1))) 1 (q + i_) ((fdB a b c_ d e_) i_)) = (ur (u1 z 0 0 0) 1 (bkR q (i_ + 1) (fdB a b c_ d e_) (z.1 1))) from by rw [u1_ur]; exact congrArg (ur (u1 z 0 0 0) 1) (bk_s q i_ (fdB a b c_ d e_) (z.1 1))] at hR
            exact ih_24 (i_ + 1) (by omega) (by omega) _ _ _ hR hS (lv_sub hl [2, 3, 4, 5, 6, 7, 0] rfl)
        · skip
          have c_3 : ¬ 4 ≤ i_ := fun h_ => c_3 ((nI_leI (by omega) (by omega)).mpr h_)
          have h1_ : i_ < 4 := by omega
          refine lv_iload_n hx hcb dX10_feed_37 rfl (lv_at hl 1 rfl) ?_
          refine lv_goto (tgt := 77) hx hcb dX10_feed_38 (by decide) ?_
          refine x_top (show a = fdV a b c_ d e_ i_ from by unfold fdV; first | rw [if_pos h1_] | rw [if_neg h1_, if_pos h2_] | rw [if_neg h1_, if_neg h2_, if_pos h3_] | rw [if_neg h1_, if_neg h2_, if_neg h3_, if_pos h4_] | rw [if_neg h1_, if_neg h2_, if_neg h3_, if_neg h4_]) ?_
          refine lv_istore (lv' := [(7, .int (fdV a b c_ d e_ i_)), (0, .ref (w.2.2 0)), (1, .int a), (2, .int b), (3, .int c_), (4, .int d), (5, .int e_), (6, .int (nI i_))]) hx hcb dX10_feed_77 hl (by decide) rfl (fun ls hl => ?_)
          refine lv_aload_n hx hcb dX10_feed_79 rfl (lv_at hl 1 rfl) ?_
          refine x_getR hx hcb hts hown hK xc10 hR (hw.lo (by decide)) (hw.s0 rfl) 1 (by decide) rfl q_1167 dX10_feed_80 ?_
          refine lv_aload_n hx hcb dX10_feed_83 rfl (lv_at hl 1 rfl) ?_
          refine x_getI hx hcb hts hown hK xc10 hR (hw.lo (by decide)) (hw.s0 rfl) 2 (by decide) rfl q_1168 dX10_feed_84 ?_
          refine x_top (show ((ur (u1 z 0 0 0) 1 (bkR q i_ (fdB a b c_ d e_) (z.1 1))).1 0 2) = (nI q) from hq) ?_
          refine lv_iload hx hcb dX10_feed_87 (lv_at hl 7 rfl) ?_
          refine x_iaddN hx hcb dX10_feed_89 ?_
          refine lv_iload hx hcb dX10_feed_90 (lv_at hl 0 rfl) ?_
          refine lv_bipush (v := (nI 24)) hx hcb dX10_feed_92 (by decide) ?_
          refine lv_bipush (v := (nI 8)) hx hcb dX10_feed_94 (by decide) ?_
          refine lv_iload hx hcb dX10_feed_96 (lv_at hl 7 rfl) ?_
          refine lv_iconst (v := (nI 4)) hx hcb dX10_feed_98 (by decide) ?_
          refine lv_irem hx hcb dX10_feed_99 (by decide) ?_
          refine x_top (show ((nI i_) - (nI i_) / (nI 4) * (nI 4)) = (nI (i_ % 4)) from nI_m4 hi20_) ?_
          refine x_imulN hx hcb dX10_feed_100 ?_
          refine x_isubN hx hcb (by omega) dX10_feed_101 ?_
          refine lv_ishr hx hcb dX10_feed_102 ?_
          refine lv_sipush (v := (nI 255)) hx hcb dX10_feed_103 (by decide) ?_
          refine lv_iand hx hcb dX10_feed_106 ?_
          refine x_top (show (((fdV a b c_ d e_ i_) >>> ((nI (24 - (8 * (i_ % 4)))) &&& 31)) &&& (nI 255)) = ((fdB a b c_ d e_) i_) from rfl) ?_
          refine x_iast hx hcb hK hR hS (hw.lo (by decide)) (hw.s0 rfl) (k := (q + i_)) (v := ((fdB a b c_ d e_) i_)) (by omega) (by decide) dX10_feed_107 (fun H locs hR hS => ?_)
          refine lv_iinc (v := (nI (i_ + 1))) (lv' := [(6, .int (nI (i_ + 1))), (7, .int (fdV a b c_ d e_ i_)), (0, .ref (w.2.2 0)), (1, .int a), (2, .int b), (3, .int c_), (4, .int d), (5, .int e_)]) hx hcb dX10_feed_108 hl (k := 7) rfl (x_iinc1 _) (by decide) rfl (fun ls hl => ?_)
          refine lv_goto (tgt := 24) hx hcb dX10_feed_111 (by decide) ?_
          rw [show (u1 (ur (u1 z 0 0 0) 1 (bkR q i_ (fdB a b c_ d e_) (z.1 1))) 1 (q + i_) ((fdB a b c_ d e_) i_)) = (ur (u1 z 0 0 0) 1 (bkR q (i_ + 1) (fdB a b c_ d e_) (z.1 1))) from by rw [u1_ur]; exact congrArg (ur (u1 z 0 0 0) 1) (bk_s q i_ (fdB a b c_ d e_) (z.1 1))] at hR
          exact ih_24 (i_ + 1) (by omega) (by omega) _ _ _ hR hS (lv_sub hl [2, 3, 4, 5, 6, 7, 0] rfl)
  · skip
    have c_1 : ¬ (q + 20) ≤ 900 := fun h_ => c_1 ((nI_leI (by omega) (by omega)).mpr h_)
    have h_ : ¬ q + 20 ≤ 900 := c_1
    refine lv_bipush (v := (-3)) hx hcb dX10_feed_18 (by decide) ?_
    exact hret (-3) (u1 z 0 0 0) _ _ _ _ dX10_feed_20 rfl hR hS (by rw [if_neg h_])
