/-! THE REFERENCE: a year is closed -/
def keQ (P : Nat → Prop) (z z2 : xSt) : Prop := z2.1 2 = z.1 2 ∧ ∀ k, P k → z2.1 4 k = z.1 4 k
theorem keQ.r0 {P : Nat → Prop} {z : xSt} : keQ P z z := ⟨rfl, fun _ _ => rfl⟩
theorem keQ.tr {P : Nat → Prop} {a b c : xSt} (h : keQ P a b) (g : keQ P b c) : keQ P a c := ⟨g.1.trans h.1, fun k q => (g.2 k q).trans (h.2 k q)⟩
theorem keQ.u {P : Nat → Prop} {z y : xSt} (h : keQ P z y) {k : Nat} {v : Int32} (hk : ¬ P k) : keQ P z (u1 y 4 k v) := ⟨h.1, fun j q => (u1_sne y 4 (k := k) (j := j) v (fun e => hk (e ▸ q))).trans (h.2 j q)⟩
theorem keQ.mo {P P2 : Nat → Prop} {z y : xSt} (h : keQ P z y) (hp : ∀ k, P2 k → P k) : keQ P2 z y := ⟨h.1, fun k q => h.2 k (hp k q)⟩
theorem keQ.ok {P : Nat → Prop} {z y : xSt} (h : keQ P z y) (hp : P 494) (o : rOk z) : rOk y ∧ yQ y = yQ z := by
  unfold rOk mQ yQ at o ⊢
  rw [h.1, h.2 494 hp]
  exact ⟨o, rfl⟩
theorem rcQ_ke {P : Nat → Prop} {m : Nat} : ∀ (n : Nat) (z : xSt) (o : Int32), (∀ j, j < n → ¬ P (61 + 24 * m + j)) → keQ P z (rcQ m n z o).1
  | 0, _, _, _ => keQ.r0
  | n + 1, z, o, h => (keQ.r0.u (h n (Nat.lt_succ_self n))).tr (rcQ_ke n _ _ (fun j hj => h j (Nat.lt_succ_of_lt hj)))
theorem ipQ_ke {P : Nat → Prop} {m : Nat} : ∀ (n y : Nat) (z : xSt) (o : Int32), (∀ j, j < y + n → ¬ P (61 + 24 * m + j)) → keQ P z (ipQ m n y z o)
  | 0, _, _, _, _ => keQ.r0
  | n + 1, y, z, o, h => (keQ.r0.u (h y (by omega))).tr (ipQ_ke n (y + 1) _ _ (fun j hj => h j (by omega)))
abbrev pA (k : Nat) : Prop := k < 29 ∨ k = 494
abbrev pL (m k : Nat) : Prop := k = 494 ∨ (5 + m ≤ k ∧ k < 13) ∨ (21 + m ≤ k ∧ k < 29)
theorem cfQ_ke {z : xSt} {m : Nat} {n : Int32} (hm : m < 8) (hy : yQ z < 24) : keQ pA z (cfQ z m n) :=
  (((keQ.r0.u (by intro q; omega)).u (by intro q; omega)).u (by intro q; omega)).u (by intro q; omega)
theorem rcZ_ke {z : xSt} {m : Nat} {n : Int32} (hm : m < 8) (hy : yQ z ≤ 24) : keQ pA z (rcZ z m n) :=
  (((rcQ_ke (yQ z) z n (by intro j hj q; omega)).u (by intro q; omega)).u (by intro q; omega)).u (by intro q; omega)
theorem pyQ_ke {z : xSt} {m : Nat} (hm : m < 8) (hy : yQ z ≤ 24) : keQ (pL (m + 1)) z (pyQ z m) := by
  unfold pyQ
  split
  · exact (((keQ.r0.u (by intro q; omega)).tr (ipQ_ke _ 0 _ _ (by intro j hj q; omega))).u (by intro q; omega)).u (by intro q; omega)
  · exact ((keQ.r0.u (by intro q; omega)).tr (ipQ_ke _ 0 _ _ (by intro j hj q; omega))).u (by intro q; omega)
def clA (z : xSt) : xSt := u1 (daL z (mQ z 13)) 4 493 ((daL z (mQ z 13)).1 4 493 + (daL z (mQ z 13)).1 0 15)
def cdQ (y : xSt) : Nat → xSt
  | 0 => y
  | d + 1 => u1 (u1 (cdQ y d) 4 (485 + d) ((cdQ y d).1 12 d)) 4 (489 + d) (bx_sum (fun m => (u1 (cdQ y d) 4 (485 + d) ((cdQ y d).1 12 d)).1 4 (29 + 4 * m + d)) (mQ (u1 (cdQ y d) 4 (485 + d) ((cdQ y d).1 12 d)) 12))
theorem cdQ_ke {y : xSt} : ∀ n : Nat, n ≤ 4 → keQ pA y (cdQ y n)
  | 0, _ => keQ.r0
  | n + 1, h => ((cdQ_ke n (by omega)).u (by intro q; omega)).u (by intro q; omega)
theorem clA_ke (z : xSt) (n : Nat) (hn : n ≤ 4) : keQ pA z (cdQ (clA z) n) :=
  (show keQ pA z (clA z) from keQ.u (y := daL z (mQ z 13)) ⟨daL_2 z _, fun k _ => by rw [daL_4]⟩ (by intro q; omega)).tr (cdQ_ke n hn)
def clB (z : xSt) : xSt := cdQ (clA z) (mQ z 13)
theorem clB_ke {z : xSt} (h : rOk z) : keQ pA z (clB z) := clA_ke z _ h.2.2.2.1
def cm0 (s : xSt) (m : Nat) : xSt := u1 (u1 s 4 (469 + m) (s.1 11 m)) 4 (477 + m) 0
def cmT (s : xSt) (m : Nat) : xSt := if 0 < s.1 11 m then cfQ (cm0 s m) m (s.1 11 m) else cm0 s m
def cmS (s : xSt) (m : Nat) : xSt := if s.1 11 m < 0 then rcZ (cmT s m) m (-(s.1 11 m)) else cmT s m
def cmQ (y : xSt) : Nat → xSt
  | 0 => y
  | m + 1 => cmS (cmQ y m) m
theorem cmT_11 (s : xSt) (m : Nat) : (cmT s m).1 11 m = s.1 11 m := by unfold cmT; split <;> rfl
theorem cm0_ke {s : xSt} {m : Nat} (hm : m < 8) : keQ pA s (cm0 s m) := (keQ.r0.u (by intro q; omega)).u (by intro q; omega)
theorem yQ_ke {P : Nat → Prop} {z y : xSt} (h : keQ P z y) (hp : P 494) : yQ y = yQ z := by unfold yQ; rw [h.2 494 hp]
theorem cmT_ke {s : xSt} {m : Nat} (hm : m < 8) (hy : yQ s < 24) : keQ pA s (cmT s m) := by
  unfold cmT
  split
  · exact (cm0_ke hm).tr (cfQ_ke hm (by rw [yQ_ke (cm0_ke hm) (Or.inr rfl)]; exact hy))
  · exact cm0_ke hm
theorem cmS_ke {s : xSt} {m : Nat} (hm : m < 8) (hy : yQ s < 24) : keQ pA s (cmS s m) := by
  unfold cmS
  split
  · exact (cmT_ke hm hy).tr (rcZ_ke hm (by rw [yQ_ke (cmT_ke hm hy) (Or.inr rfl)]; omega))
  · exact cmT_ke hm hy
theorem cmQ_ke {y : xSt} : ∀ {n : Nat}, n ≤ 8 → yQ y < 24 → keQ pA y (cmQ y n)
  | 0, _, _ => keQ.r0
  | n + 1, h, hy => by
    have h1 := cmQ_ke (y := y) (n := n) (by omega) hy
    exact h1.tr (cmS_ke (by omega) (by rw [yQ_ke h1 (Or.inr rfl)]; exact hy))
def cpS (s : xSt) (m : Nat) : xSt := if s.1 4 (5 + m) = nI 1 then pyQ s m else s
def cpQ (y : xSt) : Nat → xSt
  | 0 => y
  | m + 1 => cpS (cpQ y m) m
theorem cpQ_ke {z : xSt} : ∀ {n : Nat}, n ≤ 8 → yQ z ≤ 24 → keQ (pL n) z (cpQ z n)
  | 0, _, _ => keQ.r0
  | n + 1, h, hy => by
    have h1 := cpQ_ke (z := z) (n := n) (by omega) hy
    have h2 : keQ (pL (n + 1)) z (cpQ z n) := h1.mo (by intro k q; omega)
    show keQ (pL (n + 1)) z (cpS (cpQ z n) n)
    unfold cpS
    split
    · exact h2.tr (pyQ_ke (by omega) (by rw [yQ_ke h1 (Or.inl rfl)]; exact hy))
    · exact h2
def clD (z : xSt) : xSt := cpQ (cmQ (clB z) (mQ z 12)) (mQ z 12)
def clE (z : xSt) : xSt := ur (clD z) 4 (bkR 29 32 (fun _ => 0) ((clD z).1 4))
def clQ (z : xSt) : xSt := u1 (clE z) 4 494 ((clE z).1 4 494 + nI 1)
def rm_X10_closes : Room := { frames := 3, cells := 0, slots := 0, locals := 75 }
set_option maxRecDepth 100000 in
set_option maxHeartbeats 4000000 in
theorem c_X10_closes (l : Launch) (G : xGl) (w : xWd) (hw : isM w) (z : xSt) (sz : Nat)  (hO : rOk z) (hy : yQ z < 24) (hsh : ∀ d, d < mQ z 13 → shD (daL z d) d) (hLv : lvO z) : xMv l yX10_closes cX10_closes 2 rm_X10_closes G w z sz [.ref (w.2.2 0)] (fun z1 => z1 = clQ z) := by
  refine x_mv (by decide) (Nat.le_of_ble_eq_true rfl) ?_
  intro p e s mt args below meth c ls Q hsz X hR hS hl hret
  obtain ⟨hx, hcb, hml, hown, hts, hlk, hK, hZ⟩ := X
  have hl : lv_has ls 2 [(0, .ref (w.2.2 0))] := hl
  have hm8_ := hO.2.1
  have hd4_ := hO.2.2.2.1
  have hy24_ := hO.2.2.2.2.2
  have hkB_ := fun i (hi : i ≤ 4) => clA_ke z i hi
  have hB_ := clB_ke hO
  have hoB_ := hB_.ok (Or.inr rfl) hO
  have hkC_ := fun i (hi : i ≤ 8) => hB_.tr (cmQ_ke (n := i) hi (by rw [hoB_.2]; exact hy))
  have hC_ := hkC_ (mQ z 12) hm8_
  have hkD_ := fun i (hi : i ≤ 8) => cpQ_ke (z := (cmQ (clB z) (mQ z 12))) (n := i) hi (by rw [(hC_.ok (Or.inr rfl) hO).2]; omega)
  refine lv_aload_n hx hcb dX10_closes_0 rfl (lv_at hl 0 rfl) ?_
  refine x_cv0 rfl rfl (x_runV hx hcb hml hown hts (c_X10_dealsAll l G w hw z _ hO hsh) mv_X10_dealsAll q_1358 hK hZ hR hS (hw.lo (by decide)) xc10 (hw.s0 rfl) rfl hl.1 rfl (Nat.le_of_ble_eq_true rfl) dX10_closes_1 ⟨by decide, by decide⟩ ⟨by decide, by decide⟩) hS (fun z_2 H locs hp_3 hR hS => ?_)
  rw [hp_3] at hR
  refine lv_aload_n hx hcb dX10_closes_4 rfl (lv_at hl 0 rfl) ?_
  refine x_getR hx hcb hts hown hK xc10 hR (hw.lo (by decide)) (hw.s0 rfl) 5 (by decide) rfl q_1171 dX10_closes_5 ?_
  refine lv_sipush (v := (nI 493)) hx hcb dX10_closes_8 (by decide) ?_
  refine lv_dup2_11 hx hcb dX10_closes_11 rfl rfl ?_
  refine x_iald hx hcb hK hR (hw.lo (by decide)) (hw.s0 rfl) (k := 493) (by omega) (by decide) dX10_closes_12 ?_
  refine lv_aload_n hx hcb dX10_closes_13 rfl (lv_at hl 0 rfl) ?_
  refine x_getI hx hcb hts hown hK xc10 hR (hw.lo (by decide)) (hw.s0 rfl) 15 (by decide) rfl q_1181 dX10_closes_14 ?_
  refine lv_iadd hx hcb dX10_closes_17 ?_
  refine x_iast hx hcb hK hR hS (hw.lo (by decide)) (hw.s0 rfl) (k := 493) (v := (((daL z (mQ z 13)).1 4 493) + ((daL z (mQ z 13)).1 0 15))) (by omega) (by decide) dX10_closes_18 (fun H locs hR hS => ?_)
  rw [show u1 (daL z (mQ z 13)) 4 493 (((daL z (mQ z 13)).1 4 493) + ((daL z (mQ z 13)).1 0 15)) = cdQ (clA z) 0 from rfl] at hR
  refine lv_iconst (v := (nI 0)) hx hcb dX10_closes_19 (by decide) ?_
  refine lv_istore_n (lv' := [(1, .int (nI 0)), (0, .ref (w.2.2 0))]) hx hcb dX10_closes_20 rfl hl (by decide) rfl (fun ls hl => ?_)
  suffices LP_21 : ∀ (nn : Nat) (i_ : Nat) (_ : mQ z 13 - i_ < nn) (hi_ : i_ ≤ mQ z 13) (H : Heap) (locs : List Loc) (ls : Array Slot), Rh G w (cdQ (clA z) i_) H → va_S (xA w s.heap.size) s.heap H locs → lv_has ls 2 [(0, .ref (w.2.2 0)), (1, .int (nI i_))] → W p l e rm_X10_closes s mt args below meth c H locs 0 0 Q (F0 mt 21 ls []) from LP_21 ((_) + 1) 0 (Nat.lt_succ_self _) (Nat.zero_le _) _ _ _ hR hS (lv_sub hl [1, 0] rfl)
  intro nn
  induction nn with
  | zero => intro i_ hm_ ; exact absurd hm_ (Nat.not_lt_zero _)
  | succ nn ih_21 =>
    intro i_ hm_21 hi_ H locs ls hR hS hl
    refine lv_iload_n hx hcb dX10_closes_21 rfl (lv_at hl 1 rfl) ?_
    refine lv_aload_n hx hcb dX10_closes_22 rfl (lv_at hl 0 rfl) ?_
    refine x_getR hx hcb hts hown hK xc10 hR (hw.lo (by decide)) (hw.s0 rfl) 3 (by decide) rfl q_1169 dX10_closes_23 ?_
    refine lv_bipush (v := (nI 13)) hx hcb dX10_closes_26 (by decide) ?_
    refine x_iald hx hcb hK hR (hw.lo (by decide)) (hw.s0 rfl) (k := 13) (by omega) (by decide) dX10_closes_28 ?_
    refine x_top (show ((cdQ (clA z) i_).1 2 13) = (nI (mQ z 13)) from by rw [(hkB_ i_ (by omega)).1]; exact hO.2.2.1) ?_
    refine lv_icmp_ge (tgt := 69) hx hcb dX10_closes_29 (by decide) (fun c_4 => ?_) (fun c_4 => ?_)
    · skip
      have c_4 : (mQ z 13) ≤ i_ := (nI_leI (by omega) (by omega)).mp c_4
      obtain rfl : mQ z 13 = i_ := by omega
      refine lv_iconst (v := (nI 0)) hx hcb dX10_closes_69 (by decide) ?_
      refine lv_istore_n (lv' := [(1, .int (nI 0)), (0, .ref (w.2.2 0))]) hx hcb dX10_closes_70 rfl hl (by decide) rfl (fun ls hl => ?_)
      rw [show cdQ (clA z) (mQ z 13) = cmQ (clB z) 0 from rfl] at hR
      suffices LP_71 : ∀ (nn : Nat) (i_ : Nat) (_ : mQ z 12 - i_ < nn) (hi_ : i_ ≤ mQ z 12) (H : Heap) (locs : List Loc) (ls : Array Slot), Rh G w (cmQ (clB z) i_) H → va_S (xA w s.heap.size) s.heap H locs → lv_has ls 2 [(0, .ref (w.2.2 0)), (1, .int (nI i_))] → W p l e rm_X10_closes s mt args below meth c H locs 0 0 Q (F0 mt 71 ls []) from LP_71 ((_) + 1) 0 (Nat.lt_succ_self _) (Nat.zero_le _) _ _ _ hR hS (lv_sub hl [1, 0] rfl)
      intro nn
      induction nn with
      | zero => intro i_ hm_ ; exact absurd hm_ (Nat.not_lt_zero _)
      | succ nn ih_71 =>
        intro i_ hm_71 hi_ H locs ls hR hS hl
        refine lv_iload_n hx hcb dX10_closes_71 rfl (lv_at hl 1 rfl) ?_
        refine lv_aload_n hx hcb dX10_closes_72 rfl (lv_at hl 0 rfl) ?_
        refine x_getR hx hcb hts hown hK xc10 hR (hw.lo (by decide)) (hw.s0 rfl) 3 (by decide) rfl q_1169 dX10_closes_73 ?_
        refine lv_bipush (v := (nI 12)) hx hcb dX10_closes_76 (by decide) ?_
        refine x_iald hx hcb hK hR (hw.lo (by decide)) (hw.s0 rfl) (k := 12) (by omega) (by decide) dX10_closes_78 ?_
        refine x_top (show ((cmQ (clB z) i_).1 2 12) = (nI (mQ z 12)) from by rw [(hkC_ i_ (by omega)).1]; exact hO.1) ?_
        refine lv_icmp_ge (tgt := 156) hx hcb dX10_closes_79 (by decide) (fun c_5 => ?_) (fun c_5 => ?_)
        · skip
          have c_5 : (mQ z 12) ≤ i_ := (nI_leI (by omega) (by omega)).mp c_5
          obtain rfl : mQ z 12 = i_ := by omega
          refine lv_iconst (v := (nI 0)) hx hcb dX10_closes_156 (by decide) ?_
          refine lv_istore_n (lv' := [(1, .int (nI 0)), (0, .ref (w.2.2 0))]) hx hcb dX10_closes_157 rfl hl (by decide) rfl (fun ls hl => ?_)
          rw [show (cmQ (clB z) (mQ z 12)) = cpQ (cmQ (clB z) (mQ z 12)) 0 from rfl] at hR
          suffices LP_158 : ∀ (nn : Nat) (i_ : Nat) (_ : mQ z 12 - i_ < nn) (hi_ : i_ ≤ mQ z 12) (H : Heap) (locs : List Loc) (ls : Array Slot), Rh G w (cpQ (cmQ (clB z) (mQ z 12)) i_) H → va_S (xA w s.heap.size) s.heap H locs → lv_has ls 2 [(0, .ref (w.2.2 0)), (1, .int (nI i_))] → W p l e rm_X10_closes s mt args below meth c H locs 0 0 Q (F0 mt 158 ls []) from LP_158 ((_) + 1) 0 (Nat.lt_succ_self _) (Nat.zero_le _) _ _ _ hR hS (lv_sub hl [1, 0] rfl)
          intro nn
          induction nn with
          | zero => intro i_ hm_ ; exact absurd hm_ (Nat.not_lt_zero _)
          | succ nn ih_158 =>
            intro i_ hm_158 hi_ H locs ls hR hS hl
            refine lv_iload_n hx hcb dX10_closes_158 rfl (lv_at hl 1 rfl) ?_
            refine lv_aload_n hx hcb dX10_closes_159 rfl (lv_at hl 0 rfl) ?_
            refine x_getR hx hcb hts hown hK xc10 hR (hw.lo (by decide)) (hw.s0 rfl) 3 (by decide) rfl q_1169 dX10_closes_160 ?_
            refine lv_bipush (v := (nI 12)) hx hcb dX10_closes_163 (by decide) ?_
            refine x_iald hx hcb hK hR (hw.lo (by decide)) (hw.s0 rfl) (k := 12) (by omega) (by decide) dX10_closes_165 ?_
            refine x_top (show ((cpQ (cmQ (clB z) (mQ z 12)) i_).1 2 12) = (nI (mQ z 12)) from by rw [(hkD_ i_ (by omega)).1, hC_.1]; exact hO.1) ?_
            refine lv_icmp_ge (tgt := 192) hx hcb dX10_closes_166 (by decide) (fun c_6 => ?_) (fun c_6 => ?_)
            · skip
              have c_6 : (mQ z 12) ≤ i_ := (nI_leI (by omega) (by omega)).mp c_6
              obtain rfl : mQ z 12 = i_ := by omega
              refine lv_iconst (v := (nI 0)) hx hcb dX10_closes_192 (by decide) ?_
              refine lv_istore_n (lv' := [(1, .int (nI 0)), (0, .ref (w.2.2 0))]) hx hcb dX10_closes_193 rfl hl (by decide) rfl (fun ls hl => ?_)
              rw [show (cpQ (cmQ (clB z) (mQ z 12)) (mQ z 12)) = ur (cpQ (cmQ (clB z) (mQ z 12)) (mQ z 12)) 4 (bkR 29 0 (fun _ => 0) ((cpQ (cmQ (clB z) (mQ z 12)) (mQ z 12)).1 4)) from by rw [bk_0]; exact (ur_id ..).symm] at hR
              suffices LP_194 : ∀ (nn : Nat) (i_ : Nat) (_ : 32 - i_ < nn) (hi_ : i_ ≤ 32) (H : Heap) (locs : List Loc) (ls : Array Slot), Rh G w (ur (cpQ (cmQ (clB z) (mQ z 12)) (mQ z 12)) 4 (bkR 29 i_ (fun _ => 0) ((cpQ (cmQ (clB z) (mQ z 12)) (mQ z 12)).1 4))) H → va_S (xA w s.heap.size) s.heap H locs → lv_has ls 2 [(0, .ref (w.2.2 0)), (1, .int (nI i_))] → W p l e rm_X10_closes s mt args below meth c H locs 0 0 Q (F0 mt 194 ls []) from LP_194 ((_) + 1) 0 (Nat.lt_succ_self _) (by omega) _ _ _ hR hS (lv_sub hl [1, 0] rfl)
              intro nn
              induction nn with
              | zero => intro i_ hm_ ; exact absurd hm_ (Nat.not_lt_zero _)
              | succ nn ih_194 =>
                intro i_ hm_194 hi_ H locs ls hR hS hl
                refine lv_iload_n hx hcb dX10_closes_194 rfl (lv_at hl 1 rfl) ?_
                refine lv_bipush (v := (nI 32)) hx hcb dX10_closes_195 (by decide) ?_
                refine lv_icmp_ge (tgt := 216) hx hcb dX10_closes_197 (by decide) (fun c_7 => ?_) (fun c_7 => ?_)
                · skip
                  have c_7 : 32 ≤ i_ := (nI_leI (by omega) (by omega)).mp c_7
                  obtain rfl : 32 = i_ := by omega
                  refine lv_aload_n hx hcb dX10_closes_216 rfl (lv_at hl 0 rfl) ?_
                  refine x_getR hx hcb hts hown hK xc10 hR (hw.lo (by decide)) (hw.s0 rfl) 5 (by decide) rfl q_1171 dX10_closes_217 ?_
                  refine lv_sipush (v := (nI 494)) hx hcb dX10_closes_220 (by decide) ?_
                  refine lv_dup2_11 hx hcb dX10_closes_223 rfl rfl ?_
                  refine x_iald hx hcb hK hR (hw.lo (by decide)) (hw.s0 rfl) (k := 494) (by omega) (by decide) dX10_closes_224 ?_
                  refine lv_iconst (v := (nI 1)) hx hcb dX10_closes_225 (by decide) ?_
                  refine lv_iadd hx hcb dX10_closes_226 ?_
                  refine x_iast hx hcb hK hR hS (hw.lo (by decide)) (hw.s0 rfl) (k := 494) (v := (((ur (cpQ (cmQ (clB z) (mQ z 12)) (mQ z 12)) 4 (bkR 29 32 (fun _ => 0) ((cpQ (cmQ (clB z) (mQ z 12)) (mQ z 12)).1 4))).1 4 494) + (nI 1))) (by omega) (by decide) dX10_closes_227 (fun H locs hR hS => ?_)
                  exact hret (u1 (ur (cpQ (cmQ (clB z) (mQ z 12)) (mQ z 12)) 4 (bkR 29 32 (fun _ => 0) ((cpQ (cmQ (clB z) (mQ z 12)) (mQ z 12)).1 4))) 4 494 (((ur (cpQ (cmQ (clB z) (mQ z 12)) (mQ z 12)) 4 (bkR 29 32 (fun _ => 0) ((cpQ (cmQ (clB z) (mQ z 12)) (mQ z 12)).1 4))).1 4 494) + (nI 1))) _ _ _ _ dX10_closes_228 hR hS rfl
                · skip
                  have c_7 : ¬ 32 ≤ i_ := fun h_ => c_7 ((nI_leI (by omega) (by omega)).mpr h_)
                  refine lv_aload_n hx hcb dX10_closes_200 rfl (lv_at hl 0 rfl) ?_
                  refine x_getR hx hcb hts hown hK xc10 hR (hw.lo (by decide)) (hw.s0 rfl) 5 (by decide) rfl q_1171 dX10_closes_201 ?_
                  refine lv_bipush (v := (nI 29)) hx hcb dX10_closes_204 (by decide) ?_
                  refine lv_iload_n hx hcb dX10_closes_206 rfl (lv_at hl 1 rfl) ?_
                  refine x_iaddN hx hcb dX10_closes_207 ?_
                  refine lv_iconst (v := (nI 0)) hx hcb dX10_closes_208 (by decide) ?_
                  refine x_iast hx hcb hK hR hS (hw.lo (by decide)) (hw.s0 rfl) (k := (29 + i_)) (v := 0) (by omega) (by decide) dX10_closes_209 (fun H locs hR hS => ?_)
                  refine lv_iinc (v := (nI (i_ + 1))) (lv' := [(1, .int (nI (i_ + 1))), (0, .ref (w.2.2 0))]) hx hcb dX10_closes_210 hl (k := 1) rfl (x_iinc1 _) (by decide) rfl (fun ls hl => ?_)
                  refine lv_goto (tgt := 194) hx hcb dX10_closes_213 (by decide) ?_
                  rw [show (u1 (ur (cpQ (cmQ (clB z) (mQ z 12)) (mQ z 12)) 4 (bkR 29 i_ (fun _ => 0) ((cpQ (cmQ (clB z) (mQ z 12)) (mQ z 12)).1 4))) 4 (29 + i_) 0) = (ur (cpQ (cmQ (clB z) (mQ z 12)) (mQ z 12)) 4 (bkR 29 (i_ + 1) (fun _ => 0) ((cpQ (cmQ (clB z) (mQ z 12)) (mQ z 12)).1 4))) from by rw [u1_ur]; exact congrArg (ur (cpQ (cmQ (clB z) (mQ z 12)) (mQ z 12)) 4) (bk_s 29 i_ (fun _ => (0 : Int32)) ((cpQ (cmQ (clB z) (mQ z 12)) (mQ z 12)).1 4))] at hR
                  exact ih_194 (i_ + 1) (by omega) (by omega) _ _ _ hR hS (lv_sub hl [1, 0] rfl)
            · skip
              have c_6 : ¬ (mQ z 12) ≤ i_ := fun h_ => c_6 ((nI_leI (by omega) (by omega)).mpr h_)
              refine lv_aload_n hx hcb dX10_closes_169 rfl (lv_at hl 0 rfl) ?_
              refine x_getR hx hcb hts hown hK xc10 hR (hw.lo (by decide)) (hw.s0 rfl) 5 (by decide) rfl q_1171 dX10_closes_170 ?_
              refine lv_iconst (v := (nI 5)) hx hcb dX10_closes_173 (by decide) ?_
              refine lv_iload_n hx hcb dX10_closes_174 rfl (lv_at hl 1 rfl) ?_
              refine x_iaddN hx hcb dX10_closes_175 ?_
              refine x_iald hx hcb hK hR (hw.lo (by decide)) (hw.s0 rfl) (k := (5 + i_)) (by omega) (by decide) dX10_closes_176 ?_
              refine lv_iconst (v := (nI 1)) hx hcb dX10_closes_177 (by decide) ?_
              refine lv_icmp_ne (tgt := 186) hx hcb dX10_closes_178 (by decide) (fun c_8 => ?_) (fun c_8 => ?_)
              · skip
                have hs_ : ¬ (cpQ (cmQ (clB z) (mQ z 12)) i_).1 4 (5 + i_) = nI 1 := c_8
                rw [show cpQ (cmQ (clB z) (mQ z 12)) i_ = cpS (cpQ (cmQ (clB z) (mQ z 12)) i_) i_ from (if_neg hs_).symm] at hR
                refine lv_iinc (v := (nI (i_ + 1))) (lv' := [(1, .int (nI (i_ + 1))), (0, .ref (w.2.2 0))]) hx hcb dX10_closes_186 hl (k := 1) rfl (x_iinc1 _) (by decide) rfl (fun ls hl => ?_)
                refine lv_goto (tgt := 158) hx hcb dX10_closes_189 (by decide) ?_
                rw [show (cpS (cpQ (cmQ (clB z) (mQ z 12)) i_) i_) = (cpQ (cmQ (clB z) (mQ z 12)) (i_ + 1)) from rfl] at hR
                exact ih_158 (i_ + 1) (by omega) (by omega) _ _ _ hR hS (lv_sub hl [1, 0] rfl)
              · skip
                have hs_ : (cpQ (cmQ (clB z) (mQ z 12)) i_).1 4 (5 + i_) = nI 1 := c_8
                refine lv_aload_n hx hcb dX10_closes_181 rfl (lv_at hl 0 rfl) ?_
                refine lv_iload_n hx hcb dX10_closes_182 rfl (lv_at hl 1 rfl) ?_
                refine x_cv0 rfl rfl (x_runV hx hcb hml hown hts (c_X10_pays_ l G w hw (cpQ (cmQ (clB z) (mQ z 12)) i_) _ i_ ((hkD_ i_ (by omega)).ok (Or.inl rfl) (hC_.ok (Or.inr rfl) hO).1 |>.1) (by omega) (by rw [(hkD_ i_ (by omega)).2 (21 + i_) (by omega), hC_.2 (21 + i_) (by omega)]; exact hLv i_ (by omega) (by have t_ := hs_; rw [(hkD_ i_ (by omega)).2 (5 + i_) (by omega), hC_.2 (5 + i_) (by omega)] at t_; exact t_))) mv_X10_pays_ q_1399 hK hZ hR hS (hw.lo (by decide)) xc10 (hw.s0 rfl) rfl hl.1 rfl (Nat.le_of_ble_eq_true rfl) dX10_closes_183 ⟨by decide, by decide⟩ ⟨by decide, by decide⟩) hS (fun z_10 H locs hp_11 hR hS => ?_)
                rw [hp_11] at hR
                rw [show pyQ (cpQ (cmQ (clB z) (mQ z 12)) i_) i_ = cpS (cpQ (cmQ (clB z) (mQ z 12)) i_) i_ from (if_pos hs_).symm] at hR
                refine lv_iinc (v := (nI (i_ + 1))) (lv' := [(1, .int (nI (i_ + 1))), (0, .ref (w.2.2 0))]) hx hcb dX10_closes_186 hl (k := 1) rfl (x_iinc1 _) (by decide) rfl (fun ls hl => ?_)
                refine lv_goto (tgt := 158) hx hcb dX10_closes_189 (by decide) ?_
                rw [show (cpS (cpQ (cmQ (clB z) (mQ z 12)) i_) i_) = (cpQ (cmQ (clB z) (mQ z 12)) (i_ + 1)) from rfl] at hR
                exact ih_158 (i_ + 1) (by omega) (by omega) _ _ _ hR hS (lv_sub hl [1, 0] rfl)
        · skip
          have c_5 : ¬ (mQ z 12) ≤ i_ := fun h_ => c_5 ((nI_leI (by omega) (by omega)).mpr h_)
          refine lv_aload_n hx hcb dX10_closes_82 rfl (lv_at hl 0 rfl) ?_
          refine x_getR hx hcb hts hown hK xc10 hR (hw.lo (by decide)) (hw.s0 rfl) 5 (by decide) rfl q_1171 dX10_closes_83 ?_
          refine lv_sipush (v := (nI 469)) hx hcb dX10_closes_86 (by decide) ?_
          refine lv_iload_n hx hcb dX10_closes_89 rfl (lv_at hl 1 rfl) ?_
          refine x_iaddN hx hcb dX10_closes_90 ?_
          refine lv_aload_n hx hcb dX10_closes_91 rfl (lv_at hl 0 rfl) ?_
          refine x_getR hx hcb hts hown hK xc10 hR (hw.lo (by decide)) (hw.s0 rfl) 13 (by decide) rfl q_1179 dX10_closes_92 ?_
          refine lv_iload_n hx hcb dX10_closes_95 rfl (lv_at hl 1 rfl) ?_
          refine x_iald hx hcb hK hR (hw.lo (by decide)) (hw.s0 rfl) (k := i_) (by omega) (by decide) dX10_closes_96 ?_
          refine x_iast hx hcb hK hR hS (hw.lo (by decide)) (hw.s0 rfl) (k := (469 + i_)) (v := ((cmQ (clB z) i_).1 11 i_)) (by omega) (by decide) dX10_closes_97 (fun H locs hR hS => ?_)
          refine lv_aload_n hx hcb dX10_closes_98 rfl (lv_at hl 0 rfl) ?_
          refine x_getR hx hcb hts hown hK xc10 hR (hw.lo (by decide)) (hw.s0 rfl) 5 (by decide) rfl q_1171 dX10_closes_99 ?_
          refine lv_sipush (v := (nI 477)) hx hcb dX10_closes_102 (by decide) ?_
          refine lv_iload_n hx hcb dX10_closes_105 rfl (lv_at hl 1 rfl) ?_
          refine x_iaddN hx hcb dX10_closes_106 ?_
          refine lv_iconst (v := (nI 0)) hx hcb dX10_closes_107 (by decide) ?_
          refine x_iast hx hcb hK hR hS (hw.lo (by decide)) (hw.s0 rfl) (k := (477 + i_)) (v := 0) (by omega) (by decide) dX10_closes_108 (fun H locs hR hS => ?_)
          refine lv_aload_n hx hcb dX10_closes_109 rfl (lv_at hl 0 rfl) ?_
          refine x_getR hx hcb hts hown hK xc10 hR (hw.lo (by decide)) (hw.s0 rfl) 13 (by decide) rfl q_1179 dX10_closes_110 ?_
          refine lv_iload_n hx hcb dX10_closes_113 rfl (lv_at hl 1 rfl) ?_
          refine x_iald hx hcb hK hR (hw.lo (by decide)) (hw.s0 rfl) (k := i_) (by omega) (by decide) dX10_closes_114 ?_
          refine x_top (show ((u1 (u1 (cmQ (clB z) i_) 4 (469 + i_) ((cmQ (clB z) i_).1 11 i_)) 4 (477 + i_) 0).1 11 i_) = ((cmQ (clB z) i_).1 11 i_) from rfl) ?_
          refine lv_if_le (tgt := 129) hx hcb dX10_closes_115 (by decide) (fun c_12 => ?_) (fun c_12 => ?_)
          · skip
            have h1_ : ¬ 0 < (cmQ (clB z) i_).1 11 i_ := Int32.not_lt.mpr c_12
            rw [show u1 (u1 (cmQ (clB z) i_) 4 (469 + i_) ((cmQ (clB z) i_).1 11 i_)) 4 (477 + i_) 0 = cmT (cmQ (clB z) i_) i_ from (if_neg h1_).symm] at hR
            refine lv_aload_n hx hcb dX10_closes_129 rfl (lv_at hl 0 rfl) ?_
            refine x_getR hx hcb hts hown hK xc10 hR (hw.lo (by decide)) (hw.s0 rfl) 13 (by decide) rfl q_1179 dX10_closes_130 ?_
            refine lv_iload_n hx hcb dX10_closes_133 rfl (lv_at hl 1 rfl) ?_
            refine x_iald hx hcb hK hR (hw.lo (by decide)) (hw.s0 rfl) (k := i_) (by omega) (by decide) dX10_closes_134 ?_
            refine x_top (show ((cmT (cmQ (clB z) i_) i_).1 11 i_) = ((cmQ (clB z) i_).1 11 i_) from cmT_11 _ _) ?_
            refine lv_if_ge (tgt := 150) hx hcb dX10_closes_135 (by decide) (fun c_13 => ?_) (fun c_13 => ?_)
            · skip
              have h2_ : ¬ (cmQ (clB z) i_).1 11 i_ < 0 := Int32.not_lt.mpr c_13
              rw [show cmT (cmQ (clB z) i_) i_ = cmS (cmQ (clB z) i_) i_ from (if_neg h2_).symm] at hR
              refine lv_iinc (v := (nI (i_ + 1))) (lv' := [(1, .int (nI (i_ + 1))), (0, .ref (w.2.2 0))]) hx hcb dX10_closes_150 hl (k := 1) rfl (x_iinc1 _) (by decide) rfl (fun ls hl => ?_)
              refine lv_goto (tgt := 71) hx hcb dX10_closes_153 (by decide) ?_
              rw [show (cmS (cmQ (clB z) i_) i_) = (cmQ (clB z) (i_ + 1)) from rfl] at hR
              exact ih_71 (i_ + 1) (by omega) (by omega) _ _ _ hR hS (lv_sub hl [1, 0] rfl)
            · skip
              have h2_ : (cmQ (clB z) i_).1 11 i_ < 0 := Int32.not_le.mp c_13
              refine lv_aload_n hx hcb dX10_closes_138 rfl (lv_at hl 0 rfl) ?_
              refine lv_iload_n hx hcb dX10_closes_139 rfl (lv_at hl 1 rfl) ?_
              refine lv_aload_n hx hcb dX10_closes_140 rfl (lv_at hl 0 rfl) ?_
              refine x_getR hx hcb hts hown hK xc10 hR (hw.lo (by decide)) (hw.s0 rfl) 13 (by decide) rfl q_1179 dX10_closes_141 ?_
              refine lv_iload_n hx hcb dX10_closes_144 rfl (lv_at hl 1 rfl) ?_
              refine x_iald hx hcb hK hR (hw.lo (by decide)) (hw.s0 rfl) (k := i_) (by omega) (by decide) dX10_closes_145 ?_
              refine x_top (show ((cmT (cmQ (clB z) i_) i_).1 11 i_) = ((cmQ (clB z) i_).1 11 i_) from cmT_11 _ _) ?_
              refine lv_ineg hx hcb dX10_closes_146 ?_
              refine x_cv0 rfl rfl (x_runV hx hcb hml hown hts (c_X10_recaptures l G w hw (cmT (cmQ (clB z) i_) i_) _ i_ (-((cmQ (clB z) i_).1 11 i_)) (((hkC_ i_ (by omega)).tr (cmT_ke (by omega) (by rw [((hkC_ i_ (by omega)).ok (Or.inr rfl) hO).2]; exact hy))).ok (Or.inr rfl) hO |>.1) (by omega)) mv_X10_recaptures q_1386 hK hZ hR hS (hw.lo (by decide)) xc10 (hw.s0 rfl) rfl hl.1 rfl (Nat.le_of_ble_eq_true rfl) dX10_closes_147 ⟨by decide, by decide⟩ ⟨by decide, by decide⟩) hS (fun z_15 H locs hp_16 hR hS => ?_)
              rw [hp_16] at hR
              rw [show rcZ (cmT (cmQ (clB z) i_) i_) i_ (-((cmQ (clB z) i_).1 11 i_)) = cmS (cmQ (clB z) i_) i_ from (if_pos h2_).symm] at hR
              refine lv_iinc (v := (nI (i_ + 1))) (lv' := [(1, .int (nI (i_ + 1))), (0, .ref (w.2.2 0))]) hx hcb dX10_closes_150 hl (k := 1) rfl (x_iinc1 _) (by decide) rfl (fun ls hl => ?_)
              refine lv_goto (tgt := 71) hx hcb dX10_closes_153 (by decide) ?_
              rw [show (cmS (cmQ (clB z) i_) i_) = (cmQ (clB z) (i_ + 1)) from rfl] at hR
              exact ih_71 (i_ + 1) (by omega) (by omega) _ _ _ hR hS (lv_sub hl [1, 0] rfl)
          · skip
            have h1_ : 0 < (cmQ (clB z) i_).1 11 i_ := Int32.not_le.mp c_12
            refine lv_aload_n hx hcb dX10_closes_118 rfl (lv_at hl 0 rfl) ?_
            refine lv_iload_n hx hcb dX10_closes_119 rfl (lv_at hl 1 rfl) ?_
            refine lv_aload_n hx hcb dX10_closes_120 rfl (lv_at hl 0 rfl) ?_
            refine x_getR hx hcb hts hown hK xc10 hR (hw.lo (by decide)) (hw.s0 rfl) 13 (by decide) rfl q_1179 dX10_closes_121 ?_
            refine lv_iload_n hx hcb dX10_closes_124 rfl (lv_at hl 1 rfl) ?_
            refine x_iald hx hcb hK hR (hw.lo (by decide)) (hw.s0 rfl) (k := i_) (by omega) (by decide) dX10_closes_125 ?_
            refine x_top (show ((u1 (u1 (cmQ (clB z) i_) 4 (469 + i_) ((cmQ (clB z) i_).1 11 i_)) 4 (477 + i_) 0).1 11 i_) = ((cmQ (clB z) i_).1 11 i_) from rfl) ?_
            refine x_cv0 rfl rfl (x_runV hx hcb hml hown hts (c_X10_certifies l G w hw (u1 (u1 (cmQ (clB z) i_) 4 (469 + i_) ((cmQ (clB z) i_).1 11 i_)) 4 (477 + i_) 0) _ i_ ((cmQ (clB z) i_).1 11 i_) (((hkC_ i_ (by omega)).tr (cm0_ke (by omega))).ok (Or.inr rfl) hO |>.1) (by omega) (Nat.lt_of_le_of_lt (Nat.le_of_eq (((hkC_ i_ (by omega)).tr (cm0_ke (by omega))).ok (Or.inr rfl) hO).2) hy)) mv_X10_certifies q_1378 hK hZ hR hS (hw.lo (by decide)) xc10 (hw.s0 rfl) rfl hl.1 rfl (Nat.le_of_ble_eq_true rfl) dX10_closes_126 ⟨by decide, by decide⟩ ⟨by decide, by decide⟩) hS (fun z_18 H locs hp_19 hR hS => ?_)
            rw [hp_19] at hR
            rw [show cfQ (u1 (u1 (cmQ (clB z) i_) 4 (469 + i_) ((cmQ (clB z) i_).1 11 i_)) 4 (477 + i_) 0) i_ ((cmQ (clB z) i_).1 11 i_) = cmT (cmQ (clB z) i_) i_ from (if_pos h1_).symm] at hR
            refine lv_aload_n hx hcb dX10_closes_129 rfl (lv_at hl 0 rfl) ?_
            refine x_getR hx hcb hts hown hK xc10 hR (hw.lo (by decide)) (hw.s0 rfl) 13 (by decide) rfl q_1179 dX10_closes_130 ?_
            refine lv_iload_n hx hcb dX10_closes_133 rfl (lv_at hl 1 rfl) ?_
            refine x_iald hx hcb hK hR (hw.lo (by decide)) (hw.s0 rfl) (k := i_) (by omega) (by decide) dX10_closes_134 ?_
            refine x_top (show ((cmT (cmQ (clB z) i_) i_).1 11 i_) = ((cmQ (clB z) i_).1 11 i_) from cmT_11 _ _) ?_
            refine lv_if_ge (tgt := 150) hx hcb dX10_closes_135 (by decide) (fun c_20 => ?_) (fun c_20 => ?_)
            · skip
              have h2_ : ¬ (cmQ (clB z) i_).1 11 i_ < 0 := Int32.not_lt.mpr c_20
              rw [show cmT (cmQ (clB z) i_) i_ = cmS (cmQ (clB z) i_) i_ from (if_neg h2_).symm] at hR
              refine lv_iinc (v := (nI (i_ + 1))) (lv' := [(1, .int (nI (i_ + 1))), (0, .ref (w.2.2 0))]) hx hcb dX10_closes_150 hl (k := 1) rfl (x_iinc1 _) (by decide) rfl (fun ls hl => ?_)
              refine lv_goto (tgt := 71) hx hcb dX10_closes_153 (by decide) ?_
              rw [show (cmS (cmQ (clB z) i_) i_) = (cmQ (clB z) (i_ + 1)) from rfl] at hR
              exact ih_71 (i_ + 1) (by omega) (by omega) _ _ _ hR hS (lv_sub hl [1, 0] rfl)
            · skip
              have h2_ : (cmQ (clB z) i_).1 11 i_ < 0 := Int32.not_le.mp c_20
              refine lv_aload_n hx hcb dX10_closes_138 rfl (lv_at hl 0 rfl) ?_
              refine lv_iload_n hx hcb dX10_closes_139 rfl (lv_at hl 1 rfl) ?_
              refine lv_aload_n hx hcb dX10_closes_140 rfl (lv_at hl 0 rfl) ?_
              refine x_getR hx hcb hts hown hK xc10 hR (hw.lo (by decide)) (hw.s0 rfl) 13 (by decide) rfl q_1179 dX10_closes_141 ?_
              refine lv_iload_n hx hcb dX10_closes_144 rfl (lv_at hl 1 rfl) ?_
              refine x_iald hx hcb hK hR (hw.lo (by decide)) (hw.s0 rfl) (k := i_) (by omega) (by decide) dX10_closes_145 ?_
              refine x_top (show ((cmT (cmQ (clB z) i_) i_).1 11 i_) = ((cmQ (clB z) i_).1 11 i_) from cmT_11 _ _) ?_
              refine lv_ineg hx hcb dX10_closes_146 ?_
              refine x_cv0 rfl rfl (x_runV hx hcb hml hown hts (c_X10_recaptures l G w hw (cmT (cmQ (clB z) i_) i_) _ i_ (-((cmQ (clB z) i_).1 11 i_)) (((hkC_ i_ (by omega)).tr (cmT_ke (by omega) (by rw [((hkC_ i_ (by omega)).ok (Or.inr rfl) hO).2]; exact hy))).ok (Or.inr rfl) hO |>.1) (by omega)) mv_X10_recaptures q_1386 hK hZ hR hS (hw.lo (by decide)) xc10 (hw.s0 rfl) rfl hl.1 rfl (Nat.le_of_ble_eq_true rfl) dX10_closes_147 ⟨by decide, by decide⟩ ⟨by decide, by decide⟩) hS (fun z_22 H locs hp_23 hR hS => ?_)
              rw [hp_23] at hR
              rw [show rcZ (cmT (cmQ (clB z) i_) i_) i_ (-((cmQ (clB z) i_).1 11 i_)) = cmS (cmQ (clB z) i_) i_ from (if_pos h2_).symm] at hR
              refine lv_iinc (v := (nI (i_ + 1))) (lv' := [(1, .int (nI (i_ + 1))), (0, .ref (w.2.2 0))]) hx hcb dX10_closes_150 hl (k := 1) rfl (x_iinc1 _) (by decide) rfl (fun ls hl => ?_)
              refine lv_goto (tgt := 71) hx hcb dX10_closes_153 (by decide) ?_
              rw [show (cmS (cmQ (clB z) i_) i_) = (cmQ (clB z) (i_ + 1)) from rfl] at hR
              exact ih_71 (i_ + 1) (by omega) (by omega) _ _ _ hR hS (lv_sub hl [1, 0] rfl)
    · skip
      have c_4 : ¬ (mQ z 13) ≤ i_ := fun h_ => c_4 ((nI_leI (by omega) (by omega)).mpr h_)
      refine lv_aload_n hx hcb dX10_closes_32 rfl (lv_at hl 0 rfl) ?_
      refine x_getR hx hcb hts hown hK xc10 hR (hw.lo (by decide)) (hw.s0 rfl) 5 (by decide) rfl q_1171 dX10_closes_33 ?_
      refine lv_sipush (v := (nI 485)) hx hcb dX10_closes_36 (by decide) ?_
      refine lv_iload_n hx hcb dX10_closes_39 rfl (lv_at hl 1 rfl) ?_
      refine x_iaddN hx hcb dX10_closes_40 ?_
      refine lv_aload_n hx hcb dX10_closes_41 rfl (lv_at hl 0 rfl) ?_
      refine x_getR hx hcb hts hown hK xc10 hR (hw.lo (by decide)) (hw.s0 rfl) 14 (by decide) rfl q_1180 dX10_closes_42 ?_
      refine lv_iload_n hx hcb dX10_closes_45 rfl (lv_at hl 1 rfl) ?_
      refine x_iald hx hcb hK hR (hw.lo (by decide)) (hw.s0 rfl) (k := i_) (by omega) (by decide) dX10_closes_46 ?_
      refine x_iast hx hcb hK hR hS (hw.lo (by decide)) (hw.s0 rfl) (k := (485 + i_)) (v := ((cdQ (clA z) i_).1 12 i_)) (by omega) (by decide) dX10_closes_47 (fun H locs hR hS => ?_)
      refine lv_aload_n hx hcb dX10_closes_48 rfl (lv_at hl 0 rfl) ?_
      refine x_getR hx hcb hts hown hK xc10 hR (hw.lo (by decide)) (hw.s0 rfl) 5 (by decide) rfl q_1171 dX10_closes_49 ?_
      refine lv_sipush (v := (nI 489)) hx hcb dX10_closes_52 (by decide) ?_
      refine lv_iload_n hx hcb dX10_closes_55 rfl (lv_at hl 1 rfl) ?_
      refine x_iaddN hx hcb dX10_closes_56 ?_
      refine lv_aload_n hx hcb dX10_closes_57 rfl (lv_at hl 0 rfl) ?_
      refine lv_iload_n hx hcb dX10_closes_58 rfl (lv_at hl 1 rfl) ?_
      refine x_ci0 rfl rfl (x_runV hx hcb hml hown hts (c_X10_traded l G w hw (u1 (cdQ (clA z) i_) 4 (485 + i_) ((cdQ (clA z) i_).1 12 i_)) _ i_ (((hkB_ i_ (by omega)).u (k := 485 + i_) (by intro q_; omega)).ok (Or.inr rfl) hO |>.1) (by omega)) mv_X10_traded q_1374 hK hZ hR hS (hw.lo (by decide)) xc10 (hw.s0 rfl) rfl hl.1 rfl (Nat.le_of_ble_eq_true rfl) dX10_closes_59 ⟨by decide, by decide⟩ ⟨by decide, by decide⟩) hS (fun r_24 z_25 H locs hp_26 hR hS => ?_)
      rw [hp_26.2] at hR; rw [hp_26.1]
      refine x_iast hx hcb hK hR hS (hw.lo (by decide)) (hw.s0 rfl) (k := (489 + i_)) (v := (bx_sum (fun m => (u1 (cdQ (clA z) i_) 4 (485 + i_) ((cdQ (clA z) i_).1 12 i_)).1 4 (29 + 4 * m + i_)) (mQ (u1 (cdQ (clA z) i_) 4 (485 + i_) ((cdQ (clA z) i_).1 12 i_)) 12))) (by omega) (by decide) dX10_closes_62 (fun H locs hR hS => ?_)
      refine lv_iinc (v := (nI (i_ + 1))) (lv' := [(1, .int (nI (i_ + 1))), (0, .ref (w.2.2 0))]) hx hcb dX10_closes_63 hl (k := 1) rfl (x_iinc1 _) (by decide) rfl (fun ls hl => ?_)
      refine lv_goto (tgt := 21) hx hcb dX10_closes_66 (by decide) ?_
      rw [show (u1 (u1 (cdQ (clA z) i_) 4 (485 + i_) ((cdQ (clA z) i_).1 12 i_)) 4 (489 + i_) (bx_sum (fun m => (u1 (cdQ (clA z) i_) 4 (485 + i_) ((cdQ (clA z) i_).1 12 i_)).1 4 (29 + 4 * m + i_)) (mQ (u1 (cdQ (clA z) i_) 4 (485 + i_) ((cdQ (clA z) i_).1 12 i_)) 12))) = (cdQ (clA z) (i_ + 1)) from rfl] at hR
      exact ih_21 (i_ + 1) (by omega) (by omega) _ _ _ hR hS (lv_sub hl [1, 0] rfl)
def rm_X10_close : Room := { frames := 4, cells := 0, slots := 0, locals := 96 }
set_option maxRecDepth 100000 in
set_option maxHeartbeats 4000000 in
theorem c_X10_close (l : Launch) (G : xGl) (w : xWd) (hw : isM w) (z : xSt) (sz : Nat) (a : Int32) (b : Int32) (c_ : Int32) (d : Int32) (u : Nat) (hO : rOk z) (hu : z.1 0 8 = nI u) (hu10 : u ≤ 10) (hsh : okR (mQ z 13) ((zQ (u1 z 0 0 0) a b c_ d).1 10) → yQ z < 24 → ∀ e, e < mQ z 13 → shD (daL (kpS (zQ (u1 z 0 0 0) a b c_ d) u) e) e) (hLv : lvO z) : xMi l yX10_close cX10_close 5 (some FieldType.int) rm_X10_close G w z sz [.ref (w.2.2 0), .int a, .int b, .int c_, .int d] (fun r z1 => (r, z1) = if ¬ okR (mQ z 13) ((zQ (u1 z 0 0 0) a b c_ d).1 10) then ((-2), (zQ (u1 z 0 0 0) a b c_ d)) else (if yQ z = 24 then ((-3), (zQ (u1 z 0 0 0) a b c_ d)) else ((clQ (kpS (zQ (u1 z 0 0 0) a b c_ d) u)).1 4 494 - nI 1, clQ (kpS (zQ (u1 z 0 0 0) a b c_ d) u)))) := by
  refine x_mi (by decide) (Nat.le_of_ble_eq_true rfl) ?_
  intro p e s mt args below meth c ls Q hsz X hR hS hl hret
  obtain ⟨hx, hcb, hml, hown, hts, hlk, hK, hZ⟩ := X
  have hl : lv_has ls 5 [(0, .ref (w.2.2 0)), (1, .int a), (2, .int b), (3, .int c_), (4, .int d)] := hl
  have hm8_ := hO.2.1
  have hd4_ := hO.2.2.2.1
  have hy24_ := hO.2.2.2.2.2
  refine lv_aload_n hx hcb dX10_close_0 rfl (lv_at hl 0 rfl) ?_
  refine lv_iconst (v := (nI 0)) hx hcb dX10_close_1 (by decide) ?_
  refine x_putI hx hcb hts hown hK xc10 hR hS (hw.lo (by decide)) (hw.s0 rfl) 0 (by decide) rfl q_1166 rfl (v := 0) rfl rfl dX10_close_2 (fun H locs hR hS => ?_)
  refine lv_aload_n hx hcb dX10_close_5 rfl (lv_at hl 0 rfl) ?_
  refine lv_iload_n hx hcb dX10_close_6 rfl (lv_at hl 1 rfl) ?_
  refine lv_iload_n hx hcb dX10_close_7 rfl (lv_at hl 2 rfl) ?_
  refine lv_iload_n hx hcb dX10_close_8 rfl (lv_at hl 3 rfl) ?_
  refine lv_iload hx hcb dX10_close_9 (lv_at hl 4 rfl) ?_
  refine x_cv0 rfl rfl (x_runV hx hcb hml hown hts (c_X10_laysResults l G w hw (u1 z 0 0 0) _ a b c_ d) mv_X10_laysResults q_1350 hK hZ hR hS (hw.lo (by decide)) xc10 (hw.s0 rfl) rfl hl.1 rfl (Nat.le_of_ble_eq_true rfl) dX10_close_11 ⟨by decide, by decide⟩ ⟨by decide, by decide⟩) hS (fun z_2 H locs hp_3 hR hS => ?_)
  rw [hp_3] at hR
  refine lv_aload_n hx hcb dX10_close_14 rfl (lv_at hl 0 rfl) ?_
  refine x_ci0 rfl rfl (x_runV hx hcb hml hown hts (c_X10_areResults l G w hw (zQ (u1 z 0 0 0) a b c_ d) _ hO) mv_X10_areResults q_1554 hK hZ hR hS (hw.lo (by decide)) xc10 (hw.s0 rfl) rfl hl.1 rfl (Nat.le_of_ble_eq_true rfl) dX10_close_15 ⟨by decide, by decide⟩ ⟨by decide, by decide⟩) hS (fun r_4 z_5 H locs hp_6 hR hS => ?_)
  rw [hp_6.2] at hR; rw [hp_6.1]
  refine x_top (show (if okR (mQ (zQ (u1 z 0 0 0) a b c_ d) 13) ((zQ (u1 z 0 0 0) a b c_ d).1 10) then 1 else 0) = (if okR (mQ z 13) ((zQ (u1 z 0 0 0) a b c_ d).1 10) then 1 else 0) from rfl) ?_
  refine lv_if_ne (tgt := 24) hx hcb dX10_close_18 (by decide) (fun c_7 => ?_) (fun c_7 => ?_)
  · skip
    have h_ : okR (mQ z 13) ((zQ (u1 z 0 0 0) a b c_ d).1 10) := Classical.byContradiction (fun q_ => c_7 (if_neg q_))
    refine lv_aload_n hx hcb dX10_close_24 rfl (lv_at hl 0 rfl) ?_
    refine x_getR hx hcb hts hown hK xc10 hR (hw.lo (by decide)) (hw.s0 rfl) 5 (by decide) rfl q_1171 dX10_close_25 ?_
    refine lv_sipush (v := (nI 494)) hx hcb dX10_close_28 (by decide) ?_
    refine x_iald hx hcb hK hR (hw.lo (by decide)) (hw.s0 rfl) (k := 494) (by omega) (by decide) dX10_close_31 ?_
    refine x_top (show ((zQ (u1 z 0 0 0) a b c_ d).1 4 494) = (nI (yQ z)) from hO.2.2.2.2.1) ?_
    refine lv_bipush (v := (nI 24)) hx hcb dX10_close_32 (by decide) ?_
    refine lv_icmp_ne (tgt := 40) hx hcb dX10_close_34 (by decide) (fun c_8 => ?_) (fun c_8 => ?_)
    · skip
      have c_8 : ¬ (yQ z) = 24 := fun h_ => c_8 ((nI_eq (by omega) (by omega)).mpr h_)
      have h2_ : ¬ yQ z = 24 := c_8
      refine lv_aload_n hx hcb dX10_close_40 rfl (lv_at hl 0 rfl) ?_
      refine x_cv0 rfl rfl (x_runV hx hcb hml hown hts (c_X10_keeps l G w hw (zQ (u1 z 0 0 0) a b c_ d) _ u hu hu10) mv_X10_keeps q_1669 hK hZ hR hS (hw.lo (by decide)) xc10 (hw.s0 rfl) rfl hl.1 rfl (Nat.le_of_ble_eq_true rfl) dX10_close_41 ⟨by decide, by decide⟩ ⟨by decide, by decide⟩) hS (fun z_10 H locs hp_11 hR hS => ?_)
      rw [hp_11] at hR
      refine lv_aload_n hx hcb dX10_close_44 rfl (lv_at hl 0 rfl) ?_
      refine x_cv0 rfl rfl (x_runV hx hcb hml hown hts (c_X10_closes l G w hw (kpS (zQ (u1 z 0 0 0) a b c_ d) u) _ (hO.of (z2 := kpS (zQ (u1 z 0 0 0) a b c_ d) u) (kpS_2 (zQ (u1 z 0 0 0) a b c_ d) u) (kpS_4 (zQ (u1 z 0 0 0) a b c_ d) u)) (by have e_ : yQ (kpS (zQ (u1 z 0 0 0) a b c_ d) u) = yQ z := (by unfold yQ; rw [kpS_4]; rfl); rw [e_]; omega) (by have e_ : mQ (kpS (zQ (u1 z 0 0 0) a b c_ d) u) 13 = mQ z 13 := (by unfold mQ; rw [kpS_2]; rfl); rw [e_]; exact hsh h_ (by omega)) (fun m hm q_ => by rw [kpS_4] at q_ ⊢; exact hLv m hm q_)) mv_X10_closes q_1354 hK hZ hR hS (hw.lo (by decide)) xc10 (hw.s0 rfl) rfl hl.1 rfl (Nat.le_of_ble_eq_true rfl) dX10_close_45 ⟨by decide, by decide⟩ ⟨by decide, by decide⟩) hS (fun z_13 H locs hp_14 hR hS => ?_)
      rw [hp_14] at hR
      refine lv_aload_n hx hcb dX10_close_48 rfl (lv_at hl 0 rfl) ?_
      refine x_getR hx hcb hts hown hK xc10 hR (hw.lo (by decide)) (hw.s0 rfl) 5 (by decide) rfl q_1171 dX10_close_49 ?_
      refine lv_sipush (v := (nI 494)) hx hcb dX10_close_52 (by decide) ?_
      refine x_iald hx hcb hK hR (hw.lo (by decide)) (hw.s0 rfl) (k := 494) (by omega) (by decide) dX10_close_55 ?_
      refine lv_iconst (v := (nI 1)) hx hcb dX10_close_56 (by decide) ?_
      refine lv_isub hx hcb dX10_close_57 ?_
      exact hret (((clQ (kpS (zQ (u1 z 0 0 0) a b c_ d) u)).1 4 494) - (nI 1)) (clQ (kpS (zQ (u1 z 0 0 0) a b c_ d) u)) _ _ _ _ dX10_close_58 rfl hR hS (by rw [if_neg (fun q_ => q_ h_), if_neg h2_])
    · skip
      have c_8 : (yQ z) = 24 := (nI_eq (by omega) (by omega)).mp c_8
      have h2_ : yQ z = 24 := c_8
      refine lv_bipush (v := (-3)) hx hcb dX10_close_37 (by decide) ?_
      exact hret (-3) (zQ (u1 z 0 0 0) a b c_ d) _ _ _ _ dX10_close_39 rfl hR hS (by rw [if_neg (fun q_ => q_ h_), if_pos h2_])
  · skip
    have h_ : ¬ (okR (mQ z 13) ((zQ (u1 z 0 0 0) a b c_ d).1 10)) := fun q_ => absurd c_7 (by rw [if_pos q_]; decide)
    refine lv_bipush (v := (-2)) hx hcb dX10_close_21 (by decide) ?_
    exact hret (-2) (zQ (u1 z 0 0 0) a b c_ d) _ _ _ _ dX10_close_23 rfl hR hS (by rw [if_pos h_])
