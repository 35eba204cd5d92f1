/-! THE REFERENCE: a closing, a setting, any statement -/
def frC (z z2 : xSt) : Prop := ∀ o, o ≠ 0 → o ≠ 10 → z2.1 o = z.1 o
theorem frC.tr {a b c : xSt} (h : frC a b) (g : frC b c) : frC a c := fun o h1 h2 => (g o h1 h2).trans (h o h1 h2)
theorem fr0.C {z z2 : xSt} (h : fr0 z z2) : frC z z2 := fun o h1 _ => h.1 o h1
theorem frC.ok {z z2 : xSt} (h : frC z z2) (o : rOk z) : rOk z2 := o.of (h 2 (by decide) (by decide)) (h 4 (by decide) (by decide))
def clOk (z : xSt) : Prop := (∀ d, d < mQ z 13 → shD (daL z d) d) ∧ lvO z
def rc0 (z : xSt) : xSt := zQ (goZ (fiZ z (yQ z = 24) (-16))) 0 0 0 0
def rc1 (s : xSt) : xSt := if s.1 0 23 = nI 3 then nqZ s else s
def rcV (s : xSt) : Int32 := fgR (rc1 s) 0 1000000
def rcW (s : xSt) : Int32 := if s.1 0 23 = nI 3 then -(rcV s) else rcV s
def rcU (s : xSt) (d : Nat) : xSt := u1 (fgZ (rc1 s) 0 1000000) 10 d (rcW s)
def rkS (s : xSt) (d : Nat) : xSt := goZ (rcU s d)
def rkL : Nat → Nat → xSt → xSt
  | 0, _, s => s
  | k + 1, d, s => if s.1 0 26 = 0 then rkL k (d + 1) (rkS s d) else s
theorem rkL_s {n k d : Nat} {s : xSt} (h : n = k + 1) : rkL n d s = if s.1 0 26 = 0 then rkL k (d + 1) (rkS s d) else s := by rw [h]; rfl
def rc2 (z : xSt) : xSt := rkL (mQ z 13) 0 (rc0 z)
def rc3 (z : xSt) : xSt := fiZ (rc2 z) (¬ (rc2 z).1 0 23 = nI 2) (-11)
def rcX (z : xSt) : xSt := if (rc3 z).1 0 26 = 0 then clQ (rc3 z) else rc3 z
theorem zQ_o {z : xSt} {a b c d : Int32} {o : Nat} (h : o ≠ 10) : (zQ z a b c d).1 o = z.1 o := by
  unfold zQ; rw [u1_ne _ h, u1_ne _ h, u1_ne _ h, u1_ne _ h]
theorem rc0_fr (z : xSt) : frC z (rc0 z) := fun o h1 h2 => by
  unfold rc0
  rw [zQ_o h2, (go_fr _).1 o h1, (fi_fr ..).1 o h1]
theorem rc0_ok {z : xSt} (h : zOk z) : zOk (rc0 z) := by
  unfold rc0
  exact (go_ok h.fi).of (fun k _ _ => by rw [zQ_o (by decide)])
theorem rc1_fr (s : xSt) : fr0 s (rc1 s) := by
  unfold rc1; split
  · exact nq_fr s
  · exact fr0.r0
theorem rc1_ok {s : xSt} (h : zOk s) : zOk (rc1 s) := by
  unfold rc1; split
  · exact nq_ok h.1
  · exact h
theorem rcU_ok {s : xSt} {d : Nat} (h : zOk s) : zOk (rcU s d) := by
  unfold rcU
  exact (fg_ok (rc1_ok h)).of (fun k _ _ => by rw [u1_ne _ (by decide)])
theorem rcU_fr (s : xSt) (d : Nat) : frC s (rcU s d) := fun o h1 h2 => by
  unfold rcU
  rw [u1_ne _ h2, (fg_fr ..).1 o h1, (rc1_fr s).1 o h1]
theorem rkS_ok {s : xSt} {d : Nat} (h : zOk s) : zOk (rkS s d) := by unfold rkS; exact go_ok (rcU_ok h)
theorem rkS_fr (s : xSt) (d : Nat) : frC s (rkS s d) := fun o h1 h2 => by
  unfold rkS
  rw [(go_fr _).1 o h1, rcU_fr s d o h1 h2]
theorem rkL_fr : ∀ (k d : Nat) (s : xSt), frC s (rkL k d s)
  | 0, _, _ => fun _ _ _ => rfl
  | k + 1, d, s => by
    rw [rkL_s rfl]
    split
    · exact (rkS_fr s d).tr (rkL_fr k (d + 1) (rkS s d))
    · exact fun _ _ _ => rfl
theorem rkL_ok : ∀ (k d : Nat) {s : xSt}, zOk s → zOk (rkL k d s)
  | 0, _, _, h => h
  | k + 1, d, s, h => by
    rw [rkL_s rfl]
    split
    · exact rkL_ok k (d + 1) (rkS_ok h)
    · exact h
theorem rc2_fr (z : xSt) : frC z (rc2 z) := by unfold rc2; exact (rc0_fr z).tr (rkL_fr _ _ _)
theorem rc3_fr (z : xSt) : frC z (rc3 z) := by unfold rc3; exact (rc2_fr z).tr (fi_fr ..).C
theorem rc2_ok {z : xSt} (h : zOk z) : zOk (rc2 z) := by unfold rc2; exact rkL_ok _ _ (rc0_ok h)
theorem rc3_ok {z : xSt} (h : zOk z) : zOk (rc3 z) := by unfold rc3; exact (rc2_ok h).fi
theorem rc1_26 (s : xSt) : (rc1 s).1 0 26 = s.1 0 26 := by
  unfold rc1; split
  · exact nq_k (by decide)
  · rfl
theorem rkS_e {s : xSt} {d : Nat} (h : (rkS s d).1 0 26 = 0) : s.1 0 26 = 0 := by
  unfold rkS at h
  have h2 := go_e h
  unfold rcU at h2
  rw [u1_ne _ (by decide)] at h2
  have h3 := fg_e h2
  rw [rc1_26] at h3
  exact h3
theorem rkL_e : ∀ (k d : Nat) {s : xSt}, (rkL k d s).1 0 26 = 0 → s.1 0 26 = 0
  | 0, _, _, h => h
  | k + 1, d, s, h => by
    rw [rkL_s rfl] at h
    split at h
    · rename_i h1; exact h1
    · exact h
theorem rc2_e {z : xSt} (h : (rc2 z).1 0 26 = 0) : z.1 0 26 = 0 ∧ ¬ yQ z = 24 := by
  unfold rc2 at h
  have h1 := rkL_e _ _ h
  unfold rc0 at h1
  rw [zQ_o (by decide)] at h1
  exact fi_e (by decide) (go_e h1)
theorem rc3_rok {z : xSt} (h : rOk z) : rOk (rc3 z) := (rc3_fr z).ok h
theorem rc3_e {z : xSt} (h : (rc3 z).1 0 26 = 0) : (rc2 z).1 0 26 = 0 ∧ (rc2 z).1 0 23 = nI 2 := by
  unfold rc3 at h
  have h1 := fi_e (by decide) h
  exact ⟨h1.1, Classical.byContradiction h1.2⟩
theorem rc3_y {z : xSt} (h : rOk z) (he : (rc3 z).1 0 26 = 0) : yQ (rc3 z) < 24 := by
  have h1 := (rc2_e (rc3_e he).1).2
  have h2 := h.2.2.2.2.2
  have e : yQ (rc3 z) = yQ z := by unfold yQ; rw [rc3_fr z 4 (by decide) (by decide)]
  rw [e]; omega
abbrev rsI (z : xSt) : Prop := (goZ z).1 0 26 = 0 ∧ (goZ z).1 0 23 = 0 ∧ ¬ (goZ z).1 0 24 < nI 6
def rsK (z : xSt) : Nat := if rsI z then (goZ z).1 0 24 |>.toNatClampNeg |> (· - 6) else 0
theorem rsK_v {z : xSt} (h : zOk z) (hi : rsI z) : ∃ n : Nat, 6 ≤ n ∧ n ≤ 10 ∧ (goZ z).1 0 24 = nI n := by
  rcases (go_ok h).2.2.2 hi.2.1 with q | ⟨n, hn, q⟩
  · exact absurd hi.2.2 (by rw [q]; decide)
  · refine ⟨n, ?_, hn, q⟩
    have h2 := hi.2.2
    rw [q] at h2
    exact Nat.not_lt.mp (fun t => h2 ((nI_ltI (by omega) (by omega)).mpr t))
theorem rsK_y {z : xSt} (h : zOk z) (hi : rsI z) : (goZ z).1 0 24 - nI 6 = nI (rsK z) := by
  obtain ⟨n, h1, h2, e⟩ := rsK_v h hi
  unfold rsK
  rw [if_pos hi, e]
  show _ = nI ((nI n).toNatClampNeg - 6)
  rw [nI_clamp (by omega)]
  obtain ⟨k, rfl⟩ : ∃ k, n = k + 6 := ⟨n - 6, by omega⟩
  rw [Nat.add_sub_cancel, ← nI_add k 6]
  exact Int32.add_sub_cancel _ _
theorem rsK_n {z : xSt} (hi : ¬ rsI z) : nI 0 = nI (rsK z) := by unfold rsK; rw [if_neg hi]
theorem rsK_lt {z : xSt} (h : zOk z) : rsK z < 5 := by
  unfold rsK
  split
  · rename_i hi
    obtain ⟨n, h1, h2, e⟩ := rsK_v h hi
    rw [e]
    show (nI n).toNatClampNeg - 6 < 5
    rw [nI_clamp (by omega)]; omega
  · omega
def rs2 (z : xSt) : xSt := fiZ (goZ z) (¬ rsI z) (-11)
def rs3 (z : xSt) : xSt := fiZ (rs2 z) ((rs2 z).1 0 30 >>> (nI (rsK z) &&& 31) &&& nI 1 = nI 1) (-14)
def rs4 (z : xSt) : xSt := u1 (rs3 z) 0 30 ((rs3 z).1 0 30 ||| (nI 1 <<< (nI (rsK z) &&& 31)))
def rs6 (z : xSt) : xSt := fgZ (goZ (rs4 z)) (xLea (rsK z)) (xGre (rsK z))
def rsV (z : xSt) : Int32 := fgR (goZ (rs4 z)) (xLea (rsK z)) (xGre (rsK z))
def rs7 (z : xSt) : xSt := u1 (rs6 z) 4 (0 + rsK z) (rsV z)
def rsZ (z : xSt) : xSt := goZ (rs7 z)
theorem rs3_ok {z : xSt} (h : zOk z) : zOk (rs3 z) := by
  unfold rs3
  have h1 : zOk (rs2 z) := by unfold rs2; exact (go_ok h).fi
  exact h1.fi
theorem rs4_ok {z : xSt} (h : zOk z) : zOk (rs4 z) := by
  unfold rs4
  exact (rs3_ok h).of (fun k _ _ => by rw [u1_sne _ _ _ (by omega)])
theorem rs6_ok {z : xSt} (h : zOk z) : zOk (rs6 z) := by
  unfold rs6
  exact fg_ok (go_ok (rs4_ok h))
theorem rs7_ok {z : xSt} (h : zOk z) : zOk (rs7 z) := by
  unfold rs7
  exact (rs6_ok h).of (fun k _ _ => by rw [u1_ne _ (by decide)])
def rsW (z : xSt) : Int32 := if z.1 0 23 = 0 then z.1 0 24 else (-1)
def rdW (z : xSt) : xSt := if rsW z = nI 0 then rmZ z else if rsW z = nI 1 then rpZ z else if rsW z = nI 2 then rtZ z else if rsW z = nI 3 then rcX z else if rsW z = nI 4 then rsZ z else fiZ z True (-11)
def stZ (z : xSt) : xSt := u1 (goZ (fiZ (rdW z) (¬ (rdW z).1 0 23 = nI 2) (-11))) 0 29 ((goZ (fiZ (rdW z) (¬ (rdW z).1 0 23 = nI 2) (-11))).1 0 29 + nI 1)
theorem sw_out {z : xSt} (h : zOk z) (h0 : ¬ rsW z = nI 0) (h1 : ¬ rsW z = nI 1) (h2 : ¬ rsW z = nI 2) (h3 : ¬ rsW z = nI 3) (h4 : ¬ rsW z = nI 4) : rsW z < 0 ∨ 4 < rsW z := by
  have hw : wok (rsW z) := by
    unfold rsW; split
    · rename_i q; exact h.2.2.2 q
    · exact Or.inl rfl
  rcases hw with q | ⟨n, hn, q⟩
  · rw [q]; exact Or.inl (by decide)
  · rw [q] at h0 h1 h2 h3 h4 ⊢
    refine Or.inr ((nI_ltI (a := 4) (by omega) (by omega)).mpr ?_)
    refine Nat.not_le.mp (fun t => ?_)
    have : n = 0 ∨ n = 1 ∨ n = 2 ∨ n = 3 ∨ n = 4 := by omega
    rcases this with e | e | e | e | e <;> subst e
    · exact h0 rfl
    · exact h1 rfl
    · exact h2 rfl
    · exact h3 rfl
    · exact h4 rfl
/-! row 0 over a closing: only what is reserved -/
theorem dlQ_0 {z : xSt} {d k : Nat} (h : k ≠ 15) : (dlQ z d).1 0 k = z.1 0 k := by
  unfold dlQ
  split
  · rw [u1_sne _ _ _ h]
    show (u1 z 0 15 (z.1 0 15 + kpQ z d)).1 0 k = z.1 0 k
    exact u1_sne _ _ _ h
  · unfold d11
    rw [ur_ne _ _ (by decide), u1_ne _ (by decide)]
    show (u1 z 0 15 (z.1 0 15 + kpQ z d)).1 0 k = z.1 0 k
    exact u1_sne _ _ _ h
theorem daL_0 {z : xSt} {k : Nat} (h : k ≠ 15) : ∀ d, (daL z d).1 0 k = z.1 0 k
  | 0 => by
    show (ur (ur (u1 z 0 15 0) 11 (fun _ => 0)) 12 (fun _ => 0)).1 0 k = _
    rw [ur_ne _ _ (by decide), ur_ne _ _ (by decide), u1_sne _ _ _ h]
  | d + 1 => (dlQ_0 h).trans (daL_0 h d)
theorem cdQ_0 {y : xSt} {o : Nat} (h : o ≠ 4) : ∀ n, (cdQ y n).1 o = y.1 o
  | 0 => rfl
  | n + 1 => by
    unfold cdQ
    rw [u1_ne _ h, u1_ne _ h, cdQ_0 h n]
theorem rcQ_0 {o : Nat} (h : o ≠ 4) (m : Nat) : ∀ (n : Nat) (z : xSt) (x : Int32), (rcQ m n z x).1.1 o = z.1 o
  | 0, _, _ => rfl
  | n + 1, z, x => by
    unfold rcQ
    rw [rcQ_0 h m n, u1_ne _ h]
theorem ipQ_0 {o : Nat} (h : o ≠ 4) (m : Nat) : ∀ (n y : Nat) (z : xSt) (x : Int32), (ipQ m n y z x).1 o = z.1 o
  | 0, _, _, _ => rfl
  | n + 1, y, z, x => by
    unfold ipQ
    rw [ipQ_0 h m n, u1_ne _ h]
theorem cfQ_0 {o : Nat} (h : o ≠ 4) (z : xSt) (m : Nat) (n : Int32) : (cfQ z m n).1 o = z.1 o := by
  unfold cfQ; dsimp only; rw [u1_ne _ h, u1_ne _ h, u1_ne _ h, u1_ne _ h]
theorem rcZ_0 {o : Nat} (h : o ≠ 4) (z : xSt) (m : Nat) (n : Int32) : (rcZ z m n).1 o = z.1 o := by
  unfold rcZ; dsimp only; rw [u1_ne _ h, u1_ne _ h, u1_ne _ h, rcQ_0 h]
theorem pyQ_0 {o : Nat} (h : o ≠ 4) (z : xSt) (m : Nat) : (pyQ z m).1 o = z.1 o := by
  unfold pyQ; split
  · rw [u1_ne _ h, u1_ne _ h, ipQ_0 h, u1_ne _ h]
  · rw [u1_ne _ h, ipQ_0 h, u1_ne _ h]
theorem cmS_0 {o : Nat} (h : o ≠ 4) (s : xSt) (m : Nat) : (cmS s m).1 o = s.1 o := by
  have h1 : (cmT s m).1 o = s.1 o := by
    unfold cmT cm0; split
    · rw [cfQ_0 h, u1_ne _ h, u1_ne _ h]
    · rw [u1_ne _ h, u1_ne _ h]
  unfold cmS; split
  · rw [rcZ_0 h, h1]
  · exact h1
theorem cmQ_0 {o : Nat} (h : o ≠ 4) (y : xSt) : ∀ n, (cmQ y n).1 o = y.1 o
  | 0 => rfl
  | n + 1 => (cmS_0 h _ n).trans (cmQ_0 h y n)
theorem cpQ_0 {o : Nat} (h : o ≠ 4) (y : xSt) : ∀ n, (cpQ y n).1 o = y.1 o
  | 0 => rfl
  | n + 1 => by
    show (cpS (cpQ y n) n).1 o = _
    unfold cpS; split
    · rw [pyQ_0 h, cpQ_0 h y n]
    · exact cpQ_0 h y n
theorem clQ_o {z : xSt} {o : Nat} (h : o ≠ 4) : (clQ z).1 o = (daL z (mQ z 13)).1 o := by
  unfold clQ clE clD clB clA
  rw [u1_ne _ h, ur_ne _ _ h, cpQ_0 h, cmQ_0 h, cdQ_0 h, u1_ne _ h]
theorem clQ_0 {z : xSt} {k : Nat} (h : k ≠ 15) : (clQ z).1 0 k = z.1 0 k := by rw [clQ_o (by decide), daL_0 h]
theorem clQ_2 {z : xSt} : (clQ z).1 2 = z.1 2 := by rw [clQ_o (by decide), daL_2]
theorem rmZ_ok {z : xSt} (h : zOk z) : zOk (rmZ z) := by
  unfold rmZ; split
  · exact (rm4_ok h).of (fun k _ _ => by rw [u1_ne _ (by decide), u1_ne _ (by decide), u1_ne _ (by decide)])
  · exact rm4_ok h
theorem rpZ_ok {z : xSt} (h : zOk z) : zOk (rpZ z) := by
  unfold rpZ; split
  · exact (rpF_ok h).of (fun k _ _ => by rw [u1_ne _ (by decide), u1_ne _ (by decide)])
  · exact rpF_ok h
theorem rtZ_ok {z : xSt} (h : zOk z) : zOk (rtZ z) := by unfold rtZ; exact go_ok (rt6_ok h)
theorem rcX_ok {z : xSt} (h : zOk z) : zOk (rcX z) := by
  unfold rcX; split
  · exact (rc3_ok h).of (fun k _ _ => clQ_0 (by omega))
  · exact rc3_ok h
theorem rsZ_ok {z : xSt} (h : zOk z) : zOk (rsZ z) := by unfold rsZ; exact go_ok (rs7_ok h)
theorem rdW_ok {z : xSt} (h : zOk z) : zOk (rdW z) := by
  unfold rdW
  split
  · exact rmZ_ok h
  split
  · exact rpZ_ok h
  split
  · exact rtZ_ok h
  split
  · exact rcX_ok h
  split
  · exact rsZ_ok h
  · exact h.fi
def rm_X10_readClose : Room := { frames := 7, cells := 0, slots := 0, locals := 149 }
set_option maxRecDepth 100000 in
set_option maxHeartbeats 4000000 in
theorem c_X10_readClose (l : Launch) (G : xGl) (w : xWd) (hw : isM w) (z : xSt) (sz : Nat)  (hT : zOk z) (hO : rOk z) (hcl : (rc3 z).1 0 26 = 0 → clOk (rc3 z)) : xMv l yX10_readClose cX10_readClose 4 rm_X10_readClose G w z sz [.ref (w.2.2 0)] (fun z1 => z1 = rcX z) := by
  refine x_mv (by decide) (Nat.le_of_ble_eq_true rfl) ?_
  intro p e s mt args below meth c ls Q hsz X hR hS hl hret
  obtain ⟨hx, hcb, hml, hown, hts, hlk, hK, hZ⟩ := X
  have hl : lv_has ls 4 [(0, .ref (w.2.2 0))] := hl
  have hd4_ := hO.2.2.2.1
  have hy24_ := hO.2.2.2.2.2
  have hd13_ := hO.2.2.1
  refine lv_aload_n hx hcb dX10_readClose_0 rfl (lv_at hl 0 rfl) ?_
  refine lv_aload_n hx hcb dX10_readClose_1 rfl (lv_at hl 0 rfl) ?_
  refine x_getR hx hcb hts hown hK xc10 hR (hw.lo (by decide)) (hw.s0 rfl) 5 (by decide) rfl q_1171 dX10_readClose_2 ?_
  refine lv_sipush (v := (nI 494)) hx hcb dX10_readClose_5 (by decide) ?_
  refine x_iald hx hcb hK hR (hw.lo (by decide)) (hw.s0 rfl) (k := 494) (by omega) (by decide) dX10_readClose_8 ?_
  refine x_top (show (z.1 4 494) = (nI (yQ z)) from hO.2.2.2.2.1) ?_
  refine lv_bipush (v := (nI 24)) hx hcb dX10_readClose_9 (by decide) ?_
  refine lv_icmp_ne (tgt := 18) hx hcb dX10_readClose_11 (by decide) (fun c_1 => ?_) (fun c_1 => ?_)
  · skip
    have c_1 : ¬ (yQ z) = 24 := fun h_ => c_1 ((nI_eq (by omega) (by omega)).mpr h_)
    have hA_ : ¬ yQ z = 24 := c_1
    refine lv_iconst (v := (nI 0)) hx hcb dX10_readClose_18 (by decide) ?_
    refine lv_bipush (v := (-16)) hx hcb dX10_readClose_19 (by decide) ?_
    refine x_cv0 rfl rfl (x_runV hx hcb hml hown hts (c_X10_failsIf l G w hw z _ 0 (-16) (yQ z = 24) (by first | (rw [if_pos hA_]; first | done | rfl) | (rw [if_neg hA_]; first | done | rfl))) mv_X10_failsIf q_1308 hK hZ hR hS (hw.lo (by decide)) xc10 (hw.s0 rfl) rfl hl.1 rfl (Nat.le_of_ble_eq_true rfl) dX10_readClose_21 ⟨by decide, by decide⟩ ⟨by decide, by decide⟩) hS (fun z_3 H locs hp_4 hR hS => ?_)
    rw [hp_4] at hR
    refine lv_aload_n hx hcb dX10_readClose_24 rfl (lv_at hl 0 rfl) ?_
    refine x_cv0 rfl rfl (x_runV hx hcb hml hown hts (c_X10_goOn l G w hw (fiZ z (yQ z = 24) (-16)) _ hT.fi.1) mv_X10_goOn q_1312 hK hZ hR hS (hw.lo (by decide)) xc10 (hw.s0 rfl) rfl hl.1 rfl (Nat.le_of_ble_eq_true rfl) dX10_readClose_25 ⟨by decide, by decide⟩ ⟨by decide, by decide⟩) hS (fun z_6 H locs hp_7 hR hS => ?_)
    rw [hp_7] at hR
    refine lv_aload_n hx hcb dX10_readClose_28 rfl (lv_at hl 0 rfl) ?_
    refine lv_iconst (v := (nI 0)) hx hcb dX10_readClose_29 (by decide) ?_
    refine lv_iconst (v := (nI 0)) hx hcb dX10_readClose_30 (by decide) ?_
    refine lv_iconst (v := (nI 0)) hx hcb dX10_readClose_31 (by decide) ?_
    refine lv_iconst (v := (nI 0)) hx hcb dX10_readClose_32 (by decide) ?_
    refine x_cv0 rfl rfl (x_runV hx hcb hml hown hts (c_X10_laysResults l G w hw (goZ (fiZ z (yQ z = 24) (-16))) _ 0 0 0 0) mv_X10_laysResults q_1350 hK hZ hR hS (hw.lo (by decide)) xc10 (hw.s0 rfl) rfl hl.1 rfl (Nat.le_of_ble_eq_true rfl) dX10_readClose_33 ⟨by decide, by decide⟩ ⟨by decide, by decide⟩) hS (fun z_9 H locs hp_10 hR hS => ?_)
    rw [hp_10] at hR
    rw [show zQ (goZ (fiZ z (yQ z = 24) (-16))) 0 0 0 0 = rc0 z from rfl] at hR
    refine lv_iconst (v := (nI 0)) hx hcb dX10_readClose_36 (by decide) ?_
    refine lv_istore_n (lv' := [(1, .int (nI 0)), (0, .ref (w.2.2 0))]) hx hcb dX10_readClose_37 rfl hl (by decide) rfl (fun ls hl => ?_)
    suffices LP_38 : ∀ (nn : Nat) (i_ : Nat) (y_ : xSt) (_ : mQ z 13 - i_ < nn) (hi_ : i_ ≤ mQ z 13) (hz_ : zOk y_) (hfr_ : frC z y_) (hf_ : rc2 z = rkL (mQ z 13 - i_) i_ y_) (H : Heap) (locs : List Loc) (ls : Array Slot), Rh G w y_ H → va_S (xA w s.heap.size) s.heap H locs → lv_has ls 4 [(0, .ref (w.2.2 0)), (1, .int (nI i_))] → W p l e rm_X10_readClose s mt args below meth c H locs 0 0 Q (F0 mt 38 ls []) from LP_38 ((_) + 1) 0 (rc0 z) (Nat.lt_succ_self _) (Nat.zero_le _) (rc0_ok hT) (rc0_fr z) rfl _ _ _ hR hS (lv_sub hl [1, 0] rfl)
    intro nn
    induction nn with
    | zero => intro i_ y_ hm_ ; exact absurd hm_ (Nat.not_lt_zero _)
    | succ nn ih_38 =>
      intro i_ y_ hm_38 hi_ hz_ hfr_ hf_ H locs ls hR hS hl
      refine lv_iload_n hx hcb dX10_readClose_38 rfl (lv_at hl 1 rfl) ?_
      refine lv_aload_n hx hcb dX10_readClose_39 rfl (lv_at hl 0 rfl) ?_
      refine x_getR hx hcb hts hown hK xc10 hR (hw.lo (by decide)) (hw.s0 rfl) 3 (by decide) rfl q_1169 dX10_readClose_40 ?_
      refine lv_bipush (v := (nI 13)) hx hcb dX10_readClose_43 (by decide) ?_
      refine x_iald hx hcb hK hR (hw.lo (by decide)) (hw.s0 rfl) (k := 13) (by omega) (by decide) dX10_readClose_45 ?_
      refine x_top (show (y_.1 2 13) = (nI (mQ z 13)) from by rw [hfr_ 2 (by decide) (by decide)]; exact hd13_) ?_
      refine lv_icmp_ge (tgt := 112) hx hcb dX10_readClose_46 (by decide) (fun c_11 => ?_) (fun c_11 => ?_)
      · skip
        have c_11 : (mQ z 13) ≤ i_ := (nI_leI (by omega) (by omega)).mp c_11
        have he_ : y_ = rc2 z := by rw [hf_, show mQ z 13 - i_ = 0 by omega]; rfl
        rw [show y_ = rc2 z from he_] at hR
        refine lv_aload_n hx hcb dX10_readClose_112 rfl (lv_at hl 0 rfl) ?_
        refine lv_aload_n hx hcb dX10_readClose_113 rfl (lv_at hl 0 rfl) ?_
        refine x_getI hx hcb hts hown hK xc10 hR (hw.lo (by decide)) (hw.s0 rfl) 23 (by decide) rfl q_1189 dX10_readClose_114 ?_
        refine lv_iconst (v := (nI 2)) hx hcb dX10_readClose_117 (by decide) ?_
        refine lv_icmp_eq (tgt := 125) hx hcb dX10_readClose_118 (by decide) (fun c_12 => ?_) (fun c_12 => ?_)
        · skip
          have hB_ : ¬ ¬ (rc2 z).1 0 23 = nI 2 := fun q_ => q_ c_12
          refine lv_iconst (v := (nI 0)) hx hcb dX10_readClose_125 (by decide) ?_
          refine lv_bipush (v := (-11)) hx hcb dX10_readClose_126 (by decide) ?_
          refine x_cv0 rfl rfl (x_runV hx hcb hml hown hts (c_X10_failsIf l G w hw (rc2 z) _ 0 (-11) (¬ (rc2 z).1 0 23 = nI 2) (by first | (rw [if_pos hB_]; first | done | rfl) | (rw [if_neg hB_]; first | done | rfl))) mv_X10_failsIf q_1308 hK hZ hR hS (hw.lo (by decide)) xc10 (hw.s0 rfl) rfl hl.1 rfl (Nat.le_of_ble_eq_true rfl) dX10_readClose_128 ⟨by decide, by decide⟩ ⟨by decide, by decide⟩) hS (fun z_14 H locs hp_15 hR hS => ?_)
          rw [hp_15] at hR
          rw [show fiZ (rc2 z) (¬ (rc2 z).1 0 23 = nI 2) (-11) = rc3 z from rfl] at hR
          refine lv_aload_n hx hcb dX10_readClose_131 rfl (lv_at hl 0 rfl) ?_
          refine x_getI hx hcb hts hown hK xc10 hR (hw.lo (by decide)) (hw.s0 rfl) 26 (by decide) rfl q_1192 dX10_readClose_132 ?_
          refine lv_if_ne (tgt := 142) hx hcb dX10_readClose_135 (by decide) (fun c_16 => ?_) (fun c_16 => ?_)
          · skip
            have hE3_ : ¬ (rc3 z).1 0 26 = 0 := c_16
            exact hret (rc3 z) _ _ _ _ dX10_readClose_142 hR hS (by unfold rcX; first | rw [if_pos hE3_] | rw [if_neg hE3_])
          · skip
            have hE3_ : (rc3 z).1 0 26 = 0 := c_16
            refine lv_aload_n hx hcb dX10_readClose_138 rfl (lv_at hl 0 rfl) ?_
            refine x_cv0 rfl rfl (x_runV hx hcb hml hown hts (c_X10_closes l G w hw (rc3 z) _ (rc3_rok hO) (rc3_y hO hE3_) ((hcl hE3_).1) ((hcl hE3_).2)) mv_X10_closes q_1354 hK hZ hR hS (hw.lo (by decide)) xc10 (hw.s0 rfl) rfl hl.1 rfl (Nat.le_of_ble_eq_true rfl) dX10_readClose_139 ⟨by decide, by decide⟩ ⟨by decide, by decide⟩) hS (fun z_18 H locs hp_19 hR hS => ?_)
            rw [hp_19] at hR
            exact hret (clQ (rc3 z)) _ _ _ _ dX10_readClose_142 hR hS (by unfold rcX; first | rw [if_pos hE3_] | rw [if_neg hE3_])
        · skip
          have hB_ : ¬ (rc2 z).1 0 23 = nI 2 := c_12
          refine lv_iconst (v := (nI 1)) hx hcb dX10_readClose_121 (by decide) ?_
          refine lv_goto (tgt := 126) hx hcb dX10_readClose_122 (by decide) ?_
          refine lv_bipush (v := (-11)) hx hcb dX10_readClose_126 (by decide) ?_
          refine x_cv0 rfl rfl (x_runV hx hcb hml hown hts (c_X10_failsIf l G w hw (rc2 z) _ 1 (-11) (¬ (rc2 z).1 0 23 = nI 2) (by first | (rw [if_pos hB_]; first | done | rfl) | (rw [if_neg hB_]; first | done | rfl))) mv_X10_failsIf q_1308 hK hZ hR hS (hw.lo (by decide)) xc10 (hw.s0 rfl) rfl hl.1 rfl (Nat.le_of_ble_eq_true rfl) dX10_readClose_128 ⟨by decide, by decide⟩ ⟨by decide, by decide⟩) hS (fun z_21 H locs hp_22 hR hS => ?_)
          rw [hp_22] at hR
          rw [show fiZ (rc2 z) (¬ (rc2 z).1 0 23 = nI 2) (-11) = rc3 z from rfl] at hR
          refine lv_aload_n hx hcb dX10_readClose_131 rfl (lv_at hl 0 rfl) ?_
          refine x_getI hx hcb hts hown hK xc10 hR (hw.lo (by decide)) (hw.s0 rfl) 26 (by decide) rfl q_1192 dX10_readClose_132 ?_
          refine lv_if_ne (tgt := 142) hx hcb dX10_readClose_135 (by decide) (fun c_23 => ?_) (fun c_23 => ?_)
          · skip
            have hE3_ : ¬ (rc3 z).1 0 26 = 0 := c_23
            exact hret (rc3 z) _ _ _ _ dX10_readClose_142 hR hS (by unfold rcX; first | rw [if_pos hE3_] | rw [if_neg hE3_])
          · skip
            have hE3_ : (rc3 z).1 0 26 = 0 := c_23
            refine lv_aload_n hx hcb dX10_readClose_138 rfl (lv_at hl 0 rfl) ?_
            refine x_cv0 rfl rfl (x_runV hx hcb hml hown hts (c_X10_closes l G w hw (rc3 z) _ (rc3_rok hO) (rc3_y hO hE3_) ((hcl hE3_).1) ((hcl hE3_).2)) mv_X10_closes q_1354 hK hZ hR hS (hw.lo (by decide)) xc10 (hw.s0 rfl) rfl hl.1 rfl (Nat.le_of_ble_eq_true rfl) dX10_readClose_139 ⟨by decide, by decide⟩ ⟨by decide, by decide⟩) hS (fun z_25 H locs hp_26 hR hS => ?_)
            rw [hp_26] at hR
            exact hret (clQ (rc3 z)) _ _ _ _ dX10_readClose_142 hR hS (by unfold rcX; first | rw [if_pos hE3_] | rw [if_neg hE3_])
      · skip
        have c_11 : ¬ (mQ z 13) ≤ i_ := fun h_ => c_11 ((nI_leI (by omega) (by omega)).mpr h_)
        refine lv_aload_n hx hcb dX10_readClose_49 rfl (lv_at hl 0 rfl) ?_
        refine x_getI hx hcb hts hown hK xc10 hR (hw.lo (by decide)) (hw.s0 rfl) 26 (by decide) rfl q_1192 dX10_readClose_50 ?_
        refine lv_if_ne (tgt := 112) hx hcb dX10_readClose_53 (by decide) (fun c_27 => ?_) (fun c_27 => ?_)
        · skip
          have he_ : y_ = rc2 z := by rw [hf_, rkL_s (k := mQ z 13 - (i_ + 1)) (by omega), if_neg c_27]
          rw [show y_ = rc2 z from he_] at hR
          refine lv_aload_n hx hcb dX10_readClose_112 rfl (lv_at hl 0 rfl) ?_
          refine lv_aload_n hx hcb dX10_readClose_113 rfl (lv_at hl 0 rfl) ?_
          refine x_getI hx hcb hts hown hK xc10 hR (hw.lo (by decide)) (hw.s0 rfl) 23 (by decide) rfl q_1189 dX10_readClose_114 ?_
          refine lv_iconst (v := (nI 2)) hx hcb dX10_readClose_117 (by decide) ?_
          refine lv_icmp_eq (tgt := 125) hx hcb dX10_readClose_118 (by decide) (fun c_28 => ?_) (fun c_28 => ?_)
          · skip
            have hB_ : ¬ ¬ (rc2 z).1 0 23 = nI 2 := fun q_ => q_ c_28
            refine lv_iconst (v := (nI 0)) hx hcb dX10_readClose_125 (by decide) ?_
            refine lv_bipush (v := (-11)) hx hcb dX10_readClose_126 (by decide) ?_
            refine x_cv0 rfl rfl (x_runV hx hcb hml hown hts (c_X10_failsIf l G w hw (rc2 z) _ 0 (-11) (¬ (rc2 z).1 0 23 = nI 2) (by first | (rw [if_pos hB_]; first | done | rfl) | (rw [if_neg hB_]; first | done | rfl))) mv_X10_failsIf q_1308 hK hZ hR hS (hw.lo (by decide)) xc10 (hw.s0 rfl) rfl hl.1 rfl (Nat.le_of_ble_eq_true rfl) dX10_readClose_128 ⟨by decide, by decide⟩ ⟨by decide, by decide⟩) hS (fun z_30 H locs hp_31 hR hS => ?_)
            rw [hp_31] at hR
            rw [show fiZ (rc2 z) (¬ (rc2 z).1 0 23 = nI 2) (-11) = rc3 z from rfl] at hR
            refine lv_aload_n hx hcb dX10_readClose_131 rfl (lv_at hl 0 rfl) ?_
            refine x_getI hx hcb hts hown hK xc10 hR (hw.lo (by decide)) (hw.s0 rfl) 26 (by decide) rfl q_1192 dX10_readClose_132 ?_
            refine lv_if_ne (tgt := 142) hx hcb dX10_readClose_135 (by decide) (fun c_32 => ?_) (fun c_32 => ?_)
            · skip
              have hE3_ : ¬ (rc3 z).1 0 26 = 0 := c_32
              exact hret (rc3 z) _ _ _ _ dX10_readClose_142 hR hS (by unfold rcX; first | rw [if_pos hE3_] | rw [if_neg hE3_])
            · skip
              have hE3_ : (rc3 z).1 0 26 = 0 := c_32
              refine lv_aload_n hx hcb dX10_readClose_138 rfl (lv_at hl 0 rfl) ?_
              refine x_cv0 rfl rfl (x_runV hx hcb hml hown hts (c_X10_closes l G w hw (rc3 z) _ (rc3_rok hO) (rc3_y hO hE3_) ((hcl hE3_).1) ((hcl hE3_).2)) mv_X10_closes q_1354 hK hZ hR hS (hw.lo (by decide)) xc10 (hw.s0 rfl) rfl hl.1 rfl (Nat.le_of_ble_eq_true rfl) dX10_readClose_139 ⟨by decide, by decide⟩ ⟨by decide, by decide⟩) hS (fun z_34 H locs hp_35 hR hS => ?_)
              rw [hp_35] at hR
              exact hret (clQ (rc3 z)) _ _ _ _ dX10_readClose_142 hR hS (by unfold rcX; first | rw [if_pos hE3_] | rw [if_neg hE3_])
          · skip
            have hB_ : ¬ (rc2 z).1 0 23 = nI 2 := c_28
            refine lv_iconst (v := (nI 1)) hx hcb dX10_readClose_121 (by decide) ?_
            refine lv_goto (tgt := 126) hx hcb dX10_readClose_122 (by decide) ?_
            refine lv_bipush (v := (-11)) hx hcb dX10_readClose_126 (by decide) ?_
            refine x_cv0 rfl rfl (x_runV hx hcb hml hown hts (c_X10_failsIf l G w hw (rc2 z) _ 1 (-11) (¬ (rc2 z).1 0 23 = nI 2) (by first | (rw [if_pos hB_]; first | done | rfl) | (rw [if_neg hB_]; first | done | rfl))) mv_X10_failsIf q_1308 hK hZ hR hS (hw.lo (by decide)) xc10 (hw.s0 rfl) rfl hl.1 rfl (Nat.le_of_ble_eq_true rfl) dX10_readClose_128 ⟨by decide, by decide⟩ ⟨by decide, by decide⟩) hS (fun z_37 H locs hp_38 hR hS => ?_)
            rw [hp_38] at hR
            rw [show fiZ (rc2 z) (¬ (rc2 z).1 0 23 = nI 2) (-11) = rc3 z from rfl] at hR
            refine lv_aload_n hx hcb dX10_readClose_131 rfl (lv_at hl 0 rfl) ?_
            refine x_getI hx hcb hts hown hK xc10 hR (hw.lo (by decide)) (hw.s0 rfl) 26 (by decide) rfl q_1192 dX10_readClose_132 ?_
            refine lv_if_ne (tgt := 142) hx hcb dX10_readClose_135 (by decide) (fun c_39 => ?_) (fun c_39 => ?_)
            · skip
              have hE3_ : ¬ (rc3 z).1 0 26 = 0 := c_39
              exact hret (rc3 z) _ _ _ _ dX10_readClose_142 hR hS (by unfold rcX; first | rw [if_pos hE3_] | rw [if_neg hE3_])
            · skip
              have hE3_ : (rc3 z).1 0 26 = 0 := c_39
              refine lv_aload_n hx hcb dX10_readClose_138 rfl (lv_at hl 0 rfl) ?_
              refine x_cv0 rfl rfl (x_runV hx hcb hml hown hts (c_X10_closes l G w hw (rc3 z) _ (rc3_rok hO) (rc3_y hO hE3_) ((hcl hE3_).1) ((hcl hE3_).2)) mv_X10_closes q_1354 hK hZ hR hS (hw.lo (by decide)) xc10 (hw.s0 rfl) rfl hl.1 rfl (Nat.le_of_ble_eq_true rfl) dX10_readClose_139 ⟨by decide, by decide⟩ ⟨by decide, by decide⟩) hS (fun z_41 H locs hp_42 hR hS => ?_)
              rw [hp_42] at hR
              exact hret (clQ (rc3 z)) _ _ _ _ dX10_readClose_142 hR hS (by unfold rcX; first | rw [if_pos hE3_] | rw [if_neg hE3_])
        · skip
          have he0_ : y_.1 0 26 = 0 := c_27
          refine lv_aload_n hx hcb dX10_readClose_56 rfl (lv_at hl 0 rfl) ?_
          refine x_getI hx hcb hts hown hK xc10 hR (hw.lo (by decide)) (hw.s0 rfl) 23 (by decide) rfl q_1189 dX10_readClose_57 ?_
          refine lv_iconst (v := (nI 3)) hx hcb dX10_readClose_60 (by decide) ?_
          refine lv_icmp_ne (tgt := 68) hx hcb dX10_readClose_61 (by decide) (fun c_43 => ?_) (fun c_43 => ?_)
          · skip
            have h3_ : ¬ y_.1 0 23 = nI 3 := c_43
            refine lv_iconst (v := (nI 0)) hx hcb dX10_readClose_68 (by decide) ?_
            refine lv_istore_n (lv' := [(2, .int (nI 0)), (0, .ref (w.2.2 0)), (1, .int (nI i_))]) hx hcb dX10_readClose_69 rfl hl (by decide) rfl (fun ls hl => ?_)
            refine lv_iload_n hx hcb dX10_readClose_70 rfl (lv_at hl 0 rfl) ?_
            refine lv_if_eq (tgt := 78) hx hcb dX10_readClose_71 (by decide) (fun c_44 => ?_) (fun c_44 => ?_)
            · skip
              rw [show y_ = rc1 y_ from (if_neg h3_).symm] at hR
              refine lv_aload_n hx hcb dX10_readClose_78 rfl (lv_at hl 1 rfl) ?_
              refine lv_iconst (v := (nI 0)) hx hcb dX10_readClose_79 (by decide) ?_
              refine lv_ldc (v := (nI 1000000)) hx hcb hown (hts _ q_1345) dX10_readClose_80 ?_
              refine x_ci0 rfl rfl (x_runV hx hcb hml hown hts (c_X10_figure l G w hw (rc1 y_) _ 0 1000000) mv_X10_figure q_1341 hK hZ hR hS (hw.lo (by decide)) xc10 (hw.s0 rfl) rfl hl.1 rfl (Nat.le_of_ble_eq_true rfl) dX10_readClose_82 ⟨by decide, by decide⟩ ⟨by decide, by decide⟩) hS (fun r_45 z_46 H locs hp_47 hR hS => ?_)
              rw [hp_47.2] at hR; rw [hp_47.1]
              refine x_top (show (fgR (rc1 y_) 0 1000000) = (rcV y_) from rfl) ?_
              refine lv_istore_n (lv' := [(3, .int (rcV y_)), (2, .int (nI 0)), (0, .ref (w.2.2 0)), (1, .int (nI i_))]) hx hcb dX10_readClose_85 rfl hl (by decide) rfl (fun ls hl => ?_)
              refine lv_aload_n hx hcb dX10_readClose_86 rfl (lv_at hl 2 rfl) ?_
              refine x_getR hx hcb hts hown hK xc10 hR (hw.lo (by decide)) (hw.s0 rfl) 12 (by decide) rfl q_1178 dX10_readClose_87 ?_
              refine lv_iload_n hx hcb dX10_readClose_90 rfl (lv_at hl 3 rfl) ?_
              refine lv_iload_n hx hcb dX10_readClose_91 rfl (lv_at hl 1 rfl) ?_
              refine lv_if_eq (tgt := 100) hx hcb dX10_readClose_92 (by decide) (fun c_48 => ?_) (fun c_48 => ?_)
              · skip
                refine lv_iload_n hx hcb dX10_readClose_100 rfl (lv_at hl 0 rfl) ?_
                refine x_top (show (rcV y_) = (rcW y_) from by unfold rcW; first | rw [if_pos h3_] | rw [if_neg h3_]) ?_
                refine x_iast hx hcb hK hR hS (hw.lo (by decide)) (hw.s0 rfl) (k := i_) (v := (rcW y_)) (by omega) (by decide) dX10_readClose_101 (fun H locs hR hS => ?_)
                rw [show u1 (fgZ (rc1 y_) 0 1000000) 10 i_ (rcW y_) = rcU y_ i_ from rfl] at hR
                refine lv_aload_n hx hcb dX10_readClose_102 rfl (lv_at hl 2 rfl) ?_
                refine x_cv0 rfl rfl (x_runV hx hcb hml hown hts (c_X10_goOn l G w hw (rcU y_ i_) _ ((rcU_ok (d := i_) hz_).1)) mv_X10_goOn q_1312 hK hZ hR hS (hw.lo (by decide)) xc10 (hw.s0 rfl) rfl hl.1 rfl (Nat.le_of_ble_eq_true rfl) dX10_readClose_103 ⟨by decide, by decide⟩ ⟨by decide, by decide⟩) hS (fun z_50 H locs hp_51 hR hS => ?_)
                rw [hp_51] at hR
                rw [show goZ (rcU y_ i_) = rkS y_ i_ from rfl] at hR
                refine lv_iinc (v := (nI (i_ + 1))) (lv' := [(1, .int (nI (i_ + 1))), (3, .int (rcV y_)), (2, .int (nI 0)), (0, .ref (w.2.2 0))]) hx hcb dX10_readClose_106 hl (k := 3) rfl (x_iinc1 _) (by decide) rfl (fun ls hl => ?_)
                refine lv_goto (tgt := 38) hx hcb dX10_readClose_109 (by decide) ?_
                exact ih_38 (i_ + 1) (rkS y_ i_) (by omega) (by omega) (rkS_ok hz_) (hfr_.tr (rkS_fr y_ i_)) (by rw [hf_, rkL_s (k := mQ z 13 - (i_ + 1)) (by omega), if_pos he0_]) _ _ _ hR hS (lv_sub hl [3, 0] rfl)
              · skip
                first | exact absurd c_48 (by decide) | exact absurd (by decide) c_48
            · skip
              first | exact absurd c_44 (by decide) | exact absurd (by decide) c_44
          · skip
            have h3_ : y_.1 0 23 = nI 3 := c_43
            refine lv_iconst (v := (nI 1)) hx hcb dX10_readClose_64 (by decide) ?_
            refine lv_goto (tgt := 69) hx hcb dX10_readClose_65 (by decide) ?_
            refine lv_istore_n (lv' := [(2, .int (nI 1)), (0, .ref (w.2.2 0)), (1, .int (nI i_))]) hx hcb dX10_readClose_69 rfl hl (by decide) rfl (fun ls hl => ?_)
            refine lv_iload_n hx hcb dX10_readClose_70 rfl (lv_at hl 0 rfl) ?_
            refine lv_if_eq (tgt := 78) hx hcb dX10_readClose_71 (by decide) (fun c_52 => ?_) (fun c_52 => ?_)
            · skip
              first | exact absurd c_52 (by decide) | exact absurd (by decide) c_52
            · skip
              refine lv_aload_n hx hcb dX10_readClose_74 rfl (lv_at hl 1 rfl) ?_
              refine x_cv0 rfl rfl (x_runV hx hcb hml hown hts (c_X10_next l G w hw y_ _ hz_.1) mv_X10_next q_1278 hK hZ hR hS (hw.lo (by decide)) xc10 (hw.s0 rfl) rfl hl.1 rfl (Nat.le_of_ble_eq_true rfl) dX10_readClose_75 ⟨by decide, by decide⟩ ⟨by decide, by decide⟩) hS (fun z_54 H locs hp_55 hR hS => ?_)
              rw [hp_55] at hR
              rw [show nqZ y_ = rc1 y_ from (if_pos h3_).symm] at hR
              refine lv_aload_n hx hcb dX10_readClose_78 rfl (lv_at hl 1 rfl) ?_
              refine lv_iconst (v := (nI 0)) hx hcb dX10_readClose_79 (by decide) ?_
              refine lv_ldc (v := (nI 1000000)) hx hcb hown (hts _ q_1345) dX10_readClose_80 ?_
              refine x_ci0 rfl rfl (x_runV hx hcb hml hown hts (c_X10_figure l G w hw (rc1 y_) _ 0 1000000) mv_X10_figure q_1341 hK hZ hR hS (hw.lo (by decide)) xc10 (hw.s0 rfl) rfl hl.1 rfl (Nat.le_of_ble_eq_true rfl) dX10_readClose_82 ⟨by decide, by decide⟩ ⟨by decide, by decide⟩) hS (fun r_56 z_57 H locs hp_58 hR hS => ?_)
              rw [hp_58.2] at hR; rw [hp_58.1]
              refine x_top (show (fgR (rc1 y_) 0 1000000) = (rcV y_) from rfl) ?_
              refine lv_istore_n (lv' := [(3, .int (rcV y_)), (2, .int (nI 1)), (0, .ref (w.2.2 0)), (1, .int (nI i_))]) hx hcb dX10_readClose_85 rfl hl (by decide) rfl (fun ls hl => ?_)
              refine lv_aload_n hx hcb dX10_readClose_86 rfl (lv_at hl 2 rfl) ?_
              refine x_getR hx hcb hts hown hK xc10 hR (hw.lo (by decide)) (hw.s0 rfl) 12 (by decide) rfl q_1178 dX10_readClose_87 ?_
              refine lv_iload_n hx hcb dX10_readClose_90 rfl (lv_at hl 3 rfl) ?_
              refine lv_iload_n hx hcb dX10_readClose_91 rfl (lv_at hl 1 rfl) ?_
              refine lv_if_eq (tgt := 100) hx hcb dX10_readClose_92 (by decide) (fun c_59 => ?_) (fun c_59 => ?_)
              · skip
                first | exact absurd c_59 (by decide) | exact absurd (by decide) c_59
              · skip
                refine lv_iload_n hx hcb dX10_readClose_95 rfl (lv_at hl 0 rfl) ?_
                refine lv_ineg hx hcb dX10_readClose_96 ?_
                refine lv_goto (tgt := 101) hx hcb dX10_readClose_97 (by decide) ?_
                refine x_top (show (-(rcV y_)) = (rcW y_) from by unfold rcW; first | rw [if_pos h3_] | rw [if_neg h3_]) ?_
                refine x_iast hx hcb hK hR hS (hw.lo (by decide)) (hw.s0 rfl) (k := i_) (v := (rcW y_)) (by omega) (by decide) dX10_readClose_101 (fun H locs hR hS => ?_)
                rw [show u1 (fgZ (rc1 y_) 0 1000000) 10 i_ (rcW y_) = rcU y_ i_ from rfl] at hR
                refine lv_aload_n hx hcb dX10_readClose_102 rfl (lv_at hl 2 rfl) ?_
                refine x_cv0 rfl rfl (x_runV hx hcb hml hown hts (c_X10_goOn l G w hw (rcU y_ i_) _ ((rcU_ok (d := i_) hz_).1)) mv_X10_goOn q_1312 hK hZ hR hS (hw.lo (by decide)) xc10 (hw.s0 rfl) rfl hl.1 rfl (Nat.le_of_ble_eq_true rfl) dX10_readClose_103 ⟨by decide, by decide⟩ ⟨by decide, by decide⟩) hS (fun z_61 H locs hp_62 hR hS => ?_)
                rw [hp_62] at hR
                rw [show goZ (rcU y_ i_) = rkS y_ i_ from rfl] at hR
                refine lv_iinc (v := (nI (i_ + 1))) (lv' := [(1, .int (nI (i_ + 1))), (3, .int (rcV y_)), (2, .int (nI 1)), (0, .ref (w.2.2 0))]) hx hcb dX10_readClose_106 hl (k := 3) rfl (x_iinc1 _) (by decide) rfl (fun ls hl => ?_)
                refine lv_goto (tgt := 38) hx hcb dX10_readClose_109 (by decide) ?_
                exact ih_38 (i_ + 1) (rkS y_ i_) (by omega) (by omega) (rkS_ok hz_) (hfr_.tr (rkS_fr y_ i_)) (by rw [hf_, rkL_s (k := mQ z 13 - (i_ + 1)) (by omega), if_pos he0_]) _ _ _ hR hS (lv_sub hl [3, 0] rfl)
  · skip
    have c_1 : (yQ z) = 24 := (nI_eq (by omega) (by omega)).mp c_1
    have hA_ : yQ z = 24 := c_1
    refine lv_iconst (v := (nI 1)) hx hcb dX10_readClose_14 (by decide) ?_
    refine lv_goto (tgt := 19) hx hcb dX10_readClose_15 (by decide) ?_
    refine lv_bipush (v := (-16)) hx hcb dX10_readClose_19 (by decide) ?_
    refine x_cv0 rfl rfl (x_runV hx hcb hml hown hts (c_X10_failsIf l G w hw z _ 1 (-16) (yQ z = 24) (by first | (rw [if_pos hA_]; first | done | rfl) | (rw [if_neg hA_]; first | done | rfl))) mv_X10_failsIf q_1308 hK hZ hR hS (hw.lo (by decide)) xc10 (hw.s0 rfl) rfl hl.1 rfl (Nat.le_of_ble_eq_true rfl) dX10_readClose_21 ⟨by decide, by decide⟩ ⟨by decide, by decide⟩) hS (fun z_64 H locs hp_65 hR hS => ?_)
    rw [hp_65] at hR
    refine lv_aload_n hx hcb dX10_readClose_24 rfl (lv_at hl 0 rfl) ?_
    refine x_cv0 rfl rfl (x_runV hx hcb hml hown hts (c_X10_goOn l G w hw (fiZ z (yQ z = 24) (-16)) _ hT.fi.1) mv_X10_goOn q_1312 hK hZ hR hS (hw.lo (by decide)) xc10 (hw.s0 rfl) rfl hl.1 rfl (Nat.le_of_ble_eq_true rfl) dX10_readClose_25 ⟨by decide, by decide⟩ ⟨by decide, by decide⟩) hS (fun z_67 H locs hp_68 hR hS => ?_)
    rw [hp_68] at hR
    refine lv_aload_n hx hcb dX10_readClose_28 rfl (lv_at hl 0 rfl) ?_
    refine lv_iconst (v := (nI 0)) hx hcb dX10_readClose_29 (by decide) ?_
    refine lv_iconst (v := (nI 0)) hx hcb dX10_readClose_30 (by decide) ?_
    refine lv_iconst (v := (nI 0)) hx hcb dX10_readClose_31 (by decide) ?_
    refine lv_iconst (v := (nI 0)) hx hcb dX10_readClose_32 (by decide) ?_
    refine x_cv0 rfl rfl (x_runV hx hcb hml hown hts (c_X10_laysResults l G w hw (goZ (fiZ z (yQ z = 24) (-16))) _ 0 0 0 0) mv_X10_laysResults q_1350 hK hZ hR hS (hw.lo (by decide)) xc10 (hw.s0 rfl) rfl hl.1 rfl (Nat.le_of_ble_eq_true rfl) dX10_readClose_33 ⟨by decide, by decide⟩ ⟨by decide, by decide⟩) hS (fun z_70 H locs hp_71 hR hS => ?_)
    rw [hp_71] at hR
    rw [show zQ (goZ (fiZ z (yQ z = 24) (-16))) 0 0 0 0 = rc0 z from rfl] at hR
    refine lv_iconst (v := (nI 0)) hx hcb dX10_readClose_36 (by decide) ?_
    refine lv_istore_n (lv' := [(1, .int (nI 0)), (0, .ref (w.2.2 0))]) hx hcb dX10_readClose_37 rfl hl (by decide) rfl (fun ls hl => ?_)
    suffices LP_38 : ∀ (nn : Nat) (i_ : Nat) (y_ : xSt) (_ : mQ z 13 - i_ < nn) (hi_ : i_ ≤ mQ z 13) (hz_ : zOk y_) (hfr_ : frC z y_) (hf_ : rc2 z = rkL (mQ z 13 - i_) i_ y_) (H : Heap) (locs : List Loc) (ls : Array Slot), Rh G w y_ H → va_S (xA w s.heap.size) s.heap H locs → lv_has ls 4 [(0, .ref (w.2.2 0)), (1, .int (nI i_))] → W p l e rm_X10_readClose s mt args below meth c H locs 0 0 Q (F0 mt 38 ls []) from LP_38 ((_) + 1) 0 (rc0 z) (Nat.lt_succ_self _) (Nat.zero_le _) (rc0_ok hT) (rc0_fr z) rfl _ _ _ hR hS (lv_sub hl [1, 0] rfl)
    intro nn
    induction nn with
    | zero => intro i_ y_ hm_ ; exact absurd hm_ (Nat.not_lt_zero _)
    | succ nn ih_38 =>
      intro i_ y_ hm_38 hi_ hz_ hfr_ hf_ H locs ls hR hS hl
      refine lv_iload_n hx hcb dX10_readClose_38 rfl (lv_at hl 1 rfl) ?_
      refine lv_aload_n hx hcb dX10_readClose_39 rfl (lv_at hl 0 rfl) ?_
      refine x_getR hx hcb hts hown hK xc10 hR (hw.lo (by decide)) (hw.s0 rfl) 3 (by decide) rfl q_1169 dX10_readClose_40 ?_
      refine lv_bipush (v := (nI 13)) hx hcb dX10_readClose_43 (by decide) ?_
      refine x_iald hx hcb hK hR (hw.lo (by decide)) (hw.s0 rfl) (k := 13) (by omega) (by decide) dX10_readClose_45 ?_
      refine x_top (show (y_.1 2 13) = (nI (mQ z 13)) from by rw [hfr_ 2 (by decide) (by decide)]; exact hd13_) ?_
      refine lv_icmp_ge (tgt := 112) hx hcb dX10_readClose_46 (by decide) (fun c_72 => ?_) (fun c_72 => ?_)
      · skip
        have c_72 : (mQ z 13) ≤ i_ := (nI_leI (by omega) (by omega)).mp c_72
        have he_ : y_ = rc2 z := by rw [hf_, show mQ z 13 - i_ = 0 by omega]; rfl
        rw [show y_ = rc2 z from he_] at hR
        refine lv_aload_n hx hcb dX10_readClose_112 rfl (lv_at hl 0 rfl) ?_
        refine lv_aload_n hx hcb dX10_readClose_113 rfl (lv_at hl 0 rfl) ?_
        refine x_getI hx hcb hts hown hK xc10 hR (hw.lo (by decide)) (hw.s0 rfl) 23 (by decide) rfl q_1189 dX10_readClose_114 ?_
        refine lv_iconst (v := (nI 2)) hx hcb dX10_readClose_117 (by decide) ?_
        refine lv_icmp_eq (tgt := 125) hx hcb dX10_readClose_118 (by decide) (fun c_73 => ?_) (fun c_73 => ?_)
        · skip
          have hB_ : ¬ ¬ (rc2 z).1 0 23 = nI 2 := fun q_ => q_ c_73
          refine lv_iconst (v := (nI 0)) hx hcb dX10_readClose_125 (by decide) ?_
          refine lv_bipush (v := (-11)) hx hcb dX10_readClose_126 (by decide) ?_
          refine x_cv0 rfl rfl (x_runV hx hcb hml hown hts (c_X10_failsIf l G w hw (rc2 z) _ 0 (-11) (¬ (rc2 z).1 0 23 = nI 2) (by first | (rw [if_pos hB_]; first | done | rfl) | (rw [if_neg hB_]; first | done | rfl))) mv_X10_failsIf q_1308 hK hZ hR hS (hw.lo (by decide)) xc10 (hw.s0 rfl) rfl hl.1 rfl (Nat.le_of_ble_eq_true rfl) dX10_readClose_128 ⟨by decide, by decide⟩ ⟨by decide, by decide⟩) hS (fun z_75 H locs hp_76 hR hS => ?_)
          rw [hp_76] at hR
          rw [show fiZ (rc2 z) (¬ (rc2 z).1 0 23 = nI 2) (-11) = rc3 z from rfl] at hR
          refine lv_aload_n hx hcb dX10_readClose_131 rfl (lv_at hl 0 rfl) ?_
          refine x_getI hx hcb hts hown hK xc10 hR (hw.lo (by decide)) (hw.s0 rfl) 26 (by decide) rfl q_1192 dX10_readClose_132 ?_
          refine lv_if_ne (tgt := 142) hx hcb dX10_readClose_135 (by decide) (fun c_77 => ?_) (fun c_77 => ?_)
          · skip
            have hE3_ : ¬ (rc3 z).1 0 26 = 0 := c_77
            exact hret (rc3 z) _ _ _ _ dX10_readClose_142 hR hS (by unfold rcX; first | rw [if_pos hE3_] | rw [if_neg hE3_])
          · skip
            have hE3_ : (rc3 z).1 0 26 = 0 := c_77
            refine lv_aload_n hx hcb dX10_readClose_138 rfl (lv_at hl 0 rfl) ?_
            refine x_cv0 rfl rfl (x_runV hx hcb hml hown hts (c_X10_closes l G w hw (rc3 z) _ (rc3_rok hO) (rc3_y hO hE3_) ((hcl hE3_).1) ((hcl hE3_).2)) mv_X10_closes q_1354 hK hZ hR hS (hw.lo (by decide)) xc10 (hw.s0 rfl) rfl hl.1 rfl (Nat.le_of_ble_eq_true rfl) dX10_readClose_139 ⟨by decide, by decide⟩ ⟨by decide, by decide⟩) hS (fun z_79 H locs hp_80 hR hS => ?_)
            rw [hp_80] at hR
            exact hret (clQ (rc3 z)) _ _ _ _ dX10_readClose_142 hR hS (by unfold rcX; first | rw [if_pos hE3_] | rw [if_neg hE3_])
        · skip
          have hB_ : ¬ (rc2 z).1 0 23 = nI 2 := c_73
          refine lv_iconst (v := (nI 1)) hx hcb dX10_readClose_121 (by decide) ?_
          refine lv_goto (tgt := 126) hx hcb dX10_readClose_122 (by decide) ?_
          refine lv_bipush (v := (-11)) hx hcb dX10_readClose_126 (by decide) ?_
          refine x_cv0 rfl rfl (x_runV hx hcb hml hown hts (c_X10_failsIf l G w hw (rc2 z) _ 1 (-11) (¬ (rc2 z).1 0 23 = nI 2) (by first | (rw [if_pos hB_]; first | done | rfl) | (rw [if_neg hB_]; first | done | rfl))) mv_X10_failsIf q_1308 hK hZ hR hS (hw.lo (by decide)) xc10 (hw.s0 rfl) rfl hl.1 rfl (Nat.le_of_ble_eq_true rfl) dX10_readClose_128 ⟨by decide, by decide⟩ ⟨by decide, by decide⟩) hS (fun z_82 H locs hp_83 hR hS => ?_)
          rw [hp_83] at hR
          rw [show fiZ (rc2 z) (¬ (rc2 z).1 0 23 = nI 2) (-11) = rc3 z from rfl] at hR
          refine lv_aload_n hx hcb dX10_readClose_131 rfl (lv_at hl 0 rfl) ?_
          refine x_getI hx hcb hts hown hK xc10 hR (hw.lo (by decide)) (hw.s0 rfl) 26 (by decide) rfl q_1192 dX10_readClose_132 ?_
          refine lv_if_ne (tgt := 142) hx hcb dX10_readClose_135 (by decide) (fun c_84 => ?_) (fun c_84 => ?_)
          · skip
            have hE3_ : ¬ (rc3 z).1 0 26 = 0 := c_84
            exact hret (rc3 z) _ _ _ _ dX10_readClose_142 hR hS (by unfold rcX; first | rw [if_pos hE3_] | rw [if_neg hE3_])
          · skip
            have hE3_ : (rc3 z).1 0 26 = 0 := c_84
            refine lv_aload_n hx hcb dX10_readClose_138 rfl (lv_at hl 0 rfl) ?_
            refine x_cv0 rfl rfl (x_runV hx hcb hml hown hts (c_X10_closes l G w hw (rc3 z) _ (rc3_rok hO) (rc3_y hO hE3_) ((hcl hE3_).1) ((hcl hE3_).2)) mv_X10_closes q_1354 hK hZ hR hS (hw.lo (by decide)) xc10 (hw.s0 rfl) rfl hl.1 rfl (Nat.le_of_ble_eq_true rfl) dX10_readClose_139 ⟨by decide, by decide⟩ ⟨by decide, by decide⟩) hS (fun z_86 H locs hp_87 hR hS => ?_)
            rw [hp_87] at hR
            exact hret (clQ (rc3 z)) _ _ _ _ dX10_readClose_142 hR hS (by unfold rcX; first | rw [if_pos hE3_] | rw [if_neg hE3_])
      · skip
        have c_72 : ¬ (mQ z 13) ≤ i_ := fun h_ => c_72 ((nI_leI (by omega) (by omega)).mpr h_)
        refine lv_aload_n hx hcb dX10_readClose_49 rfl (lv_at hl 0 rfl) ?_
        refine x_getI hx hcb hts hown hK xc10 hR (hw.lo (by decide)) (hw.s0 rfl) 26 (by decide) rfl q_1192 dX10_readClose_50 ?_
        refine lv_if_ne (tgt := 112) hx hcb dX10_readClose_53 (by decide) (fun c_88 => ?_) (fun c_88 => ?_)
        · skip
          have he_ : y_ = rc2 z := by rw [hf_, rkL_s (k := mQ z 13 - (i_ + 1)) (by omega), if_neg c_88]
          rw [show y_ = rc2 z from he_] at hR
          refine lv_aload_n hx hcb dX10_readClose_112 rfl (lv_at hl 0 rfl) ?_
          refine lv_aload_n hx hcb dX10_readClose_113 rfl (lv_at hl 0 rfl) ?_
          refine x_getI hx hcb hts hown hK xc10 hR (hw.lo (by decide)) (hw.s0 rfl) 23 (by decide) rfl q_1189 dX10_readClose_114 ?_
          refine lv_iconst (v := (nI 2)) hx hcb dX10_readClose_117 (by decide) ?_
          refine lv_icmp_eq (tgt := 125) hx hcb dX10_readClose_118 (by decide) (fun c_89 => ?_) (fun c_89 => ?_)
          · skip
            have hB_ : ¬ ¬ (rc2 z).1 0 23 = nI 2 := fun q_ => q_ c_89
            refine lv_iconst (v := (nI 0)) hx hcb dX10_readClose_125 (by decide) ?_
            refine lv_bipush (v := (-11)) hx hcb dX10_readClose_126 (by decide) ?_
            refine x_cv0 rfl rfl (x_runV hx hcb hml hown hts (c_X10_failsIf l G w hw (rc2 z) _ 0 (-11) (¬ (rc2 z).1 0 23 = nI 2) (by first | (rw [if_pos hB_]; first | done | rfl) | (rw [if_neg hB_]; first | done | rfl))) mv_X10_failsIf q_1308 hK hZ hR hS (hw.lo (by decide)) xc10 (hw.s0 rfl) rfl hl.1 rfl (Nat.le_of_ble_eq_true rfl) dX10_readClose_128 ⟨by decide, by decide⟩ ⟨by decide, by decide⟩) hS (fun z_91 H locs hp_92 hR hS => ?_)
            rw [hp_92] at hR
            rw [show fiZ (rc2 z) (¬ (rc2 z).1 0 23 = nI 2) (-11) = rc3 z from rfl] at hR
            refine lv_aload_n hx hcb dX10_readClose_131 rfl (lv_at hl 0 rfl) ?_
            refine x_getI hx hcb hts hown hK xc10 hR (hw.lo (by decide)) (hw.s0 rfl) 26 (by decide) rfl q_1192 dX10_readClose_132 ?_
            refine lv_if_ne (tgt := 142) hx hcb dX10_readClose_135 (by decide) (fun c_93 => ?_) (fun c_93 => ?_)
            · skip
              have hE3_ : ¬ (rc3 z).1 0 26 = 0 := c_93
              exact hret (rc3 z) _ _ _ _ dX10_readClose_142 hR hS (by unfold rcX; first | rw [if_pos hE3_] | rw [if_neg hE3_])
            · skip
              have hE3_ : (rc3 z).1 0 26 = 0 := c_93
              refine lv_aload_n hx hcb dX10_readClose_138 rfl (lv_at hl 0 rfl) ?_
              refine x_cv0 rfl rfl (x_runV hx hcb hml hown hts (c_X10_closes l G w hw (rc3 z) _ (rc3_rok hO) (rc3_y hO hE3_) ((hcl hE3_).1) ((hcl hE3_).2)) mv_X10_closes q_1354 hK hZ hR hS (hw.lo (by decide)) xc10 (hw.s0 rfl) rfl hl.1 rfl (Nat.le_of_ble_eq_true rfl) dX10_readClose_139 ⟨by decide, by decide⟩ ⟨by decide, by decide⟩) hS (fun z_95 H locs hp_96 hR hS => ?_)
              rw [hp_96] at hR
              exact hret (clQ (rc3 z)) _ _ _ _ dX10_readClose_142 hR hS (by unfold rcX; first | rw [if_pos hE3_] | rw [if_neg hE3_])
          · skip
            have hB_ : ¬ (rc2 z).1 0 23 = nI 2 := c_89
            refine lv_iconst (v := (nI 1)) hx hcb dX10_readClose_121 (by decide) ?_
            refine lv_goto (tgt := 126) hx hcb dX10_readClose_122 (by decide) ?_
            refine lv_bipush (v := (-11)) hx hcb dX10_readClose_126 (by decide) ?_
            refine x_cv0 rfl rfl (x_runV hx hcb hml hown hts (c_X10_failsIf l G w hw (rc2 z) _ 1 (-11) (¬ (rc2 z).1 0 23 = nI 2) (by first | (rw [if_pos hB_]; first | done | rfl) | (rw [if_neg hB_]; first | done | rfl))) mv_X10_failsIf q_1308 hK hZ hR hS (hw.lo (by decide)) xc10 (hw.s0 rfl) rfl hl.1 rfl (Nat.le_of_ble_eq_true rfl) dX10_readClose_128 ⟨by decide, by decide⟩ ⟨by decide, by decide⟩) hS (fun z_98 H locs hp_99 hR hS => ?_)
            rw [hp_99] at hR
            rw [show fiZ (rc2 z) (¬ (rc2 z).1 0 23 = nI 2) (-11) = rc3 z from rfl] at hR
            refine lv_aload_n hx hcb dX10_readClose_131 rfl (lv_at hl 0 rfl) ?_
            refine x_getI hx hcb hts hown hK xc10 hR (hw.lo (by decide)) (hw.s0 rfl) 26 (by decide) rfl q_1192 dX10_readClose_132 ?_
            refine lv_if_ne (tgt := 142) hx hcb dX10_readClose_135 (by decide) (fun c_100 => ?_) (fun c_100 => ?_)
            · skip
              have hE3_ : ¬ (rc3 z).1 0 26 = 0 := c_100
              exact hret (rc3 z) _ _ _ _ dX10_readClose_142 hR hS (by unfold rcX; first | rw [if_pos hE3_] | rw [if_neg hE3_])
            · skip
              have hE3_ : (rc3 z).1 0 26 = 0 := c_100
              refine lv_aload_n hx hcb dX10_readClose_138 rfl (lv_at hl 0 rfl) ?_
              refine x_cv0 rfl rfl (x_runV hx hcb hml hown hts (c_X10_closes l G w hw (rc3 z) _ (rc3_rok hO) (rc3_y hO hE3_) ((hcl hE3_).1) ((hcl hE3_).2)) mv_X10_closes q_1354 hK hZ hR hS (hw.lo (by decide)) xc10 (hw.s0 rfl) rfl hl.1 rfl (Nat.le_of_ble_eq_true rfl) dX10_readClose_139 ⟨by decide, by decide⟩ ⟨by decide, by decide⟩) hS (fun z_102 H locs hp_103 hR hS => ?_)
              rw [hp_103] at hR
              exact hret (clQ (rc3 z)) _ _ _ _ dX10_readClose_142 hR hS (by unfold rcX; first | rw [if_pos hE3_] | rw [if_neg hE3_])
        · skip
          have he0_ : y_.1 0 26 = 0 := c_88
          refine lv_aload_n hx hcb dX10_readClose_56 rfl (lv_at hl 0 rfl) ?_
          refine x_getI hx hcb hts hown hK xc10 hR (hw.lo (by decide)) (hw.s0 rfl) 23 (by decide) rfl q_1189 dX10_readClose_57 ?_
          refine lv_iconst (v := (nI 3)) hx hcb dX10_readClose_60 (by decide) ?_
          refine lv_icmp_ne (tgt := 68) hx hcb dX10_readClose_61 (by decide) (fun c_104 => ?_) (fun c_104 => ?_)
          · skip
            have h3_ : ¬ y_.1 0 23 = nI 3 := c_104
            refine lv_iconst (v := (nI 0)) hx hcb dX10_readClose_68 (by decide) ?_
            refine lv_istore_n (lv' := [(2, .int (nI 0)), (0, .ref (w.2.2 0)), (1, .int (nI i_))]) hx hcb dX10_readClose_69 rfl hl (by decide) rfl (fun ls hl => ?_)
            refine lv_iload_n hx hcb dX10_readClose_70 rfl (lv_at hl 0 rfl) ?_
            refine lv_if_eq (tgt := 78) hx hcb dX10_readClose_71 (by decide) (fun c_105 => ?_) (fun c_105 => ?_)
            · skip
              rw [show y_ = rc1 y_ from (if_neg h3_).symm] at hR
              refine lv_aload_n hx hcb dX10_readClose_78 rfl (lv_at hl 1 rfl) ?_
              refine lv_iconst (v := (nI 0)) hx hcb dX10_readClose_79 (by decide) ?_
              refine lv_ldc (v := (nI 1000000)) hx hcb hown (hts _ q_1345) dX10_readClose_80 ?_
              refine x_ci0 rfl rfl (x_runV hx hcb hml hown hts (c_X10_figure l G w hw (rc1 y_) _ 0 1000000) mv_X10_figure q_1341 hK hZ hR hS (hw.lo (by decide)) xc10 (hw.s0 rfl) rfl hl.1 rfl (Nat.le_of_ble_eq_true rfl) dX10_readClose_82 ⟨by decide, by decide⟩ ⟨by decide, by decide⟩) hS (fun r_106 z_107 H locs hp_108 hR hS => ?_)
              rw [hp_108.2] at hR; rw [hp_108.1]
              refine x_top (show (fgR (rc1 y_) 0 1000000) = (rcV y_) from rfl) ?_
              refine lv_istore_n (lv' := [(3, .int (rcV y_)), (2, .int (nI 0)), (0, .ref (w.2.2 0)), (1, .int (nI i_))]) hx hcb dX10_readClose_85 rfl hl (by decide) rfl (fun ls hl => ?_)
              refine lv_aload_n hx hcb dX10_readClose_86 rfl (lv_at hl 2 rfl) ?_
              refine x_getR hx hcb hts hown hK xc10 hR (hw.lo (by decide)) (hw.s0 rfl) 12 (by decide) rfl q_1178 dX10_readClose_87 ?_
              refine lv_iload_n hx hcb dX10_readClose_90 rfl (lv_at hl 3 rfl) ?_
              refine lv_iload_n hx hcb dX10_readClose_91 rfl (lv_at hl 1 rfl) ?_
              refine lv_if_eq (tgt := 100) hx hcb dX10_readClose_92 (by decide) (fun c_109 => ?_) (fun c_109 => ?_)
              · skip
                refine lv_iload_n hx hcb dX10_readClose_100 rfl (lv_at hl 0 rfl) ?_
                refine x_top (show (rcV y_) = (rcW y_) from by unfold rcW; first | rw [if_pos h3_] | rw [if_neg h3_]) ?_
                refine x_iast hx hcb hK hR hS (hw.lo (by decide)) (hw.s0 rfl) (k := i_) (v := (rcW y_)) (by omega) (by decide) dX10_readClose_101 (fun H locs hR hS => ?_)
                rw [show u1 (fgZ (rc1 y_) 0 1000000) 10 i_ (rcW y_) = rcU y_ i_ from rfl] at hR
                refine lv_aload_n hx hcb dX10_readClose_102 rfl (lv_at hl 2 rfl) ?_
                refine x_cv0 rfl rfl (x_runV hx hcb hml hown hts (c_X10_goOn l G w hw (rcU y_ i_) _ ((rcU_ok (d := i_) hz_).1)) mv_X10_goOn q_1312 hK hZ hR hS (hw.lo (by decide)) xc10 (hw.s0 rfl) rfl hl.1 rfl (Nat.le_of_ble_eq_true rfl) dX10_readClose_103 ⟨by decide, by decide⟩ ⟨by decide, by decide⟩) hS (fun z_111 H locs hp_112 hR hS => ?_)
                rw [hp_112] at hR
                rw [show goZ (rcU y_ i_) = rkS y_ i_ from rfl] at hR
                refine lv_iinc (v := (nI (i_ + 1))) (lv' := [(1, .int (nI (i_ + 1))), (3, .int (rcV y_)), (2, .int (nI 0)), (0, .ref (w.2.2 0))]) hx hcb dX10_readClose_106 hl (k := 3) rfl (x_iinc1 _) (by decide) rfl (fun ls hl => ?_)
                refine lv_goto (tgt := 38) hx hcb dX10_readClose_109 (by decide) ?_
                exact ih_38 (i_ + 1) (rkS y_ i_) (by omega) (by omega) (rkS_ok hz_) (hfr_.tr (rkS_fr y_ i_)) (by rw [hf_, rkL_s (k := mQ z 13 - (i_ + 1)) (by omega), if_pos he0_]) _ _ _ hR hS (lv_sub hl [3, 0] rfl)
              · skip
                first | exact absurd c_109 (by decide) | exact absurd (by decide) c_109
            · skip
              first | exact absurd c_105 (by decide) | exact absurd (by decide) c_105
          · skip
            have h3_ : y_.1 0 23 = nI 3 := c_104
            refine lv_iconst (v := (nI 1)) hx hcb dX10_readClose_64 (by decide) ?_
            refine lv_goto (tgt := 69) hx hcb dX10_readClose_65 (by decide) ?_
            refine lv_istore_n (lv' := [(2, .int (nI 1)), (0, .ref (w.2.2 0)), (1, .int (nI i_))]) hx hcb dX10_readClose_69 rfl hl (by decide) rfl (fun ls hl => ?_)
            refine lv_iload_n hx hcb dX10_readClose_70 rfl (lv_at hl 0 rfl) ?_
            refine lv_if_eq (tgt := 78) hx hcb dX10_readClose_71 (by decide) (fun c_113 => ?_) (fun c_113 => ?_)
            · skip
              first | exact absurd c_113 (by decide) | exact absurd (by decide) c_113
            · skip
              refine lv_aload_n hx hcb dX10_readClose_74 rfl (lv_at hl 1 rfl) ?_
              refine x_cv0 rfl rfl (x_runV hx hcb hml hown hts (c_X10_next l G w hw y_ _ hz_.1) mv_X10_next q_1278 hK hZ hR hS (hw.lo (by decide)) xc10 (hw.s0 rfl) rfl hl.1 rfl (Nat.le_of_ble_eq_true rfl) dX10_readClose_75 ⟨by decide, by decide⟩ ⟨by decide, by decide⟩) hS (fun z_115 H locs hp_116 hR hS => ?_)
              rw [hp_116] at hR
              rw [show nqZ y_ = rc1 y_ from (if_pos h3_).symm] at hR
              refine lv_aload_n hx hcb dX10_readClose_78 rfl (lv_at hl 1 rfl) ?_
              refine lv_iconst (v := (nI 0)) hx hcb dX10_readClose_79 (by decide) ?_
              refine lv_ldc (v := (nI 1000000)) hx hcb hown (hts _ q_1345) dX10_readClose_80 ?_
              refine x_ci0 rfl rfl (x_runV hx hcb hml hown hts (c_X10_figure l G w hw (rc1 y_) _ 0 1000000) mv_X10_figure q_1341 hK hZ hR hS (hw.lo (by decide)) xc10 (hw.s0 rfl) rfl hl.1 rfl (Nat.le_of_ble_eq_true rfl) dX10_readClose_82 ⟨by decide, by decide⟩ ⟨by decide, by decide⟩) hS (fun r_117 z_118 H locs hp_119 hR hS => ?_)
              rw [hp_119.2] at hR; rw [hp_119.1]
              refine x_top (show (fgR (rc1 y_) 0 1000000) = (rcV y_) from rfl) ?_
              refine lv_istore_n (lv' := [(3, .int (rcV y_)), (2, .int (nI 1)), (0, .ref (w.2.2 0)), (1, .int (nI i_))]) hx hcb dX10_readClose_85 rfl hl (by decide) rfl (fun ls hl => ?_)
              refine lv_aload_n hx hcb dX10_readClose_86 rfl (lv_at hl 2 rfl) ?_
              refine x_getR hx hcb hts hown hK xc10 hR (hw.lo (by decide)) (hw.s0 rfl) 12 (by decide) rfl q_1178 dX10_readClose_87 ?_
              refine lv_iload_n hx hcb dX10_readClose_90 rfl (lv_at hl 3 rfl) ?_
              refine lv_iload_n hx hcb dX10_readClose_91 rfl (lv_at hl 1 rfl) ?_
              refine lv_if_eq (tgt := 100) hx hcb dX10_readClose_92 (by decide) (fun c_120 => ?_) (fun c_120 => ?_)
              · skip
                first | exact absurd c_120 (by decide) | exact absurd (by decide) c_120
              · skip
                refine lv_iload_n hx hcb dX10_readClose_95 rfl (lv_at hl 0 rfl) ?_
                refine lv_ineg hx hcb dX10_readClose_96 ?_
                refine lv_goto (tgt := 101) hx hcb dX10_readClose_97 (by decide) ?_
                refine x_top (show (-(rcV y_)) = (rcW y_) from by unfold rcW; first | rw [if_pos h3_] | rw [if_neg h3_]) ?_
                refine x_iast hx hcb hK hR hS (hw.lo (by decide)) (hw.s0 rfl) (k := i_) (v := (rcW y_)) (by omega) (by decide) dX10_readClose_101 (fun H locs hR hS => ?_)
                rw [show u1 (fgZ (rc1 y_) 0 1000000) 10 i_ (rcW y_) = rcU y_ i_ from rfl] at hR
                refine lv_aload_n hx hcb dX10_readClose_102 rfl (lv_at hl 2 rfl) ?_
                refine x_cv0 rfl rfl (x_runV hx hcb hml hown hts (c_X10_goOn l G w hw (rcU y_ i_) _ ((rcU_ok (d := i_) hz_).1)) mv_X10_goOn q_1312 hK hZ hR hS (hw.lo (by decide)) xc10 (hw.s0 rfl) rfl hl.1 rfl (Nat.le_of_ble_eq_true rfl) dX10_readClose_103 ⟨by decide, by decide⟩ ⟨by decide, by decide⟩) hS (fun z_122 H locs hp_123 hR hS => ?_)
                rw [hp_123] at hR
                rw [show goZ (rcU y_ i_) = rkS y_ i_ from rfl] at hR
                refine lv_iinc (v := (nI (i_ + 1))) (lv' := [(1, .int (nI (i_ + 1))), (3, .int (rcV y_)), (2, .int (nI 1)), (0, .ref (w.2.2 0))]) hx hcb dX10_readClose_106 hl (k := 3) rfl (x_iinc1 _) (by decide) rfl (fun ls hl => ?_)
                refine lv_goto (tgt := 38) hx hcb dX10_readClose_109 (by decide) ?_
                exact ih_38 (i_ + 1) (rkS y_ i_) (by omega) (by omega) (rkS_ok hz_) (hfr_.tr (rkS_fr y_ i_)) (by rw [hf_, rkL_s (k := mQ z 13 - (i_ + 1)) (by omega), if_pos he0_]) _ _ _ hR hS (lv_sub hl [3, 0] rfl)
def rm_X10_readSet : Room := { frames := 7, cells := 0, slots := 0, locals := 149 }
set_option maxRecDepth 100000 in
set_option maxHeartbeats 4000000 in
theorem c_X10_readSet (l : Launch) (G : xGl) (w : xWd) (hw : isM w) (z : xSt) (sz : Nat)  (hT : zOk z) : xMv l yX10_readSet cX10_readSet 3 rm_X10_readSet G w z sz [.ref (w.2.2 0)] (fun z1 => z1 = rsZ z) := by
  refine x_mv (by decide) (Nat.le_of_ble_eq_true rfl) ?_
  intro p e s mt args below meth c ls Q hsz X hR hS hl hret
  obtain ⟨hx, hcb, hml, hown, hts, hlk, hK, hZ⟩ := X
  have hl : lv_has ls 3 [(0, .ref (w.2.2 0))] := hl
  have hk5_ := rsK_lt (z := z) hT
  refine lv_aload_n hx hcb dX10_readSet_0 rfl (lv_at hl 0 rfl) ?_
  refine x_cv0 rfl rfl (x_runV hx hcb hml hown hts (c_X10_goOn l G w hw z _ hT.1) mv_X10_goOn q_1312 hK hZ hR hS (hw.lo (by decide)) xc10 (hw.s0 rfl) rfl hl.1 rfl (Nat.le_of_ble_eq_true rfl) dX10_readSet_1 ⟨by decide, by decide⟩ ⟨by decide, by decide⟩) hS (fun z_2 H locs hp_3 hR hS => ?_)
  rw [hp_3] at hR
  rw [show goZ z = goZ z from rfl] at hR
  refine lv_aload_n hx hcb dX10_readSet_4 rfl (lv_at hl 0 rfl) ?_
  refine x_getI hx hcb hts hown hK xc10 hR (hw.lo (by decide)) (hw.s0 rfl) 26 (by decide) rfl q_1192 dX10_readSet_5 ?_
  refine lv_if_ne (tgt := 31) hx hcb dX10_readSet_8 (by decide) (fun c_4 => ?_) (fun c_4 => ?_)
  · skip
    have hI_ : ¬ rsI z := fun q_ => c_4 q_.1
    have hA_ : ¬ rsI z := hI_
    refine lv_iconst (v := (nI 0)) hx hcb dX10_readSet_31 (by decide) ?_
    refine lv_istore_n (lv' := [(1, .int (nI 0)), (0, .ref (w.2.2 0))]) hx hcb dX10_readSet_32 rfl hl (by decide) rfl (fun ls hl => ?_)
    refine lv_aload_n hx hcb dX10_readSet_33 rfl (lv_at hl 1 rfl) ?_
    refine lv_iload_n hx hcb dX10_readSet_34 rfl (lv_at hl 0 rfl) ?_
    refine lv_if_ne (tgt := 42) hx hcb dX10_readSet_35 (by decide) (fun c_5 => ?_) (fun c_5 => ?_)
    · skip
      first | exact absurd c_5 (by decide) | exact absurd (by decide) c_5
    · skip
      refine lv_iconst (v := (nI 1)) hx hcb dX10_readSet_38 (by decide) ?_
      refine lv_goto (tgt := 43) hx hcb dX10_readSet_39 (by decide) ?_
      refine lv_bipush (v := (-11)) hx hcb dX10_readSet_43 (by decide) ?_
      refine x_cv0 rfl rfl (x_runV hx hcb hml hown hts (c_X10_failsIf l G w hw (goZ z) _ 1 (-11) (¬ rsI z) (by first | (rw [if_pos hA_]; first | done | rfl) | (rw [if_neg hA_]; first | done | rfl))) mv_X10_failsIf q_1308 hK hZ hR hS (hw.lo (by decide)) xc10 (hw.s0 rfl) rfl hl.1 rfl (Nat.le_of_ble_eq_true rfl) dX10_readSet_45 ⟨by decide, by decide⟩ ⟨by decide, by decide⟩) hS (fun z_7 H locs hp_8 hR hS => ?_)
      rw [hp_8] at hR
      rw [show fiZ (goZ z) (¬ rsI z) (-11) = rs2 z from rfl] at hR
      refine lv_iload_n hx hcb dX10_readSet_48 rfl (lv_at hl 0 rfl) ?_
      refine lv_if_eq (tgt := 62) hx hcb dX10_readSet_49 (by decide) (fun c_9 => ?_) (fun c_9 => ?_)
      · skip
        refine lv_iconst (v := (nI 0)) hx hcb dX10_readSet_62 (by decide) ?_
        refine x_top (show (nI 0) = nI (rsK z) from by first | exact rsK_y hT hI_ | exact rsK_n hI_) ?_
        refine lv_istore_n (lv' := [(2, .int (nI (rsK z))), (1, .int (nI 0)), (0, .ref (w.2.2 0))]) hx hcb dX10_readSet_63 rfl hl (by decide) rfl (fun ls hl => ?_)
        refine lv_aload_n hx hcb dX10_readSet_64 rfl (lv_at hl 2 rfl) ?_
        refine lv_aload_n hx hcb dX10_readSet_65 rfl (lv_at hl 2 rfl) ?_
        refine x_getI hx hcb hts hown hK xc10 hR (hw.lo (by decide)) (hw.s0 rfl) 30 (by decide) rfl q_1196 dX10_readSet_66 ?_
        refine x_top (show ((rs2 z).1 0 30) = ((rs2 z).1 0 30) from rfl) ?_
        refine lv_iload_n hx hcb dX10_readSet_69 rfl (lv_at hl 0 rfl) ?_
        refine lv_ishr hx hcb dX10_readSet_70 ?_
        refine lv_iconst (v := (nI 1)) hx hcb dX10_readSet_71 (by decide) ?_
        refine lv_iand hx hcb dX10_readSet_72 ?_
        refine lv_iconst (v := (nI 1)) hx hcb dX10_readSet_73 (by decide) ?_
        refine lv_icmp_ne (tgt := 81) hx hcb dX10_readSet_74 (by decide) (fun c_10 => ?_) (fun c_10 => ?_)
        · skip
          have hB_ : ¬ ((rs2 z).1 0 30 >>> (nI (rsK z) &&& 31) &&& nI 1 = nI 1) := c_10
          refine lv_iconst (v := (nI 0)) hx hcb dX10_readSet_81 (by decide) ?_
          refine lv_bipush (v := (-14)) hx hcb dX10_readSet_82 (by decide) ?_
          refine x_cv0 rfl rfl (x_runV hx hcb hml hown hts (c_X10_failsIf l G w hw (rs2 z) _ 0 (-14) ((rs2 z).1 0 30 >>> (nI (rsK z) &&& 31) &&& nI 1 = nI 1) (by first | (rw [if_pos hB_]; first | done | rfl) | (rw [if_neg hB_]; first | done | rfl))) mv_X10_failsIf q_1308 hK hZ hR hS (hw.lo (by decide)) xc10 (hw.s0 rfl) rfl hl.1 rfl (Nat.le_of_ble_eq_true rfl) dX10_readSet_84 ⟨by decide, by decide⟩ ⟨by decide, by decide⟩) hS (fun z_12 H locs hp_13 hR hS => ?_)
          rw [hp_13] at hR
          rw [show fiZ (rs2 z) ((rs2 z).1 0 30 >>> (nI (rsK z) &&& 31) &&& nI 1 = nI 1) (-14) = rs3 z from rfl] at hR
          refine lv_aload_n hx hcb dX10_readSet_87 rfl (lv_at hl 2 rfl) ?_
          refine lv_dup hx hcb dX10_readSet_88 rfl ?_
          refine x_getI hx hcb hts hown hK xc10 hR (hw.lo (by decide)) (hw.s0 rfl) 30 (by decide) rfl q_1196 dX10_readSet_89 ?_
          refine x_top (show ((rs3 z).1 0 30) = ((rs3 z).1 0 30) from rfl) ?_
          refine lv_iconst (v := (nI 1)) hx hcb dX10_readSet_92 (by decide) ?_
          refine lv_iload_n hx hcb dX10_readSet_93 rfl (lv_at hl 0 rfl) ?_
          refine lv_ishl hx hcb dX10_readSet_94 ?_
          refine lv_ior hx hcb dX10_readSet_95 ?_
          refine x_putI hx hcb hts hown hK xc10 hR hS (hw.lo (by decide)) (hw.s0 rfl) 30 (by decide) rfl q_1196 rfl (v := (((rs3 z).1 0 30) ||| ((nI 1) <<< ((nI (rsK z)) &&& 31)))) rfl rfl dX10_readSet_96 (fun H locs hR hS => ?_)
          rw [show u1 (rs3 z) 0 30 (((rs3 z).1 0 30) ||| ((nI 1) <<< ((nI (rsK z)) &&& 31))) = rs4 z from rfl] at hR
          refine lv_aload_n hx hcb dX10_readSet_99 rfl (lv_at hl 2 rfl) ?_
          refine x_cv0 rfl rfl (x_runV hx hcb hml hown hts (c_X10_goOn l G w hw (rs4 z) _ ((rs4_ok hT).1)) mv_X10_goOn q_1312 hK hZ hR hS (hw.lo (by decide)) xc10 (hw.s0 rfl) rfl hl.1 rfl (Nat.le_of_ble_eq_true rfl) dX10_readSet_100 ⟨by decide, by decide⟩ ⟨by decide, by decide⟩) hS (fun z_15 H locs hp_16 hR hS => ?_)
          rw [hp_16] at hR
          rw [show goZ (rs4 z) = goZ (rs4 z) from rfl] at hR
          refine lv_aload_n hx hcb dX10_readSet_103 rfl (lv_at hl 2 rfl) ?_
          refine x_getR hx hcb hts hown hK xc10 hR (hw.lo (by decide)) (hw.s0 rfl) 5 (by decide) rfl q_1171 dX10_readSet_104 ?_
          refine lv_iconst (v := (nI 0)) hx hcb dX10_readSet_107 (by decide) ?_
          refine lv_iload_n hx hcb dX10_readSet_108 rfl (lv_at hl 0 rfl) ?_
          refine x_iaddN hx hcb dX10_readSet_109 ?_
          refine lv_aload_n hx hcb dX10_readSet_110 rfl (lv_at hl 2 rfl) ?_
          refine lv_iload_n hx hcb dX10_readSet_111 rfl (lv_at hl 0 rfl) ?_
          refine x_ci0 rfl rfl (x_runS hx hcb hml hown hts (c_X10_leastOf l G w hw (goZ (rs4 z)) _ (rsK z) hk5_) ms_X10_leastOf q_1411 hK hZ hR hS rfl hl.1 rfl (Nat.le_of_ble_eq_true rfl) dX10_readSet_112 ⟨by decide, by decide⟩ ⟨by decide, by decide⟩) hS (fun r_17 z_18 H locs hp_19 hR hS => ?_)
          rw [hp_19.2] at hR; rw [hp_19.1]
          refine x_top (show (xLea (rsK z)) = (xLea (rsK z)) from rfl) ?_
          refine lv_iload_n hx hcb dX10_readSet_115 rfl (lv_at hl 0 rfl) ?_
          refine x_ci0 rfl rfl (x_runS hx hcb hml hown hts (c_X10_mostOf l G w hw (goZ (rs4 z)) _ (rsK z) hk5_) ms_X10_mostOf q_1414 hK hZ hR hS rfl hl.1 rfl (Nat.le_of_ble_eq_true rfl) dX10_readSet_116 ⟨by decide, by decide⟩ ⟨by decide, by decide⟩) hS (fun r_20 z_21 H locs hp_22 hR hS => ?_)
          rw [hp_22.2] at hR; rw [hp_22.1]
          refine x_top (show (xGre (rsK z)) = (xGre (rsK z)) from rfl) ?_
          refine x_ci0 rfl rfl (x_runV hx hcb hml hown hts (c_X10_figure l G w hw (goZ (rs4 z)) _ (xLea (rsK z)) (xGre (rsK z))) mv_X10_figure q_1341 hK hZ hR hS (hw.lo (by decide)) xc10 (hw.s0 rfl) rfl hl.1 rfl (Nat.le_of_ble_eq_true rfl) dX10_readSet_119 ⟨by decide, by decide⟩ ⟨by decide, by decide⟩) hS (fun r_23 z_24 H locs hp_25 hR hS => ?_)
          rw [hp_25.2] at hR; rw [hp_25.1]
          refine x_top (show (fgR (goZ (rs4 z)) (xLea (rsK z)) (xGre (rsK z))) = (rsV z) from rfl) ?_
          rw [show fgZ (goZ (rs4 z)) (xLea (rsK z)) (xGre (rsK z)) = rs6 z from rfl] at hR
          refine x_iast hx hcb hK hR hS (hw.lo (by decide)) (hw.s0 rfl) (k := (0 + (rsK z))) (v := (rsV z)) (by omega) (by decide) dX10_readSet_122 (fun H locs hR hS => ?_)
          rw [show u1 (rs6 z) 4 (0 + (rsK z)) (rsV z) = rs7 z from rfl] at hR
          refine lv_aload_n hx hcb dX10_readSet_123 rfl (lv_at hl 2 rfl) ?_
          refine x_cv0 rfl rfl (x_runV hx hcb hml hown hts (c_X10_goOn l G w hw (rs7 z) _ ((rs7_ok hT).1)) mv_X10_goOn q_1312 hK hZ hR hS (hw.lo (by decide)) xc10 (hw.s0 rfl) rfl hl.1 rfl (Nat.le_of_ble_eq_true rfl) dX10_readSet_124 ⟨by decide, by decide⟩ ⟨by decide, by decide⟩) hS (fun z_27 H locs hp_28 hR hS => ?_)
          rw [hp_28] at hR
          exact hret (goZ (rs7 z)) _ _ _ _ dX10_readSet_127 hR hS rfl
        · skip
          have hB_ : (rs2 z).1 0 30 >>> (nI (rsK z) &&& 31) &&& nI 1 = nI 1 := c_10
          refine lv_iconst (v := (nI 1)) hx hcb dX10_readSet_77 (by decide) ?_
          refine lv_goto (tgt := 82) hx hcb dX10_readSet_78 (by decide) ?_
          refine lv_bipush (v := (-14)) hx hcb dX10_readSet_82 (by decide) ?_
          refine x_cv0 rfl rfl (x_runV hx hcb hml hown hts (c_X10_failsIf l G w hw (rs2 z) _ 1 (-14) ((rs2 z).1 0 30 >>> (nI (rsK z) &&& 31) &&& nI 1 = nI 1) (by first | (rw [if_pos hB_]; first | done | rfl) | (rw [if_neg hB_]; first | done | rfl))) mv_X10_failsIf q_1308 hK hZ hR hS (hw.lo (by decide)) xc10 (hw.s0 rfl) rfl hl.1 rfl (Nat.le_of_ble_eq_true rfl) dX10_readSet_84 ⟨by decide, by decide⟩ ⟨by decide, by decide⟩) hS (fun z_30 H locs hp_31 hR hS => ?_)
          rw [hp_31] at hR
          rw [show fiZ (rs2 z) ((rs2 z).1 0 30 >>> (nI (rsK z) &&& 31) &&& nI 1 = nI 1) (-14) = rs3 z from rfl] at hR
          refine lv_aload_n hx hcb dX10_readSet_87 rfl (lv_at hl 2 rfl) ?_
          refine lv_dup hx hcb dX10_readSet_88 rfl ?_
          refine x_getI hx hcb hts hown hK xc10 hR (hw.lo (by decide)) (hw.s0 rfl) 30 (by decide) rfl q_1196 dX10_readSet_89 ?_
          refine x_top (show ((rs3 z).1 0 30) = ((rs3 z).1 0 30) from rfl) ?_
          refine lv_iconst (v := (nI 1)) hx hcb dX10_readSet_92 (by decide) ?_
          refine lv_iload_n hx hcb dX10_readSet_93 rfl (lv_at hl 0 rfl) ?_
          refine lv_ishl hx hcb dX10_readSet_94 ?_
          refine lv_ior hx hcb dX10_readSet_95 ?_
          refine x_putI hx hcb hts hown hK xc10 hR hS (hw.lo (by decide)) (hw.s0 rfl) 30 (by decide) rfl q_1196 rfl (v := (((rs3 z).1 0 30) ||| ((nI 1) <<< ((nI (rsK z)) &&& 31)))) rfl rfl dX10_readSet_96 (fun H locs hR hS => ?_)
          rw [show u1 (rs3 z) 0 30 (((rs3 z).1 0 30) ||| ((nI 1) <<< ((nI (rsK z)) &&& 31))) = rs4 z from rfl] at hR
          refine lv_aload_n hx hcb dX10_readSet_99 rfl (lv_at hl 2 rfl) ?_
          refine x_cv0 rfl rfl (x_runV hx hcb hml hown hts (c_X10_goOn l G w hw (rs4 z) _ ((rs4_ok hT).1)) mv_X10_goOn q_1312 hK hZ hR hS (hw.lo (by decide)) xc10 (hw.s0 rfl) rfl hl.1 rfl (Nat.le_of_ble_eq_true rfl) dX10_readSet_100 ⟨by decide, by decide⟩ ⟨by decide, by decide⟩) hS (fun z_33 H locs hp_34 hR hS => ?_)
          rw [hp_34] at hR
          rw [show goZ (rs4 z) = goZ (rs4 z) from rfl] at hR
          refine lv_aload_n hx hcb dX10_readSet_103 rfl (lv_at hl 2 rfl) ?_
          refine x_getR hx hcb hts hown hK xc10 hR (hw.lo (by decide)) (hw.s0 rfl) 5 (by decide) rfl q_1171 dX10_readSet_104 ?_
          refine lv_iconst (v := (nI 0)) hx hcb dX10_readSet_107 (by decide) ?_
          refine lv_iload_n hx hcb dX10_readSet_108 rfl (lv_at hl 0 rfl) ?_
          refine x_iaddN hx hcb dX10_readSet_109 ?_
          refine lv_aload_n hx hcb dX10_readSet_110 rfl (lv_at hl 2 rfl) ?_
          refine lv_iload_n hx hcb dX10_readSet_111 rfl (lv_at hl 0 rfl) ?_
          refine x_ci0 rfl rfl (x_runS hx hcb hml hown hts (c_X10_leastOf l G w hw (goZ (rs4 z)) _ (rsK z) hk5_) ms_X10_leastOf q_1411 hK hZ hR hS rfl hl.1 rfl (Nat.le_of_ble_eq_true rfl) dX10_readSet_112 ⟨by decide, by decide⟩ ⟨by decide, by decide⟩) hS (fun r_35 z_36 H locs hp_37 hR hS => ?_)
          rw [hp_37.2] at hR; rw [hp_37.1]
          refine x_top (show (xLea (rsK z)) = (xLea (rsK z)) from rfl) ?_
          refine lv_iload_n hx hcb dX10_readSet_115 rfl (lv_at hl 0 rfl) ?_
          refine x_ci0 rfl rfl (x_runS hx hcb hml hown hts (c_X10_mostOf l G w hw (goZ (rs4 z)) _ (rsK z) hk5_) ms_X10_mostOf q_1414 hK hZ hR hS rfl hl.1 rfl (Nat.le_of_ble_eq_true rfl) dX10_readSet_116 ⟨by decide, by decide⟩ ⟨by decide, by decide⟩) hS (fun r_38 z_39 H locs hp_40 hR hS => ?_)
          rw [hp_40.2] at hR; rw [hp_40.1]
          refine x_top (show (xGre (rsK z)) = (xGre (rsK z)) from rfl) ?_
          refine x_ci0 rfl rfl (x_runV hx hcb hml hown hts (c_X10_figure l G w hw (goZ (rs4 z)) _ (xLea (rsK z)) (xGre (rsK z))) mv_X10_figure q_1341 hK hZ hR hS (hw.lo (by decide)) xc10 (hw.s0 rfl) rfl hl.1 rfl (Nat.le_of_ble_eq_true rfl) dX10_readSet_119 ⟨by decide, by decide⟩ ⟨by decide, by decide⟩) hS (fun r_41 z_42 H locs hp_43 hR hS => ?_)
          rw [hp_43.2] at hR; rw [hp_43.1]
          refine x_top (show (fgR (goZ (rs4 z)) (xLea (rsK z)) (xGre (rsK z))) = (rsV z) from rfl) ?_
          rw [show fgZ (goZ (rs4 z)) (xLea (rsK z)) (xGre (rsK z)) = rs6 z from rfl] at hR
          refine x_iast hx hcb hK hR hS (hw.lo (by decide)) (hw.s0 rfl) (k := (0 + (rsK z))) (v := (rsV z)) (by omega) (by decide) dX10_readSet_122 (fun H locs hR hS => ?_)
          rw [show u1 (rs6 z) 4 (0 + (rsK z)) (rsV z) = rs7 z from rfl] at hR
          refine lv_aload_n hx hcb dX10_readSet_123 rfl (lv_at hl 2 rfl) ?_
          refine x_cv0 rfl rfl (x_runV hx hcb hml hown hts (c_X10_goOn l G w hw (rs7 z) _ ((rs7_ok hT).1)) mv_X10_goOn q_1312 hK hZ hR hS (hw.lo (by decide)) xc10 (hw.s0 rfl) rfl hl.1 rfl (Nat.le_of_ble_eq_true rfl) dX10_readSet_124 ⟨by decide, by decide⟩ ⟨by decide, by decide⟩) hS (fun z_45 H locs hp_46 hR hS => ?_)
          rw [hp_46] at hR
          exact hret (goZ (rs7 z)) _ _ _ _ dX10_readSet_127 hR hS rfl
      · skip
        first | exact absurd c_9 (by decide) | exact absurd (by decide) c_9
  · skip
    have h1_ := c_4
    refine lv_aload_n hx hcb dX10_readSet_11 rfl (lv_at hl 0 rfl) ?_
    refine x_getI hx hcb hts hown hK xc10 hR (hw.lo (by decide)) (hw.s0 rfl) 23 (by decide) rfl q_1189 dX10_readSet_12 ?_
    refine lv_if_ne (tgt := 31) hx hcb dX10_readSet_15 (by decide) (fun c_47 => ?_) (fun c_47 => ?_)
    · skip
      have hI_ : ¬ rsI z := fun q_ => c_47 q_.2.1
      have hA_ : ¬ rsI z := hI_
      refine lv_iconst (v := (nI 0)) hx hcb dX10_readSet_31 (by decide) ?_
      refine lv_istore_n (lv' := [(1, .int (nI 0)), (0, .ref (w.2.2 0))]) hx hcb dX10_readSet_32 rfl hl (by decide) rfl (fun ls hl => ?_)
      refine lv_aload_n hx hcb dX10_readSet_33 rfl (lv_at hl 1 rfl) ?_
      refine lv_iload_n hx hcb dX10_readSet_34 rfl (lv_at hl 0 rfl) ?_
      refine lv_if_ne (tgt := 42) hx hcb dX10_readSet_35 (by decide) (fun c_48 => ?_) (fun c_48 => ?_)
      · skip
        first | exact absurd c_48 (by decide) | exact absurd (by decide) c_48
      · skip
        refine lv_iconst (v := (nI 1)) hx hcb dX10_readSet_38 (by decide) ?_
        refine lv_goto (tgt := 43) hx hcb dX10_readSet_39 (by decide) ?_
        refine lv_bipush (v := (-11)) hx hcb dX10_readSet_43 (by decide) ?_
        refine x_cv0 rfl rfl (x_runV hx hcb hml hown hts (c_X10_failsIf l G w hw (goZ z) _ 1 (-11) (¬ rsI z) (by first | (rw [if_pos hA_]; first | done | rfl) | (rw [if_neg hA_]; first | done | rfl))) mv_X10_failsIf q_1308 hK hZ hR hS (hw.lo (by decide)) xc10 (hw.s0 rfl) rfl hl.1 rfl (Nat.le_of_ble_eq_true rfl) dX10_readSet_45 ⟨by decide, by decide⟩ ⟨by decide, by decide⟩) hS (fun z_50 H locs hp_51 hR hS => ?_)
        rw [hp_51] at hR
        rw [show fiZ (goZ z) (¬ rsI z) (-11) = rs2 z from rfl] at hR
        refine lv_iload_n hx hcb dX10_readSet_48 rfl (lv_at hl 0 rfl) ?_
        refine lv_if_eq (tgt := 62) hx hcb dX10_readSet_49 (by decide) (fun c_52 => ?_) (fun c_52 => ?_)
        · skip
          refine lv_iconst (v := (nI 0)) hx hcb dX10_readSet_62 (by decide) ?_
          refine x_top (show (nI 0) = nI (rsK z) from by first | exact rsK_y hT hI_ | exact rsK_n hI_) ?_
          refine lv_istore_n (lv' := [(2, .int (nI (rsK z))), (1, .int (nI 0)), (0, .ref (w.2.2 0))]) hx hcb dX10_readSet_63 rfl hl (by decide) rfl (fun ls hl => ?_)
          refine lv_aload_n hx hcb dX10_readSet_64 rfl (lv_at hl 2 rfl) ?_
          refine lv_aload_n hx hcb dX10_readSet_65 rfl (lv_at hl 2 rfl) ?_
          refine x_getI hx hcb hts hown hK xc10 hR (hw.lo (by decide)) (hw.s0 rfl) 30 (by decide) rfl q_1196 dX10_readSet_66 ?_
          refine x_top (show ((rs2 z).1 0 30) = ((rs2 z).1 0 30) from rfl) ?_
          refine lv_iload_n hx hcb dX10_readSet_69 rfl (lv_at hl 0 rfl) ?_
          refine lv_ishr hx hcb dX10_readSet_70 ?_
          refine lv_iconst (v := (nI 1)) hx hcb dX10_readSet_71 (by decide) ?_
          refine lv_iand hx hcb dX10_readSet_72 ?_
          refine lv_iconst (v := (nI 1)) hx hcb dX10_readSet_73 (by decide) ?_
          refine lv_icmp_ne (tgt := 81) hx hcb dX10_readSet_74 (by decide) (fun c_53 => ?_) (fun c_53 => ?_)
          · skip
            have hB_ : ¬ ((rs2 z).1 0 30 >>> (nI (rsK z) &&& 31) &&& nI 1 = nI 1) := c_53
            refine lv_iconst (v := (nI 0)) hx hcb dX10_readSet_81 (by decide) ?_
            refine lv_bipush (v := (-14)) hx hcb dX10_readSet_82 (by decide) ?_
            refine x_cv0 rfl rfl (x_runV hx hcb hml hown hts (c_X10_failsIf l G w hw (rs2 z) _ 0 (-14) ((rs2 z).1 0 30 >>> (nI (rsK z) &&& 31) &&& nI 1 = nI 1) (by first | (rw [if_pos hB_]; first | done | rfl) | (rw [if_neg hB_]; first | done | rfl))) mv_X10_failsIf q_1308 hK hZ hR hS (hw.lo (by decide)) xc10 (hw.s0 rfl) rfl hl.1 rfl (Nat.le_of_ble_eq_true rfl) dX10_readSet_84 ⟨by decide, by decide⟩ ⟨by decide, by decide⟩) hS (fun z_55 H locs hp_56 hR hS => ?_)
            rw [hp_56] at hR
            rw [show fiZ (rs2 z) ((rs2 z).1 0 30 >>> (nI (rsK z) &&& 31) &&& nI 1 = nI 1) (-14) = rs3 z from rfl] at hR
            refine lv_aload_n hx hcb dX10_readSet_87 rfl (lv_at hl 2 rfl) ?_
            refine lv_dup hx hcb dX10_readSet_88 rfl ?_
            refine x_getI hx hcb hts hown hK xc10 hR (hw.lo (by decide)) (hw.s0 rfl) 30 (by decide) rfl q_1196 dX10_readSet_89 ?_
            refine x_top (show ((rs3 z).1 0 30) = ((rs3 z).1 0 30) from rfl) ?_
            refine lv_iconst (v := (nI 1)) hx hcb dX10_readSet_92 (by decide) ?_
            refine lv_iload_n hx hcb dX10_readSet_93 rfl (lv_at hl 0 rfl) ?_
            refine lv_ishl hx hcb dX10_readSet_94 ?_
            refine lv_ior hx hcb dX10_readSet_95 ?_
            refine x_putI hx hcb hts hown hK xc10 hR hS (hw.lo (by decide)) (hw.s0 rfl) 30 (by decide) rfl q_1196 rfl (v := (((rs3 z).1 0 30) ||| ((nI 1) <<< ((nI (rsK z)) &&& 31)))) rfl rfl dX10_readSet_96 (fun H locs hR hS => ?_)
            rw [show u1 (rs3 z) 0 30 (((rs3 z).1 0 30) ||| ((nI 1) <<< ((nI (rsK z)) &&& 31))) = rs4 z from rfl] at hR
            refine lv_aload_n hx hcb dX10_readSet_99 rfl (lv_at hl 2 rfl) ?_
            refine x_cv0 rfl rfl (x_runV hx hcb hml hown hts (c_X10_goOn l G w hw (rs4 z) _ ((rs4_ok hT).1)) mv_X10_goOn q_1312 hK hZ hR hS (hw.lo (by decide)) xc10 (hw.s0 rfl) rfl hl.1 rfl (Nat.le_of_ble_eq_true rfl) dX10_readSet_100 ⟨by decide, by decide⟩ ⟨by decide, by decide⟩) hS (fun z_58 H locs hp_59 hR hS => ?_)
            rw [hp_59] at hR
            rw [show goZ (rs4 z) = goZ (rs4 z) from rfl] at hR
            refine lv_aload_n hx hcb dX10_readSet_103 rfl (lv_at hl 2 rfl) ?_
            refine x_getR hx hcb hts hown hK xc10 hR (hw.lo (by decide)) (hw.s0 rfl) 5 (by decide) rfl q_1171 dX10_readSet_104 ?_
            refine lv_iconst (v := (nI 0)) hx hcb dX10_readSet_107 (by decide) ?_
            refine lv_iload_n hx hcb dX10_readSet_108 rfl (lv_at hl 0 rfl) ?_
            refine x_iaddN hx hcb dX10_readSet_109 ?_
            refine lv_aload_n hx hcb dX10_readSet_110 rfl (lv_at hl 2 rfl) ?_
            refine lv_iload_n hx hcb dX10_readSet_111 rfl (lv_at hl 0 rfl) ?_
            refine x_ci0 rfl rfl (x_runS hx hcb hml hown hts (c_X10_leastOf l G w hw (goZ (rs4 z)) _ (rsK z) hk5_) ms_X10_leastOf q_1411 hK hZ hR hS rfl hl.1 rfl (Nat.le_of_ble_eq_true rfl) dX10_readSet_112 ⟨by decide, by decide⟩ ⟨by decide, by decide⟩) hS (fun r_60 z_61 H locs hp_62 hR hS => ?_)
            rw [hp_62.2] at hR; rw [hp_62.1]
            refine x_top (show (xLea (rsK z)) = (xLea (rsK z)) from rfl) ?_
            refine lv_iload_n hx hcb dX10_readSet_115 rfl (lv_at hl 0 rfl) ?_
            refine x_ci0 rfl rfl (x_runS hx hcb hml hown hts (c_X10_mostOf l G w hw (goZ (rs4 z)) _ (rsK z) hk5_) ms_X10_mostOf q_1414 hK hZ hR hS rfl hl.1 rfl (Nat.le_of_ble_eq_true rfl) dX10_readSet_116 ⟨by decide, by decide⟩ ⟨by decide, by decide⟩) hS (fun r_63 z_64 H locs hp_65 hR hS => ?_)
            rw [hp_65.2] at hR; rw [hp_65.1]
            refine x_top (show (xGre (rsK z)) = (xGre (rsK z)) from rfl) ?_
            refine x_ci0 rfl rfl (x_runV hx hcb hml hown hts (c_X10_figure l G w hw (goZ (rs4 z)) _ (xLea (rsK z)) (xGre (rsK z))) mv_X10_figure q_1341 hK hZ hR hS (hw.lo (by decide)) xc10 (hw.s0 rfl) rfl hl.1 rfl (Nat.le_of_ble_eq_true rfl) dX10_readSet_119 ⟨by decide, by decide⟩ ⟨by decide, by decide⟩) hS (fun r_66 z_67 H locs hp_68 hR hS => ?_)
            rw [hp_68.2] at hR; rw [hp_68.1]
            refine x_top (show (fgR (goZ (rs4 z)) (xLea (rsK z)) (xGre (rsK z))) = (rsV z) from rfl) ?_
            rw [show fgZ (goZ (rs4 z)) (xLea (rsK z)) (xGre (rsK z)) = rs6 z from rfl] at hR
            refine x_iast hx hcb hK hR hS (hw.lo (by decide)) (hw.s0 rfl) (k := (0 + (rsK z))) (v := (rsV z)) (by omega) (by decide) dX10_readSet_122 (fun H locs hR hS => ?_)
            rw [show u1 (rs6 z) 4 (0 + (rsK z)) (rsV z) = rs7 z from rfl] at hR
            refine lv_aload_n hx hcb dX10_readSet_123 rfl (lv_at hl 2 rfl) ?_
            refine x_cv0 rfl rfl (x_runV hx hcb hml hown hts (c_X10_goOn l G w hw (rs7 z) _ ((rs7_ok hT).1)) mv_X10_goOn q_1312 hK hZ hR hS (hw.lo (by decide)) xc10 (hw.s0 rfl) rfl hl.1 rfl (Nat.le_of_ble_eq_true rfl) dX10_readSet_124 ⟨by decide, by decide⟩ ⟨by decide, by decide⟩) hS (fun z_70 H locs hp_71 hR hS => ?_)
            rw [hp_71] at hR
            exact hret (goZ (rs7 z)) _ _ _ _ dX10_readSet_127 hR hS rfl
          · skip
            have hB_ : (rs2 z).1 0 30 >>> (nI (rsK z) &&& 31) &&& nI 1 = nI 1 := c_53
            refine lv_iconst (v := (nI 1)) hx hcb dX10_readSet_77 (by decide) ?_
            refine lv_goto (tgt := 82) hx hcb dX10_readSet_78 (by decide) ?_
            refine lv_bipush (v := (-14)) hx hcb dX10_readSet_82 (by decide) ?_
            refine x_cv0 rfl rfl (x_runV hx hcb hml hown hts (c_X10_failsIf l G w hw (rs2 z) _ 1 (-14) ((rs2 z).1 0 30 >>> (nI (rsK z) &&& 31) &&& nI 1 = nI 1) (by first | (rw [if_pos hB_]; first | done | rfl) | (rw [if_neg hB_]; first | done | rfl))) mv_X10_failsIf q_1308 hK hZ hR hS (hw.lo (by decide)) xc10 (hw.s0 rfl) rfl hl.1 rfl (Nat.le_of_ble_eq_true rfl) dX10_readSet_84 ⟨by decide, by decide⟩ ⟨by decide, by decide⟩) hS (fun z_73 H locs hp_74 hR hS => ?_)
            rw [hp_74] at hR
            rw [show fiZ (rs2 z) ((rs2 z).1 0 30 >>> (nI (rsK z) &&& 31) &&& nI 1 = nI 1) (-14) = rs3 z from rfl] at hR
            refine lv_aload_n hx hcb dX10_readSet_87 rfl (lv_at hl 2 rfl) ?_
            refine lv_dup hx hcb dX10_readSet_88 rfl ?_
            refine x_getI hx hcb hts hown hK xc10 hR (hw.lo (by decide)) (hw.s0 rfl) 30 (by decide) rfl q_1196 dX10_readSet_89 ?_
            refine x_top (show ((rs3 z).1 0 30) = ((rs3 z).1 0 30) from rfl) ?_
            refine lv_iconst (v := (nI 1)) hx hcb dX10_readSet_92 (by decide) ?_
            refine lv_iload_n hx hcb dX10_readSet_93 rfl (lv_at hl 0 rfl) ?_
            refine lv_ishl hx hcb dX10_readSet_94 ?_
            refine lv_ior hx hcb dX10_readSet_95 ?_
            refine x_putI hx hcb hts hown hK xc10 hR hS (hw.lo (by decide)) (hw.s0 rfl) 30 (by decide) rfl q_1196 rfl (v := (((rs3 z).1 0 30) ||| ((nI 1) <<< ((nI (rsK z)) &&& 31)))) rfl rfl dX10_readSet_96 (fun H locs hR hS => ?_)
            rw [show u1 (rs3 z) 0 30 (((rs3 z).1 0 30) ||| ((nI 1) <<< ((nI (rsK z)) &&& 31))) = rs4 z from rfl] at hR
            refine lv_aload_n hx hcb dX10_readSet_99 rfl (lv_at hl 2 rfl) ?_
            refine x_cv0 rfl rfl (x_runV hx hcb hml hown hts (c_X10_goOn l G w hw (rs4 z) _ ((rs4_ok hT).1)) mv_X10_goOn q_1312 hK hZ hR hS (hw.lo (by decide)) xc10 (hw.s0 rfl) rfl hl.1 rfl (Nat.le_of_ble_eq_true rfl) dX10_readSet_100 ⟨by decide, by decide⟩ ⟨by decide, by decide⟩) hS (fun z_76 H locs hp_77 hR hS => ?_)
            rw [hp_77] at hR
            rw [show goZ (rs4 z) = goZ (rs4 z) from rfl] at hR
            refine lv_aload_n hx hcb dX10_readSet_103 rfl (lv_at hl 2 rfl) ?_
            refine x_getR hx hcb hts hown hK xc10 hR (hw.lo (by decide)) (hw.s0 rfl) 5 (by decide) rfl q_1171 dX10_readSet_104 ?_
            refine lv_iconst (v := (nI 0)) hx hcb dX10_readSet_107 (by decide) ?_
            refine lv_iload_n hx hcb dX10_readSet_108 rfl (lv_at hl 0 rfl) ?_
            refine x_iaddN hx hcb dX10_readSet_109 ?_
            refine lv_aload_n hx hcb dX10_readSet_110 rfl (lv_at hl 2 rfl) ?_
            refine lv_iload_n hx hcb dX10_readSet_111 rfl (lv_at hl 0 rfl) ?_
            refine x_ci0 rfl rfl (x_runS hx hcb hml hown hts (c_X10_leastOf l G w hw (goZ (rs4 z)) _ (rsK z) hk5_) ms_X10_leastOf q_1411 hK hZ hR hS rfl hl.1 rfl (Nat.le_of_ble_eq_true rfl) dX10_readSet_112 ⟨by decide, by decide⟩ ⟨by decide, by decide⟩) hS (fun r_78 z_79 H locs hp_80 hR hS => ?_)
            rw [hp_80.2] at hR; rw [hp_80.1]
            refine x_top (show (xLea (rsK z)) = (xLea (rsK z)) from rfl) ?_
            refine lv_iload_n hx hcb dX10_readSet_115 rfl (lv_at hl 0 rfl) ?_
            refine x_ci0 rfl rfl (x_runS hx hcb hml hown hts (c_X10_mostOf l G w hw (goZ (rs4 z)) _ (rsK z) hk5_) ms_X10_mostOf q_1414 hK hZ hR hS rfl hl.1 rfl (Nat.le_of_ble_eq_true rfl) dX10_readSet_116 ⟨by decide, by decide⟩ ⟨by decide, by decide⟩) hS (fun r_81 z_82 H locs hp_83 hR hS => ?_)
            rw [hp_83.2] at hR; rw [hp_83.1]
            refine x_top (show (xGre (rsK z)) = (xGre (rsK z)) from rfl) ?_
            refine x_ci0 rfl rfl (x_runV hx hcb hml hown hts (c_X10_figure l G w hw (goZ (rs4 z)) _ (xLea (rsK z)) (xGre (rsK z))) mv_X10_figure q_1341 hK hZ hR hS (hw.lo (by decide)) xc10 (hw.s0 rfl) rfl hl.1 rfl (Nat.le_of_ble_eq_true rfl) dX10_readSet_119 ⟨by decide, by decide⟩ ⟨by decide, by decide⟩) hS (fun r_84 z_85 H locs hp_86 hR hS => ?_)
            rw [hp_86.2] at hR; rw [hp_86.1]
            refine x_top (show (fgR (goZ (rs4 z)) (xLea (rsK z)) (xGre (rsK z))) = (rsV z) from rfl) ?_
            rw [show fgZ (goZ (rs4 z)) (xLea (rsK z)) (xGre (rsK z)) = rs6 z from rfl] at hR
            refine x_iast hx hcb hK hR hS (hw.lo (by decide)) (hw.s0 rfl) (k := (0 + (rsK z))) (v := (rsV z)) (by omega) (by decide) dX10_readSet_122 (fun H locs hR hS => ?_)
            rw [show u1 (rs6 z) 4 (0 + (rsK z)) (rsV z) = rs7 z from rfl] at hR
            refine lv_aload_n hx hcb dX10_readSet_123 rfl (lv_at hl 2 rfl) ?_
            refine x_cv0 rfl rfl (x_runV hx hcb hml hown hts (c_X10_goOn l G w hw (rs7 z) _ ((rs7_ok hT).1)) mv_X10_goOn q_1312 hK hZ hR hS (hw.lo (by decide)) xc10 (hw.s0 rfl) rfl hl.1 rfl (Nat.le_of_ble_eq_true rfl) dX10_readSet_124 ⟨by decide, by decide⟩ ⟨by decide, by decide⟩) hS (fun z_88 H locs hp_89 hR hS => ?_)
            rw [hp_89] at hR
            exact hret (goZ (rs7 z)) _ _ _ _ dX10_readSet_127 hR hS rfl
        · skip
          first | exact absurd c_52 (by decide) | exact absurd (by decide) c_52
    · skip
      have h2_ := c_47
      refine lv_aload_n hx hcb dX10_readSet_18 rfl (lv_at hl 0 rfl) ?_
      refine x_getI hx hcb hts hown hK xc10 hR (hw.lo (by decide)) (hw.s0 rfl) 24 (by decide) rfl q_1190 dX10_readSet_19 ?_
      refine lv_bipush (v := (nI 6)) hx hcb dX10_readSet_22 (by decide) ?_
      refine lv_icmp_lt (tgt := 31) hx hcb dX10_readSet_24 (by decide) (fun c_90 => ?_) (fun c_90 => ?_)
      · skip
        have hI_ : ¬ rsI z := fun q_ => q_.2.2 c_90
        have hA_ : ¬ rsI z := hI_
        refine lv_iconst (v := (nI 0)) hx hcb dX10_readSet_31 (by decide) ?_
        refine lv_istore_n (lv' := [(1, .int (nI 0)), (0, .ref (w.2.2 0))]) hx hcb dX10_readSet_32 rfl hl (by decide) rfl (fun ls hl => ?_)
        refine lv_aload_n hx hcb dX10_readSet_33 rfl (lv_at hl 1 rfl) ?_
        refine lv_iload_n hx hcb dX10_readSet_34 rfl (lv_at hl 0 rfl) ?_
        refine lv_if_ne (tgt := 42) hx hcb dX10_readSet_35 (by decide) (fun c_91 => ?_) (fun c_91 => ?_)
        · skip
          first | exact absurd c_91 (by decide) | exact absurd (by decide) c_91
        · skip
          refine lv_iconst (v := (nI 1)) hx hcb dX10_readSet_38 (by decide) ?_
          refine lv_goto (tgt := 43) hx hcb dX10_readSet_39 (by decide) ?_
          refine lv_bipush (v := (-11)) hx hcb dX10_readSet_43 (by decide) ?_
          refine x_cv0 rfl rfl (x_runV hx hcb hml hown hts (c_X10_failsIf l G w hw (goZ z) _ 1 (-11) (¬ rsI z) (by first | (rw [if_pos hA_]; first | done | rfl) | (rw [if_neg hA_]; first | done | rfl))) mv_X10_failsIf q_1308 hK hZ hR hS (hw.lo (by decide)) xc10 (hw.s0 rfl) rfl hl.1 rfl (Nat.le_of_ble_eq_true rfl) dX10_readSet_45 ⟨by decide, by decide⟩ ⟨by decide, by decide⟩) hS (fun z_93 H locs hp_94 hR hS => ?_)
          rw [hp_94] at hR
          rw [show fiZ (goZ z) (¬ rsI z) (-11) = rs2 z from rfl] at hR
          refine lv_iload_n hx hcb dX10_readSet_48 rfl (lv_at hl 0 rfl) ?_
          refine lv_if_eq (tgt := 62) hx hcb dX10_readSet_49 (by decide) (fun c_95 => ?_) (fun c_95 => ?_)
          · skip
            refine lv_iconst (v := (nI 0)) hx hcb dX10_readSet_62 (by decide) ?_
            refine x_top (show (nI 0) = nI (rsK z) from by first | exact rsK_y hT hI_ | exact rsK_n hI_) ?_
            refine lv_istore_n (lv' := [(2, .int (nI (rsK z))), (1, .int (nI 0)), (0, .ref (w.2.2 0))]) hx hcb dX10_readSet_63 rfl hl (by decide) rfl (fun ls hl => ?_)
            refine lv_aload_n hx hcb dX10_readSet_64 rfl (lv_at hl 2 rfl) ?_
            refine lv_aload_n hx hcb dX10_readSet_65 rfl (lv_at hl 2 rfl) ?_
            refine x_getI hx hcb hts hown hK xc10 hR (hw.lo (by decide)) (hw.s0 rfl) 30 (by decide) rfl q_1196 dX10_readSet_66 ?_
            refine x_top (show ((rs2 z).1 0 30) = ((rs2 z).1 0 30) from rfl) ?_
            refine lv_iload_n hx hcb dX10_readSet_69 rfl (lv_at hl 0 rfl) ?_
            refine lv_ishr hx hcb dX10_readSet_70 ?_
            refine lv_iconst (v := (nI 1)) hx hcb dX10_readSet_71 (by decide) ?_
            refine lv_iand hx hcb dX10_readSet_72 ?_
            refine lv_iconst (v := (nI 1)) hx hcb dX10_readSet_73 (by decide) ?_
            refine lv_icmp_ne (tgt := 81) hx hcb dX10_readSet_74 (by decide) (fun c_96 => ?_) (fun c_96 => ?_)
            · skip
              have hB_ : ¬ ((rs2 z).1 0 30 >>> (nI (rsK z) &&& 31) &&& nI 1 = nI 1) := c_96
              refine lv_iconst (v := (nI 0)) hx hcb dX10_readSet_81 (by decide) ?_
              refine lv_bipush (v := (-14)) hx hcb dX10_readSet_82 (by decide) ?_
              refine x_cv0 rfl rfl (x_runV hx hcb hml hown hts (c_X10_failsIf l G w hw (rs2 z) _ 0 (-14) ((rs2 z).1 0 30 >>> (nI (rsK z) &&& 31) &&& nI 1 = nI 1) (by first | (rw [if_pos hB_]; first | done | rfl) | (rw [if_neg hB_]; first | done | rfl))) mv_X10_failsIf q_1308 hK hZ hR hS (hw.lo (by decide)) xc10 (hw.s0 rfl) rfl hl.1 rfl (Nat.le_of_ble_eq_true rfl) dX10_readSet_84 ⟨by decide, by decide⟩ ⟨by decide, by decide⟩) hS (fun z_98 H locs hp_99 hR hS => ?_)
              rw [hp_99] at hR
              rw [show fiZ (rs2 z) ((rs2 z).1 0 30 >>> (nI (rsK z) &&& 31) &&& nI 1 = nI 1) (-14) = rs3 z from rfl] at hR
              refine lv_aload_n hx hcb dX10_readSet_87 rfl (lv_at hl 2 rfl) ?_
              refine lv_dup hx hcb dX10_readSet_88 rfl ?_
              refine x_getI hx hcb hts hown hK xc10 hR (hw.lo (by decide)) (hw.s0 rfl) 30 (by decide) rfl q_1196 dX10_readSet_89 ?_
              refine x_top (show ((rs3 z).1 0 30) = ((rs3 z).1 0 30) from rfl) ?_
              refine lv_iconst (v := (nI 1)) hx hcb dX10_readSet_92 (by decide) ?_
              refine lv_iload_n hx hcb dX10_readSet_93 rfl (lv_at hl 0 rfl) ?_
              refine lv_ishl hx hcb dX10_readSet_94 ?_
              refine lv_ior hx hcb dX10_readSet_95 ?_
              refine x_putI hx hcb hts hown hK xc10 hR hS (hw.lo (by decide)) (hw.s0 rfl) 30 (by decide) rfl q_1196 rfl (v := (((rs3 z).1 0 30) ||| ((nI 1) <<< ((nI (rsK z)) &&& 31)))) rfl rfl dX10_readSet_96 (fun H locs hR hS => ?_)
              rw [show u1 (rs3 z) 0 30 (((rs3 z).1 0 30) ||| ((nI 1) <<< ((nI (rsK z)) &&& 31))) = rs4 z from rfl] at hR
              refine lv_aload_n hx hcb dX10_readSet_99 rfl (lv_at hl 2 rfl) ?_
              refine x_cv0 rfl rfl (x_runV hx hcb hml hown hts (c_X10_goOn l G w hw (rs4 z) _ ((rs4_ok hT).1)) mv_X10_goOn q_1312 hK hZ hR hS (hw.lo (by decide)) xc10 (hw.s0 rfl) rfl hl.1 rfl (Nat.le_of_ble_eq_true rfl) dX10_readSet_100 ⟨by decide, by decide⟩ ⟨by decide, by decide⟩) hS (fun z_101 H locs hp_102 hR hS => ?_)
              rw [hp_102] at hR
              rw [show goZ (rs4 z) = goZ (rs4 z) from rfl] at hR
              refine lv_aload_n hx hcb dX10_readSet_103 rfl (lv_at hl 2 rfl) ?_
              refine x_getR hx hcb hts hown hK xc10 hR (hw.lo (by decide)) (hw.s0 rfl) 5 (by decide) rfl q_1171 dX10_readSet_104 ?_
              refine lv_iconst (v := (nI 0)) hx hcb dX10_readSet_107 (by decide) ?_
              refine lv_iload_n hx hcb dX10_readSet_108 rfl (lv_at hl 0 rfl) ?_
              refine x_iaddN hx hcb dX10_readSet_109 ?_
              refine lv_aload_n hx hcb dX10_readSet_110 rfl (lv_at hl 2 rfl) ?_
              refine lv_iload_n hx hcb dX10_readSet_111 rfl (lv_at hl 0 rfl) ?_
              refine x_ci0 rfl rfl (x_runS hx hcb hml hown hts (c_X10_leastOf l G w hw (goZ (rs4 z)) _ (rsK z) hk5_) ms_X10_leastOf q_1411 hK hZ hR hS rfl hl.1 rfl (Nat.le_of_ble_eq_true rfl) dX10_readSet_112 ⟨by decide, by decide⟩ ⟨by decide, by decide⟩) hS (fun r_103 z_104 H locs hp_105 hR hS => ?_)
              rw [hp_105.2] at hR; rw [hp_105.1]
              refine x_top (show (xLea (rsK z)) = (xLea (rsK z)) from rfl) ?_
              refine lv_iload_n hx hcb dX10_readSet_115 rfl (lv_at hl 0 rfl) ?_
              refine x_ci0 rfl rfl (x_runS hx hcb hml hown hts (c_X10_mostOf l G w hw (goZ (rs4 z)) _ (rsK z) hk5_) ms_X10_mostOf q_1414 hK hZ hR hS rfl hl.1 rfl (Nat.le_of_ble_eq_true rfl) dX10_readSet_116 ⟨by decide, by decide⟩ ⟨by decide, by decide⟩) hS (fun r_106 z_107 H locs hp_108 hR hS => ?_)
              rw [hp_108.2] at hR; rw [hp_108.1]
              refine x_top (show (xGre (rsK z)) = (xGre (rsK z)) from rfl) ?_
              refine x_ci0 rfl rfl (x_runV hx hcb hml hown hts (c_X10_figure l G w hw (goZ (rs4 z)) _ (xLea (rsK z)) (xGre (rsK z))) mv_X10_figure q_1341 hK hZ hR hS (hw.lo (by decide)) xc10 (hw.s0 rfl) rfl hl.1 rfl (Nat.le_of_ble_eq_true rfl) dX10_readSet_119 ⟨by decide, by decide⟩ ⟨by decide, by decide⟩) hS (fun r_109 z_110 H locs hp_111 hR hS => ?_)
              rw [hp_111.2] at hR; rw [hp_111.1]
              refine x_top (show (fgR (goZ (rs4 z)) (xLea (rsK z)) (xGre (rsK z))) = (rsV z) from rfl) ?_
              rw [show fgZ (goZ (rs4 z)) (xLea (rsK z)) (xGre (rsK z)) = rs6 z from rfl] at hR
              refine x_iast hx hcb hK hR hS (hw.lo (by decide)) (hw.s0 rfl) (k := (0 + (rsK z))) (v := (rsV z)) (by omega) (by decide) dX10_readSet_122 (fun H locs hR hS => ?_)
              rw [show u1 (rs6 z) 4 (0 + (rsK z)) (rsV z) = rs7 z from rfl] at hR
              refine lv_aload_n hx hcb dX10_readSet_123 rfl (lv_at hl 2 rfl) ?_
              refine x_cv0 rfl rfl (x_runV hx hcb hml hown hts (c_X10_goOn l G w hw (rs7 z) _ ((rs7_ok hT).1)) mv_X10_goOn q_1312 hK hZ hR hS (hw.lo (by decide)) xc10 (hw.s0 rfl) rfl hl.1 rfl (Nat.le_of_ble_eq_true rfl) dX10_readSet_124 ⟨by decide, by decide⟩ ⟨by decide, by decide⟩) hS (fun z_113 H locs hp_114 hR hS => ?_)
              rw [hp_114] at hR
              exact hret (goZ (rs7 z)) _ _ _ _ dX10_readSet_127 hR hS rfl
            · skip
              have hB_ : (rs2 z).1 0 30 >>> (nI (rsK z) &&& 31) &&& nI 1 = nI 1 := c_96
              refine lv_iconst (v := (nI 1)) hx hcb dX10_readSet_77 (by decide) ?_
              refine lv_goto (tgt := 82) hx hcb dX10_readSet_78 (by decide) ?_
              refine lv_bipush (v := (-14)) hx hcb dX10_readSet_82 (by decide) ?_
              refine x_cv0 rfl rfl (x_runV hx hcb hml hown hts (c_X10_failsIf l G w hw (rs2 z) _ 1 (-14) ((rs2 z).1 0 30 >>> (nI (rsK z) &&& 31) &&& nI 1 = nI 1) (by first | (rw [if_pos hB_]; first | done | rfl) | (rw [if_neg hB_]; first | done | rfl))) mv_X10_failsIf q_1308 hK hZ hR hS (hw.lo (by decide)) xc10 (hw.s0 rfl) rfl hl.1 rfl (Nat.le_of_ble_eq_true rfl) dX10_readSet_84 ⟨by decide, by decide⟩ ⟨by decide, by decide⟩) hS (fun z_116 H locs hp_117 hR hS => ?_)
              rw [hp_117] at hR
              rw [show fiZ (rs2 z) ((rs2 z).1 0 30 >>> (nI (rsK z) &&& 31) &&& nI 1 = nI 1) (-14) = rs3 z from rfl] at hR
              refine lv_aload_n hx hcb dX10_readSet_87 rfl (lv_at hl 2 rfl) ?_
              refine lv_dup hx hcb dX10_readSet_88 rfl ?_
              refine x_getI hx hcb hts hown hK xc10 hR (hw.lo (by decide)) (hw.s0 rfl) 30 (by decide) rfl q_1196 dX10_readSet_89 ?_
              refine x_top (show ((rs3 z).1 0 30) = ((rs3 z).1 0 30) from rfl) ?_
              refine lv_iconst (v := (nI 1)) hx hcb dX10_readSet_92 (by decide) ?_
              refine lv_iload_n hx hcb dX10_readSet_93 rfl (lv_at hl 0 rfl) ?_
              refine lv_ishl hx hcb dX10_readSet_94 ?_
              refine lv_ior hx hcb dX10_readSet_95 ?_
              refine x_putI hx hcb hts hown hK xc10 hR hS (hw.lo (by decide)) (hw.s0 rfl) 30 (by decide) rfl q_1196 rfl (v := (((rs3 z).1 0 30) ||| ((nI 1) <<< ((nI (rsK z)) &&& 31)))) rfl rfl dX10_readSet_96 (fun H locs hR hS => ?_)
              rw [show u1 (rs3 z) 0 30 (((rs3 z).1 0 30) ||| ((nI 1) <<< ((nI (rsK z)) &&& 31))) = rs4 z from rfl] at hR
              refine lv_aload_n hx hcb dX10_readSet_99 rfl (lv_at hl 2 rfl) ?_
              refine x_cv0 rfl rfl (x_runV hx hcb hml hown hts (c_X10_goOn l G w hw (rs4 z) _ ((rs4_ok hT).1)) mv_X10_goOn q_1312 hK hZ hR hS (hw.lo (by decide)) xc10 (hw.s0 rfl) rfl hl.1 rfl (Nat.le_of_ble_eq_true rfl) dX10_readSet_100 ⟨by decide, by decide⟩ ⟨by decide, by decide⟩) hS (fun z_119 H locs hp_120 hR hS => ?_)
              rw [hp_120] at hR
              rw [show goZ (rs4 z) = goZ (rs4 z) from rfl] at hR
              refine lv_aload_n hx hcb dX10_readSet_103 rfl (lv_at hl 2 rfl) ?_
              refine x_getR hx hcb hts hown hK xc10 hR (hw.lo (by decide)) (hw.s0 rfl) 5 (by decide) rfl q_1171 dX10_readSet_104 ?_
              refine lv_iconst (v := (nI 0)) hx hcb dX10_readSet_107 (by decide) ?_
              refine lv_iload_n hx hcb dX10_readSet_108 rfl (lv_at hl 0 rfl) ?_
              refine x_iaddN hx hcb dX10_readSet_109 ?_
              refine lv_aload_n hx hcb dX10_readSet_110 rfl (lv_at hl 2 rfl) ?_
              refine lv_iload_n hx hcb dX10_readSet_111 rfl (lv_at hl 0 rfl) ?_
              refine x_ci0 rfl rfl (x_runS hx hcb hml hown hts (c_X10_leastOf l G w hw (goZ (rs4 z)) _ (rsK z) hk5_) ms_X10_leastOf q_1411 hK hZ hR hS rfl hl.1 rfl (Nat.le_of_ble_eq_true rfl) dX10_readSet_112 ⟨by decide, by decide⟩ ⟨by decide, by decide⟩) hS (fun r_121 z_122 H locs hp_123 hR hS => ?_)
              rw [hp_123.2] at hR; rw [hp_123.1]
              refine x_top (show (xLea (rsK z)) = (xLea (rsK z)) from rfl) ?_
              refine lv_iload_n hx hcb dX10_readSet_115 rfl (lv_at hl 0 rfl) ?_
              refine x_ci0 rfl rfl (x_runS hx hcb hml hown hts (c_X10_mostOf l G w hw (goZ (rs4 z)) _ (rsK z) hk5_) ms_X10_mostOf q_1414 hK hZ hR hS rfl hl.1 rfl (Nat.le_of_ble_eq_true rfl) dX10_readSet_116 ⟨by decide, by decide⟩ ⟨by decide, by decide⟩) hS (fun r_124 z_125 H locs hp_126 hR hS => ?_)
              rw [hp_126.2] at hR; rw [hp_126.1]
              refine x_top (show (xGre (rsK z)) = (xGre (rsK z)) from rfl) ?_
              refine x_ci0 rfl rfl (x_runV hx hcb hml hown hts (c_X10_figure l G w hw (goZ (rs4 z)) _ (xLea (rsK z)) (xGre (rsK z))) mv_X10_figure q_1341 hK hZ hR hS (hw.lo (by decide)) xc10 (hw.s0 rfl) rfl hl.1 rfl (Nat.le_of_ble_eq_true rfl) dX10_readSet_119 ⟨by decide, by decide⟩ ⟨by decide, by decide⟩) hS (fun r_127 z_128 H locs hp_129 hR hS => ?_)
              rw [hp_129.2] at hR; rw [hp_129.1]
              refine x_top (show (fgR (goZ (rs4 z)) (xLea (rsK z)) (xGre (rsK z))) = (rsV z) from rfl) ?_
              rw [show fgZ (goZ (rs4 z)) (xLea (rsK z)) (xGre (rsK z)) = rs6 z from rfl] at hR
              refine x_iast hx hcb hK hR hS (hw.lo (by decide)) (hw.s0 rfl) (k := (0 + (rsK z))) (v := (rsV z)) (by omega) (by decide) dX10_readSet_122 (fun H locs hR hS => ?_)
              rw [show u1 (rs6 z) 4 (0 + (rsK z)) (rsV z) = rs7 z from rfl] at hR
              refine lv_aload_n hx hcb dX10_readSet_123 rfl (lv_at hl 2 rfl) ?_
              refine x_cv0 rfl rfl (x_runV hx hcb hml hown hts (c_X10_goOn l G w hw (rs7 z) _ ((rs7_ok hT).1)) mv_X10_goOn q_1312 hK hZ hR hS (hw.lo (by decide)) xc10 (hw.s0 rfl) rfl hl.1 rfl (Nat.le_of_ble_eq_true rfl) dX10_readSet_124 ⟨by decide, by decide⟩ ⟨by decide, by decide⟩) hS (fun z_131 H locs hp_132 hR hS => ?_)
              rw [hp_132] at hR
              exact hret (goZ (rs7 z)) _ _ _ _ dX10_readSet_127 hR hS rfl
          · skip
            first | exact absurd c_95 (by decide) | exact absurd (by decide) c_95
      · skip
        have hI_ : rsI z := ⟨h1_, h2_, c_90⟩
        have hA_ : ¬ ¬ rsI z := fun q_ => q_ hI_
        refine lv_iconst (v := (nI 1)) hx hcb dX10_readSet_27 (by decide) ?_
        refine lv_goto (tgt := 32) hx hcb dX10_readSet_28 (by decide) ?_
        refine lv_istore_n (lv' := [(1, .int (nI 1)), (0, .ref (w.2.2 0))]) hx hcb dX10_readSet_32 rfl hl (by decide) rfl (fun ls hl => ?_)
        refine lv_aload_n hx hcb dX10_readSet_33 rfl (lv_at hl 1 rfl) ?_
        refine lv_iload_n hx hcb dX10_readSet_34 rfl (lv_at hl 0 rfl) ?_
        refine lv_if_ne (tgt := 42) hx hcb dX10_readSet_35 (by decide) (fun c_133 => ?_) (fun c_133 => ?_)
        · skip
          refine lv_iconst (v := (nI 0)) hx hcb dX10_readSet_42 (by decide) ?_
          refine lv_bipush (v := (-11)) hx hcb dX10_readSet_43 (by decide) ?_
          refine x_cv0 rfl rfl (x_runV hx hcb hml hown hts (c_X10_failsIf l G w hw (goZ z) _ 0 (-11) (¬ rsI z) (by first | (rw [if_pos hA_]; first | done | rfl) | (rw [if_neg hA_]; first | done | rfl))) mv_X10_failsIf q_1308 hK hZ hR hS (hw.lo (by decide)) xc10 (hw.s0 rfl) rfl hl.1 rfl (Nat.le_of_ble_eq_true rfl) dX10_readSet_45 ⟨by decide, by decide⟩ ⟨by decide, by decide⟩) hS (fun z_135 H locs hp_136 hR hS => ?_)
          rw [hp_136] at hR
          rw [show fiZ (goZ z) (¬ rsI z) (-11) = rs2 z from rfl] at hR
          refine lv_iload_n hx hcb dX10_readSet_48 rfl (lv_at hl 0 rfl) ?_
          refine lv_if_eq (tgt := 62) hx hcb dX10_readSet_49 (by decide) (fun c_137 => ?_) (fun c_137 => ?_)
          · skip
            first | exact absurd c_137 (by decide) | exact absurd (by decide) c_137
          · skip
            refine lv_aload_n hx hcb dX10_readSet_52 rfl (lv_at hl 1 rfl) ?_
            refine x_getI hx hcb hts hown hK xc10 hR (hw.lo (by decide)) (hw.s0 rfl) 24 (by decide) rfl q_1190 dX10_readSet_53 ?_
            refine x_top (show ((rs2 z).1 0 24) = ((goZ z).1 0 24) from fi_k (by decide) (by decide)) ?_
            refine lv_bipush (v := (nI 6)) hx hcb dX10_readSet_56 (by decide) ?_
            refine lv_isub hx hcb dX10_readSet_58 ?_
            refine lv_goto (tgt := 63) hx hcb dX10_readSet_59 (by decide) ?_
            refine x_top (show (((goZ z).1 0 24) - (nI 6)) = nI (rsK z) from by first | exact rsK_y hT hI_ | exact rsK_n hI_) ?_
            refine lv_istore_n (lv' := [(2, .int (nI (rsK z))), (1, .int (nI 1)), (0, .ref (w.2.2 0))]) hx hcb dX10_readSet_63 rfl hl (by decide) rfl (fun ls hl => ?_)
            refine lv_aload_n hx hcb dX10_readSet_64 rfl (lv_at hl 2 rfl) ?_
            refine lv_aload_n hx hcb dX10_readSet_65 rfl (lv_at hl 2 rfl) ?_
            refine x_getI hx hcb hts hown hK xc10 hR (hw.lo (by decide)) (hw.s0 rfl) 30 (by decide) rfl q_1196 dX10_readSet_66 ?_
            refine x_top (show ((rs2 z).1 0 30) = ((rs2 z).1 0 30) from rfl) ?_
            refine lv_iload_n hx hcb dX10_readSet_69 rfl (lv_at hl 0 rfl) ?_
            refine lv_ishr hx hcb dX10_readSet_70 ?_
            refine lv_iconst (v := (nI 1)) hx hcb dX10_readSet_71 (by decide) ?_
            refine lv_iand hx hcb dX10_readSet_72 ?_
            refine lv_iconst (v := (nI 1)) hx hcb dX10_readSet_73 (by decide) ?_
            refine lv_icmp_ne (tgt := 81) hx hcb dX10_readSet_74 (by decide) (fun c_138 => ?_) (fun c_138 => ?_)
            · skip
              have hB_ : ¬ ((rs2 z).1 0 30 >>> (nI (rsK z) &&& 31) &&& nI 1 = nI 1) := c_138
              refine lv_iconst (v := (nI 0)) hx hcb dX10_readSet_81 (by decide) ?_
              refine lv_bipush (v := (-14)) hx hcb dX10_readSet_82 (by decide) ?_
              refine x_cv0 rfl rfl (x_runV hx hcb hml hown hts (c_X10_failsIf l G w hw (rs2 z) _ 0 (-14) ((rs2 z).1 0 30 >>> (nI (rsK z) &&& 31) &&& nI 1 = nI 1) (by first | (rw [if_pos hB_]; first | done | rfl) | (rw [if_neg hB_]; first | done | rfl))) mv_X10_failsIf q_1308 hK hZ hR hS (hw.lo (by decide)) xc10 (hw.s0 rfl) rfl hl.1 rfl (Nat.le_of_ble_eq_true rfl) dX10_readSet_84 ⟨by decide, by decide⟩ ⟨by decide, by decide⟩) hS (fun z_140 H locs hp_141 hR hS => ?_)
              rw [hp_141] at hR
              rw [show fiZ (rs2 z) ((rs2 z).1 0 30 >>> (nI (rsK z) &&& 31) &&& nI 1 = nI 1) (-14) = rs3 z from rfl] at hR
              refine lv_aload_n hx hcb dX10_readSet_87 rfl (lv_at hl 2 rfl) ?_
              refine lv_dup hx hcb dX10_readSet_88 rfl ?_
              refine x_getI hx hcb hts hown hK xc10 hR (hw.lo (by decide)) (hw.s0 rfl) 30 (by decide) rfl q_1196 dX10_readSet_89 ?_
              refine x_top (show ((rs3 z).1 0 30) = ((rs3 z).1 0 30) from rfl) ?_
              refine lv_iconst (v := (nI 1)) hx hcb dX10_readSet_92 (by decide) ?_
              refine lv_iload_n hx hcb dX10_readSet_93 rfl (lv_at hl 0 rfl) ?_
              refine lv_ishl hx hcb dX10_readSet_94 ?_
              refine lv_ior hx hcb dX10_readSet_95 ?_
              refine x_putI hx hcb hts hown hK xc10 hR hS (hw.lo (by decide)) (hw.s0 rfl) 30 (by decide) rfl q_1196 rfl (v := (((rs3 z).1 0 30) ||| ((nI 1) <<< ((nI (rsK z)) &&& 31)))) rfl rfl dX10_readSet_96 (fun H locs hR hS => ?_)
              rw [show u1 (rs3 z) 0 30 (((rs3 z).1 0 30) ||| ((nI 1) <<< ((nI (rsK z)) &&& 31))) = rs4 z from rfl] at hR
              refine lv_aload_n hx hcb dX10_readSet_99 rfl (lv_at hl 2 rfl) ?_
              refine x_cv0 rfl rfl (x_runV hx hcb hml hown hts (c_X10_goOn l G w hw (rs4 z) _ ((rs4_ok hT).1)) mv_X10_goOn q_1312 hK hZ hR hS (hw.lo (by decide)) xc10 (hw.s0 rfl) rfl hl.1 rfl (Nat.le_of_ble_eq_true rfl) dX10_readSet_100 ⟨by decide, by decide⟩ ⟨by decide, by decide⟩) hS (fun z_143 H locs hp_144 hR hS => ?_)
              rw [hp_144] at hR
              rw [show goZ (rs4 z) = goZ (rs4 z) from rfl] at hR
              refine lv_aload_n hx hcb dX10_readSet_103 rfl (lv_at hl 2 rfl) ?_
              refine x_getR hx hcb hts hown hK xc10 hR (hw.lo (by decide)) (hw.s0 rfl) 5 (by decide) rfl q_1171 dX10_readSet_104 ?_
              refine lv_iconst (v := (nI 0)) hx hcb dX10_readSet_107 (by decide) ?_
              refine lv_iload_n hx hcb dX10_readSet_108 rfl (lv_at hl 0 rfl) ?_
              refine x_iaddN hx hcb dX10_readSet_109 ?_
              refine lv_aload_n hx hcb dX10_readSet_110 rfl (lv_at hl 2 rfl) ?_
              refine lv_iload_n hx hcb dX10_readSet_111 rfl (lv_at hl 0 rfl) ?_
              refine x_ci0 rfl rfl (x_runS hx hcb hml hown hts (c_X10_leastOf l G w hw (goZ (rs4 z)) _ (rsK z) hk5_) ms_X10_leastOf q_1411 hK hZ hR hS rfl hl.1 rfl (Nat.le_of_ble_eq_true rfl) dX10_readSet_112 ⟨by decide, by decide⟩ ⟨by decide, by decide⟩) hS (fun r_145 z_146 H locs hp_147 hR hS => ?_)
              rw [hp_147.2] at hR; rw [hp_147.1]
              refine x_top (show (xLea (rsK z)) = (xLea (rsK z)) from rfl) ?_
              refine lv_iload_n hx hcb dX10_readSet_115 rfl (lv_at hl 0 rfl) ?_
              refine x_ci0 rfl rfl (x_runS hx hcb hml hown hts (c_X10_mostOf l G w hw (goZ (rs4 z)) _ (rsK z) hk5_) ms_X10_mostOf q_1414 hK hZ hR hS rfl hl.1 rfl (Nat.le_of_ble_eq_true rfl) dX10_readSet_116 ⟨by decide, by decide⟩ ⟨by decide, by decide⟩) hS (fun r_148 z_149 H locs hp_150 hR hS => ?_)
              rw [hp_150.2] at hR; rw [hp_150.1]
              refine x_top (show (xGre (rsK z)) = (xGre (rsK z)) from rfl) ?_
              refine x_ci0 rfl rfl (x_runV hx hcb hml hown hts (c_X10_figure l G w hw (goZ (rs4 z)) _ (xLea (rsK z)) (xGre (rsK z))) mv_X10_figure q_1341 hK hZ hR hS (hw.lo (by decide)) xc10 (hw.s0 rfl) rfl hl.1 rfl (Nat.le_of_ble_eq_true rfl) dX10_readSet_119 ⟨by decide, by decide⟩ ⟨by decide, by decide⟩) hS (fun r_151 z_152 H locs hp_153 hR hS => ?_)
              rw [hp_153.2] at hR; rw [hp_153.1]
              refine x_top (show (fgR (goZ (rs4 z)) (xLea (rsK z)) (xGre (rsK z))) = (rsV z) from rfl) ?_
              rw [show fgZ (goZ (rs4 z)) (xLea (rsK z)) (xGre (rsK z)) = rs6 z from rfl] at hR
              refine x_iast hx hcb hK hR hS (hw.lo (by decide)) (hw.s0 rfl) (k := (0 + (rsK z))) (v := (rsV z)) (by omega) (by decide) dX10_readSet_122 (fun H locs hR hS => ?_)
              rw [show u1 (rs6 z) 4 (0 + (rsK z)) (rsV z) = rs7 z from rfl] at hR
              refine lv_aload_n hx hcb dX10_readSet_123 rfl (lv_at hl 2 rfl) ?_
              refine x_cv0 rfl rfl (x_runV hx hcb hml hown hts (c_X10_goOn l G w hw (rs7 z) _ ((rs7_ok hT).1)) mv_X10_goOn q_1312 hK hZ hR hS (hw.lo (by decide)) xc10 (hw.s0 rfl) rfl hl.1 rfl (Nat.le_of_ble_eq_true rfl) dX10_readSet_124 ⟨by decide, by decide⟩ ⟨by decide, by decide⟩) hS (fun z_155 H locs hp_156 hR hS => ?_)
              rw [hp_156] at hR
              exact hret (goZ (rs7 z)) _ _ _ _ dX10_readSet_127 hR hS rfl
            · skip
              have hB_ : (rs2 z).1 0 30 >>> (nI (rsK z) &&& 31) &&& nI 1 = nI 1 := c_138
              refine lv_iconst (v := (nI 1)) hx hcb dX10_readSet_77 (by decide) ?_
              refine lv_goto (tgt := 82) hx hcb dX10_readSet_78 (by decide) ?_
              refine lv_bipush (v := (-14)) hx hcb dX10_readSet_82 (by decide) ?_
              refine x_cv0 rfl rfl (x_runV hx hcb hml hown hts (c_X10_failsIf l G w hw (rs2 z) _ 1 (-14) ((rs2 z).1 0 30 >>> (nI (rsK z) &&& 31) &&& nI 1 = nI 1) (by first | (rw [if_pos hB_]; first | done | rfl) | (rw [if_neg hB_]; first | done | rfl))) mv_X10_failsIf q_1308 hK hZ hR hS (hw.lo (by decide)) xc10 (hw.s0 rfl) rfl hl.1 rfl (Nat.le_of_ble_eq_true rfl) dX10_readSet_84 ⟨by decide, by decide⟩ ⟨by decide, by decide⟩) hS (fun z_158 H locs hp_159 hR hS => ?_)
              rw [hp_159] at hR
              rw [show fiZ (rs2 z) ((rs2 z).1 0 30 >>> (nI (rsK z) &&& 31) &&& nI 1 = nI 1) (-14) = rs3 z from rfl] at hR
              refine lv_aload_n hx hcb dX10_readSet_87 rfl (lv_at hl 2 rfl) ?_
              refine lv_dup hx hcb dX10_readSet_88 rfl ?_
              refine x_getI hx hcb hts hown hK xc10 hR (hw.lo (by decide)) (hw.s0 rfl) 30 (by decide) rfl q_1196 dX10_readSet_89 ?_
              refine x_top (show ((rs3 z).1 0 30) = ((rs3 z).1 0 30) from rfl) ?_
              refine lv_iconst (v := (nI 1)) hx hcb dX10_readSet_92 (by decide) ?_
              refine lv_iload_n hx hcb dX10_readSet_93 rfl (lv_at hl 0 rfl) ?_
              refine lv_ishl hx hcb dX10_readSet_94 ?_
              refine lv_ior hx hcb dX10_readSet_95 ?_
              refine x_putI hx hcb hts hown hK xc10 hR hS (hw.lo (by decide)) (hw.s0 rfl) 30 (by decide) rfl q_1196 rfl (v := (((rs3 z).1 0 30) ||| ((nI 1) <<< ((nI (rsK z)) &&& 31)))) rfl rfl dX10_readSet_96 (fun H locs hR hS => ?_)
              rw [show u1 (rs3 z) 0 30 (((rs3 z).1 0 30) ||| ((nI 1) <<< ((nI (rsK z)) &&& 31))) = rs4 z from rfl] at hR
              refine lv_aload_n hx hcb dX10_readSet_99 rfl (lv_at hl 2 rfl) ?_
              refine x_cv0 rfl rfl (x_runV hx hcb hml hown hts (c_X10_goOn l G w hw (rs4 z) _ ((rs4_ok hT).1)) mv_X10_goOn q_1312 hK hZ hR hS (hw.lo (by decide)) xc10 (hw.s0 rfl) rfl hl.1 rfl (Nat.le_of_ble_eq_true rfl) dX10_readSet_100 ⟨by decide, by decide⟩ ⟨by decide, by decide⟩) hS (fun z_161 H locs hp_162 hR hS => ?_)
              rw [hp_162] at hR
              rw [show goZ (rs4 z) = goZ (rs4 z) from rfl] at hR
              refine lv_aload_n hx hcb dX10_readSet_103 rfl (lv_at hl 2 rfl) ?_
              refine x_getR hx hcb hts hown hK xc10 hR (hw.lo (by decide)) (hw.s0 rfl) 5 (by decide) rfl q_1171 dX10_readSet_104 ?_
              refine lv_iconst (v := (nI 0)) hx hcb dX10_readSet_107 (by decide) ?_
              refine lv_iload_n hx hcb dX10_readSet_108 rfl (lv_at hl 0 rfl) ?_
              refine x_iaddN hx hcb dX10_readSet_109 ?_
              refine lv_aload_n hx hcb dX10_readSet_110 rfl (lv_at hl 2 rfl) ?_
              refine lv_iload_n hx hcb dX10_readSet_111 rfl (lv_at hl 0 rfl) ?_
              refine x_ci0 rfl rfl (x_runS hx hcb hml hown hts (c_X10_leastOf l G w hw (goZ (rs4 z)) _ (rsK z) hk5_) ms_X10_leastOf q_1411 hK hZ hR hS rfl hl.1 rfl (Nat.le_of_ble_eq_true rfl) dX10_readSet_112 ⟨by decide, by decide⟩ ⟨by decide, by decide⟩) hS (fun r_163 z_164 H locs hp_165 hR hS => ?_)
              rw [hp_165.2] at hR; rw [hp_165.1]
              refine x_top (show (xLea (rsK z)) = (xLea (rsK z)) from rfl) ?_
              refine lv_iload_n hx hcb dX10_readSet_115 rfl (lv_at hl 0 rfl) ?_
              refine x_ci0 rfl rfl (x_runS hx hcb hml hown hts (c_X10_mostOf l G w hw (goZ (rs4 z)) _ (rsK z) hk5_) ms_X10_mostOf q_1414 hK hZ hR hS rfl hl.1 rfl (Nat.le_of_ble_eq_true rfl) dX10_readSet_116 ⟨by decide, by decide⟩ ⟨by decide, by decide⟩) hS (fun r_166 z_167 H locs hp_168 hR hS => ?_)
              rw [hp_168.2] at hR; rw [hp_168.1]
              refine x_top (show (xGre (rsK z)) = (xGre (rsK z)) from rfl) ?_
              refine x_ci0 rfl rfl (x_runV hx hcb hml hown hts (c_X10_figure l G w hw (goZ (rs4 z)) _ (xLea (rsK z)) (xGre (rsK z))) mv_X10_figure q_1341 hK hZ hR hS (hw.lo (by decide)) xc10 (hw.s0 rfl) rfl hl.1 rfl (Nat.le_of_ble_eq_true rfl) dX10_readSet_119 ⟨by decide, by decide⟩ ⟨by decide, by decide⟩) hS (fun r_169 z_170 H locs hp_171 hR hS => ?_)
              rw [hp_171.2] at hR; rw [hp_171.1]
              refine x_top (show (fgR (goZ (rs4 z)) (xLea (rsK z)) (xGre (rsK z))) = (rsV z) from rfl) ?_
              rw [show fgZ (goZ (rs4 z)) (xLea (rsK z)) (xGre (rsK z)) = rs6 z from rfl] at hR
              refine x_iast hx hcb hK hR hS (hw.lo (by decide)) (hw.s0 rfl) (k := (0 + (rsK z))) (v := (rsV z)) (by omega) (by decide) dX10_readSet_122 (fun H locs hR hS => ?_)
              rw [show u1 (rs6 z) 4 (0 + (rsK z)) (rsV z) = rs7 z from rfl] at hR
              refine lv_aload_n hx hcb dX10_readSet_123 rfl (lv_at hl 2 rfl) ?_
              refine x_cv0 rfl rfl (x_runV hx hcb hml hown hts (c_X10_goOn l G w hw (rs7 z) _ ((rs7_ok hT).1)) mv_X10_goOn q_1312 hK hZ hR hS (hw.lo (by decide)) xc10 (hw.s0 rfl) rfl hl.1 rfl (Nat.le_of_ble_eq_true rfl) dX10_readSet_124 ⟨by decide, by decide⟩ ⟨by decide, by decide⟩) hS (fun z_173 H locs hp_174 hR hS => ?_)
              rw [hp_174] at hR
              exact hret (goZ (rs7 z)) _ _ _ _ dX10_readSet_127 hR hS rfl
        · skip
          first | exact absurd c_133 (by decide) | exact absurd (by decide) c_133
def rm_X10_readStatement : Room := { frames := 9, cells := 0, slots := 0, locals := 195 }
set_option maxRecDepth 100000 in
set_option maxHeartbeats 4000000 in
theorem c_X10_readStatement (l : Launch) (G : xGl) (w : xWd) (hw : isM w) (z : xSt) (sz : Nat)  (hT : zOk z) (hO : rOk z) (hcl : rsW z = nI 3 → (rc3 z).1 0 26 = 0 → clOk (rc3 z)) : xMv l yX10_readStatement cX10_readStatement 2 rm_X10_readStatement G w z sz [.ref (w.2.2 0)] (fun z1 => z1 = stZ z) := by
  refine x_mv (by decide) (Nat.le_of_ble_eq_true rfl) ?_
  intro p e s mt args below meth c ls Q hsz X hR hS hl hret
  obtain ⟨hx, hcb, hml, hown, hts, hlk, hK, hZ⟩ := X
  have hl : lv_has ls 2 [(0, .ref (w.2.2 0))] := hl
  refine lv_aload_n hx hcb dX10_readStatement_0 rfl (lv_at hl 0 rfl) ?_
  refine x_getI hx hcb hts hown hK xc10 hR (hw.lo (by decide)) (hw.s0 rfl) 23 (by decide) rfl q_1189 dX10_readStatement_1 ?_
  refine lv_if_ne (tgt := 14) hx hcb dX10_readStatement_4 (by decide) (fun c_1 => ?_) (fun c_1 => ?_)
  · skip
    have h0_ : ¬ z.1 0 23 = 0 := c_1
    refine lv_iconst (v := (-1)) hx hcb dX10_readStatement_14 (by decide) ?_
    refine x_top (show (-1) = (rsW z) from by unfold rsW; first | rw [if_pos h0_] | rw [if_neg h0_]) ?_
    refine lv_istore_n (lv' := [(1, .int (rsW z)), (0, .ref (w.2.2 0))]) hx hcb dX10_readStatement_15 rfl hl (by decide) rfl (fun ls hl => ?_)
    by_cases hw0_ : rsW z = nI 0
    · skip
      rw [hw0_] at hl
      refine lv_iload_n hx hcb dX10_readStatement_16 rfl (lv_at hl 0 rfl) ?_
      refine lv_tableIn (tgt := 52) hx hcb dX10_readStatement_17 (by decide) (by decide) (off := 35) (by decide) (by decide) ?_
      refine lv_aload_n hx hcb dX10_readStatement_52 rfl (lv_at hl 1 rfl) ?_
      refine x_cv0 rfl rfl (x_runV hx hcb hml hown hts (c_X10_readMember l G w hw z _ hT hO) mv_X10_readMember q_1304 hK hZ hR hS (hw.lo (by decide)) xc10 (hw.s0 rfl) rfl hl.1 rfl (Nat.le_of_ble_eq_true rfl) dX10_readStatement_53 ⟨by decide, by decide⟩ ⟨by decide, by decide⟩) hS (fun z_3 H locs hp_4 hR hS => ?_)
      rw [hp_4] at hR
      rw [show rmZ z = rdW z from by unfold rdW; rw [if_pos hw0_]] at hR
      refine lv_goto (tgt := 94) hx hcb dX10_readStatement_56 (by decide) ?_
      refine lv_aload_n hx hcb dX10_readStatement_94 rfl (lv_at hl 1 rfl) ?_
      refine lv_aload_n hx hcb dX10_readStatement_95 rfl (lv_at hl 1 rfl) ?_
      refine x_getI hx hcb hts hown hK xc10 hR (hw.lo (by decide)) (hw.s0 rfl) 23 (by decide) rfl q_1189 dX10_readStatement_96 ?_
      refine lv_iconst (v := (nI 2)) hx hcb dX10_readStatement_99 (by decide) ?_
      refine lv_icmp_eq (tgt := 107) hx hcb dX10_readStatement_100 (by decide) (fun c_5 => ?_) (fun c_5 => ?_)
      · skip
        have hB_ : ¬ ¬ (rdW z).1 0 23 = nI 2 := fun q_ => q_ c_5
        refine lv_iconst (v := (nI 0)) hx hcb dX10_readStatement_107 (by decide) ?_
        refine lv_bipush (v := (-11)) hx hcb dX10_readStatement_108 (by decide) ?_
        refine x_cv0 rfl rfl (x_runV hx hcb hml hown hts (c_X10_failsIf l G w hw (rdW z) _ 0 (-11) (¬ (rdW z).1 0 23 = nI 2) (by first | (rw [if_pos hB_]; first | done | rfl) | (rw [if_neg hB_]; first | done | rfl))) mv_X10_failsIf q_1308 hK hZ hR hS (hw.lo (by decide)) xc10 (hw.s0 rfl) rfl hl.1 rfl (Nat.le_of_ble_eq_true rfl) dX10_readStatement_110 ⟨by decide, by decide⟩ ⟨by decide, by decide⟩) hS (fun z_7 H locs hp_8 hR hS => ?_)
        rw [hp_8] at hR
        rw [show fiZ (rdW z) (¬ (rdW z).1 0 23 = nI 2) (-11) = fiZ (rdW z) (¬ (rdW z).1 0 23 = nI 2) (-11) from rfl] at hR
        refine lv_aload_n hx hcb dX10_readStatement_113 rfl (lv_at hl 1 rfl) ?_
        refine x_cv0 rfl rfl (x_runV hx hcb hml hown hts (c_X10_goOn l G w hw (fiZ (rdW z) (¬ (rdW z).1 0 23 = nI 2) (-11)) _ ((rdW_ok hT).fi.1)) mv_X10_goOn q_1312 hK hZ hR hS (hw.lo (by decide)) xc10 (hw.s0 rfl) rfl hl.1 rfl (Nat.le_of_ble_eq_true rfl) dX10_readStatement_114 ⟨by decide, by decide⟩ ⟨by decide, by decide⟩) hS (fun z_10 H locs hp_11 hR hS => ?_)
        rw [hp_11] at hR
        refine lv_aload_n hx hcb dX10_readStatement_117 rfl (lv_at hl 1 rfl) ?_
        refine lv_dup hx hcb dX10_readStatement_118 rfl ?_
        refine x_getI hx hcb hts hown hK xc10 hR (hw.lo (by decide)) (hw.s0 rfl) 29 (by decide) rfl q_1195 dX10_readStatement_119 ?_
        refine lv_iconst (v := (nI 1)) hx hcb dX10_readStatement_122 (by decide) ?_
        refine lv_iadd hx hcb dX10_readStatement_123 ?_
        refine x_putI hx hcb hts hown hK xc10 hR hS (hw.lo (by decide)) (hw.s0 rfl) 29 (by decide) rfl q_1195 rfl (v := (((goZ (fiZ (rdW z) (¬ (rdW z).1 0 23 = nI 2) (-11))).1 0 29) + (nI 1))) rfl rfl dX10_readStatement_124 (fun H locs hR hS => ?_)
        rw [show u1 (goZ (fiZ (rdW z) (¬ (rdW z).1 0 23 = nI 2) (-11))) 0 29 (((goZ (fiZ (rdW z) (¬ (rdW z).1 0 23 = nI 2) (-11))).1 0 29) + (nI 1)) = stZ z from rfl] at hR
        exact hret (stZ z) _ _ _ _ dX10_readStatement_127 hR hS rfl
      · skip
        have hB_ : ¬ (rdW z).1 0 23 = nI 2 := c_5
        refine lv_iconst (v := (nI 1)) hx hcb dX10_readStatement_103 (by decide) ?_
        refine lv_goto (tgt := 108) hx hcb dX10_readStatement_104 (by decide) ?_
        refine lv_bipush (v := (-11)) hx hcb dX10_readStatement_108 (by decide) ?_
        refine x_cv0 rfl rfl (x_runV hx hcb hml hown hts (c_X10_failsIf l G w hw (rdW z) _ 1 (-11) (¬ (rdW z).1 0 23 = nI 2) (by first | (rw [if_pos hB_]; first | done | rfl) | (rw [if_neg hB_]; first | done | rfl))) mv_X10_failsIf q_1308 hK hZ hR hS (hw.lo (by decide)) xc10 (hw.s0 rfl) rfl hl.1 rfl (Nat.le_of_ble_eq_true rfl) dX10_readStatement_110 ⟨by decide, by decide⟩ ⟨by decide, by decide⟩) hS (fun z_13 H locs hp_14 hR hS => ?_)
        rw [hp_14] at hR
        rw [show fiZ (rdW z) (¬ (rdW z).1 0 23 = nI 2) (-11) = fiZ (rdW z) (¬ (rdW z).1 0 23 = nI 2) (-11) from rfl] at hR
        refine lv_aload_n hx hcb dX10_readStatement_113 rfl (lv_at hl 1 rfl) ?_
        refine x_cv0 rfl rfl (x_runV hx hcb hml hown hts (c_X10_goOn l G w hw (fiZ (rdW z) (¬ (rdW z).1 0 23 = nI 2) (-11)) _ ((rdW_ok hT).fi.1)) mv_X10_goOn q_1312 hK hZ hR hS (hw.lo (by decide)) xc10 (hw.s0 rfl) rfl hl.1 rfl (Nat.le_of_ble_eq_true rfl) dX10_readStatement_114 ⟨by decide, by decide⟩ ⟨by decide, by decide⟩) hS (fun z_16 H locs hp_17 hR hS => ?_)
        rw [hp_17] at hR
        refine lv_aload_n hx hcb dX10_readStatement_117 rfl (lv_at hl 1 rfl) ?_
        refine lv_dup hx hcb dX10_readStatement_118 rfl ?_
        refine x_getI hx hcb hts hown hK xc10 hR (hw.lo (by decide)) (hw.s0 rfl) 29 (by decide) rfl q_1195 dX10_readStatement_119 ?_
        refine lv_iconst (v := (nI 1)) hx hcb dX10_readStatement_122 (by decide) ?_
        refine lv_iadd hx hcb dX10_readStatement_123 ?_
        refine x_putI hx hcb hts hown hK xc10 hR hS (hw.lo (by decide)) (hw.s0 rfl) 29 (by decide) rfl q_1195 rfl (v := (((goZ (fiZ (rdW z) (¬ (rdW z).1 0 23 = nI 2) (-11))).1 0 29) + (nI 1))) rfl rfl dX10_readStatement_124 (fun H locs hR hS => ?_)
        rw [show u1 (goZ (fiZ (rdW z) (¬ (rdW z).1 0 23 = nI 2) (-11))) 0 29 (((goZ (fiZ (rdW z) (¬ (rdW z).1 0 23 = nI 2) (-11))).1 0 29) + (nI 1)) = stZ z from rfl] at hR
        exact hret (stZ z) _ _ _ _ dX10_readStatement_127 hR hS rfl
    · skip
      by_cases hw1_ : rsW z = nI 1
      · skip
        rw [hw1_] at hl
        refine lv_iload_n hx hcb dX10_readStatement_16 rfl (lv_at hl 0 rfl) ?_
        refine lv_tableIn (tgt := 59) hx hcb dX10_readStatement_17 (by decide) (by decide) (off := 42) (by decide) (by decide) ?_
        refine lv_aload_n hx hcb dX10_readStatement_59 rfl (lv_at hl 1 rfl) ?_
        refine x_cv0 rfl rfl (x_runV hx hcb hml hown hts (c_X10_readSection l G w hw z _ hT hO) mv_X10_readSection q_1328 hK hZ hR hS (hw.lo (by decide)) xc10 (hw.s0 rfl) rfl hl.1 rfl (Nat.le_of_ble_eq_true rfl) dX10_readStatement_60 ⟨by decide, by decide⟩ ⟨by decide, by decide⟩) hS (fun z_19 H locs hp_20 hR hS => ?_)
        rw [hp_20] at hR
        rw [show rpZ z = rdW z from by unfold rdW; rw [if_neg hw0_]; rw [if_pos hw1_]] at hR
        refine lv_goto (tgt := 94) hx hcb dX10_readStatement_63 (by decide) ?_
        refine lv_aload_n hx hcb dX10_readStatement_94 rfl (lv_at hl 1 rfl) ?_
        refine lv_aload_n hx hcb dX10_readStatement_95 rfl (lv_at hl 1 rfl) ?_
        refine x_getI hx hcb hts hown hK xc10 hR (hw.lo (by decide)) (hw.s0 rfl) 23 (by decide) rfl q_1189 dX10_readStatement_96 ?_
        refine lv_iconst (v := (nI 2)) hx hcb dX10_readStatement_99 (by decide) ?_
        refine lv_icmp_eq (tgt := 107) hx hcb dX10_readStatement_100 (by decide) (fun c_21 => ?_) (fun c_21 => ?_)
        · skip
          have hB_ : ¬ ¬ (rdW z).1 0 23 = nI 2 := fun q_ => q_ c_21
          refine lv_iconst (v := (nI 0)) hx hcb dX10_readStatement_107 (by decide) ?_
          refine lv_bipush (v := (-11)) hx hcb dX10_readStatement_108 (by decide) ?_
          refine x_cv0 rfl rfl (x_runV hx hcb hml hown hts (c_X10_failsIf l G w hw (rdW z) _ 0 (-11) (¬ (rdW z).1 0 23 = nI 2) (by first | (rw [if_pos hB_]; first | done | rfl) | (rw [if_neg hB_]; first | done | rfl))) mv_X10_failsIf q_1308 hK hZ hR hS (hw.lo (by decide)) xc10 (hw.s0 rfl) rfl hl.1 rfl (Nat.le_of_ble_eq_true rfl) dX10_readStatement_110 ⟨by decide, by decide⟩ ⟨by decide, by decide⟩) hS (fun z_23 H locs hp_24 hR hS => ?_)
          rw [hp_24] at hR
          rw [show fiZ (rdW z) (¬ (rdW z).1 0 23 = nI 2) (-11) = fiZ (rdW z) (¬ (rdW z).1 0 23 = nI 2) (-11) from rfl] at hR
          refine lv_aload_n hx hcb dX10_readStatement_113 rfl (lv_at hl 1 rfl) ?_
          refine x_cv0 rfl rfl (x_runV hx hcb hml hown hts (c_X10_goOn l G w hw (fiZ (rdW z) (¬ (rdW z).1 0 23 = nI 2) (-11)) _ ((rdW_ok hT).fi.1)) mv_X10_goOn q_1312 hK hZ hR hS (hw.lo (by decide)) xc10 (hw.s0 rfl) rfl hl.1 rfl (Nat.le_of_ble_eq_true rfl) dX10_readStatement_114 ⟨by decide, by decide⟩ ⟨by decide, by decide⟩) hS (fun z_26 H locs hp_27 hR hS => ?_)
          rw [hp_27] at hR
          refine lv_aload_n hx hcb dX10_readStatement_117 rfl (lv_at hl 1 rfl) ?_
          refine lv_dup hx hcb dX10_readStatement_118 rfl ?_
          refine x_getI hx hcb hts hown hK xc10 hR (hw.lo (by decide)) (hw.s0 rfl) 29 (by decide) rfl q_1195 dX10_readStatement_119 ?_
          refine lv_iconst (v := (nI 1)) hx hcb dX10_readStatement_122 (by decide) ?_
          refine lv_iadd hx hcb dX10_readStatement_123 ?_
          refine x_putI hx hcb hts hown hK xc10 hR hS (hw.lo (by decide)) (hw.s0 rfl) 29 (by decide) rfl q_1195 rfl (v := (((goZ (fiZ (rdW z) (¬ (rdW z).1 0 23 = nI 2) (-11))).1 0 29) + (nI 1))) rfl rfl dX10_readStatement_124 (fun H locs hR hS => ?_)
          rw [show u1 (goZ (fiZ (rdW z) (¬ (rdW z).1 0 23 = nI 2) (-11))) 0 29 (((goZ (fiZ (rdW z) (¬ (rdW z).1 0 23 = nI 2) (-11))).1 0 29) + (nI 1)) = stZ z from rfl] at hR
          exact hret (stZ z) _ _ _ _ dX10_readStatement_127 hR hS rfl
        · skip
          have hB_ : ¬ (rdW z).1 0 23 = nI 2 := c_21
          refine lv_iconst (v := (nI 1)) hx hcb dX10_readStatement_103 (by decide) ?_
          refine lv_goto (tgt := 108) hx hcb dX10_readStatement_104 (by decide) ?_
          refine lv_bipush (v := (-11)) hx hcb dX10_readStatement_108 (by decide) ?_
          refine x_cv0 rfl rfl (x_runV hx hcb hml hown hts (c_X10_failsIf l G w hw (rdW z) _ 1 (-11) (¬ (rdW z).1 0 23 = nI 2) (by first | (rw [if_pos hB_]; first | done | rfl) | (rw [if_neg hB_]; first | done | rfl))) mv_X10_failsIf q_1308 hK hZ hR hS (hw.lo (by decide)) xc10 (hw.s0 rfl) rfl hl.1 rfl (Nat.le_of_ble_eq_true rfl) dX10_readStatement_110 ⟨by decide, by decide⟩ ⟨by decide, by decide⟩) hS (fun z_29 H locs hp_30 hR hS => ?_)
          rw [hp_30] at hR
          rw [show fiZ (rdW z) (¬ (rdW z).1 0 23 = nI 2) (-11) = fiZ (rdW z) (¬ (rdW z).1 0 23 = nI 2) (-11) from rfl] at hR
          refine lv_aload_n hx hcb dX10_readStatement_113 rfl (lv_at hl 1 rfl) ?_
          refine x_cv0 rfl rfl (x_runV hx hcb hml hown hts (c_X10_goOn l G w hw (fiZ (rdW z) (¬ (rdW z).1 0 23 = nI 2) (-11)) _ ((rdW_ok hT).fi.1)) mv_X10_goOn q_1312 hK hZ hR hS (hw.lo (by decide)) xc10 (hw.s0 rfl) rfl hl.1 rfl (Nat.le_of_ble_eq_true rfl) dX10_readStatement_114 ⟨by decide, by decide⟩ ⟨by decide, by decide⟩) hS (fun z_32 H locs hp_33 hR hS => ?_)
          rw [hp_33] at hR
          refine lv_aload_n hx hcb dX10_readStatement_117 rfl (lv_at hl 1 rfl) ?_
          refine lv_dup hx hcb dX10_readStatement_118 rfl ?_
          refine x_getI hx hcb hts hown hK xc10 hR (hw.lo (by decide)) (hw.s0 rfl) 29 (by decide) rfl q_1195 dX10_readStatement_119 ?_
          refine lv_iconst (v := (nI 1)) hx hcb dX10_readStatement_122 (by decide) ?_
          refine lv_iadd hx hcb dX10_readStatement_123 ?_
          refine x_putI hx hcb hts hown hK xc10 hR hS (hw.lo (by decide)) (hw.s0 rfl) 29 (by decide) rfl q_1195 rfl (v := (((goZ (fiZ (rdW z) (¬ (rdW z).1 0 23 = nI 2) (-11))).1 0 29) + (nI 1))) rfl rfl dX10_readStatement_124 (fun H locs hR hS => ?_)
          rw [show u1 (goZ (fiZ (rdW z) (¬ (rdW z).1 0 23 = nI 2) (-11))) 0 29 (((goZ (fiZ (rdW z) (¬ (rdW z).1 0 23 = nI 2) (-11))).1 0 29) + (nI 1)) = stZ z from rfl] at hR
          exact hret (stZ z) _ _ _ _ dX10_readStatement_127 hR hS rfl
      · skip
        by_cases hw2_ : rsW z = nI 2
        · skip
          rw [hw2_] at hl
          refine lv_iload_n hx hcb dX10_readStatement_16 rfl (lv_at hl 0 rfl) ?_
          refine lv_tableIn (tgt := 66) hx hcb dX10_readStatement_17 (by decide) (by decide) (off := 49) (by decide) (by decide) ?_
          refine lv_aload_n hx hcb dX10_readStatement_66 rfl (lv_at hl 1 rfl) ?_
          refine x_cv0 rfl rfl (x_runV hx hcb hml hown hts (c_X10_readTrade l G w hw z _ hT hO) mv_X10_readTrade q_1332 hK hZ hR hS (hw.lo (by decide)) xc10 (hw.s0 rfl) rfl hl.1 rfl (Nat.le_of_ble_eq_true rfl) dX10_readStatement_67 ⟨by decide, by decide⟩ ⟨by decide, by decide⟩) hS (fun z_35 H locs hp_36 hR hS => ?_)
          rw [hp_36] at hR
          rw [show rtZ z = rdW z from by unfold rdW; rw [if_neg hw0_]; rw [if_neg hw1_]; rw [if_pos hw2_]] at hR
          refine lv_goto (tgt := 94) hx hcb dX10_readStatement_70 (by decide) ?_
          refine lv_aload_n hx hcb dX10_readStatement_94 rfl (lv_at hl 1 rfl) ?_
          refine lv_aload_n hx hcb dX10_readStatement_95 rfl (lv_at hl 1 rfl) ?_
          refine x_getI hx hcb hts hown hK xc10 hR (hw.lo (by decide)) (hw.s0 rfl) 23 (by decide) rfl q_1189 dX10_readStatement_96 ?_
          refine lv_iconst (v := (nI 2)) hx hcb dX10_readStatement_99 (by decide) ?_
          refine lv_icmp_eq (tgt := 107) hx hcb dX10_readStatement_100 (by decide) (fun c_37 => ?_) (fun c_37 => ?_)
          · skip
            have hB_ : ¬ ¬ (rdW z).1 0 23 = nI 2 := fun q_ => q_ c_37
            refine lv_iconst (v := (nI 0)) hx hcb dX10_readStatement_107 (by decide) ?_
            refine lv_bipush (v := (-11)) hx hcb dX10_readStatement_108 (by decide) ?_
            refine x_cv0 rfl rfl (x_runV hx hcb hml hown hts (c_X10_failsIf l G w hw (rdW z) _ 0 (-11) (¬ (rdW z).1 0 23 = nI 2) (by first | (rw [if_pos hB_]; first | done | rfl) | (rw [if_neg hB_]; first | done | rfl))) mv_X10_failsIf q_1308 hK hZ hR hS (hw.lo (by decide)) xc10 (hw.s0 rfl) rfl hl.1 rfl (Nat.le_of_ble_eq_true rfl) dX10_readStatement_110 ⟨by decide, by decide⟩ ⟨by decide, by decide⟩) hS (fun z_39 H locs hp_40 hR hS => ?_)
            rw [hp_40] at hR
            rw [show fiZ (rdW z) (¬ (rdW z).1 0 23 = nI 2) (-11) = fiZ (rdW z) (¬ (rdW z).1 0 23 = nI 2) (-11) from rfl] at hR
            refine lv_aload_n hx hcb dX10_readStatement_113 rfl (lv_at hl 1 rfl) ?_
            refine x_cv0 rfl rfl (x_runV hx hcb hml hown hts (c_X10_goOn l G w hw (fiZ (rdW z) (¬ (rdW z).1 0 23 = nI 2) (-11)) _ ((rdW_ok hT).fi.1)) mv_X10_goOn q_1312 hK hZ hR hS (hw.lo (by decide)) xc10 (hw.s0 rfl) rfl hl.1 rfl (Nat.le_of_ble_eq_true rfl) dX10_readStatement_114 ⟨by decide, by decide⟩ ⟨by decide, by decide⟩) hS (fun z_42 H locs hp_43 hR hS => ?_)
            rw [hp_43] at hR
            refine lv_aload_n hx hcb dX10_readStatement_117 rfl (lv_at hl 1 rfl) ?_
            refine lv_dup hx hcb dX10_readStatement_118 rfl ?_
            refine x_getI hx hcb hts hown hK xc10 hR (hw.lo (by decide)) (hw.s0 rfl) 29 (by decide) rfl q_1195 dX10_readStatement_119 ?_
            refine lv_iconst (v := (nI 1)) hx hcb dX10_readStatement_122 (by decide) ?_
            refine lv_iadd hx hcb dX10_readStatement_123 ?_
            refine x_putI hx hcb hts hown hK xc10 hR hS (hw.lo (by decide)) (hw.s0 rfl) 29 (by decide) rfl q_1195 rfl (v := (((goZ (fiZ (rdW z) (¬ (rdW z).1 0 23 = nI 2) (-11))).1 0 29) + (nI 1))) rfl rfl dX10_readStatement_124 (fun H locs hR hS => ?_)
            rw [show u1 (goZ (fiZ (rdW z) (¬ (rdW z).1 0 23 = nI 2) (-11))) 0 29 (((goZ (fiZ (rdW z) (¬ (rdW z).1 0 23 = nI 2) (-11))).1 0 29) + (nI 1)) = stZ z from rfl] at hR
            exact hret (stZ z) _ _ _ _ dX10_readStatement_127 hR hS rfl
          · skip
            have hB_ : ¬ (rdW z).1 0 23 = nI 2 := c_37
            refine lv_iconst (v := (nI 1)) hx hcb dX10_readStatement_103 (by decide) ?_
            refine lv_goto (tgt := 108) hx hcb dX10_readStatement_104 (by decide) ?_
            refine lv_bipush (v := (-11)) hx hcb dX10_readStatement_108 (by decide) ?_
            refine x_cv0 rfl rfl (x_runV hx hcb hml hown hts (c_X10_failsIf l G w hw (rdW z) _ 1 (-11) (¬ (rdW z).1 0 23 = nI 2) (by first | (rw [if_pos hB_]; first | done | rfl) | (rw [if_neg hB_]; first | done | rfl))) mv_X10_failsIf q_1308 hK hZ hR hS (hw.lo (by decide)) xc10 (hw.s0 rfl) rfl hl.1 rfl (Nat.le_of_ble_eq_true rfl) dX10_readStatement_110 ⟨by decide, by decide⟩ ⟨by decide, by decide⟩) hS (fun z_45 H locs hp_46 hR hS => ?_)
            rw [hp_46] at hR
            rw [show fiZ (rdW z) (¬ (rdW z).1 0 23 = nI 2) (-11) = fiZ (rdW z) (¬ (rdW z).1 0 23 = nI 2) (-11) from rfl] at hR
            refine lv_aload_n hx hcb dX10_readStatement_113 rfl (lv_at hl 1 rfl) ?_
            refine x_cv0 rfl rfl (x_runV hx hcb hml hown hts (c_X10_goOn l G w hw (fiZ (rdW z) (¬ (rdW z).1 0 23 = nI 2) (-11)) _ ((rdW_ok hT).fi.1)) mv_X10_goOn q_1312 hK hZ hR hS (hw.lo (by decide)) xc10 (hw.s0 rfl) rfl hl.1 rfl (Nat.le_of_ble_eq_true rfl) dX10_readStatement_114 ⟨by decide, by decide⟩ ⟨by decide, by decide⟩) hS (fun z_48 H locs hp_49 hR hS => ?_)
            rw [hp_49] at hR
            refine lv_aload_n hx hcb dX10_readStatement_117 rfl (lv_at hl 1 rfl) ?_
            refine lv_dup hx hcb dX10_readStatement_118 rfl ?_
            refine x_getI hx hcb hts hown hK xc10 hR (hw.lo (by decide)) (hw.s0 rfl) 29 (by decide) rfl q_1195 dX10_readStatement_119 ?_
            refine lv_iconst (v := (nI 1)) hx hcb dX10_readStatement_122 (by decide) ?_
            refine lv_iadd hx hcb dX10_readStatement_123 ?_
            refine x_putI hx hcb hts hown hK xc10 hR hS (hw.lo (by decide)) (hw.s0 rfl) 29 (by decide) rfl q_1195 rfl (v := (((goZ (fiZ (rdW z) (¬ (rdW z).1 0 23 = nI 2) (-11))).1 0 29) + (nI 1))) rfl rfl dX10_readStatement_124 (fun H locs hR hS => ?_)
            rw [show u1 (goZ (fiZ (rdW z) (¬ (rdW z).1 0 23 = nI 2) (-11))) 0 29 (((goZ (fiZ (rdW z) (¬ (rdW z).1 0 23 = nI 2) (-11))).1 0 29) + (nI 1)) = stZ z from rfl] at hR
            exact hret (stZ z) _ _ _ _ dX10_readStatement_127 hR hS rfl
        · skip
          by_cases hw3_ : rsW z = nI 3
          · skip
            rw [hw3_] at hl
            refine lv_iload_n hx hcb dX10_readStatement_16 rfl (lv_at hl 0 rfl) ?_
            refine lv_tableIn (tgt := 73) hx hcb dX10_readStatement_17 (by decide) (by decide) (off := 56) (by decide) (by decide) ?_
            refine lv_aload_n hx hcb dX10_readStatement_73 rfl (lv_at hl 1 rfl) ?_
            refine x_cv0 rfl rfl (x_runV hx hcb hml hown hts (c_X10_readClose l G w hw z _ hT hO (hcl hw3_)) mv_X10_readClose q_1346 hK hZ hR hS (hw.lo (by decide)) xc10 (hw.s0 rfl) rfl hl.1 rfl (Nat.le_of_ble_eq_true rfl) dX10_readStatement_74 ⟨by decide, by decide⟩ ⟨by decide, by decide⟩) hS (fun z_51 H locs hp_52 hR hS => ?_)
            rw [hp_52] at hR
            rw [show rcX z = rdW z from by unfold rdW; rw [if_neg hw0_]; rw [if_neg hw1_]; rw [if_neg hw2_]; rw [if_pos hw3_]] at hR
            refine lv_goto (tgt := 94) hx hcb dX10_readStatement_77 (by decide) ?_
            refine lv_aload_n hx hcb dX10_readStatement_94 rfl (lv_at hl 1 rfl) ?_
            refine lv_aload_n hx hcb dX10_readStatement_95 rfl (lv_at hl 1 rfl) ?_
            refine x_getI hx hcb hts hown hK xc10 hR (hw.lo (by decide)) (hw.s0 rfl) 23 (by decide) rfl q_1189 dX10_readStatement_96 ?_
            refine lv_iconst (v := (nI 2)) hx hcb dX10_readStatement_99 (by decide) ?_
            refine lv_icmp_eq (tgt := 107) hx hcb dX10_readStatement_100 (by decide) (fun c_53 => ?_) (fun c_53 => ?_)
            · skip
              have hB_ : ¬ ¬ (rdW z).1 0 23 = nI 2 := fun q_ => q_ c_53
              refine lv_iconst (v := (nI 0)) hx hcb dX10_readStatement_107 (by decide) ?_
              refine lv_bipush (v := (-11)) hx hcb dX10_readStatement_108 (by decide) ?_
              refine x_cv0 rfl rfl (x_runV hx hcb hml hown hts (c_X10_failsIf l G w hw (rdW z) _ 0 (-11) (¬ (rdW z).1 0 23 = nI 2) (by first | (rw [if_pos hB_]; first | done | rfl) | (rw [if_neg hB_]; first | done | rfl))) mv_X10_failsIf q_1308 hK hZ hR hS (hw.lo (by decide)) xc10 (hw.s0 rfl) rfl hl.1 rfl (Nat.le_of_ble_eq_true rfl) dX10_readStatement_110 ⟨by decide, by decide⟩ ⟨by decide, by decide⟩) hS (fun z_55 H locs hp_56 hR hS => ?_)
              rw [hp_56] at hR
              rw [show fiZ (rdW z) (¬ (rdW z).1 0 23 = nI 2) (-11) = fiZ (rdW z) (¬ (rdW z).1 0 23 = nI 2) (-11) from rfl] at hR
              refine lv_aload_n hx hcb dX10_readStatement_113 rfl (lv_at hl 1 rfl) ?_
              refine x_cv0 rfl rfl (x_runV hx hcb hml hown hts (c_X10_goOn l G w hw (fiZ (rdW z) (¬ (rdW z).1 0 23 = nI 2) (-11)) _ ((rdW_ok hT).fi.1)) mv_X10_goOn q_1312 hK hZ hR hS (hw.lo (by decide)) xc10 (hw.s0 rfl) rfl hl.1 rfl (Nat.le_of_ble_eq_true rfl) dX10_readStatement_114 ⟨by decide, by decide⟩ ⟨by decide, by decide⟩) hS (fun z_58 H locs hp_59 hR hS => ?_)
              rw [hp_59] at hR
              refine lv_aload_n hx hcb dX10_readStatement_117 rfl (lv_at hl 1 rfl) ?_
              refine lv_dup hx hcb dX10_readStatement_118 rfl ?_
              refine x_getI hx hcb hts hown hK xc10 hR (hw.lo (by decide)) (hw.s0 rfl) 29 (by decide) rfl q_1195 dX10_readStatement_119 ?_
              refine lv_iconst (v := (nI 1)) hx hcb dX10_readStatement_122 (by decide) ?_
              refine lv_iadd hx hcb dX10_readStatement_123 ?_
              refine x_putI hx hcb hts hown hK xc10 hR hS (hw.lo (by decide)) (hw.s0 rfl) 29 (by decide) rfl q_1195 rfl (v := (((goZ (fiZ (rdW z) (¬ (rdW z).1 0 23 = nI 2) (-11))).1 0 29) + (nI 1))) rfl rfl dX10_readStatement_124 (fun H locs hR hS => ?_)
              rw [show u1 (goZ (fiZ (rdW z) (¬ (rdW z).1 0 23 = nI 2) (-11))) 0 29 (((goZ (fiZ (rdW z) (¬ (rdW z).1 0 23 = nI 2) (-11))).1 0 29) + (nI 1)) = stZ z from rfl] at hR
              exact hret (stZ z) _ _ _ _ dX10_readStatement_127 hR hS rfl
            · skip
              have hB_ : ¬ (rdW z).1 0 23 = nI 2 := c_53
              refine lv_iconst (v := (nI 1)) hx hcb dX10_readStatement_103 (by decide) ?_
              refine lv_goto (tgt := 108) hx hcb dX10_readStatement_104 (by decide) ?_
              refine lv_bipush (v := (-11)) hx hcb dX10_readStatement_108 (by decide) ?_
              refine x_cv0 rfl rfl (x_runV hx hcb hml hown hts (c_X10_failsIf l G w hw (rdW z) _ 1 (-11) (¬ (rdW z).1 0 23 = nI 2) (by first | (rw [if_pos hB_]; first | done | rfl) | (rw [if_neg hB_]; first | done | rfl))) mv_X10_failsIf q_1308 hK hZ hR hS (hw.lo (by decide)) xc10 (hw.s0 rfl) rfl hl.1 rfl (Nat.le_of_ble_eq_true rfl) dX10_readStatement_110 ⟨by decide, by decide⟩ ⟨by decide, by decide⟩) hS (fun z_61 H locs hp_62 hR hS => ?_)
              rw [hp_62] at hR
              rw [show fiZ (rdW z) (¬ (rdW z).1 0 23 = nI 2) (-11) = fiZ (rdW z) (¬ (rdW z).1 0 23 = nI 2) (-11) from rfl] at hR
              refine lv_aload_n hx hcb dX10_readStatement_113 rfl (lv_at hl 1 rfl) ?_
              refine x_cv0 rfl rfl (x_runV hx hcb hml hown hts (c_X10_goOn l G w hw (fiZ (rdW z) (¬ (rdW z).1 0 23 = nI 2) (-11)) _ ((rdW_ok hT).fi.1)) mv_X10_goOn q_1312 hK hZ hR hS (hw.lo (by decide)) xc10 (hw.s0 rfl) rfl hl.1 rfl (Nat.le_of_ble_eq_true rfl) dX10_readStatement_114 ⟨by decide, by decide⟩ ⟨by decide, by decide⟩) hS (fun z_64 H locs hp_65 hR hS => ?_)
              rw [hp_65] at hR
              refine lv_aload_n hx hcb dX10_readStatement_117 rfl (lv_at hl 1 rfl) ?_
              refine lv_dup hx hcb dX10_readStatement_118 rfl ?_
              refine x_getI hx hcb hts hown hK xc10 hR (hw.lo (by decide)) (hw.s0 rfl) 29 (by decide) rfl q_1195 dX10_readStatement_119 ?_
              refine lv_iconst (v := (nI 1)) hx hcb dX10_readStatement_122 (by decide) ?_
              refine lv_iadd hx hcb dX10_readStatement_123 ?_
              refine x_putI hx hcb hts hown hK xc10 hR hS (hw.lo (by decide)) (hw.s0 rfl) 29 (by decide) rfl q_1195 rfl (v := (((goZ (fiZ (rdW z) (¬ (rdW z).1 0 23 = nI 2) (-11))).1 0 29) + (nI 1))) rfl rfl dX10_readStatement_124 (fun H locs hR hS => ?_)
              rw [show u1 (goZ (fiZ (rdW z) (¬ (rdW z).1 0 23 = nI 2) (-11))) 0 29 (((goZ (fiZ (rdW z) (¬ (rdW z).1 0 23 = nI 2) (-11))).1 0 29) + (nI 1)) = stZ z from rfl] at hR
              exact hret (stZ z) _ _ _ _ dX10_readStatement_127 hR hS rfl
          · skip
            by_cases hw4_ : rsW z = nI 4
            · skip
              rw [hw4_] at hl
              refine lv_iload_n hx hcb dX10_readStatement_16 rfl (lv_at hl 0 rfl) ?_
              refine lv_tableIn (tgt := 80) hx hcb dX10_readStatement_17 (by decide) (by decide) (off := 63) (by decide) (by decide) ?_
              refine lv_aload_n hx hcb dX10_readStatement_80 rfl (lv_at hl 1 rfl) ?_
              refine x_cv0 rfl rfl (x_runV hx hcb hml hown hts (c_X10_readSet l G w hw z _ hT) mv_X10_readSet q_1407 hK hZ hR hS (hw.lo (by decide)) xc10 (hw.s0 rfl) rfl hl.1 rfl (Nat.le_of_ble_eq_true rfl) dX10_readStatement_81 ⟨by decide, by decide⟩ ⟨by decide, by decide⟩) hS (fun z_67 H locs hp_68 hR hS => ?_)
              rw [hp_68] at hR
              rw [show rsZ z = rdW z from by unfold rdW; rw [if_neg hw0_]; rw [if_neg hw1_]; rw [if_neg hw2_]; rw [if_neg hw3_]; rw [if_pos hw4_]] at hR
              refine lv_goto (tgt := 94) hx hcb dX10_readStatement_84 (by decide) ?_
              refine lv_aload_n hx hcb dX10_readStatement_94 rfl (lv_at hl 1 rfl) ?_
              refine lv_aload_n hx hcb dX10_readStatement_95 rfl (lv_at hl 1 rfl) ?_
              refine x_getI hx hcb hts hown hK xc10 hR (hw.lo (by decide)) (hw.s0 rfl) 23 (by decide) rfl q_1189 dX10_readStatement_96 ?_
              refine lv_iconst (v := (nI 2)) hx hcb dX10_readStatement_99 (by decide) ?_
              refine lv_icmp_eq (tgt := 107) hx hcb dX10_readStatement_100 (by decide) (fun c_69 => ?_) (fun c_69 => ?_)
              · skip
                have hB_ : ¬ ¬ (rdW z).1 0 23 = nI 2 := fun q_ => q_ c_69
                refine lv_iconst (v := (nI 0)) hx hcb dX10_readStatement_107 (by decide) ?_
                refine lv_bipush (v := (-11)) hx hcb dX10_readStatement_108 (by decide) ?_
                refine x_cv0 rfl rfl (x_runV hx hcb hml hown hts (c_X10_failsIf l G w hw (rdW z) _ 0 (-11) (¬ (rdW z).1 0 23 = nI 2) (by first | (rw [if_pos hB_]; first | done | rfl) | (rw [if_neg hB_]; first | done | rfl))) mv_X10_failsIf q_1308 hK hZ hR hS (hw.lo (by decide)) xc10 (hw.s0 rfl) rfl hl.1 rfl (Nat.le_of_ble_eq_true rfl) dX10_readStatement_110 ⟨by decide, by decide⟩ ⟨by decide, by decide⟩) hS (fun z_71 H locs hp_72 hR hS => ?_)
                rw [hp_72] at hR
                rw [show fiZ (rdW z) (¬ (rdW z).1 0 23 = nI 2) (-11) = fiZ (rdW z) (¬ (rdW z).1 0 23 = nI 2) (-11) from rfl] at hR
                refine lv_aload_n hx hcb dX10_readStatement_113 rfl (lv_at hl 1 rfl) ?_
                refine x_cv0 rfl rfl (x_runV hx hcb hml hown hts (c_X10_goOn l G w hw (fiZ (rdW z) (¬ (rdW z).1 0 23 = nI 2) (-11)) _ ((rdW_ok hT).fi.1)) mv_X10_goOn q_1312 hK hZ hR hS (hw.lo (by decide)) xc10 (hw.s0 rfl) rfl hl.1 rfl (Nat.le_of_ble_eq_true rfl) dX10_readStatement_114 ⟨by decide, by decide⟩ ⟨by decide, by decide⟩) hS (fun z_74 H locs hp_75 hR hS => ?_)
                rw [hp_75] at hR
                refine lv_aload_n hx hcb dX10_readStatement_117 rfl (lv_at hl 1 rfl) ?_
                refine lv_dup hx hcb dX10_readStatement_118 rfl ?_
                refine x_getI hx hcb hts hown hK xc10 hR (hw.lo (by decide)) (hw.s0 rfl) 29 (by decide) rfl q_1195 dX10_readStatement_119 ?_
                refine lv_iconst (v := (nI 1)) hx hcb dX10_readStatement_122 (by decide) ?_
                refine lv_iadd hx hcb dX10_readStatement_123 ?_
                refine x_putI hx hcb hts hown hK xc10 hR hS (hw.lo (by decide)) (hw.s0 rfl) 29 (by decide) rfl q_1195 rfl (v := (((goZ (fiZ (rdW z) (¬ (rdW z).1 0 23 = nI 2) (-11))).1 0 29) + (nI 1))) rfl rfl dX10_readStatement_124 (fun H locs hR hS => ?_)
                rw [show u1 (goZ (fiZ (rdW z) (¬ (rdW z).1 0 23 = nI 2) (-11))) 0 29 (((goZ (fiZ (rdW z) (¬ (rdW z).1 0 23 = nI 2) (-11))).1 0 29) + (nI 1)) = stZ z from rfl] at hR
                exact hret (stZ z) _ _ _ _ dX10_readStatement_127 hR hS rfl
              · skip
                have hB_ : ¬ (rdW z).1 0 23 = nI 2 := c_69
                refine lv_iconst (v := (nI 1)) hx hcb dX10_readStatement_103 (by decide) ?_
                refine lv_goto (tgt := 108) hx hcb dX10_readStatement_104 (by decide) ?_
                refine lv_bipush (v := (-11)) hx hcb dX10_readStatement_108 (by decide) ?_
                refine x_cv0 rfl rfl (x_runV hx hcb hml hown hts (c_X10_failsIf l G w hw (rdW z) _ 1 (-11) (¬ (rdW z).1 0 23 = nI 2) (by first | (rw [if_pos hB_]; first | done | rfl) | (rw [if_neg hB_]; first | done | rfl))) mv_X10_failsIf q_1308 hK hZ hR hS (hw.lo (by decide)) xc10 (hw.s0 rfl) rfl hl.1 rfl (Nat.le_of_ble_eq_true rfl) dX10_readStatement_110 ⟨by decide, by decide⟩ ⟨by decide, by decide⟩) hS (fun z_77 H locs hp_78 hR hS => ?_)
                rw [hp_78] at hR
                rw [show fiZ (rdW z) (¬ (rdW z).1 0 23 = nI 2) (-11) = fiZ (rdW z) (¬ (rdW z).1 0 23 = nI 2) (-11) from rfl] at hR
                refine lv_aload_n hx hcb dX10_readStatement_113 rfl (lv_at hl 1 rfl) ?_
                refine x_cv0 rfl rfl (x_runV hx hcb hml hown hts (c_X10_goOn l G w hw (fiZ (rdW z) (¬ (rdW z).1 0 23 = nI 2) (-11)) _ ((rdW_ok hT).fi.1)) mv_X10_goOn q_1312 hK hZ hR hS (hw.lo (by decide)) xc10 (hw.s0 rfl) rfl hl.1 rfl (Nat.le_of_ble_eq_true rfl) dX10_readStatement_114 ⟨by decide, by decide⟩ ⟨by decide, by decide⟩) hS (fun z_80 H locs hp_81 hR hS => ?_)
                rw [hp_81] at hR
                refine lv_aload_n hx hcb dX10_readStatement_117 rfl (lv_at hl 1 rfl) ?_
                refine lv_dup hx hcb dX10_readStatement_118 rfl ?_
                refine x_getI hx hcb hts hown hK xc10 hR (hw.lo (by decide)) (hw.s0 rfl) 29 (by decide) rfl q_1195 dX10_readStatement_119 ?_
                refine lv_iconst (v := (nI 1)) hx hcb dX10_readStatement_122 (by decide) ?_
                refine lv_iadd hx hcb dX10_readStatement_123 ?_
                refine x_putI hx hcb hts hown hK xc10 hR hS (hw.lo (by decide)) (hw.s0 rfl) 29 (by decide) rfl q_1195 rfl (v := (((goZ (fiZ (rdW z) (¬ (rdW z).1 0 23 = nI 2) (-11))).1 0 29) + (nI 1))) rfl rfl dX10_readStatement_124 (fun H locs hR hS => ?_)
                rw [show u1 (goZ (fiZ (rdW z) (¬ (rdW z).1 0 23 = nI 2) (-11))) 0 29 (((goZ (fiZ (rdW z) (¬ (rdW z).1 0 23 = nI 2) (-11))).1 0 29) + (nI 1)) = stZ z from rfl] at hR
                exact hret (stZ z) _ _ _ _ dX10_readStatement_127 hR hS rfl
            · skip
              refine lv_iload_n hx hcb dX10_readStatement_16 rfl (lv_at hl 0 rfl) ?_
              refine lv_tableOut (tgt := 87) hx hcb dX10_readStatement_17 ((sw_out hT hw0_ hw1_ hw2_ hw3_ hw4_).imp Int32.lt_iff_toInt_lt.mp Int32.lt_iff_toInt_lt.mp) (by decide) ?_
              refine lv_aload_n hx hcb dX10_readStatement_87 rfl (lv_at hl 1 rfl) ?_
              refine lv_iconst (v := (nI 1)) hx hcb dX10_readStatement_88 (by decide) ?_
              refine lv_bipush (v := (-11)) hx hcb dX10_readStatement_89 (by decide) ?_
              refine x_cv0 rfl rfl (x_runV hx hcb hml hown hts (c_X10_failsIf l G w hw z _ 1 (-11) True ((if_pos trivial).symm)) mv_X10_failsIf q_1308 hK hZ hR hS (hw.lo (by decide)) xc10 (hw.s0 rfl) rfl hl.1 rfl (Nat.le_of_ble_eq_true rfl) dX10_readStatement_91 ⟨by decide, by decide⟩ ⟨by decide, by decide⟩) hS (fun z_83 H locs hp_84 hR hS => ?_)
              rw [hp_84] at hR
              rw [show fiZ z True (-11) = rdW z from by unfold rdW; rw [if_neg hw0_]; rw [if_neg hw1_]; rw [if_neg hw2_]; rw [if_neg hw3_]; rw [if_neg hw4_]; first | done | rfl] at hR
              refine lv_aload_n hx hcb dX10_readStatement_94 rfl (lv_at hl 1 rfl) ?_
              refine lv_aload_n hx hcb dX10_readStatement_95 rfl (lv_at hl 1 rfl) ?_
              refine x_getI hx hcb hts hown hK xc10 hR (hw.lo (by decide)) (hw.s0 rfl) 23 (by decide) rfl q_1189 dX10_readStatement_96 ?_
              refine lv_iconst (v := (nI 2)) hx hcb dX10_readStatement_99 (by decide) ?_
              refine lv_icmp_eq (tgt := 107) hx hcb dX10_readStatement_100 (by decide) (fun c_85 => ?_) (fun c_85 => ?_)
              · skip
                have hB_ : ¬ ¬ (rdW z).1 0 23 = nI 2 := fun q_ => q_ c_85
                refine lv_iconst (v := (nI 0)) hx hcb dX10_readStatement_107 (by decide) ?_
                refine lv_bipush (v := (-11)) hx hcb dX10_readStatement_108 (by decide) ?_
                refine x_cv0 rfl rfl (x_runV hx hcb hml hown hts (c_X10_failsIf l G w hw (rdW z) _ 0 (-11) (¬ (rdW z).1 0 23 = nI 2) (by first | (rw [if_pos hB_]; first | done | rfl) | (rw [if_neg hB_]; first | done | rfl))) mv_X10_failsIf q_1308 hK hZ hR hS (hw.lo (by decide)) xc10 (hw.s0 rfl) rfl hl.1 rfl (Nat.le_of_ble_eq_true rfl) dX10_readStatement_110 ⟨by decide, by decide⟩ ⟨by decide, by decide⟩) hS (fun z_87 H locs hp_88 hR hS => ?_)
                rw [hp_88] at hR
                rw [show fiZ (rdW z) (¬ (rdW z).1 0 23 = nI 2) (-11) = fiZ (rdW z) (¬ (rdW z).1 0 23 = nI 2) (-11) from rfl] at hR
                refine lv_aload_n hx hcb dX10_readStatement_113 rfl (lv_at hl 1 rfl) ?_
                refine x_cv0 rfl rfl (x_runV hx hcb hml hown hts (c_X10_goOn l G w hw (fiZ (rdW z) (¬ (rdW z).1 0 23 = nI 2) (-11)) _ ((rdW_ok hT).fi.1)) mv_X10_goOn q_1312 hK hZ hR hS (hw.lo (by decide)) xc10 (hw.s0 rfl) rfl hl.1 rfl (Nat.le_of_ble_eq_true rfl) dX10_readStatement_114 ⟨by decide, by decide⟩ ⟨by decide, by decide⟩) hS (fun z_90 H locs hp_91 hR hS => ?_)
                rw [hp_91] at hR
                refine lv_aload_n hx hcb dX10_readStatement_117 rfl (lv_at hl 1 rfl) ?_
                refine lv_dup hx hcb dX10_readStatement_118 rfl ?_
                refine x_getI hx hcb hts hown hK xc10 hR (hw.lo (by decide)) (hw.s0 rfl) 29 (by decide) rfl q_1195 dX10_readStatement_119 ?_
                refine lv_iconst (v := (nI 1)) hx hcb dX10_readStatement_122 (by decide) ?_
                refine lv_iadd hx hcb dX10_readStatement_123 ?_
                refine x_putI hx hcb hts hown hK xc10 hR hS (hw.lo (by decide)) (hw.s0 rfl) 29 (by decide) rfl q_1195 rfl (v := (((goZ (fiZ (rdW z) (¬ (rdW z).1 0 23 = nI 2) (-11))).1 0 29) + (nI 1))) rfl rfl dX10_readStatement_124 (fun H locs hR hS => ?_)
                rw [show u1 (goZ (fiZ (rdW z) (¬ (rdW z).1 0 23 = nI 2) (-11))) 0 29 (((goZ (fiZ (rdW z) (¬ (rdW z).1 0 23 = nI 2) (-11))).1 0 29) + (nI 1)) = stZ z from rfl] at hR
                exact hret (stZ z) _ _ _ _ dX10_readStatement_127 hR hS rfl
              · skip
                have hB_ : ¬ (rdW z).1 0 23 = nI 2 := c_85
                refine lv_iconst (v := (nI 1)) hx hcb dX10_readStatement_103 (by decide) ?_
                refine lv_goto (tgt := 108) hx hcb dX10_readStatement_104 (by decide) ?_
                refine lv_bipush (v := (-11)) hx hcb dX10_readStatement_108 (by decide) ?_
                refine x_cv0 rfl rfl (x_runV hx hcb hml hown hts (c_X10_failsIf l G w hw (rdW z) _ 1 (-11) (¬ (rdW z).1 0 23 = nI 2) (by first | (rw [if_pos hB_]; first | done | rfl) | (rw [if_neg hB_]; first | done | rfl))) mv_X10_failsIf q_1308 hK hZ hR hS (hw.lo (by decide)) xc10 (hw.s0 rfl) rfl hl.1 rfl (Nat.le_of_ble_eq_true rfl) dX10_readStatement_110 ⟨by decide, by decide⟩ ⟨by decide, by decide⟩) hS (fun z_93 H locs hp_94 hR hS => ?_)
                rw [hp_94] at hR
                rw [show fiZ (rdW z) (¬ (rdW z).1 0 23 = nI 2) (-11) = fiZ (rdW z) (¬ (rdW z).1 0 23 = nI 2) (-11) from rfl] at hR
                refine lv_aload_n hx hcb dX10_readStatement_113 rfl (lv_at hl 1 rfl) ?_
                refine x_cv0 rfl rfl (x_runV hx hcb hml hown hts (c_X10_goOn l G w hw (fiZ (rdW z) (¬ (rdW z).1 0 23 = nI 2) (-11)) _ ((rdW_ok hT).fi.1)) mv_X10_goOn q_1312 hK hZ hR hS (hw.lo (by decide)) xc10 (hw.s0 rfl) rfl hl.1 rfl (Nat.le_of_ble_eq_true rfl) dX10_readStatement_114 ⟨by decide, by decide⟩ ⟨by decide, by decide⟩) hS (fun z_96 H locs hp_97 hR hS => ?_)
                rw [hp_97] at hR
                refine lv_aload_n hx hcb dX10_readStatement_117 rfl (lv_at hl 1 rfl) ?_
                refine lv_dup hx hcb dX10_readStatement_118 rfl ?_
                refine x_getI hx hcb hts hown hK xc10 hR (hw.lo (by decide)) (hw.s0 rfl) 29 (by decide) rfl q_1195 dX10_readStatement_119 ?_
                refine lv_iconst (v := (nI 1)) hx hcb dX10_readStatement_122 (by decide) ?_
                refine lv_iadd hx hcb dX10_readStatement_123 ?_
                refine x_putI hx hcb hts hown hK xc10 hR hS (hw.lo (by decide)) (hw.s0 rfl) 29 (by decide) rfl q_1195 rfl (v := (((goZ (fiZ (rdW z) (¬ (rdW z).1 0 23 = nI 2) (-11))).1 0 29) + (nI 1))) rfl rfl dX10_readStatement_124 (fun H locs hR hS => ?_)
                rw [show u1 (goZ (fiZ (rdW z) (¬ (rdW z).1 0 23 = nI 2) (-11))) 0 29 (((goZ (fiZ (rdW z) (¬ (rdW z).1 0 23 = nI 2) (-11))).1 0 29) + (nI 1)) = stZ z from rfl] at hR
                exact hret (stZ z) _ _ _ _ dX10_readStatement_127 hR hS rfl
  · skip
    have h0_ : z.1 0 23 = 0 := c_1
    refine lv_aload_n hx hcb dX10_readStatement_7 rfl (lv_at hl 0 rfl) ?_
    refine x_getI hx hcb hts hown hK xc10 hR (hw.lo (by decide)) (hw.s0 rfl) 24 (by decide) rfl q_1190 dX10_readStatement_8 ?_
    refine lv_goto (tgt := 15) hx hcb dX10_readStatement_11 (by decide) ?_
    refine x_top (show (z.1 0 24) = (rsW z) from by unfold rsW; first | rw [if_pos h0_] | rw [if_neg h0_]) ?_
    refine lv_istore_n (lv' := [(1, .int (rsW z)), (0, .ref (w.2.2 0))]) hx hcb dX10_readStatement_15 rfl hl (by decide) rfl (fun ls hl => ?_)
    by_cases hw0_ : rsW z = nI 0
    · skip
      rw [hw0_] at hl
      refine lv_iload_n hx hcb dX10_readStatement_16 rfl (lv_at hl 0 rfl) ?_
      refine lv_tableIn (tgt := 52) hx hcb dX10_readStatement_17 (by decide) (by decide) (off := 35) (by decide) (by decide) ?_
      refine lv_aload_n hx hcb dX10_readStatement_52 rfl (lv_at hl 1 rfl) ?_
      refine x_cv0 rfl rfl (x_runV hx hcb hml hown hts (c_X10_readMember l G w hw z _ hT hO) mv_X10_readMember q_1304 hK hZ hR hS (hw.lo (by decide)) xc10 (hw.s0 rfl) rfl hl.1 rfl (Nat.le_of_ble_eq_true rfl) dX10_readStatement_53 ⟨by decide, by decide⟩ ⟨by decide, by decide⟩) hS (fun z_99 H locs hp_100 hR hS => ?_)
      rw [hp_100] at hR
      rw [show rmZ z = rdW z from by unfold rdW; rw [if_pos hw0_]] at hR
      refine lv_goto (tgt := 94) hx hcb dX10_readStatement_56 (by decide) ?_
      refine lv_aload_n hx hcb dX10_readStatement_94 rfl (lv_at hl 1 rfl) ?_
      refine lv_aload_n hx hcb dX10_readStatement_95 rfl (lv_at hl 1 rfl) ?_
      refine x_getI hx hcb hts hown hK xc10 hR (hw.lo (by decide)) (hw.s0 rfl) 23 (by decide) rfl q_1189 dX10_readStatement_96 ?_
      refine lv_iconst (v := (nI 2)) hx hcb dX10_readStatement_99 (by decide) ?_
      refine lv_icmp_eq (tgt := 107) hx hcb dX10_readStatement_100 (by decide) (fun c_101 => ?_) (fun c_101 => ?_)
      · skip
        have hB_ : ¬ ¬ (rdW z).1 0 23 = nI 2 := fun q_ => q_ c_101
        refine lv_iconst (v := (nI 0)) hx hcb dX10_readStatement_107 (by decide) ?_
        refine lv_bipush (v := (-11)) hx hcb dX10_readStatement_108 (by decide) ?_
        refine x_cv0 rfl rfl (x_runV hx hcb hml hown hts (c_X10_failsIf l G w hw (rdW z) _ 0 (-11) (¬ (rdW z).1 0 23 = nI 2) (by first | (rw [if_pos hB_]; first | done | rfl) | (rw [if_neg hB_]; first | done | rfl))) mv_X10_failsIf q_1308 hK hZ hR hS (hw.lo (by decide)) xc10 (hw.s0 rfl) rfl hl.1 rfl (Nat.le_of_ble_eq_true rfl) dX10_readStatement_110 ⟨by decide, by decide⟩ ⟨by decide, by decide⟩) hS (fun z_103 H locs hp_104 hR hS => ?_)
        rw [hp_104] at hR
        rw [show fiZ (rdW z) (¬ (rdW z).1 0 23 = nI 2) (-11) = fiZ (rdW z) (¬ (rdW z).1 0 23 = nI 2) (-11) from rfl] at hR
        refine lv_aload_n hx hcb dX10_readStatement_113 rfl (lv_at hl 1 rfl) ?_
        refine x_cv0 rfl rfl (x_runV hx hcb hml hown hts (c_X10_goOn l G w hw (fiZ (rdW z) (¬ (rdW z).1 0 23 = nI 2) (-11)) _ ((rdW_ok hT).fi.1)) mv_X10_goOn q_1312 hK hZ hR hS (hw.lo (by decide)) xc10 (hw.s0 rfl) rfl hl.1 rfl (Nat.le_of_ble_eq_true rfl) dX10_readStatement_114 ⟨by decide, by decide⟩ ⟨by decide, by decide⟩) hS (fun z_106 H locs hp_107 hR hS => ?_)
        rw [hp_107] at hR
        refine lv_aload_n hx hcb dX10_readStatement_117 rfl (lv_at hl 1 rfl) ?_
        refine lv_dup hx hcb dX10_readStatement_118 rfl ?_
        refine x_getI hx hcb hts hown hK xc10 hR (hw.lo (by decide)) (hw.s0 rfl) 29 (by decide) rfl q_1195 dX10_readStatement_119 ?_
        refine lv_iconst (v := (nI 1)) hx hcb dX10_readStatement_122 (by decide) ?_
        refine lv_iadd hx hcb dX10_readStatement_123 ?_
        refine x_putI hx hcb hts hown hK xc10 hR hS (hw.lo (by decide)) (hw.s0 rfl) 29 (by decide) rfl q_1195 rfl (v := (((goZ (fiZ (rdW z) (¬ (rdW z).1 0 23 = nI 2) (-11))).1 0 29) + (nI 1))) rfl rfl dX10_readStatement_124 (fun H locs hR hS => ?_)
        rw [show u1 (goZ (fiZ (rdW z) (¬ (rdW z).1 0 23 = nI 2) (-11))) 0 29 (((goZ (fiZ (rdW z) (¬ (rdW z).1 0 23 = nI 2) (-11))).1 0 29) + (nI 1)) = stZ z from rfl] at hR
        exact hret (stZ z) _ _ _ _ dX10_readStatement_127 hR hS rfl
      · skip
        have hB_ : ¬ (rdW z).1 0 23 = nI 2 := c_101
        refine lv_iconst (v := (nI 1)) hx hcb dX10_readStatement_103 (by decide) ?_
        refine lv_goto (tgt := 108) hx hcb dX10_readStatement_104 (by decide) ?_
        refine lv_bipush (v := (-11)) hx hcb dX10_readStatement_108 (by decide) ?_
        refine x_cv0 rfl rfl (x_runV hx hcb hml hown hts (c_X10_failsIf l G w hw (rdW z) _ 1 (-11) (¬ (rdW z).1 0 23 = nI 2) (by first | (rw [if_pos hB_]; first | done | rfl) | (rw [if_neg hB_]; first | done | rfl))) mv_X10_failsIf q_1308 hK hZ hR hS (hw.lo (by decide)) xc10 (hw.s0 rfl) rfl hl.1 rfl (Nat.le_of_ble_eq_true rfl) dX10_readStatement_110 ⟨by decide, by decide⟩ ⟨by decide, by decide⟩) hS (fun z_109 H locs hp_110 hR hS => ?_)
        rw [hp_110] at hR
        rw [show fiZ (rdW z) (¬ (rdW z).1 0 23 = nI 2) (-11) = fiZ (rdW z) (¬ (rdW z).1 0 23 = nI 2) (-11) from rfl] at hR
        refine lv_aload_n hx hcb dX10_readStatement_113 rfl (lv_at hl 1 rfl) ?_
        refine x_cv0 rfl rfl (x_runV hx hcb hml hown hts (c_X10_goOn l G w hw (fiZ (rdW z) (¬ (rdW z).1 0 23 = nI 2) (-11)) _ ((rdW_ok hT).fi.1)) mv_X10_goOn q_1312 hK hZ hR hS (hw.lo (by decide)) xc10 (hw.s0 rfl) rfl hl.1 rfl (Nat.le_of_ble_eq_true rfl) dX10_readStatement_114 ⟨by decide, by decide⟩ ⟨by decide, by decide⟩) hS (fun z_112 H locs hp_113 hR hS => ?_)
        rw [hp_113] at hR
        refine lv_aload_n hx hcb dX10_readStatement_117 rfl (lv_at hl 1 rfl) ?_
        refine lv_dup hx hcb dX10_readStatement_118 rfl ?_
        refine x_getI hx hcb hts hown hK xc10 hR (hw.lo (by decide)) (hw.s0 rfl) 29 (by decide) rfl q_1195 dX10_readStatement_119 ?_
        refine lv_iconst (v := (nI 1)) hx hcb dX10_readStatement_122 (by decide) ?_
        refine lv_iadd hx hcb dX10_readStatement_123 ?_
        refine x_putI hx hcb hts hown hK xc10 hR hS (hw.lo (by decide)) (hw.s0 rfl) 29 (by decide) rfl q_1195 rfl (v := (((goZ (fiZ (rdW z) (¬ (rdW z).1 0 23 = nI 2) (-11))).1 0 29) + (nI 1))) rfl rfl dX10_readStatement_124 (fun H locs hR hS => ?_)
        rw [show u1 (goZ (fiZ (rdW z) (¬ (rdW z).1 0 23 = nI 2) (-11))) 0 29 (((goZ (fiZ (rdW z) (¬ (rdW z).1 0 23 = nI 2) (-11))).1 0 29) + (nI 1)) = stZ z from rfl] at hR
        exact hret (stZ z) _ _ _ _ dX10_readStatement_127 hR hS rfl
    · skip
      by_cases hw1_ : rsW z = nI 1
      · skip
        rw [hw1_] at hl
        refine lv_iload_n hx hcb dX10_readStatement_16 rfl (lv_at hl 0 rfl) ?_
        refine lv_tableIn (tgt := 59) hx hcb dX10_readStatement_17 (by decide) (by decide) (off := 42) (by decide) (by decide) ?_
        refine lv_aload_n hx hcb dX10_readStatement_59 rfl (lv_at hl 1 rfl) ?_
        refine x_cv0 rfl rfl (x_runV hx hcb hml hown hts (c_X10_readSection l G w hw z _ hT hO) mv_X10_readSection q_1328 hK hZ hR hS (hw.lo (by decide)) xc10 (hw.s0 rfl) rfl hl.1 rfl (Nat.le_of_ble_eq_true rfl) dX10_readStatement_60 ⟨by decide, by decide⟩ ⟨by decide, by decide⟩) hS (fun z_115 H locs hp_116 hR hS => ?_)
        rw [hp_116] at hR
        rw [show rpZ z = rdW z from by unfold rdW; rw [if_neg hw0_]; rw [if_pos hw1_]] at hR
        refine lv_goto (tgt := 94) hx hcb dX10_readStatement_63 (by decide) ?_
        refine lv_aload_n hx hcb dX10_readStatement_94 rfl (lv_at hl 1 rfl) ?_
        refine lv_aload_n hx hcb dX10_readStatement_95 rfl (lv_at hl 1 rfl) ?_
        refine x_getI hx hcb hts hown hK xc10 hR (hw.lo (by decide)) (hw.s0 rfl) 23 (by decide) rfl q_1189 dX10_readStatement_96 ?_
        refine lv_iconst (v := (nI 2)) hx hcb dX10_readStatement_99 (by decide) ?_
        refine lv_icmp_eq (tgt := 107) hx hcb dX10_readStatement_100 (by decide) (fun c_117 => ?_) (fun c_117 => ?_)
        · skip
          have hB_ : ¬ ¬ (rdW z).1 0 23 = nI 2 := fun q_ => q_ c_117
          refine lv_iconst (v := (nI 0)) hx hcb dX10_readStatement_107 (by decide) ?_
          refine lv_bipush (v := (-11)) hx hcb dX10_readStatement_108 (by decide) ?_
          refine x_cv0 rfl rfl (x_runV hx hcb hml hown hts (c_X10_failsIf l G w hw (rdW z) _ 0 (-11) (¬ (rdW z).1 0 23 = nI 2) (by first | (rw [if_pos hB_]; first | done | rfl) | (rw [if_neg hB_]; first | done | rfl))) mv_X10_failsIf q_1308 hK hZ hR hS (hw.lo (by decide)) xc10 (hw.s0 rfl) rfl hl.1 rfl (Nat.le_of_ble_eq_true rfl) dX10_readStatement_110 ⟨by decide, by decide⟩ ⟨by decide, by decide⟩) hS (fun z_119 H locs hp_120 hR hS => ?_)
          rw [hp_120] at hR
          rw [show fiZ (rdW z) (¬ (rdW z).1 0 23 = nI 2) (-11) = fiZ (rdW z) (¬ (rdW z).1 0 23 = nI 2) (-11) from rfl] at hR
          refine lv_aload_n hx hcb dX10_readStatement_113 rfl (lv_at hl 1 rfl) ?_
          refine x_cv0 rfl rfl (x_runV hx hcb hml hown hts (c_X10_goOn l G w hw (fiZ (rdW z) (¬ (rdW z).1 0 23 = nI 2) (-11)) _ ((rdW_ok hT).fi.1)) mv_X10_goOn q_1312 hK hZ hR hS (hw.lo (by decide)) xc10 (hw.s0 rfl) rfl hl.1 rfl (Nat.le_of_ble_eq_true rfl) dX10_readStatement_114 ⟨by decide, by decide⟩ ⟨by decide, by decide⟩) hS (fun z_122 H locs hp_123 hR hS => ?_)
          rw [hp_123] at hR
          refine lv_aload_n hx hcb dX10_readStatement_117 rfl (lv_at hl 1 rfl) ?_
          refine lv_dup hx hcb dX10_readStatement_118 rfl ?_
          refine x_getI hx hcb hts hown hK xc10 hR (hw.lo (by decide)) (hw.s0 rfl) 29 (by decide) rfl q_1195 dX10_readStatement_119 ?_
          refine lv_iconst (v := (nI 1)) hx hcb dX10_readStatement_122 (by decide) ?_
          refine lv_iadd hx hcb dX10_readStatement_123 ?_
          refine x_putI hx hcb hts hown hK xc10 hR hS (hw.lo (by decide)) (hw.s0 rfl) 29 (by decide) rfl q_1195 rfl (v := (((goZ (fiZ (rdW z) (¬ (rdW z).1 0 23 = nI 2) (-11))).1 0 29) + (nI 1))) rfl rfl dX10_readStatement_124 (fun H locs hR hS => ?_)
          rw [show u1 (goZ (fiZ (rdW z) (¬ (rdW z).1 0 23 = nI 2) (-11))) 0 29 (((goZ (fiZ (rdW z) (¬ (rdW z).1 0 23 = nI 2) (-11))).1 0 29) + (nI 1)) = stZ z from rfl] at hR
          exact hret (stZ z) _ _ _ _ dX10_readStatement_127 hR hS rfl
        · skip
          have hB_ : ¬ (rdW z).1 0 23 = nI 2 := c_117
          refine lv_iconst (v := (nI 1)) hx hcb dX10_readStatement_103 (by decide) ?_
          refine lv_goto (tgt := 108) hx hcb dX10_readStatement_104 (by decide) ?_
          refine lv_bipush (v := (-11)) hx hcb dX10_readStatement_108 (by decide) ?_
          refine x_cv0 rfl rfl (x_runV hx hcb hml hown hts (c_X10_failsIf l G w hw (rdW z) _ 1 (-11) (¬ (rdW z).1 0 23 = nI 2) (by first | (rw [if_pos hB_]; first | done | rfl) | (rw [if_neg hB_]; first | done | rfl))) mv_X10_failsIf q_1308 hK hZ hR hS (hw.lo (by decide)) xc10 (hw.s0 rfl) rfl hl.1 rfl (Nat.le_of_ble_eq_true rfl) dX10_readStatement_110 ⟨by decide, by decide⟩ ⟨by decide, by decide⟩) hS (fun z_125 H locs hp_126 hR hS => ?_)
          rw [hp_126] at hR
          rw [show fiZ (rdW z) (¬ (rdW z).1 0 23 = nI 2) (-11) = fiZ (rdW z) (¬ (rdW z).1 0 23 = nI 2) (-11) from rfl] at hR
          refine lv_aload_n hx hcb dX10_readStatement_113 rfl (lv_at hl 1 rfl) ?_
          refine x_cv0 rfl rfl (x_runV hx hcb hml hown hts (c_X10_goOn l G w hw (fiZ (rdW z) (¬ (rdW z).1 0 23 = nI 2) (-11)) _ ((rdW_ok hT).fi.1)) mv_X10_goOn q_1312 hK hZ hR hS (hw.lo (by decide)) xc10 (hw.s0 rfl) rfl hl.1 rfl (Nat.le_of_ble_eq_true rfl) dX10_readStatement_114 ⟨by decide, by decide⟩ ⟨by decide, by decide⟩) hS (fun z_128 H locs hp_129 hR hS => ?_)
          rw [hp_129] at hR
          refine lv_aload_n hx hcb dX10_readStatement_117 rfl (lv_at hl 1 rfl) ?_
          refine lv_dup hx hcb dX10_readStatement_118 rfl ?_
          refine x_getI hx hcb hts hown hK xc10 hR (hw.lo (by decide)) (hw.s0 rfl) 29 (by decide) rfl q_1195 dX10_readStatement_119 ?_
          refine lv_iconst (v := (nI 1)) hx hcb dX10_readStatement_122 (by decide) ?_
          refine lv_iadd hx hcb dX10_readStatement_123 ?_
          refine x_putI hx hcb hts hown hK xc10 hR hS (hw.lo (by decide)) (hw.s0 rfl) 29 (by decide) rfl q_1195 rfl (v := (((goZ (fiZ (rdW z) (¬ (rdW z).1 0 23 = nI 2) (-11))).1 0 29) + (nI 1))) rfl rfl dX10_readStatement_124 (fun H locs hR hS => ?_)
          rw [show u1 (goZ (fiZ (rdW z) (¬ (rdW z).1 0 23 = nI 2) (-11))) 0 29 (((goZ (fiZ (rdW z) (¬ (rdW z).1 0 23 = nI 2) (-11))).1 0 29) + (nI 1)) = stZ z from rfl] at hR
          exact hret (stZ z) _ _ _ _ dX10_readStatement_127 hR hS rfl
      · skip
        by_cases hw2_ : rsW z = nI 2
        · skip
          rw [hw2_] at hl
          refine lv_iload_n hx hcb dX10_readStatement_16 rfl (lv_at hl 0 rfl) ?_
          refine lv_tableIn (tgt := 66) hx hcb dX10_readStatement_17 (by decide) (by decide) (off := 49) (by decide) (by decide) ?_
          refine lv_aload_n hx hcb dX10_readStatement_66 rfl (lv_at hl 1 rfl) ?_
          refine x_cv0 rfl rfl (x_runV hx hcb hml hown hts (c_X10_readTrade l G w hw z _ hT hO) mv_X10_readTrade q_1332 hK hZ hR hS (hw.lo (by decide)) xc10 (hw.s0 rfl) rfl hl.1 rfl (Nat.le_of_ble_eq_true rfl) dX10_readStatement_67 ⟨by decide, by decide⟩ ⟨by decide, by decide⟩) hS (fun z_131 H locs hp_132 hR hS => ?_)
          rw [hp_132] at hR
          rw [show rtZ z = rdW z from by unfold rdW; rw [if_neg hw0_]; rw [if_neg hw1_]; rw [if_pos hw2_]] at hR
          refine lv_goto (tgt := 94) hx hcb dX10_readStatement_70 (by decide) ?_
          refine lv_aload_n hx hcb dX10_readStatement_94 rfl (lv_at hl 1 rfl) ?_
          refine lv_aload_n hx hcb dX10_readStatement_95 rfl (lv_at hl 1 rfl) ?_
          refine x_getI hx hcb hts hown hK xc10 hR (hw.lo (by decide)) (hw.s0 rfl) 23 (by decide) rfl q_1189 dX10_readStatement_96 ?_
          refine lv_iconst (v := (nI 2)) hx hcb dX10_readStatement_99 (by decide) ?_
          refine lv_icmp_eq (tgt := 107) hx hcb dX10_readStatement_100 (by decide) (fun c_133 => ?_) (fun c_133 => ?_)
          · skip
            have hB_ : ¬ ¬ (rdW z).1 0 23 = nI 2 := fun q_ => q_ c_133
            refine lv_iconst (v := (nI 0)) hx hcb dX10_readStatement_107 (by decide) ?_
            refine lv_bipush (v := (-11)) hx hcb dX10_readStatement_108 (by decide) ?_
            refine x_cv0 rfl rfl (x_runV hx hcb hml hown hts (c_X10_failsIf l G w hw (rdW z) _ 0 (-11) (¬ (rdW z).1 0 23 = nI 2) (by first | (rw [if_pos hB_]; first | done | rfl) | (rw [if_neg hB_]; first | done | rfl))) mv_X10_failsIf q_1308 hK hZ hR hS (hw.lo (by decide)) xc10 (hw.s0 rfl) rfl hl.1 rfl (Nat.le_of_ble_eq_true rfl) dX10_readStatement_110 ⟨by decide, by decide⟩ ⟨by decide, by decide⟩) hS (fun z_135 H locs hp_136 hR hS => ?_)
            rw [hp_136] at hR
            rw [show fiZ (rdW z) (¬ (rdW z).1 0 23 = nI 2) (-11) = fiZ (rdW z) (¬ (rdW z).1 0 23 = nI 2) (-11) from rfl] at hR
            refine lv_aload_n hx hcb dX10_readStatement_113 rfl (lv_at hl 1 rfl) ?_
            refine x_cv0 rfl rfl (x_runV hx hcb hml hown hts (c_X10_goOn l G w hw (fiZ (rdW z) (¬ (rdW z).1 0 23 = nI 2) (-11)) _ ((rdW_ok hT).fi.1)) mv_X10_goOn q_1312 hK hZ hR hS (hw.lo (by decide)) xc10 (hw.s0 rfl) rfl hl.1 rfl (Nat.le_of_ble_eq_true rfl) dX10_readStatement_114 ⟨by decide, by decide⟩ ⟨by decide, by decide⟩) hS (fun z_138 H locs hp_139 hR hS => ?_)
            rw [hp_139] at hR
            refine lv_aload_n hx hcb dX10_readStatement_117 rfl (lv_at hl 1 rfl) ?_
            refine lv_dup hx hcb dX10_readStatement_118 rfl ?_
            refine x_getI hx hcb hts hown hK xc10 hR (hw.lo (by decide)) (hw.s0 rfl) 29 (by decide) rfl q_1195 dX10_readStatement_119 ?_
            refine lv_iconst (v := (nI 1)) hx hcb dX10_readStatement_122 (by decide) ?_
            refine lv_iadd hx hcb dX10_readStatement_123 ?_
            refine x_putI hx hcb hts hown hK xc10 hR hS (hw.lo (by decide)) (hw.s0 rfl) 29 (by decide) rfl q_1195 rfl (v := (((goZ (fiZ (rdW z) (¬ (rdW z).1 0 23 = nI 2) (-11))).1 0 29) + (nI 1))) rfl rfl dX10_readStatement_124 (fun H locs hR hS => ?_)
            rw [show u1 (goZ (fiZ (rdW z) (¬ (rdW z).1 0 23 = nI 2) (-11))) 0 29 (((goZ (fiZ (rdW z) (¬ (rdW z).1 0 23 = nI 2) (-11))).1 0 29) + (nI 1)) = stZ z from rfl] at hR
            exact hret (stZ z) _ _ _ _ dX10_readStatement_127 hR hS rfl
          · skip
            have hB_ : ¬ (rdW z).1 0 23 = nI 2 := c_133
            refine lv_iconst (v := (nI 1)) hx hcb dX10_readStatement_103 (by decide) ?_
            refine lv_goto (tgt := 108) hx hcb dX10_readStatement_104 (by decide) ?_
            refine lv_bipush (v := (-11)) hx hcb dX10_readStatement_108 (by decide) ?_
            refine x_cv0 rfl rfl (x_runV hx hcb hml hown hts (c_X10_failsIf l G w hw (rdW z) _ 1 (-11) (¬ (rdW z).1 0 23 = nI 2) (by first | (rw [if_pos hB_]; first | done | rfl) | (rw [if_neg hB_]; first | done | rfl))) mv_X10_failsIf q_1308 hK hZ hR hS (hw.lo (by decide)) xc10 (hw.s0 rfl) rfl hl.1 rfl (Nat.le_of_ble_eq_true rfl) dX10_readStatement_110 ⟨by decide, by decide⟩ ⟨by decide, by decide⟩) hS (fun z_141 H locs hp_142 hR hS => ?_)
            rw [hp_142] at hR
            rw [show fiZ (rdW z) (¬ (rdW z).1 0 23 = nI 2) (-11) = fiZ (rdW z) (¬ (rdW z).1 0 23 = nI 2) (-11) from rfl] at hR
            refine lv_aload_n hx hcb dX10_readStatement_113 rfl (lv_at hl 1 rfl) ?_
            refine x_cv0 rfl rfl (x_runV hx hcb hml hown hts (c_X10_goOn l G w hw (fiZ (rdW z) (¬ (rdW z).1 0 23 = nI 2) (-11)) _ ((rdW_ok hT).fi.1)) mv_X10_goOn q_1312 hK hZ hR hS (hw.lo (by decide)) xc10 (hw.s0 rfl) rfl hl.1 rfl (Nat.le_of_ble_eq_true rfl) dX10_readStatement_114 ⟨by decide, by decide⟩ ⟨by decide, by decide⟩) hS (fun z_144 H locs hp_145 hR hS => ?_)
            rw [hp_145] at hR
            refine lv_aload_n hx hcb dX10_readStatement_117 rfl (lv_at hl 1 rfl) ?_
            refine lv_dup hx hcb dX10_readStatement_118 rfl ?_
            refine x_getI hx hcb hts hown hK xc10 hR (hw.lo (by decide)) (hw.s0 rfl) 29 (by decide) rfl q_1195 dX10_readStatement_119 ?_
            refine lv_iconst (v := (nI 1)) hx hcb dX10_readStatement_122 (by decide) ?_
            refine lv_iadd hx hcb dX10_readStatement_123 ?_
            refine x_putI hx hcb hts hown hK xc10 hR hS (hw.lo (by decide)) (hw.s0 rfl) 29 (by decide) rfl q_1195 rfl (v := (((goZ (fiZ (rdW z) (¬ (rdW z).1 0 23 = nI 2) (-11))).1 0 29) + (nI 1))) rfl rfl dX10_readStatement_124 (fun H locs hR hS => ?_)
            rw [show u1 (goZ (fiZ (rdW z) (¬ (rdW z).1 0 23 = nI 2) (-11))) 0 29 (((goZ (fiZ (rdW z) (¬ (rdW z).1 0 23 = nI 2) (-11))).1 0 29) + (nI 1)) = stZ z from rfl] at hR
            exact hret (stZ z) _ _ _ _ dX10_readStatement_127 hR hS rfl
        · skip
          by_cases hw3_ : rsW z = nI 3
          · skip
            rw [hw3_] at hl
            refine lv_iload_n hx hcb dX10_readStatement_16 rfl (lv_at hl 0 rfl) ?_
            refine lv_tableIn (tgt := 73) hx hcb dX10_readStatement_17 (by decide) (by decide) (off := 56) (by decide) (by decide) ?_
            refine lv_aload_n hx hcb dX10_readStatement_73 rfl (lv_at hl 1 rfl) ?_
            refine x_cv0 rfl rfl (x_runV hx hcb hml hown hts (c_X10_readClose l G w hw z _ hT hO (hcl hw3_)) mv_X10_readClose q_1346 hK hZ hR hS (hw.lo (by decide)) xc10 (hw.s0 rfl) rfl hl.1 rfl (Nat.le_of_ble_eq_true rfl) dX10_readStatement_74 ⟨by decide, by decide⟩ ⟨by decide, by decide⟩) hS (fun z_147 H locs hp_148 hR hS => ?_)
            rw [hp_148] at hR
            rw [show rcX z = rdW z from by unfold rdW; rw [if_neg hw0_]; rw [if_neg hw1_]; rw [if_neg hw2_]; rw [if_pos hw3_]] at hR
            refine lv_goto (tgt := 94) hx hcb dX10_readStatement_77 (by decide) ?_
            refine lv_aload_n hx hcb dX10_readStatement_94 rfl (lv_at hl 1 rfl) ?_
            refine lv_aload_n hx hcb dX10_readStatement_95 rfl (lv_at hl 1 rfl) ?_
            refine x_getI hx hcb hts hown hK xc10 hR (hw.lo (by decide)) (hw.s0 rfl) 23 (by decide) rfl q_1189 dX10_readStatement_96 ?_
            refine lv_iconst (v := (nI 2)) hx hcb dX10_readStatement_99 (by decide) ?_
            refine lv_icmp_eq (tgt := 107) hx hcb dX10_readStatement_100 (by decide) (fun c_149 => ?_) (fun c_149 => ?_)
            · skip
              have hB_ : ¬ ¬ (rdW z).1 0 23 = nI 2 := fun q_ => q_ c_149
              refine lv_iconst (v := (nI 0)) hx hcb dX10_readStatement_107 (by decide) ?_
              refine lv_bipush (v := (-11)) hx hcb dX10_readStatement_108 (by decide) ?_
              refine x_cv0 rfl rfl (x_runV hx hcb hml hown hts (c_X10_failsIf l G w hw (rdW z) _ 0 (-11) (¬ (rdW z).1 0 23 = nI 2) (by first | (rw [if_pos hB_]; first | done | rfl) | (rw [if_neg hB_]; first | done | rfl))) mv_X10_failsIf q_1308 hK hZ hR hS (hw.lo (by decide)) xc10 (hw.s0 rfl) rfl hl.1 rfl (Nat.le_of_ble_eq_true rfl) dX10_readStatement_110 ⟨by decide, by decide⟩ ⟨by decide, by decide⟩) hS (fun z_151 H locs hp_152 hR hS => ?_)
              rw [hp_152] at hR
              rw [show fiZ (rdW z) (¬ (rdW z).1 0 23 = nI 2) (-11) = fiZ (rdW z) (¬ (rdW z).1 0 23 = nI 2) (-11) from rfl] at hR
              refine lv_aload_n hx hcb dX10_readStatement_113 rfl (lv_at hl 1 rfl) ?_
              refine x_cv0 rfl rfl (x_runV hx hcb hml hown hts (c_X10_goOn l G w hw (fiZ (rdW z) (¬ (rdW z).1 0 23 = nI 2) (-11)) _ ((rdW_ok hT).fi.1)) mv_X10_goOn q_1312 hK hZ hR hS (hw.lo (by decide)) xc10 (hw.s0 rfl) rfl hl.1 rfl (Nat.le_of_ble_eq_true rfl) dX10_readStatement_114 ⟨by decide, by decide⟩ ⟨by decide, by decide⟩) hS (fun z_154 H locs hp_155 hR hS => ?_)
              rw [hp_155] at hR
              refine lv_aload_n hx hcb dX10_readStatement_117 rfl (lv_at hl 1 rfl) ?_
              refine lv_dup hx hcb dX10_readStatement_118 rfl ?_
              refine x_getI hx hcb hts hown hK xc10 hR (hw.lo (by decide)) (hw.s0 rfl) 29 (by decide) rfl q_1195 dX10_readStatement_119 ?_
              refine lv_iconst (v := (nI 1)) hx hcb dX10_readStatement_122 (by decide) ?_
              refine lv_iadd hx hcb dX10_readStatement_123 ?_
              refine x_putI hx hcb hts hown hK xc10 hR hS (hw.lo (by decide)) (hw.s0 rfl) 29 (by decide) rfl q_1195 rfl (v := (((goZ (fiZ (rdW z) (¬ (rdW z).1 0 23 = nI 2) (-11))).1 0 29) + (nI 1))) rfl rfl dX10_readStatement_124 (fun H locs hR hS => ?_)
              rw [show u1 (goZ (fiZ (rdW z) (¬ (rdW z).1 0 23 = nI 2) (-11))) 0 29 (((goZ (fiZ (rdW z) (¬ (rdW z).1 0 23 = nI 2) (-11))).1 0 29) + (nI 1)) = stZ z from rfl] at hR
              exact hret (stZ z) _ _ _ _ dX10_readStatement_127 hR hS rfl
            · skip
              have hB_ : ¬ (rdW z).1 0 23 = nI 2 := c_149
              refine lv_iconst (v := (nI 1)) hx hcb dX10_readStatement_103 (by decide) ?_
              refine lv_goto (tgt := 108) hx hcb dX10_readStatement_104 (by decide) ?_
              refine lv_bipush (v := (-11)) hx hcb dX10_readStatement_108 (by decide) ?_
              refine x_cv0 rfl rfl (x_runV hx hcb hml hown hts (c_X10_failsIf l G w hw (rdW z) _ 1 (-11) (¬ (rdW z).1 0 23 = nI 2) (by first | (rw [if_pos hB_]; first | done | rfl) | (rw [if_neg hB_]; first | done | rfl))) mv_X10_failsIf q_1308 hK hZ hR hS (hw.lo (by decide)) xc10 (hw.s0 rfl) rfl hl.1 rfl (Nat.le_of_ble_eq_true rfl) dX10_readStatement_110 ⟨by decide, by decide⟩ ⟨by decide, by decide⟩) hS (fun z_157 H locs hp_158 hR hS => ?_)
              rw [hp_158] at hR
              rw [show fiZ (rdW z) (¬ (rdW z).1 0 23 = nI 2) (-11) = fiZ (rdW z) (¬ (rdW z).1 0 23 = nI 2) (-11) from rfl] at hR
              refine lv_aload_n hx hcb dX10_readStatement_113 rfl (lv_at hl 1 rfl) ?_
              refine x_cv0 rfl rfl (x_runV hx hcb hml hown hts (c_X10_goOn l G w hw (fiZ (rdW z) (¬ (rdW z).1 0 23 = nI 2) (-11)) _ ((rdW_ok hT).fi.1)) mv_X10_goOn q_1312 hK hZ hR hS (hw.lo (by decide)) xc10 (hw.s0 rfl) rfl hl.1 rfl (Nat.le_of_ble_eq_true rfl) dX10_readStatement_114 ⟨by decide, by decide⟩ ⟨by decide, by decide⟩) hS (fun z_160 H locs hp_161 hR hS => ?_)
              rw [hp_161] at hR
              refine lv_aload_n hx hcb dX10_readStatement_117 rfl (lv_at hl 1 rfl) ?_
              refine lv_dup hx hcb dX10_readStatement_118 rfl ?_
              refine x_getI hx hcb hts hown hK xc10 hR (hw.lo (by decide)) (hw.s0 rfl) 29 (by decide) rfl q_1195 dX10_readStatement_119 ?_
              refine lv_iconst (v := (nI 1)) hx hcb dX10_readStatement_122 (by decide) ?_
              refine lv_iadd hx hcb dX10_readStatement_123 ?_
              refine x_putI hx hcb hts hown hK xc10 hR hS (hw.lo (by decide)) (hw.s0 rfl) 29 (by decide) rfl q_1195 rfl (v := (((goZ (fiZ (rdW z) (¬ (rdW z).1 0 23 = nI 2) (-11))).1 0 29) + (nI 1))) rfl rfl dX10_readStatement_124 (fun H locs hR hS => ?_)
              rw [show u1 (goZ (fiZ (rdW z) (¬ (rdW z).1 0 23 = nI 2) (-11))) 0 29 (((goZ (fiZ (rdW z) (¬ (rdW z).1 0 23 = nI 2) (-11))).1 0 29) + (nI 1)) = stZ z from rfl] at hR
              exact hret (stZ z) _ _ _ _ dX10_readStatement_127 hR hS rfl
          · skip
            by_cases hw4_ : rsW z = nI 4
            · skip
              rw [hw4_] at hl
              refine lv_iload_n hx hcb dX10_readStatement_16 rfl (lv_at hl 0 rfl) ?_
              refine lv_tableIn (tgt := 80) hx hcb dX10_readStatement_17 (by decide) (by decide) (off := 63) (by decide) (by decide) ?_
              refine lv_aload_n hx hcb dX10_readStatement_80 rfl (lv_at hl 1 rfl) ?_
              refine x_cv0 rfl rfl (x_runV hx hcb hml hown hts (c_X10_readSet l G w hw z _ hT) mv_X10_readSet q_1407 hK hZ hR hS (hw.lo (by decide)) xc10 (hw.s0 rfl) rfl hl.1 rfl (Nat.le_of_ble_eq_true rfl) dX10_readStatement_81 ⟨by decide, by decide⟩ ⟨by decide, by decide⟩) hS (fun z_163 H locs hp_164 hR hS => ?_)
              rw [hp_164] at hR
              rw [show rsZ z = rdW z from by unfold rdW; rw [if_neg hw0_]; rw [if_neg hw1_]; rw [if_neg hw2_]; rw [if_neg hw3_]; rw [if_pos hw4_]] at hR
              refine lv_goto (tgt := 94) hx hcb dX10_readStatement_84 (by decide) ?_
              refine lv_aload_n hx hcb dX10_readStatement_94 rfl (lv_at hl 1 rfl) ?_
              refine lv_aload_n hx hcb dX10_readStatement_95 rfl (lv_at hl 1 rfl) ?_
              refine x_getI hx hcb hts hown hK xc10 hR (hw.lo (by decide)) (hw.s0 rfl) 23 (by decide) rfl q_1189 dX10_readStatement_96 ?_
              refine lv_iconst (v := (nI 2)) hx hcb dX10_readStatement_99 (by decide) ?_
              refine lv_icmp_eq (tgt := 107) hx hcb dX10_readStatement_100 (by decide) (fun c_165 => ?_) (fun c_165 => ?_)
              · skip
                have hB_ : ¬ ¬ (rdW z).1 0 23 = nI 2 := fun q_ => q_ c_165
                refine lv_iconst (v := (nI 0)) hx hcb dX10_readStatement_107 (by decide) ?_
                refine lv_bipush (v := (-11)) hx hcb dX10_readStatement_108 (by decide) ?_
                refine x_cv0 rfl rfl (x_runV hx hcb hml hown hts (c_X10_failsIf l G w hw (rdW z) _ 0 (-11) (¬ (rdW z).1 0 23 = nI 2) (by first | (rw [if_pos hB_]; first | done | rfl) | (rw [if_neg hB_]; first | done | rfl))) mv_X10_failsIf q_1308 hK hZ hR hS (hw.lo (by decide)) xc10 (hw.s0 rfl) rfl hl.1 rfl (Nat.le_of_ble_eq_true rfl) dX10_readStatement_110 ⟨by decide, by decide⟩ ⟨by decide, by decide⟩) hS (fun z_167 H locs hp_168 hR hS => ?_)
                rw [hp_168] at hR
                rw [show fiZ (rdW z) (¬ (rdW z).1 0 23 = nI 2) (-11) = fiZ (rdW z) (¬ (rdW z).1 0 23 = nI 2) (-11) from rfl] at hR
                refine lv_aload_n hx hcb dX10_readStatement_113 rfl (lv_at hl 1 rfl) ?_
                refine x_cv0 rfl rfl (x_runV hx hcb hml hown hts (c_X10_goOn l G w hw (fiZ (rdW z) (¬ (rdW z).1 0 23 = nI 2) (-11)) _ ((rdW_ok hT).fi.1)) mv_X10_goOn q_1312 hK hZ hR hS (hw.lo (by decide)) xc10 (hw.s0 rfl) rfl hl.1 rfl (Nat.le_of_ble_eq_true rfl) dX10_readStatement_114 ⟨by decide, by decide⟩ ⟨by decide, by decide⟩) hS (fun z_170 H locs hp_171 hR hS => ?_)
                rw [hp_171] at hR
                refine lv_aload_n hx hcb dX10_readStatement_117 rfl (lv_at hl 1 rfl) ?_
                refine lv_dup hx hcb dX10_readStatement_118 rfl ?_
                refine x_getI hx hcb hts hown hK xc10 hR (hw.lo (by decide)) (hw.s0 rfl) 29 (by decide) rfl q_1195 dX10_readStatement_119 ?_
                refine lv_iconst (v := (nI 1)) hx hcb dX10_readStatement_122 (by decide) ?_
                refine lv_iadd hx hcb dX10_readStatement_123 ?_
                refine x_putI hx hcb hts hown hK xc10 hR hS (hw.lo (by decide)) (hw.s0 rfl) 29 (by decide) rfl q_1195 rfl (v := (((goZ (fiZ (rdW z) (¬ (rdW z).1 0 23 = nI 2) (-11))).1 0 29) + (nI 1))) rfl rfl dX10_readStatement_124 (fun H locs hR hS => ?_)
                rw [show u1 (goZ (fiZ (rdW z) (¬ (rdW z).1 0 23 = nI 2) (-11))) 0 29 (((goZ (fiZ (rdW z) (¬ (rdW z).1 0 23 = nI 2) (-11))).1 0 29) + (nI 1)) = stZ z from rfl] at hR
                exact hret (stZ z) _ _ _ _ dX10_readStatement_127 hR hS rfl
              · skip
                have hB_ : ¬ (rdW z).1 0 23 = nI 2 := c_165
                refine lv_iconst (v := (nI 1)) hx hcb dX10_readStatement_103 (by decide) ?_
                refine lv_goto (tgt := 108) hx hcb dX10_readStatement_104 (by decide) ?_
                refine lv_bipush (v := (-11)) hx hcb dX10_readStatement_108 (by decide) ?_
                refine x_cv0 rfl rfl (x_runV hx hcb hml hown hts (c_X10_failsIf l G w hw (rdW z) _ 1 (-11) (¬ (rdW z).1 0 23 = nI 2) (by first | (rw [if_pos hB_]; first | done | rfl) | (rw [if_neg hB_]; first | done | rfl))) mv_X10_failsIf q_1308 hK hZ hR hS (hw.lo (by decide)) xc10 (hw.s0 rfl) rfl hl.1 rfl (Nat.le_of_ble_eq_true rfl) dX10_readStatement_110 ⟨by decide, by decide⟩ ⟨by decide, by decide⟩) hS (fun z_173 H locs hp_174 hR hS => ?_)
                rw [hp_174] at hR
                rw [show fiZ (rdW z) (¬ (rdW z).1 0 23 = nI 2) (-11) = fiZ (rdW z) (¬ (rdW z).1 0 23 = nI 2) (-11) from rfl] at hR
                refine lv_aload_n hx hcb dX10_readStatement_113 rfl (lv_at hl 1 rfl) ?_
                refine x_cv0 rfl rfl (x_runV hx hcb hml hown hts (c_X10_goOn l G w hw (fiZ (rdW z) (¬ (rdW z).1 0 23 = nI 2) (-11)) _ ((rdW_ok hT).fi.1)) mv_X10_goOn q_1312 hK hZ hR hS (hw.lo (by decide)) xc10 (hw.s0 rfl) rfl hl.1 rfl (Nat.le_of_ble_eq_true rfl) dX10_readStatement_114 ⟨by decide, by decide⟩ ⟨by decide, by decide⟩) hS (fun z_176 H locs hp_177 hR hS => ?_)
                rw [hp_177] at hR
                refine lv_aload_n hx hcb dX10_readStatement_117 rfl (lv_at hl 1 rfl) ?_
                refine lv_dup hx hcb dX10_readStatement_118 rfl ?_
                refine x_getI hx hcb hts hown hK xc10 hR (hw.lo (by decide)) (hw.s0 rfl) 29 (by decide) rfl q_1195 dX10_readStatement_119 ?_
                refine lv_iconst (v := (nI 1)) hx hcb dX10_readStatement_122 (by decide) ?_
                refine lv_iadd hx hcb dX10_readStatement_123 ?_
                refine x_putI hx hcb hts hown hK xc10 hR hS (hw.lo (by decide)) (hw.s0 rfl) 29 (by decide) rfl q_1195 rfl (v := (((goZ (fiZ (rdW z) (¬ (rdW z).1 0 23 = nI 2) (-11))).1 0 29) + (nI 1))) rfl rfl dX10_readStatement_124 (fun H locs hR hS => ?_)
                rw [show u1 (goZ (fiZ (rdW z) (¬ (rdW z).1 0 23 = nI 2) (-11))) 0 29 (((goZ (fiZ (rdW z) (¬ (rdW z).1 0 23 = nI 2) (-11))).1 0 29) + (nI 1)) = stZ z from rfl] at hR
                exact hret (stZ z) _ _ _ _ dX10_readStatement_127 hR hS rfl
            · skip
              refine lv_iload_n hx hcb dX10_readStatement_16 rfl (lv_at hl 0 rfl) ?_
              refine lv_tableOut (tgt := 87) hx hcb dX10_readStatement_17 ((sw_out hT hw0_ hw1_ hw2_ hw3_ hw4_).imp Int32.lt_iff_toInt_lt.mp Int32.lt_iff_toInt_lt.mp) (by decide) ?_
              refine lv_aload_n hx hcb dX10_readStatement_87 rfl (lv_at hl 1 rfl) ?_
              refine lv_iconst (v := (nI 1)) hx hcb dX10_readStatement_88 (by decide) ?_
              refine lv_bipush (v := (-11)) hx hcb dX10_readStatement_89 (by decide) ?_
              refine x_cv0 rfl rfl (x_runV hx hcb hml hown hts (c_X10_failsIf l G w hw z _ 1 (-11) True ((if_pos trivial).symm)) mv_X10_failsIf q_1308 hK hZ hR hS (hw.lo (by decide)) xc10 (hw.s0 rfl) rfl hl.1 rfl (Nat.le_of_ble_eq_true rfl) dX10_readStatement_91 ⟨by decide, by decide⟩ ⟨by decide, by decide⟩) hS (fun z_179 H locs hp_180 hR hS => ?_)
              rw [hp_180] at hR
              rw [show fiZ z True (-11) = rdW z from by unfold rdW; rw [if_neg hw0_]; rw [if_neg hw1_]; rw [if_neg hw2_]; rw [if_neg hw3_]; rw [if_neg hw4_]; first | done | rfl] at hR
              refine lv_aload_n hx hcb dX10_readStatement_94 rfl (lv_at hl 1 rfl) ?_
              refine lv_aload_n hx hcb dX10_readStatement_95 rfl (lv_at hl 1 rfl) ?_
              refine x_getI hx hcb hts hown hK xc10 hR (hw.lo (by decide)) (hw.s0 rfl) 23 (by decide) rfl q_1189 dX10_readStatement_96 ?_
              refine lv_iconst (v := (nI 2)) hx hcb dX10_readStatement_99 (by decide) ?_
              refine lv_icmp_eq (tgt := 107) hx hcb dX10_readStatement_100 (by decide) (fun c_181 => ?_) (fun c_181 => ?_)
              · skip
                have hB_ : ¬ ¬ (rdW z).1 0 23 = nI 2 := fun q_ => q_ c_181
                refine lv_iconst (v := (nI 0)) hx hcb dX10_readStatement_107 (by decide) ?_
                refine lv_bipush (v := (-11)) hx hcb dX10_readStatement_108 (by decide) ?_
                refine x_cv0 rfl rfl (x_runV hx hcb hml hown hts (c_X10_failsIf l G w hw (rdW z) _ 0 (-11) (¬ (rdW z).1 0 23 = nI 2) (by first | (rw [if_pos hB_]; first | done | rfl) | (rw [if_neg hB_]; first | done | rfl))) mv_X10_failsIf q_1308 hK hZ hR hS (hw.lo (by decide)) xc10 (hw.s0 rfl) rfl hl.1 rfl (Nat.le_of_ble_eq_true rfl) dX10_readStatement_110 ⟨by decide, by decide⟩ ⟨by decide, by decide⟩) hS (fun z_183 H locs hp_184 hR hS => ?_)
                rw [hp_184] at hR
                rw [show fiZ (rdW z) (¬ (rdW z).1 0 23 = nI 2) (-11) = fiZ (rdW z) (¬ (rdW z).1 0 23 = nI 2) (-11) from rfl] at hR
                refine lv_aload_n hx hcb dX10_readStatement_113 rfl (lv_at hl 1 rfl) ?_
                refine x_cv0 rfl rfl (x_runV hx hcb hml hown hts (c_X10_goOn l G w hw (fiZ (rdW z) (¬ (rdW z).1 0 23 = nI 2) (-11)) _ ((rdW_ok hT).fi.1)) mv_X10_goOn q_1312 hK hZ hR hS (hw.lo (by decide)) xc10 (hw.s0 rfl) rfl hl.1 rfl (Nat.le_of_ble_eq_true rfl) dX10_readStatement_114 ⟨by decide, by decide⟩ ⟨by decide, by decide⟩) hS (fun z_186 H locs hp_187 hR hS => ?_)
                rw [hp_187] at hR
                refine lv_aload_n hx hcb dX10_readStatement_117 rfl (lv_at hl 1 rfl) ?_
                refine lv_dup hx hcb dX10_readStatement_118 rfl ?_
                refine x_getI hx hcb hts hown hK xc10 hR (hw.lo (by decide)) (hw.s0 rfl) 29 (by decide) rfl q_1195 dX10_readStatement_119 ?_
                refine lv_iconst (v := (nI 1)) hx hcb dX10_readStatement_122 (by decide) ?_
                refine lv_iadd hx hcb dX10_readStatement_123 ?_
                refine x_putI hx hcb hts hown hK xc10 hR hS (hw.lo (by decide)) (hw.s0 rfl) 29 (by decide) rfl q_1195 rfl (v := (((goZ (fiZ (rdW z) (¬ (rdW z).1 0 23 = nI 2) (-11))).1 0 29) + (nI 1))) rfl rfl dX10_readStatement_124 (fun H locs hR hS => ?_)
                rw [show u1 (goZ (fiZ (rdW z) (¬ (rdW z).1 0 23 = nI 2) (-11))) 0 29 (((goZ (fiZ (rdW z) (¬ (rdW z).1 0 23 = nI 2) (-11))).1 0 29) + (nI 1)) = stZ z from rfl] at hR
                exact hret (stZ z) _ _ _ _ dX10_readStatement_127 hR hS rfl
              · skip
                have hB_ : ¬ (rdW z).1 0 23 = nI 2 := c_181
                refine lv_iconst (v := (nI 1)) hx hcb dX10_readStatement_103 (by decide) ?_
                refine lv_goto (tgt := 108) hx hcb dX10_readStatement_104 (by decide) ?_
                refine lv_bipush (v := (-11)) hx hcb dX10_readStatement_108 (by decide) ?_
                refine x_cv0 rfl rfl (x_runV hx hcb hml hown hts (c_X10_failsIf l G w hw (rdW z) _ 1 (-11) (¬ (rdW z).1 0 23 = nI 2) (by first | (rw [if_pos hB_]; first | done | rfl) | (rw [if_neg hB_]; first | done | rfl))) mv_X10_failsIf q_1308 hK hZ hR hS (hw.lo (by decide)) xc10 (hw.s0 rfl) rfl hl.1 rfl (Nat.le_of_ble_eq_true rfl) dX10_readStatement_110 ⟨by decide, by decide⟩ ⟨by decide, by decide⟩) hS (fun z_189 H locs hp_190 hR hS => ?_)
                rw [hp_190] at hR
                rw [show fiZ (rdW z) (¬ (rdW z).1 0 23 = nI 2) (-11) = fiZ (rdW z) (¬ (rdW z).1 0 23 = nI 2) (-11) from rfl] at hR
                refine lv_aload_n hx hcb dX10_readStatement_113 rfl (lv_at hl 1 rfl) ?_
                refine x_cv0 rfl rfl (x_runV hx hcb hml hown hts (c_X10_goOn l G w hw (fiZ (rdW z) (¬ (rdW z).1 0 23 = nI 2) (-11)) _ ((rdW_ok hT).fi.1)) mv_X10_goOn q_1312 hK hZ hR hS (hw.lo (by decide)) xc10 (hw.s0 rfl) rfl hl.1 rfl (Nat.le_of_ble_eq_true rfl) dX10_readStatement_114 ⟨by decide, by decide⟩ ⟨by decide, by decide⟩) hS (fun z_192 H locs hp_193 hR hS => ?_)
                rw [hp_193] at hR
                refine lv_aload_n hx hcb dX10_readStatement_117 rfl (lv_at hl 1 rfl) ?_
                refine lv_dup hx hcb dX10_readStatement_118 rfl ?_
                refine x_getI hx hcb hts hown hK xc10 hR (hw.lo (by decide)) (hw.s0 rfl) 29 (by decide) rfl q_1195 dX10_readStatement_119 ?_
                refine lv_iconst (v := (nI 1)) hx hcb dX10_readStatement_122 (by decide) ?_
                refine lv_iadd hx hcb dX10_readStatement_123 ?_
                refine x_putI hx hcb hts hown hK xc10 hR hS (hw.lo (by decide)) (hw.s0 rfl) 29 (by decide) rfl q_1195 rfl (v := (((goZ (fiZ (rdW z) (¬ (rdW z).1 0 23 = nI 2) (-11))).1 0 29) + (nI 1))) rfl rfl dX10_readStatement_124 (fun H locs hR hS => ?_)
                rw [show u1 (goZ (fiZ (rdW z) (¬ (rdW z).1 0 23 = nI 2) (-11))) 0 29 (((goZ (fiZ (rdW z) (¬ (rdW z).1 0 23 = nI 2) (-11))).1 0 29) + (nI 1)) = stZ z from rfl] at hR
                exact hret (stZ z) _ _ _ _ dX10_readStatement_127 hR hS rfl
