/-! METHODS THAT ANSWER FLOATS AND DOUBLES -/
abbrev xMf (l : Launch) (y : MethodName) (cc : ByteArray) (maxL : Nat) (ret : Option FieldType) (rm : Room) (G : xGl) (w : xWd) (z : xSt) (sz : Nat) (av : List Value) (post : UInt32 → xSt → Prop) : Prop := Met l y (xws y cc maxL ret) rm (xP G w z sz av) (va_Qf post (xB G w) (xA w sz)) rm.cells rm.slots (xA w sz)
abbrev xMd (l : Launch) (y : MethodName) (cc : ByteArray) (maxL : Nat) (ret : Option FieldType) (rm : Room) (G : xGl) (w : xWd) (z : xSt) (sz : Nat) (av : List Value) (post : UInt64 → xSt → Prop) : Prop := Met l y (xws y cc maxL ret) rm (xP G w z sz av) (va_Qd post (xB G w) (xA w sz)) rm.cells rm.slots (xA w sz)
theorem x_mf {l : Launch} {y : MethodName} {cc : ByteArray} {maxL : Nat} {rm : Room} {G : xGl} {w : xWd} {z : xSt} {sz : Nat} {av : List Value} {post : UInt32 → xSt → Prop} (hy : plainName y.cls = true) (hav : (lg_sl av).length ≤ maxL)
    (body : ∀ (p : Program) (e : Env) (s : State) (m : MethodId) (args : Array Value) (below : List Frame) (meth : Method) (c : Code) (ls : Array Slot) (Q : State → Prop), sz = s.heap.size → xCx p s m args c meth cc maxL y.cls G w → Rh G w z s.heap → va_S (xA w s.heap.size) s.heap s.heap [] → lv_has ls maxL (lv_args 0 av) →
      (∀ (v : UInt32) (z1 : xSt) (H : Heap) (locs : List Loc) (pc : Nat) (ls : Array Slot), decode cc pc = .ok (.freturn, 1) → Rh G w z1 H → va_S (xA w s.heap.size) s.heap H locs → post v z1 → W p l e rm s m args below meth c H locs rm.cells rm.slots Q (F0 m pc ls [.float v])) →
      W p l e rm s m args below meth c s.heap [] 0 0 Q (F0 m 0 ls [])) : xMf l y cc maxL (some .float) rm G w z sz av post := by
  refine x_met hy hav ?_
  intro p e s m below meth c ls hsz hx hb hr hml hown hts hlocks _ hK hZ hR hS hl
  subst hsz
  exact body p e s m _ below meth c ls _ rfl ⟨hx, hb, hml, hown, hts, hlocks, hK, hZ⟩ hR hS hl (fun v z1 H locs pc ls hd hR hS hp => W.fret hx hb hr (fun t ht hW => ⟨⟨v, z1, rfl, hp, by show Rh G w z1 t.heap; rw [ht]; exact hR⟩, hS.F ht⟩) hS.2.2 hd hlocks)
theorem x_md {l : Launch} {y : MethodName} {cc : ByteArray} {maxL : Nat} {rm : Room} {G : xGl} {w : xWd} {z : xSt} {sz : Nat} {av : List Value} {post : UInt64 → xSt → Prop} (hy : plainName y.cls = true) (hav : (lg_sl av).length ≤ maxL)
    (body : ∀ (p : Program) (e : Env) (s : State) (m : MethodId) (args : Array Value) (below : List Frame) (meth : Method) (c : Code) (ls : Array Slot) (Q : State → Prop), sz = s.heap.size → xCx p s m args c meth cc maxL y.cls G w → Rh G w z s.heap → va_S (xA w s.heap.size) s.heap s.heap [] → lv_has ls maxL (lv_args 0 av) →
      (∀ (v : UInt64) (z1 : xSt) (H : Heap) (locs : List Loc) (pc : Nat) (ls : Array Slot), decode cc pc = .ok (.dreturn, 1) → Rh G w z1 H → va_S (xA w s.heap.size) s.heap H locs → post v z1 → W p l e rm s m args below meth c H locs rm.cells rm.slots Q (F0 m pc ls [.double v])) →
      W p l e rm s m args below meth c s.heap [] 0 0 Q (F0 m 0 ls [])) : xMd l y cc maxL (some .double) rm G w z sz av post := by
  refine x_met hy hav ?_
  intro p e s m below meth c ls hsz hx hb hr hml hown hts hlocks _ hK hZ hR hS hl
  subst hsz
  exact body p e s m _ below meth c ls _ rfl ⟨hx, hb, hml, hown, hts, hlocks, hK, hZ⟩ hR hS hl (fun v z1 H locs pc ls hd hR hS hp => W.dret hx hb hr (fun t ht hW => ⟨⟨v, z1, rfl, hp, by show Rh G w z1 t.heap; rw [ht]; exact hR⟩, hS.F ht⟩) hS.2.2 hd hlocks)
section XF
variable {p : Program} {l : Launch} {e : Env} {R : Room} {s : State} {m : MethodId} {args : Array Value} {below : List Frame} {meth : Method} {c : Code} {H : Heap} {locs : List Loc} {cells slots mc ms : Nat} {Q : State → Prop}
variable {pc : Nat} {ls : Array Slot} {rest st0 : List Value} {G : xGl} {w : xWd} {a : Array Value} {H0 : Heap}
theorem x_cf0 {post : UInt32 → xSt → Prop} (h1 : mc = 0) (h2 : ms = 0) (hr : va_Run p l e R s m args below meth c H locs cells slots mc ms (F0 m pc ls st0) rest (va_Qf post (xB G w) (xA w H.size) a) (xA w H.size)) (hS : va_S (xA w H0.size) H0 H locs)
    (kk : ∀ (r : UInt32) (z1 : xSt) (H1 : Heap) (locs1 : List Loc), post r z1 → Rh G w z1 H1 → va_S (xA w H0.size) H0 H1 locs1 → W p l e R s m args below meth c H1 locs1 cells slots Q (F0 m (pc + 3) ls (.float r :: rest))) : W p l e R s m args below meth c H locs cells slots Q (F0 m pc ls st0) := by
  subst h1; subst h2
  exact va_callf hr hS (fun q _ h => xA_sub hS q h) (xA_sub hS) (fun r u t H1 locs1 ht _ hp hB _ _ hS1 => kk r u H1 locs1 hp (ht ▸ hB) hS1)
theorem x_cd0 {post : UInt64 → xSt → Prop} (h1 : mc = 0) (h2 : ms = 0) (hr : va_Run p l e R s m args below meth c H locs cells slots mc ms (F0 m pc ls st0) rest (va_Qd post (xB G w) (xA w H.size) a) (xA w H.size)) (hS : va_S (xA w H0.size) H0 H locs)
    (kk : ∀ (r : UInt64) (z1 : xSt) (H1 : Heap) (locs1 : List Loc), post r z1 → Rh G w z1 H1 → va_S (xA w H0.size) H0 H1 locs1 → W p l e R s m args below meth c H1 locs1 cells slots Q (F0 m (pc + 3) ls (.double r :: rest))) : W p l e R s m args below meth c H locs cells slots Q (F0 m pc ls st0) := by
  subst h1; subst h2
  exact va_calld hr hS (fun q _ h => xA_sub hS q h) (xA_sub hS) (fun r u t H1 locs1 ht _ hp hB _ _ hS1 => kk r u H1 locs1 hp (ht ▸ hB) hS1)
end XF
def rte (a b : Int32) : UInt32 := if 0 < b then FP.fdiv (FP.i2f a) (FP.i2f b) else 0x00000000
theorem fp_mul {d : Jvm.FP.Core.Datum} (hd : fpFit Jvm.FP.Core.b32 d) {x : UInt32} (hx : x.toNat = Jvm.FP.Core.encode Jvm.FP.Core.b32 d) : vf_n32 (FP.fmul x 1176256512) := by
  refine fp_n32 (d := Jvm.FP.Core.round Jvm.FP.Core.b32 (Jvm.FP.Core.exactProduct (Jvm.FP.Core.decode Jvm.FP.Core.b32 x.toNat) (Jvm.FP.Core.decode Jvm.FP.Core.b32 1176256512))) ?_
  rw [hx, show Jvm.FP.Core.decode Jvm.FP.Core.b32 1176256512 = .fin false 10240000 (-10) from by decide]
  rcases fp_dec2 fp32 hd with ⟨s, e⟩ | ⟨s, c, q, q', -, e⟩
  · rw [e]; exact True.intro
  · rw [e]; exact fp_rr fp32
theorem rte_mul (a b : Int32) : vf_n32 (FP.fmul (rte a b) 1176256512) := by
  unfold rte
  split
  · rename_i hb
    have hb0 : b ≠ 0 := fun h => by rw [h] at hb; exact absurd hb (by decide)
    have hf : fpFit Jvm.FP.Core.b32 (Jvm.FP.Core.quotient Jvm.FP.Core.b32 (Jvm.FP.Core.decode Jvm.FP.Core.b32 (UInt32.ofNat (Jvm.FP.Core.fromInt Jvm.FP.Core.b32 a.toInt)).toNat) (Jvm.FP.Core.decode Jvm.FP.Core.b32 (UInt32.ofNat (Jvm.FP.Core.fromInt Jvm.FP.Core.b32 b.toInt)).toNat)) := by
      rw [fp_i32, fp_i32]
      exact fp_quo fp32 (fp_fin fp32 _) (fp_int fp32 (i32_ne hb0) (i32_abs b) (by decide) (by decide) (by decide) (by decide))
    refine fp_mul hf ?_
    have h := (fp_bits fp32 hf).2
    show (UInt32.ofNat _).toNat = _
    rw [UInt32.toNat_ofNat']
    exact Nat.mod_eq_of_lt (by have e1 : Jvm.FP.Core.b32.exps * Jvm.FP.Core.b32.tails = 2147483648 := by decide
                               rw [e1] at h; exact h)
  · unfold vf_n32; decide +kernel
def rm_X2_rate : Room := { frames := 0, cells := 0, slots := 0, locals := 0 }
set_option maxRecDepth 100000 in
set_option maxHeartbeats 4000000 in
theorem c_X2_rate (l : Launch) (G : xGl) (w : xWd) (K : Nat) (hw : isC K w) (z : xSt) (sz : Nat) (b d : Nat) (hb : b < 2 + K) (hd : d < 4)  : xMf l yX2_rate cX2_rate 1 (some FieldType.float) rm_X2_rate G w z sz [.ref (w.2.2 (oD b d))] (fun r z1 => r = rte (z.1 (oD b d) 1) (z.1 (oD b d) 2) ∧ z1 = z) := by
  refine x_mf (by decide) (Nat.le_of_ble_eq_true rfl) ?_
  intro p e s mt args below meth c ls Q hsz X hR hS hl hret
  obtain ⟨hx, hcb, hml, hown, hts, hlk, hK, hZ⟩ := X
  have hl : lv_has ls 1 [(0, .ref (w.2.2 (oD b d)))] := hl
  refine lv_aload_n hx hcb dX2_rate_0 rfl (lv_at hl 0 rfl) ?_
  refine x_getI hx hcb hts hown hK xc2 hR (hoD hw hb hd) (hsD hw hd) 2 (by decide) rfl q_241 dX2_rate_1 ?_
  refine lv_if_le (tgt := 21) hx hcb dX2_rate_4 (by decide) (fun c_1 => ?_) (fun c_1 => ?_)
  · skip
    have h_ : ¬ 0 < z.1 (oD b d) 2 := Int32.not_lt.mpr c_1
    refine lv_fconst0 hx hcb dX2_rate_21 ?_
    exact hret 0x00000000 z _ _ _ _ dX2_rate_22 hR hS (⟨by unfold rte; first | rw [if_pos h_] | rw [if_neg h_], rfl⟩)
  · skip
    have h_ : 0 < z.1 (oD b d) 2 := Int32.not_le.mp c_1
    refine lv_aload_n hx hcb dX2_rate_7 rfl (lv_at hl 0 rfl) ?_
    refine x_getI hx hcb hts hown hK xc2 hR (hoD hw hb hd) (hsD hw hd) 1 (by decide) rfl q_239 dX2_rate_8 ?_
    refine lv_i2f hx hcb dX2_rate_11 ?_
    refine lv_aload_n hx hcb dX2_rate_12 rfl (lv_at hl 0 rfl) ?_
    refine x_getI hx hcb hts hown hK xc2 hR (hoD hw hb hd) (hsD hw hd) 2 (by decide) rfl q_241 dX2_rate_13 ?_
    refine lv_i2f hx hcb dX2_rate_16 ?_
    refine lv_fdiv hx hcb dX2_rate_17 (fp_fdiv _ _ (fun q_ => by rw [q_] at h_; exact absurd h_ (by decide))) ?_
    refine lv_goto (tgt := 22) hx hcb dX2_rate_18 (by decide) ?_
    exact hret (FP.fdiv (FP.i2f (z.1 (oD b d) 1)) (FP.i2f (z.1 (oD b d) 2))) z _ _ _ _ dX2_rate_22 hR hS (⟨by unfold rte; first | rw [if_pos h_] | rw [if_neg h_], rfl⟩)
def rm_X9_rateOf : Room := { frames := 2, cells := 0, slots := 0, locals := 42 }
set_option maxRecDepth 100000 in
set_option maxHeartbeats 4000000 in
theorem c_X9_rateOf (l : Launch) (G : xGl) (w : xWd) (K : Nat) (hw : isC K w) (z : xSt) (sz : Nat) (di : Nat) (hB : bOk z 0) (hdi : di < bN z 0 4) : xMf l yX9_rateOf cX9_rateOf 2 (some FieldType.float) rm_X9_rateOf G w z sz [.ref (w.2.2 0), .int (nI di)] (fun r z1 => r = rte (z.1 (oD 0 di) 1) (z.1 (oD 0 di) 2) ∧ z1 = z) := by
  refine x_mf (by decide) (Nat.le_of_ble_eq_true rfl) ?_
  intro p e s mt args below meth c ls Q hsz X hR hS hl hret
  obtain ⟨hx, hcb, hml, hown, hts, hlk, hK, hZ⟩ := X
  have hl : lv_has ls 2 [(0, .ref (w.2.2 0)), (1, .int (nI di))] := hl
  have hb3_ := hB.2.1
  have hb4_ := hB.2.2.2.1
  have hb5_ := hB.2.2.2.2.2
  have hd4_ : di < 4 := by omega
  refine lv_aload_n hx hcb dX9_rateOf_0 rfl (lv_at hl 0 rfl) ?_
  refine lv_iload_n hx hcb dX9_rateOf_1 rfl (lv_at hl 1 rfl) ?_
  refine x_cv0 rfl rfl (x_runV hx hcb hml hown hts (c_X9_checkDepartment l G w K hw z _ di hB hdi) mv_X9_checkDepartment q_988 hK hZ hR hS (hw.lo (by decide)) xc9 (hw.s0 (by decide) rfl) rfl hl.1 rfl (Nat.le_of_ble_eq_true rfl) dX9_rateOf_2 ⟨by decide, by decide⟩ ⟨by decide, by decide⟩) hS (fun z_2 H locs hp_3 hR hS => ?_)
  rw [hp_3] at hR
  refine lv_aload_n hx hcb dX9_rateOf_5 rfl (lv_at hl 0 rfl) ?_
  refine x_getR hx hcb hts hown hK xc9 hR (hw.lo (by decide)) (hw.s0 (by decide) rfl) 0 (by decide) rfl q_376 dX9_rateOf_6 ?_
  refine x_getR hx hcb hts hown hK xc0 hR (hoB hw (by omega)) (hsB hw) 1 (by decide) rfl q_262 dX9_rateOf_9 ?_
  refine lv_iload_n hx hcb dX9_rateOf_12 rfl (lv_at hl 1 rfl) ?_
  have hk_13 : di < 4 := (by omega)
  refine x_aald hx hcb hK hR (hoDs hw (by omega)) (hsDs hw) rfl (oDs_at hk_13) (Nat.lt_of_lt_of_le (Nat.lt_succ_self _) (Nat.le_of_ble_eq_true rfl)) dX9_rateOf_13 ?_
  refine x_cf0 rfl rfl (x_runV hx hcb hml hown hts (c_X2_rate l G w K hw z _ 0 di (by omega) hk_13) mv_X2_rate q_1061 hK hZ hR hS (hoD hw (by omega) hk_13) xc2 (hsD hw hk_13) rfl hl.1 rfl (Nat.le_of_ble_eq_true rfl) dX9_rateOf_14 ⟨by decide, by decide⟩ ⟨by decide, by decide⟩) hS (fun r_4 z_5 H locs hp_6 hR hS => ?_)
  rw [hp_6.2] at hR; rw [hp_6.1]
  exact hret (rte (z.1 (oD 0 di) 1) (z.1 (oD 0 di) 2)) z _ _ _ _ dX9_rateOf_17 hR hS (⟨rfl, rfl⟩)
def rm_X9_ratePoints : Room := { frames := 2, cells := 0, slots := 0, locals := 42 }
set_option maxRecDepth 100000 in
set_option maxHeartbeats 4000000 in
theorem c_X9_ratePoints (l : Launch) (G : xGl) (w : xWd) (K : Nat) (hw : isC K w) (z : xSt) (sz : Nat) (di : Nat) (hB : bOk z 0) (hdi : di < bN z 0 4) : xMi l yX9_ratePoints cX9_ratePoints 2 (some FieldType.int) rm_X9_ratePoints G w z sz [.ref (w.2.2 0), .int (nI di)] (fun r z1 => r = FP.f2i (FP.fmul (rte (z.1 (oD 0 di) 1) (z.1 (oD 0 di) 2)) 1176256512) ∧ z1 = z) := by
  refine x_mi (by decide) (Nat.le_of_ble_eq_true rfl) ?_
  intro p e s mt args below meth c ls Q hsz X hR hS hl hret
  obtain ⟨hx, hcb, hml, hown, hts, hlk, hK, hZ⟩ := X
  have hl : lv_has ls 2 [(0, .ref (w.2.2 0)), (1, .int (nI di))] := hl
  have hb3_ := hB.2.1
  have hb4_ := hB.2.2.2.1
  have hb5_ := hB.2.2.2.2.2
  have hd4_ : di < 4 := by omega
  refine lv_aload_n hx hcb dX9_ratePoints_0 rfl (lv_at hl 0 rfl) ?_
  refine lv_iload_n hx hcb dX9_ratePoints_1 rfl (lv_at hl 1 rfl) ?_
  refine x_cv0 rfl rfl (x_runV hx hcb hml hown hts (c_X9_checkDepartment l G w K hw z _ di hB hdi) mv_X9_checkDepartment q_988 hK hZ hR hS (hw.lo (by decide)) xc9 (hw.s0 (by decide) rfl) rfl hl.1 rfl (Nat.le_of_ble_eq_true rfl) dX9_ratePoints_2 ⟨by decide, by decide⟩ ⟨by decide, by decide⟩) hS (fun z_2 H locs hp_3 hR hS => ?_)
  rw [hp_3] at hR
  refine lv_aload_n hx hcb dX9_ratePoints_5 rfl (lv_at hl 0 rfl) ?_
  refine x_getR hx hcb hts hown hK xc9 hR (hw.lo (by decide)) (hw.s0 (by decide) rfl) 0 (by decide) rfl q_376 dX9_ratePoints_6 ?_
  refine x_getR hx hcb hts hown hK xc0 hR (hoB hw (by omega)) (hsB hw) 1 (by decide) rfl q_262 dX9_ratePoints_9 ?_
  refine lv_iload_n hx hcb dX9_ratePoints_12 rfl (lv_at hl 1 rfl) ?_
  have hk_13 : di < 4 := (by omega)
  refine x_aald hx hcb hK hR (hoDs hw (by omega)) (hsDs hw) rfl (oDs_at hk_13) (Nat.lt_of_lt_of_le (Nat.lt_succ_self _) (Nat.le_of_ble_eq_true rfl)) dX9_ratePoints_13 ?_
  refine x_cf0 rfl rfl (x_runV hx hcb hml hown hts (c_X2_rate l G w K hw z _ 0 di (by omega) hk_13) mv_X2_rate q_1061 hK hZ hR hS (hoD hw (by omega) hk_13) xc2 (hsD hw hk_13) rfl hl.1 rfl (Nat.le_of_ble_eq_true rfl) dX9_ratePoints_14 ⟨by decide, by decide⟩ ⟨by decide, by decide⟩) hS (fun r_4 z_5 H locs hp_6 hR hS => ?_)
  rw [hp_6.2] at hR; rw [hp_6.1]
  refine lv_ldcf (v := 1176256512) hx hcb hown (hts _ q_1072) dX9_ratePoints_17 ?_
  refine lv_fmul hx hcb dX9_ratePoints_19 (rte_mul _ _) ?_
  refine lv_f2i hx hcb dX9_ratePoints_20 ?_
  exact hret (FP.f2i (FP.fmul (rte (z.1 (oD 0 di) 1) (z.1 (oD 0 di) 2)) 1176256512)) z _ _ _ _ dX9_ratePoints_21 rfl hR hS (⟨rfl, rfl⟩)
def rm_X9_meanAge : Room := { frames := 3, cells := 0, slots := 0, locals := 63 }
set_option maxRecDepth 100000 in
set_option maxHeartbeats 4000000 in
theorem c_X9_meanAge (l : Launch) (G : xGl) (w : xWd) (K : Nat) (hw : isC K w) (z : xSt) (sz : Nat) (mi : Nat) (hB : bOk z 0) (hmi : mi < bN z 0 3) : xMd l yX9_meanAge cX9_meanAge 4 (some FieldType.double) rm_X9_meanAge G w z sz [.ref (w.2.2 0), .int (nI mi)] (fun r z1 => r = (if bx_sum (z.1 (oLf 0 mi)) 25 = 0 then 9221120237041090560 else FP.ddiv (FP.l2d (xls (fun y => (z.1 (oLf 0 mi) y).toInt64 * (z.1 (oB 0) 5 - nI y).toInt64) 25)) (FP.i2d (bx_sum (z.1 (oLf 0 mi)) 25))) ∧ z1 = z) := by
  refine x_md (by decide) (Nat.le_of_ble_eq_true rfl) ?_
  intro p e s mt args below meth c ls Q hsz X hR hS hl hret
  obtain ⟨hx, hcb, hml, hown, hts, hlk, hK, hZ⟩ := X
  have hl : lv_has ls 4 [(0, .ref (w.2.2 0)), (1, .int (nI mi))] := hl
  have hb3_ := hB.2.1
  have hb4_ := hB.2.2.2.1
  have hb5_ := hB.2.2.2.2.2
  have hm8_ : mi < 8 := by omega
  refine lv_aload_n hx hcb dX9_meanAge_0 rfl (lv_at hl 0 rfl) ?_
  refine lv_iload_n hx hcb dX9_meanAge_1 rfl (lv_at hl 1 rfl) ?_
  refine x_cr0 rfl rfl (x_runV hx hcb hml hown hts (c_X9_memberAt l G w K hw z _ mi hB hmi) mv_X9_memberAt q_901 hK hZ hR hS (hw.lo (by decide)) xc9 (hw.s0 (by decide) rfl) rfl hl.1 rfl (Nat.le_of_ble_eq_true rfl) dX9_meanAge_2 ⟨by decide, by decide⟩ ⟨by decide, by decide⟩) hS (fun z_2 H locs hp_3 hR hS => ?_)
  rw [hp_3] at hR
  refine lv_astore_n (lv' := [(2, .ref (w.2.2 (oM 0 mi))), (0, .ref (w.2.2 0)), (1, .int (nI mi))]) hx hcb dX9_meanAge_5 rfl hl (by decide) rfl (fun ls hl => ?_)
  refine lv_aload_n hx hcb dX9_meanAge_6 rfl (lv_at hl 0 rfl) ?_
  refine x_ci0 rfl rfl (x_runV hx hcb hml hown hts (c_X5_equity l G w K hw z _ 0 mi (by omega) hm8_) mv_X5_equity q_812 hK hZ hR hS (hoM hw (by omega) hm8_) xc5 (hsM hw hm8_) rfl hl.1 rfl (Nat.le_of_ble_eq_true rfl) dX9_meanAge_7 ⟨by decide, by decide⟩ ⟨by decide, by decide⟩) hS (fun r_4 z_5 H locs hp_6 hR hS => ?_)
  rw [hp_6.2] at hR; rw [hp_6.1]
  refine lv_istore_n (lv' := [(3, .int (bx_sum (z.1 (oLf 0 mi)) 25)), (2, .ref (w.2.2 (oM 0 mi))), (0, .ref (w.2.2 0)), (1, .int (nI mi))]) hx hcb dX9_meanAge_10 rfl hl (by decide) rfl (fun ls hl => ?_)
  refine lv_iload_n hx hcb dX9_meanAge_11 rfl (lv_at hl 0 rfl) ?_
  refine lv_if_ne (tgt := 19) hx hcb dX9_meanAge_12 (by decide) (fun c_7 => ?_) (fun c_7 => ?_)
  · skip
    have h_ : ¬ bx_sum (z.1 (oLf 0 mi)) 25 = 0 := c_7
    refine lv_aload_n hx hcb dX9_meanAge_19 rfl (lv_at hl 1 rfl) ?_
    refine lv_aload_n hx hcb dX9_meanAge_20 rfl (lv_at hl 2 rfl) ?_
    refine x_getR hx hcb hts hown hK xc9 hR (hw.lo (by decide)) (hw.s0 (by decide) rfl) 0 (by decide) rfl q_376 dX9_meanAge_21 ?_
    refine x_getI hx hcb hts hown hK xc0 hR (hoB hw (by omega)) (hsB hw) 5 (by decide) rfl q_280 dX9_meanAge_24 ?_
    refine x_cl0 rfl rfl (x_runV hx hcb hml hown hts (c_X5_weightedAge l G w K hw z _ 0 mi (by omega) hm8_ (z.1 (oB 0) 5)) mv_X5_weightedAge q_1081 hK hZ hR hS (hoM hw (by omega) hm8_) xc5 (hsM hw hm8_) rfl hl.1 rfl (Nat.le_of_ble_eq_true rfl) dX9_meanAge_27 ⟨by decide, by decide⟩ ⟨by decide, by decide⟩) hS (fun r_8 z_9 H locs hp_10 hR hS => ?_)
    rw [hp_10.2] at hR; rw [hp_10.1]
    refine lv_l2d hx hcb dX9_meanAge_30 ?_
    refine lv_iload_n hx hcb dX9_meanAge_31 rfl (lv_at hl 0 rfl) ?_
    refine lv_i2d hx hcb dX9_meanAge_32 ?_
    refine lv_ddiv hx hcb dX9_meanAge_33 (fp_lddiv _ _ h_) ?_
    exact hret (FP.ddiv (FP.l2d (xls (fun y => (z.1 (oLf 0 mi) y).toInt64 * ((z.1 (oB 0) 5) - nI y).toInt64) 25)) (FP.i2d (bx_sum (z.1 (oLf 0 mi)) 25))) z _ _ _ _ dX9_meanAge_34 hR hS (⟨by rw [if_neg h_], rfl⟩)
  · skip
    have h_ : bx_sum (z.1 (oLf 0 mi)) 25 = 0 := c_7
    refine lv_ldc2d (v := 9221120237041090560) hx hcb hown (hts _ q_1080) dX9_meanAge_15 ?_
    exact hret 9221120237041090560 z _ _ _ _ dX9_meanAge_18 hR hS (⟨by rw [if_pos h_], rfl⟩)
def rm_X9_partOf : Room := { frames := 3, cells := 0, slots := 0, locals := 63 }
set_option maxRecDepth 100000 in
set_option maxHeartbeats 4000000 in
theorem c_X9_partOf (l : Launch) (G : xGl) (w : xWd) (K : Nat) (hw : isC K w) (z : xSt) (sz : Nat) (mi : Nat) (hB : bOk z 0) (hmi : mi < bN z 0 3) : xMd l yX9_partOf cX9_partOf 4 (some FieldType.double) rm_X9_partOf G w z sz [.ref (w.2.2 0), .int (nI mi)] (fun r z1 => r = (if bx_sum (fun m => bx_sum (z.1 (oLf 0 m)) 25) (bN z 0 3) = 0 then 9221120237041090560 else FP.ddiv (FP.i2d (bx_sum (z.1 (oLf 0 mi)) 25)) (FP.i2d (bx_sum (fun m => bx_sum (z.1 (oLf 0 m)) 25) (bN z 0 3)))) ∧ z1 = z) := by
  refine x_md (by decide) (Nat.le_of_ble_eq_true rfl) ?_
  intro p e s mt args below meth c ls Q hsz X hR hS hl hret
  obtain ⟨hx, hcb, hml, hown, hts, hlk, hK, hZ⟩ := X
  have hl : lv_has ls 4 [(0, .ref (w.2.2 0)), (1, .int (nI mi))] := hl
  have hb3_ := hB.2.1
  have hb4_ := hB.2.2.2.1
  have hb5_ := hB.2.2.2.2.2
  have hm8_ : mi < 8 := by omega
  refine lv_aload_n hx hcb dX9_partOf_0 rfl (lv_at hl 0 rfl) ?_
  refine lv_iload_n hx hcb dX9_partOf_1 rfl (lv_at hl 1 rfl) ?_
  refine x_cr0 rfl rfl (x_runV hx hcb hml hown hts (c_X9_memberAt l G w K hw z _ mi hB hmi) mv_X9_memberAt q_901 hK hZ hR hS (hw.lo (by decide)) xc9 (hw.s0 (by decide) rfl) rfl hl.1 rfl (Nat.le_of_ble_eq_true rfl) dX9_partOf_2 ⟨by decide, by decide⟩ ⟨by decide, by decide⟩) hS (fun z_2 H locs hp_3 hR hS => ?_)
  rw [hp_3] at hR
  refine x_ci0 rfl rfl (x_runV hx hcb hml hown hts (c_X5_equity l G w K hw z _ 0 mi (by omega) hm8_) mv_X5_equity q_812 hK hZ hR hS (hoM hw (by omega) hm8_) xc5 (hsM hw hm8_) rfl hl.1 rfl (Nat.le_of_ble_eq_true rfl) dX9_partOf_5 ⟨by decide, by decide⟩ ⟨by decide, by decide⟩) hS (fun r_4 z_5 H locs hp_6 hR hS => ?_)
  rw [hp_6.2] at hR; rw [hp_6.1]
  refine lv_istore_n (lv' := [(2, .int (bx_sum (z.1 (oLf 0 mi)) 25)), (0, .ref (w.2.2 0)), (1, .int (nI mi))]) hx hcb dX9_partOf_8 rfl hl (by decide) rfl (fun ls hl => ?_)
  refine lv_aload_n hx hcb dX9_partOf_9 rfl (lv_at hl 1 rfl) ?_
  refine x_getR hx hcb hts hown hK xc9 hR (hw.lo (by decide)) (hw.s0 (by decide) rfl) 0 (by decide) rfl q_376 dX9_partOf_10 ?_
  refine x_ci0 rfl rfl (x_runV hx hcb hml hown hts (c_X0_equityOfAll l G w K hw z _ 0 (by omega) (bN z 0 3) hB.1 hB.2.1) mv_X0_equityOfAll q_709 hK hZ hR hS (hoB hw (by omega)) xc0 (hsB hw) rfl hl.1 rfl (Nat.le_of_ble_eq_true rfl) dX9_partOf_13 ⟨by decide, by decide⟩ ⟨by decide, by decide⟩) hS (fun r_7 z_8 H locs hp_9 hR hS => ?_)
  rw [hp_9.2] at hR; rw [hp_9.1]
  refine lv_istore_n (lv' := [(3, .int (bx_sum (fun m => bx_sum (z.1 (oLf 0 m)) 25) (bN z 0 3))), (2, .int (bx_sum (z.1 (oLf 0 mi)) 25)), (0, .ref (w.2.2 0)), (1, .int (nI mi))]) hx hcb dX9_partOf_16 rfl hl (by decide) rfl (fun ls hl => ?_)
  refine lv_iload_n hx hcb dX9_partOf_17 rfl (lv_at hl 0 rfl) ?_
  refine lv_if_ne (tgt := 25) hx hcb dX9_partOf_18 (by decide) (fun c_10 => ?_) (fun c_10 => ?_)
  · skip
    have h_ : ¬ bx_sum (fun m => bx_sum (z.1 (oLf 0 m)) 25) (bN z 0 3) = 0 := c_10
    refine lv_iload_n hx hcb dX9_partOf_25 rfl (lv_at hl 1 rfl) ?_
    refine lv_i2d hx hcb dX9_partOf_26 ?_
    refine lv_iload_n hx hcb dX9_partOf_27 rfl (lv_at hl 0 rfl) ?_
    refine lv_i2d hx hcb dX9_partOf_28 ?_
    refine lv_ddiv hx hcb dX9_partOf_29 (fp_ddiv _ _ h_) ?_
    exact hret (FP.ddiv (FP.i2d (bx_sum (z.1 (oLf 0 mi)) 25)) (FP.i2d (bx_sum (fun m => bx_sum (z.1 (oLf 0 m)) 25) (bN z 0 3)))) z _ _ _ _ dX9_partOf_30 hR hS (⟨by rw [if_neg h_], rfl⟩)
  · skip
    have h_ : bx_sum (fun m => bx_sum (z.1 (oLf 0 m)) 25) (bN z 0 3) = 0 := c_10
    refine lv_ldc2d (v := 9221120237041090560) hx hcb hown (hts _ q_1080) dX9_partOf_21 ?_
    exact hret 9221120237041090560 z _ _ _ _ dX9_partOf_24 hR hS (⟨by rw [if_pos h_], rfl⟩)
