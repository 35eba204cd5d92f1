/-! THE LAW: its helpers with a cell of a double -/
section LW
variable {p : Program} {l : Launch} {e : Env} {R : Room} {s : State} {m : MethodId} {args : Array Value} {below : List Frame} {meth : Method} {c : Code} {H : Heap} {locs : List Loc} {cells slots : Nat} {Q : State → Prop}
variable {cc bytes : ByteArray} {pc : Nat} {ls : Array Slot} {rest st0 : List Value} {H0 : Heap} {G : xGl} {w : xWd} {z : xSt} {own C : String} {y : MethodName} {maxL nL n index : Nat} {ret : Option FieldType} {rm : Room} {A : Nat → Prop}
theorem l_dast {ou : Nat} {cD : ClassId} {f : Nat → UInt64} {x : UInt64} (hx : p.tables.exec = Jvm.exec) (hb : c.code = cc) (hK : va_K G.1 vwCl (xtyD G cD) s) (hR : Rh G w z H) (hP : va_P G.1 vwCl [(ou, .inl (cD, 1, .inr (.inr (.inr (.inl f)))))] H) (hap : ∀ o, o < w.1 → w.2.2 o ≠ ou) {sz : Nat} (hS : va_S (xAw w ou sz) H0 H locs) (hdg : decode cc pc = .ok (.dastore, 1))
    (kk : ∀ (H1 : Heap) (locs1 : List Loc), Rh G w z H1 → va_P G.1 vwCl [(ou, .inl (cD, 1, .inr (.inr (.inr (.inl (va_up f 0 x))))))] H1 → va_S (xAw w ou sz) H0 H1 locs1 → W p l e R s m args below meth c H1 locs1 cells slots Q (F0 m (pc + 1) ls rest)) : W p l e R s m args below meth c H locs cells slots Q (F0 m pc ls (.double x :: .int (nI 0) :: .ref ou :: rest)) := by
  have h1 : va_D (xAw w ou sz) [(ou, (.inl (cD, 1, .inr (.inr (.inr (.inl f)))) : va_E))] := by
    refine ⟨fun i j p1 p2 hi hj _ => ?_, fun k q hq => ?_⟩
    · have h1 := (List.getElem?_eq_some_iff.mp hi).1
      have h2 := (List.getElem?_eq_some_iff.mp hj).1
      simp only [List.length_cons, List.length_nil] at h1 h2
      omega
    · have h1 := (List.getElem?_eq_some_iff.mp hq).1
      simp only [List.length_cons, List.length_nil] at h1
      have k0 : k = 0 := by omega
      rw [k0] at hq
      rw [← Option.some.inj hq]
      exact Or.inr rfl
  have hD : va_D (xAw w ou sz) (xwl G w z ++ [(ou, (.inl (cD, 1, .inr (.inr (.inr (.inl f)))) : va_E))]) := va_D.app ⟨(hR.D sz).1, fun k q h => Or.inl ((hR.D sz).2 k q h)⟩ h1 (fun i j p1 p2 hi hj h => by
    obtain ⟨ho, e1⟩ := xwl_of hi
    have h2 := (List.getElem?_eq_some_iff.mp hj).1
    simp only [List.length_cons, List.length_nil] at h2
    have j0 : j = 0 := by omega
    rw [j0] at hj
    rw [← Option.some.inj hj, e1] at h
    exact hap i ho h)
  refine va_dast (D := G.1) (cl := vwCl) (tys := xtyD G cD) (cA := cD) (n := 1) (f := f) (i := nI 0) (x := x) hx hb hK (hR.P.app hP) hD hS (xwl G w z).length 7 (by simp) rfl (vp_in_nI (by decide) (by decide)) hdg (fun H1 locs1 hP1 _ hS1 => ?_)
  have e1 : (xwl G w z ++ [(ou, (.inl (cD, 1, .inr (.inr (.inr (.inl f)))) : va_E))]).set (xwl G w z).length (ou, .inl (cD, 1, .inr (.inr (.inr (.inl (va_up f (nI 0).toNatClampNeg x)))))) = xwl G w z ++ [(ou, .inl (cD, 1, .inr (.inr (.inr (.inl (va_up f 0 x))))))] := by
    rw [List.set_append_right _ _ (Nat.le_refl _), Nat.sub_self]; rfl
  have hP1 : va_P G.1 vwCl (xwl G w z ++ [(ou, .inl (cD, 1, .inr (.inr (.inr (.inl (va_up f 0 x))))))]) H1 := by rw [← e1]; exact hP1
  refine kk H1 locs1 (Rh.ofP (fun k q hq => hP1 k q ?_) hR.2) (hP1.sub [(xwl G w z).length] (by simp)) hS1
  rw [List.getElem?_append_left (List.getElem?_eq_some_iff.mp hq).1]; exact hq
end LW
def rm_L_rateOf : Room := { frames := 8, cells := 1, slots := 6, locals := 124 }
set_option maxRecDepth 100000 in
set_option maxHeartbeats 4000000 in
theorem n_L_rateOf (l : Launch) (G : xGl) (cD : ClassId) (w : xWd) (K : Nat) (hw : isC K w) (z : xSt) (f : Nat → UInt64) (ou sz : Nat) (x0 : Int32) {post : UInt32 → xSt → Prop} (hM : ∀ sz, xMf l yX9_rateOf cX9_rateOf 2 (some FieldType.float) rm_X9_rateOf G w z sz [.ref (w.2.2 0), .int x0] post) (hN : ∀ v z1, post v z1 → vf_n64 (FP.f2d v)) : xMw l yL_rateOf cL_rateOf 4 [(0, 9, 12, 13)] rm_L_rateOf G cD w z (.inl (cD, 1, .inr (.inr (.inr (.inl f))))) ou sz [.ref (w.2.2 0), .int x0, .ref ou] (fun r u => r = 0 ∧ ∃ v, post v u.1 ∧ u.2 = .inl (cD, 1, .inr (.inr (.inr (.inl (va_up f 0 (FP.f2d v))))))) := by
  refine x_mw (by decide) (Nat.le_of_ble_eq_true rfl) ?_
  intro p e s m args below meth c ls Q hsz X htab hR hP hap hS hl hret
  obtain ⟨hx, hcb, hml, hown, hts, hK, hZ⟩ := X
  have hl : lv_has ls 4 [(0, .ref (w.2.2 0)), (1, .int x0), (2, .ref ou)] := hl
  refine lv_aload_n hx hcb dL_rateOf_0 rfl (lv_at hl 2 rfl) ?_
  refine lv_iconst (v := nI 0) hx hcb dL_rateOf_1 (by decide) ?_
  refine lv_aload_n hx hcb dL_rateOf_2 rfl (lv_at hl 0 rfl) ?_
  refine lv_iload_n hx hcb dL_rateOf_3 rfl (lv_at hl 1 rfl) ?_
  refine l_cf (l_runV (w := w) (o := 0) (As := [.int x0]) (rest := [.int (nI 0), .ref ou]) hx hcb hml hown hts (hM _) mv_X9_rateOf q_1057 (xtyD_0 hK) hZ hR hS (sub_w hS.1) (hw.lo (by decide)) xc9 (hw.s0 (by decide) rfl) rfl hl.1 rfl (Nat.le_of_ble_eq_true rfl) dL_rateOf_4 ⟨by decide, by decide⟩ ⟨by decide, by decide⟩) hS (sub_w hS.1) (fun v z1 H locs hp hR hk hS => ?_)
  have hP := ou_kept hP hap hk
  refine lv_f2d hx hcb dL_rateOf_7 (hN v z1 hp) ?_
  refine l_dast hx hcb hK hR hP hap hS dL_rateOf_8 (fun H locs hR hP hS => ?_)
  refine lv_goto (tgt := 15) hx hcb dL_rateOf_9 (by decide) ?_
  refine lv_iconst (v := nI 0) hx hcb dL_rateOf_15 (by decide) ?_
  refine W.widen (k := 1) (n := 6) (by decide) (by decide) ?_
  exact hret (nI 0) z1 _ _ _ _ _ dL_rateOf_16 hR hP hS ⟨rfl, v, hp, rfl⟩
set_option maxRecDepth 100000 in
set_option maxHeartbeats 4000000 in
theorem x_L_rateOf (l : Launch) (G : xGl) (cD : ClassId) (w : xWd) (K : Nat) (hw : isC K w) (z : xSt) (f : Nat → UInt64) (ou sz : Nat) (x0 : Int32) (hM : ∀ sz, xX l yX9_rateOf cX9_rateOf 2 (some FieldType.float) rx_X9_rateOf G w z sz [.ref (w.2.2 0), .int x0]) : xMw l yL_rateOf cL_rateOf 4 [(0, 9, 12, 13)] rm_L_rateOf G cD w z (.inl (cD, 1, .inr (.inr (.inr (.inl f))))) ou sz [.ref (w.2.2 0), .int x0, .ref ou] (fun r u => r = 1 ∧ u = (z, (.inl (cD, 1, .inr (.inr (.inr (.inl f))))))) := by
  refine x_mw (by decide) (Nat.le_of_ble_eq_true rfl) ?_
  intro p e s m args below meth c ls Q hsz X htab hR hP hap hS hl hret
  obtain ⟨hx, hcb, hml, hown, hts, hK, hZ⟩ := X
  have hl : lv_has ls 4 [(0, .ref (w.2.2 0)), (1, .int x0), (2, .ref ou)] := hl
  refine lv_aload_n hx hcb dL_rateOf_0 rfl (lv_at hl 2 rfl) ?_
  refine lv_iconst (v := nI 0) hx hcb dL_rateOf_1 (by decide) ?_
  refine lv_aload_n hx hcb dL_rateOf_2 rfl (lv_at hl 0 rfl) ?_
  refine lv_iload_n hx hcb dL_rateOf_3 rfl (lv_at hl 1 rfl) ?_
  refine l_cx (w := w) (o := 0) (As := [.int x0]) (rest := [.int (nI 0), .ref ou]) hx hcb hml hown hts htab (by decide) (by decide) q_896 (hM _) mv_X9_rateOf q_1057 (xtyD_0 hK) hZ hR hS (sub_w hS.1) (hw.lo (by decide)) xc9 (hw.s0 (by decide) rfl) rfl hl.1 rfl (Nat.le_of_ble_eq_true rfl) dL_rateOf_4 ⟨by decide, by decide⟩ ⟨by decide, by decide⟩ (fun q9 H locs hR hk hS => ?_)
  have hP := ou_kept hP hap hk
  refine lv_astore_n (lv' := [(3, .ref q9), (0, .ref (w.2.2 0)), (1, .int x0), (2, .ref ou)]) hx hcb dL_rateOf_12 rfl hl (by decide) rfl (fun ls hl => ?_)
  refine lv_iconst (v := nI 1) hx hcb dL_rateOf_13 (by decide) ?_
  refine W.widen (k := 1) (n := 6) (by decide) (by decide) ?_
  exact hret (nI 1) z _ _ _ _ _ dL_rateOf_14 hR hP hS ⟨rfl, rfl⟩
def rm_L_meanAge : Room := { frames := 9, cells := 1, slots := 6, locals := 147 }
set_option maxRecDepth 100000 in
set_option maxHeartbeats 4000000 in
theorem n_L_meanAge (l : Launch) (G : xGl) (cD : ClassId) (w : xWd) (K : Nat) (hw : isC K w) (z : xSt) (f : Nat → UInt64) (ou sz : Nat) (x0 : Int32) {post : UInt64 → xSt → Prop} (hM : ∀ sz, xMd l yX9_meanAge cX9_meanAge 4 (some FieldType.double) rm_X9_meanAge G w z sz [.ref (w.2.2 0), .int x0] post) : xMw l yL_meanAge cL_meanAge 4 [(0, 8, 11, 13)] rm_L_meanAge G cD w z (.inl (cD, 1, .inr (.inr (.inr (.inl f))))) ou sz [.ref (w.2.2 0), .int x0, .ref ou] (fun r u => r = 0 ∧ ∃ v, post v u.1 ∧ u.2 = .inl (cD, 1, .inr (.inr (.inr (.inl (va_up f 0 v)))))) := by
  refine x_mw (by decide) (Nat.le_of_ble_eq_true rfl) ?_
  intro p e s m args below meth c ls Q hsz X htab hR hP hap hS hl hret
  obtain ⟨hx, hcb, hml, hown, hts, hK, hZ⟩ := X
  have hl : lv_has ls 4 [(0, .ref (w.2.2 0)), (1, .int x0), (2, .ref ou)] := hl
  refine lv_aload_n hx hcb dL_meanAge_0 rfl (lv_at hl 2 rfl) ?_
  refine lv_iconst (v := nI 0) hx hcb dL_meanAge_1 (by decide) ?_
  refine lv_aload_n hx hcb dL_meanAge_2 rfl (lv_at hl 0 rfl) ?_
  refine lv_iload_n hx hcb dL_meanAge_3 rfl (lv_at hl 1 rfl) ?_
  refine l_cd (l_runV (w := w) (o := 0) (As := [.int x0]) (rest := [.int (nI 0), .ref ou]) hx hcb hml hown hts (hM _) mv_X9_meanAge q_1076 (xtyD_0 hK) hZ hR hS (sub_w hS.1) (hw.lo (by decide)) xc9 (hw.s0 (by decide) rfl) rfl hl.1 rfl (Nat.le_of_ble_eq_true rfl) dL_meanAge_4 ⟨by decide, by decide⟩ ⟨by decide, by decide⟩) hS (sub_w hS.1) (fun v z1 H locs hp hR hk hS => ?_)
  have hP := ou_kept hP hap hk
  refine l_dast hx hcb hK hR hP hap hS dL_meanAge_7 (fun H locs hR hP hS => ?_)
  refine lv_goto (tgt := 14) hx hcb dL_meanAge_8 (by decide) ?_
  refine lv_iconst (v := nI 0) hx hcb dL_meanAge_14 (by decide) ?_
  refine W.widen (k := 1) (n := 6) (by decide) (by decide) ?_
  exact hret (nI 0) z1 _ _ _ _ _ dL_meanAge_15 hR hP hS ⟨rfl, v, hp, rfl⟩
set_option maxRecDepth 100000 in
set_option maxHeartbeats 4000000 in
theorem x_L_meanAge (l : Launch) (G : xGl) (cD : ClassId) (w : xWd) (K : Nat) (hw : isC K w) (z : xSt) (f : Nat → UInt64) (ou sz : Nat) (x0 : Int32) (hM : ∀ sz, xX l yX9_meanAge cX9_meanAge 4 (some FieldType.double) rx_X9_meanAge G w z sz [.ref (w.2.2 0), .int x0]) : xMw l yL_meanAge cL_meanAge 4 [(0, 8, 11, 13)] rm_L_meanAge G cD w z (.inl (cD, 1, .inr (.inr (.inr (.inl f))))) ou sz [.ref (w.2.2 0), .int x0, .ref ou] (fun r u => r = 1 ∧ u = (z, (.inl (cD, 1, .inr (.inr (.inr (.inl f))))))) := by
  refine x_mw (by decide) (Nat.le_of_ble_eq_true rfl) ?_
  intro p e s m args below meth c ls Q hsz X htab hR hP hap hS hl hret
  obtain ⟨hx, hcb, hml, hown, hts, hK, hZ⟩ := X
  have hl : lv_has ls 4 [(0, .ref (w.2.2 0)), (1, .int x0), (2, .ref ou)] := hl
  refine lv_aload_n hx hcb dL_meanAge_0 rfl (lv_at hl 2 rfl) ?_
  refine lv_iconst (v := nI 0) hx hcb dL_meanAge_1 (by decide) ?_
  refine lv_aload_n hx hcb dL_meanAge_2 rfl (lv_at hl 0 rfl) ?_
  refine lv_iload_n hx hcb dL_meanAge_3 rfl (lv_at hl 1 rfl) ?_
  refine l_cx (w := w) (o := 0) (As := [.int x0]) (rest := [.int (nI 0), .ref ou]) hx hcb hml hown hts htab (by decide) (by decide) q_896 (hM _) mv_X9_meanAge q_1076 (xtyD_0 hK) hZ hR hS (sub_w hS.1) (hw.lo (by decide)) xc9 (hw.s0 (by decide) rfl) rfl hl.1 rfl (Nat.le_of_ble_eq_true rfl) dL_meanAge_4 ⟨by decide, by decide⟩ ⟨by decide, by decide⟩ (fun q9 H locs hR hk hS => ?_)
  have hP := ou_kept hP hap hk
  refine lv_astore_n (lv' := [(3, .ref q9), (0, .ref (w.2.2 0)), (1, .int x0), (2, .ref ou)]) hx hcb dL_meanAge_11 rfl hl (by decide) rfl (fun ls hl => ?_)
  refine lv_iconst (v := nI 1) hx hcb dL_meanAge_12 (by decide) ?_
  refine W.widen (k := 1) (n := 6) (by decide) (by decide) ?_
  exact hret (nI 1) z _ _ _ _ _ dL_meanAge_13 hR hP hS ⟨rfl, rfl⟩
def rm_L_partOf : Room := { frames := 9, cells := 1, slots := 6, locals := 147 }
set_option maxRecDepth 100000 in
set_option maxHeartbeats 4000000 in
theorem n_L_partOf (l : Launch) (G : xGl) (cD : ClassId) (w : xWd) (K : Nat) (hw : isC K w) (z : xSt) (f : Nat → UInt64) (ou sz : Nat) (x0 : Int32) {post : UInt64 → xSt → Prop} (hM : ∀ sz, xMd l yX9_partOf cX9_partOf 4 (some FieldType.double) rm_X9_partOf G w z sz [.ref (w.2.2 0), .int x0] post) : xMw l yL_partOf cL_partOf 4 [(0, 8, 11, 13)] rm_L_partOf G cD w z (.inl (cD, 1, .inr (.inr (.inr (.inl f))))) ou sz [.ref (w.2.2 0), .int x0, .ref ou] (fun r u => r = 0 ∧ ∃ v, post v u.1 ∧ u.2 = .inl (cD, 1, .inr (.inr (.inr (.inl (va_up f 0 v)))))) := by
  refine x_mw (by decide) (Nat.le_of_ble_eq_true rfl) ?_
  intro p e s m args below meth c ls Q hsz X htab hR hP hap hS hl hret
  obtain ⟨hx, hcb, hml, hown, hts, hK, hZ⟩ := X
  have hl : lv_has ls 4 [(0, .ref (w.2.2 0)), (1, .int x0), (2, .ref ou)] := hl
  refine lv_aload_n hx hcb dL_partOf_0 rfl (lv_at hl 2 rfl) ?_
  refine lv_iconst (v := nI 0) hx hcb dL_partOf_1 (by decide) ?_
  refine lv_aload_n hx hcb dL_partOf_2 rfl (lv_at hl 0 rfl) ?_
  refine lv_iload_n hx hcb dL_partOf_3 rfl (lv_at hl 1 rfl) ?_
  refine l_cd (l_runV (w := w) (o := 0) (As := [.int x0]) (rest := [.int (nI 0), .ref ou]) hx hcb hml hown hts (hM _) mv_X9_partOf q_1152 (xtyD_0 hK) hZ hR hS (sub_w hS.1) (hw.lo (by decide)) xc9 (hw.s0 (by decide) rfl) rfl hl.1 rfl (Nat.le_of_ble_eq_true rfl) dL_partOf_4 ⟨by decide, by decide⟩ ⟨by decide, by decide⟩) hS (sub_w hS.1) (fun v z1 H locs hp hR hk hS => ?_)
  have hP := ou_kept hP hap hk
  refine l_dast hx hcb hK hR hP hap hS dL_partOf_7 (fun H locs hR hP hS => ?_)
  refine lv_goto (tgt := 14) hx hcb dL_partOf_8 (by decide) ?_
  refine lv_iconst (v := nI 0) hx hcb dL_partOf_14 (by decide) ?_
  refine W.widen (k := 1) (n := 6) (by decide) (by decide) ?_
  exact hret (nI 0) z1 _ _ _ _ _ dL_partOf_15 hR hP hS ⟨rfl, v, hp, rfl⟩
set_option maxRecDepth 100000 in
set_option maxHeartbeats 4000000 in
theorem x_L_partOf (l : Launch) (G : xGl) (cD : ClassId) (w : xWd) (K : Nat) (hw : isC K w) (z : xSt) (f : Nat → UInt64) (ou sz : Nat) (x0 : Int32) (hM : ∀ sz, xX l yX9_partOf cX9_partOf 4 (some FieldType.double) rx_X9_partOf G w z sz [.ref (w.2.2 0), .int x0]) : xMw l yL_partOf cL_partOf 4 [(0, 8, 11, 13)] rm_L_partOf G cD w z (.inl (cD, 1, .inr (.inr (.inr (.inl f))))) ou sz [.ref (w.2.2 0), .int x0, .ref ou] (fun r u => r = 1 ∧ u = (z, (.inl (cD, 1, .inr (.inr (.inr (.inl f))))))) := by
  refine x_mw (by decide) (Nat.le_of_ble_eq_true rfl) ?_
  intro p e s m args below meth c ls Q hsz X htab hR hP hap hS hl hret
  obtain ⟨hx, hcb, hml, hown, hts, hK, hZ⟩ := X
  have hl : lv_has ls 4 [(0, .ref (w.2.2 0)), (1, .int x0), (2, .ref ou)] := hl
  refine lv_aload_n hx hcb dL_partOf_0 rfl (lv_at hl 2 rfl) ?_
  refine lv_iconst (v := nI 0) hx hcb dL_partOf_1 (by decide) ?_
  refine lv_aload_n hx hcb dL_partOf_2 rfl (lv_at hl 0 rfl) ?_
  refine lv_iload_n hx hcb dL_partOf_3 rfl (lv_at hl 1 rfl) ?_
  refine l_cx (w := w) (o := 0) (As := [.int x0]) (rest := [.int (nI 0), .ref ou]) hx hcb hml hown hts htab (by decide) (by decide) q_896 (hM _) mv_X9_partOf q_1152 (xtyD_0 hK) hZ hR hS (sub_w hS.1) (hw.lo (by decide)) xc9 (hw.s0 (by decide) rfl) rfl hl.1 rfl (Nat.le_of_ble_eq_true rfl) dL_partOf_4 ⟨by decide, by decide⟩ ⟨by decide, by decide⟩ (fun q9 H locs hR hk hS => ?_)
  have hP := ou_kept hP hap hk
  refine lv_astore_n (lv' := [(3, .ref q9), (0, .ref (w.2.2 0)), (1, .int x0), (2, .ref ou)]) hx hcb dL_partOf_11 rfl hl (by decide) rfl (fun ls hl => ?_)
  refine lv_iconst (v := nI 1) hx hcb dL_partOf_12 (by decide) ?_
  refine W.widen (k := 1) (n := 6) (by decide) (by decide) ?_
  exact hret (nI 1) z _ _ _ _ _ dL_partOf_13 hR hP hS ⟨rfl, rfl⟩
