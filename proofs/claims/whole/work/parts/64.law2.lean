/-! THE LAW: its helpers with a cell of a long -/
def rm_L_consents : Room := { frames := 9, cells := 1, slots := 6, locals := 145 }
set_option maxRecDepth 100000 in
set_option maxHeartbeats 4000000 in
theorem n_L_consents (l : Launch) (G : xGl) (cD : ClassId) (w : xWd) (K : Nat) (hw : isC K w) (z : xSt) (f : Nat → Int64) (ou sz : Nat) (x0 : Int32) {post : Int32 → xSt → Prop} (hM : ∀ sz, xMi l yX9_consents cX9_consents 2 (some FieldType.boolean) rm_X9_consents G w z sz [.ref (w.2.2 0), .int x0] post) : xMw l yL_consents cL_consents 4 [(0, 16, 19, 13)] rm_L_consents G cD w z (.inl (G.2 3, 1, .inr (.inl f))) ou sz [.ref (w.2.2 0), .int x0, .ref ou] (fun r u => r = 0 ∧ ∃ v, post v u.1 ∧ u.2 = .inl (G.2 3, 1, .inr (.inl (va_up f 0 (if v = 0 then (0 : Int64) else 1))))) := by
  refine x_mw (by decide) (Nat.le_of_ble_eq_true rfl) ?_
  intro p e s m args below meth c ls Q hsz X htab hR hP hap hS hl hret
  obtain ⟨hx, hcb, hml, hown, hts, hK, hZ⟩ := X
  have hl : lv_has ls 4 [(0, .ref (w.2.2 0)), (1, .int x0), (2, .ref ou)] := hl
  refine lv_aload_n hx hcb dL_consents_0 rfl (lv_at hl 2 rfl) ?_
  refine lv_iconst (v := nI 0) hx hcb dL_consents_1 (by decide) ?_
  refine lv_aload_n hx hcb dL_consents_2 rfl (lv_at hl 0 rfl) ?_
  refine lv_iload_n hx hcb dL_consents_3 rfl (lv_at hl 1 rfl) ?_
  refine l_ci (l_runV (w := w) (o := 0) (As := [.int x0]) (rest := [.int (nI 0), .ref ou]) hx hcb hml hown hts (hM _) mv_X9_consents q_897 (xtyD_0 hK) hZ hR hS (sub_w hS.1) (hw.lo (by decide)) xc9 (hw.s0 (by decide) rfl) rfl hl.1 rfl (Nat.le_of_ble_eq_true rfl) dL_consents_4 ⟨by decide, by decide⟩ ⟨by decide, by decide⟩) hS (sub_w hS.1) (fun v z1 H locs hp hR hk hS => ?_)
  have hP := ou_kept hP hap hk
  refine lv_if_eq (tgt := 14) hx hcb dL_consents_7 (by decide) (fun c1 => ?_) (fun c1 => ?_)
  · refine lv_lconst (v := 0) hx hcb dL_consents_14 (by decide) ?_
    refine l_last hx hcb hK hR hP hap hS dL_consents_15 (fun H locs hR hP hS => ?_)
    refine lv_goto (tgt := 22) hx hcb dL_consents_16 (by decide) ?_
    refine lv_iconst (v := nI 0) hx hcb dL_consents_22 (by decide) ?_
    refine W.widen (k := 1) (n := 6) (by decide) (by decide) ?_
    exact hret (nI 0) z1 _ _ _ _ _ dL_consents_23 hR hP hS ⟨rfl, v, hp, by rw [if_pos c1]⟩
  · refine lv_lconst (v := 1) hx hcb dL_consents_10 (by decide) ?_
    refine lv_goto (tgt := 15) hx hcb dL_consents_11 (by decide) ?_
    refine l_last hx hcb hK hR hP hap hS dL_consents_15 (fun H locs hR hP hS => ?_)
    refine lv_goto (tgt := 22) hx hcb dL_consents_16 (by decide) ?_
    refine lv_iconst (v := nI 0) hx hcb dL_consents_22 (by decide) ?_
    refine W.widen (k := 1) (n := 6) (by decide) (by decide) ?_
    exact hret (nI 0) z1 _ _ _ _ _ dL_consents_23 hR hP hS ⟨rfl, v, hp, by rw [if_neg c1]⟩
set_option maxRecDepth 100000 in
set_option maxHeartbeats 4000000 in
theorem x_L_consents (l : Launch) (G : xGl) (cD : ClassId) (w : xWd) (K : Nat) (hw : isC K w) (z : xSt) (f : Nat → Int64) (ou sz : Nat) (x0 : Int32) (hM : ∀ sz, xX l yX9_consents cX9_consents 2 (some FieldType.boolean) rx_X9_consents G w z sz [.ref (w.2.2 0), .int x0]) : xMw l yL_consents cL_consents 4 [(0, 16, 19, 13)] rm_L_consents G cD w z (.inl (G.2 3, 1, .inr (.inl f))) ou sz [.ref (w.2.2 0), .int x0, .ref ou] (fun r u => r = 1 ∧ u = (z, (.inl (G.2 3, 1, .inr (.inl f))))) := by
  refine x_mw (by decide) (Nat.le_of_ble_eq_true rfl) ?_
  intro p e s m args below meth c ls Q hsz X htab hR hP hap hS hl hret
  obtain ⟨hx, hcb, hml, hown, hts, hK, hZ⟩ := X
  have hl : lv_has ls 4 [(0, .ref (w.2.2 0)), (1, .int x0), (2, .ref ou)] := hl
  refine lv_aload_n hx hcb dL_consents_0 rfl (lv_at hl 2 rfl) ?_
  refine lv_iconst (v := nI 0) hx hcb dL_consents_1 (by decide) ?_
  refine lv_aload_n hx hcb dL_consents_2 rfl (lv_at hl 0 rfl) ?_
  refine lv_iload_n hx hcb dL_consents_3 rfl (lv_at hl 1 rfl) ?_
  refine l_cx (w := w) (o := 0) (As := [.int x0]) (rest := [.int (nI 0), .ref ou]) hx hcb hml hown hts htab (by decide) (by decide) q_896 (hM _) mv_X9_consents q_897 (xtyD_0 hK) hZ hR hS (sub_w hS.1) (hw.lo (by decide)) xc9 (hw.s0 (by decide) rfl) rfl hl.1 rfl (Nat.le_of_ble_eq_true rfl) dL_consents_4 ⟨by decide, by decide⟩ ⟨by decide, by decide⟩ (fun q9 H locs hR hk hS => ?_)
  have hP := ou_kept hP hap hk
  refine lv_astore_n (lv' := [(3, .ref q9), (0, .ref (w.2.2 0)), (1, .int x0), (2, .ref ou)]) hx hcb dL_consents_19 rfl hl (by decide) rfl (fun ls hl => ?_)
  refine lv_iconst (v := nI 1) hx hcb dL_consents_20 (by decide) ?_
  refine W.widen (k := 1) (n := 6) (by decide) (by decide) ?_
  exact hret (nI 1) z _ _ _ _ _ dL_consents_21 hR hP hS ⟨rfl, rfl⟩
def rm_L_stateOf : Room := { frames := 9, cells := 1, slots := 6, locals := 145 }
set_option maxRecDepth 100000 in
set_option maxHeartbeats 4000000 in
theorem n_L_stateOf (l : Launch) (G : xGl) (cD : ClassId) (w : xWd) (K : Nat) (hw : isC K w) (z : xSt) (f : Nat → Int64) (ou sz : Nat) (x0 : Int32) {post : Int32 → xSt → Prop} (hM : ∀ sz, xMi l yX9_stateOf cX9_stateOf 2 (some FieldType.int) rm_X9_stateOf G w z sz [.ref (w.2.2 0), .int x0] post) : xMw l yL_stateOf cL_stateOf 4 [(0, 9, 12, 13)] rm_L_stateOf G cD w z (.inl (G.2 3, 1, .inr (.inl f))) ou sz [.ref (w.2.2 0), .int x0, .ref ou] (fun r u => r = 0 ∧ ∃ v, post v u.1 ∧ u.2 = .inl (G.2 3, 1, .inr (.inl (va_up f 0 v.toInt64)))) := by
  refine x_mw (by decide) (Nat.le_of_ble_eq_true rfl) ?_
  intro p e s m args below meth c ls Q hsz X htab hR hP hap hS hl hret
  obtain ⟨hx, hcb, hml, hown, hts, hK, hZ⟩ := X
  have hl : lv_has ls 4 [(0, .ref (w.2.2 0)), (1, .int x0), (2, .ref ou)] := hl
  refine lv_aload_n hx hcb dL_stateOf_0 rfl (lv_at hl 2 rfl) ?_
  refine lv_iconst (v := nI 0) hx hcb dL_stateOf_1 (by decide) ?_
  refine lv_aload_n hx hcb dL_stateOf_2 rfl (lv_at hl 0 rfl) ?_
  refine lv_iload_n hx hcb dL_stateOf_3 rfl (lv_at hl 1 rfl) ?_
  refine l_ci (l_runV (w := w) (o := 0) (As := [.int x0]) (rest := [.int (nI 0), .ref ou]) hx hcb hml hown hts (hM _) mv_X9_stateOf q_977 (xtyD_0 hK) hZ hR hS (sub_w hS.1) (hw.lo (by decide)) xc9 (hw.s0 (by decide) rfl) rfl hl.1 rfl (Nat.le_of_ble_eq_true rfl) dL_stateOf_4 ⟨by decide, by decide⟩ ⟨by decide, by decide⟩) hS (sub_w hS.1) (fun v z1 H locs hp hR hk hS => ?_)
  have hP := ou_kept hP hap hk
  refine lv_i2l hx hcb dL_stateOf_7 rfl ?_
  refine l_last hx hcb hK hR hP hap hS dL_stateOf_8 (fun H locs hR hP hS => ?_)
  refine lv_goto (tgt := 15) hx hcb dL_stateOf_9 (by decide) ?_
  refine lv_iconst (v := nI 0) hx hcb dL_stateOf_15 (by decide) ?_
  refine W.widen (k := 1) (n := 6) (by decide) (by decide) ?_
  exact hret (nI 0) z1 _ _ _ _ _ dL_stateOf_16 hR hP hS ⟨rfl, v, hp, rfl⟩
set_option maxRecDepth 100000 in
set_option maxHeartbeats 4000000 in
theorem x_L_stateOf (l : Launch) (G : xGl) (cD : ClassId) (w : xWd) (K : Nat) (hw : isC K w) (z : xSt) (f : Nat → Int64) (ou sz : Nat) (x0 : Int32) (hM : ∀ sz, xX l yX9_stateOf cX9_stateOf 2 (some FieldType.int) rx_X9_stateOf G w z sz [.ref (w.2.2 0), .int x0]) : xMw l yL_stateOf cL_stateOf 4 [(0, 9, 12, 13)] rm_L_stateOf G cD w z (.inl (G.2 3, 1, .inr (.inl f))) ou sz [.ref (w.2.2 0), .int x0, .ref ou] (fun r u => r = 1 ∧ u = (z, (.inl (G.2 3, 1, .inr (.inl f))))) := by
  refine x_mw (by decide) (Nat.le_of_ble_eq_true rfl) ?_
  intro p e s m args below meth c ls Q hsz X htab hR hP hap hS hl hret
  obtain ⟨hx, hcb, hml, hown, hts, hK, hZ⟩ := X
  have hl : lv_has ls 4 [(0, .ref (w.2.2 0)), (1, .int x0), (2, .ref ou)] := hl
  refine lv_aload_n hx hcb dL_stateOf_0 rfl (lv_at hl 2 rfl) ?_
  refine lv_iconst (v := nI 0) hx hcb dL_stateOf_1 (by decide) ?_
  refine lv_aload_n hx hcb dL_stateOf_2 rfl (lv_at hl 0 rfl) ?_
  refine lv_iload_n hx hcb dL_stateOf_3 rfl (lv_at hl 1 rfl) ?_
  refine l_cx (w := w) (o := 0) (As := [.int x0]) (rest := [.int (nI 0), .ref ou]) hx hcb hml hown hts htab (by decide) (by decide) q_896 (hM _) mv_X9_stateOf q_977 (xtyD_0 hK) hZ hR hS (sub_w hS.1) (hw.lo (by decide)) xc9 (hw.s0 (by decide) rfl) rfl hl.1 rfl (Nat.le_of_ble_eq_true rfl) dL_stateOf_4 ⟨by decide, by decide⟩ ⟨by decide, by decide⟩ (fun q9 H locs hR hk hS => ?_)
  have hP := ou_kept hP hap hk
  refine lv_astore_n (lv' := [(3, .ref q9), (0, .ref (w.2.2 0)), (1, .int x0), (2, .ref ou)]) hx hcb dL_stateOf_12 rfl hl (by decide) rfl (fun ls hl => ?_)
  refine lv_iconst (v := nI 1) hx hcb dL_stateOf_13 (by decide) ?_
  refine W.widen (k := 1) (n := 6) (by decide) (by decide) ?_
  exact hret (nI 1) z _ _ _ _ _ dL_stateOf_14 hR hP hS ⟨rfl, rfl⟩
def rm_L_patronage : Room := { frames := 9, cells := 1, slots := 6, locals := 147 }
set_option maxRecDepth 100000 in
set_option maxHeartbeats 4000000 in
theorem n_L_patronage (l : Launch) (G : xGl) (cD : ClassId) (w : xWd) (K : Nat) (hw : isC K w) (z : xSt) (f : Nat → Int64) (ou sz : Nat) (x0 : Int32) (x1 : Int32) {post : Int32 → xSt → Prop} (hM : ∀ sz, xMi l yX9_patronage cX9_patronage 4 (some FieldType.int) rm_X9_patronage G w z sz [.ref (w.2.2 0), .int x0, .int x1] post) : xMw l yL_patronage cL_patronage 5 [(0, 10, 13, 13)] rm_L_patronage G cD w z (.inl (G.2 3, 1, .inr (.inl f))) ou sz [.ref (w.2.2 0), .int x0, .int x1, .ref ou] (fun r u => r = 0 ∧ ∃ v, post v u.1 ∧ u.2 = .inl (G.2 3, 1, .inr (.inl (va_up f 0 v.toInt64)))) := by
  refine x_mw (by decide) (Nat.le_of_ble_eq_true rfl) ?_
  intro p e s m args below meth c ls Q hsz X htab hR hP hap hS hl hret
  obtain ⟨hx, hcb, hml, hown, hts, hK, hZ⟩ := X
  have hl : lv_has ls 5 [(0, .ref (w.2.2 0)), (1, .int x0), (2, .int x1), (3, .ref ou)] := hl
  refine lv_aload_n hx hcb dL_patronage_0 rfl (lv_at hl 3 rfl) ?_
  refine lv_iconst (v := nI 0) hx hcb dL_patronage_1 (by decide) ?_
  refine lv_aload_n hx hcb dL_patronage_2 rfl (lv_at hl 0 rfl) ?_
  refine lv_iload_n hx hcb dL_patronage_3 rfl (lv_at hl 1 rfl) ?_
  refine lv_iload_n hx hcb dL_patronage_4 rfl (lv_at hl 2 rfl) ?_
  refine l_ci (l_runV (w := w) (o := 0) (As := [.int x0, .int x1]) (rest := [.int (nI 0), .ref ou]) hx hcb hml hown hts (hM _) mv_X9_patronage q_984 (xtyD_0 hK) hZ hR hS (sub_w hS.1) (hw.lo (by decide)) xc9 (hw.s0 (by decide) rfl) rfl hl.1 rfl (Nat.le_of_ble_eq_true rfl) dL_patronage_5 ⟨by decide, by decide⟩ ⟨by decide, by decide⟩) hS (sub_w hS.1) (fun v z1 H locs hp hR hk hS => ?_)
  have hP := ou_kept hP hap hk
  refine lv_i2l hx hcb dL_patronage_8 rfl ?_
  refine l_last hx hcb hK hR hP hap hS dL_patronage_9 (fun H locs hR hP hS => ?_)
  refine lv_goto (tgt := 17) hx hcb dL_patronage_10 (by decide) ?_
  refine lv_iconst (v := nI 0) hx hcb dL_patronage_17 (by decide) ?_
  refine W.widen (k := 1) (n := 6) (by decide) (by decide) ?_
  exact hret (nI 0) z1 _ _ _ _ _ dL_patronage_18 hR hP hS ⟨rfl, v, hp, rfl⟩
set_option maxRecDepth 100000 in
set_option maxHeartbeats 4000000 in
theorem x_L_patronage (l : Launch) (G : xGl) (cD : ClassId) (w : xWd) (K : Nat) (hw : isC K w) (z : xSt) (f : Nat → Int64) (ou sz : Nat) (x0 : Int32) (x1 : Int32) (hM : ∀ sz, xX l yX9_patronage cX9_patronage 4 (some FieldType.int) rx_X9_patronage G w z sz [.ref (w.2.2 0), .int x0, .int x1]) : xMw l yL_patronage cL_patronage 5 [(0, 10, 13, 13)] rm_L_patronage G cD w z (.inl (G.2 3, 1, .inr (.inl f))) ou sz [.ref (w.2.2 0), .int x0, .int x1, .ref ou] (fun r u => r = 1 ∧ u = (z, (.inl (G.2 3, 1, .inr (.inl f))))) := by
  refine x_mw (by decide) (Nat.le_of_ble_eq_true rfl) ?_
  intro p e s m args below meth c ls Q hsz X htab hR hP hap hS hl hret
  obtain ⟨hx, hcb, hml, hown, hts, hK, hZ⟩ := X
  have hl : lv_has ls 5 [(0, .ref (w.2.2 0)), (1, .int x0), (2, .int x1), (3, .ref ou)] := hl
  refine lv_aload_n hx hcb dL_patronage_0 rfl (lv_at hl 3 rfl) ?_
  refine lv_iconst (v := nI 0) hx hcb dL_patronage_1 (by decide) ?_
  refine lv_aload_n hx hcb dL_patronage_2 rfl (lv_at hl 0 rfl) ?_
  refine lv_iload_n hx hcb dL_patronage_3 rfl (lv_at hl 1 rfl) ?_
  refine lv_iload_n hx hcb dL_patronage_4 rfl (lv_at hl 2 rfl) ?_
  refine l_cx (w := w) (o := 0) (As := [.int x0, .int x1]) (rest := [.int (nI 0), .ref ou]) hx hcb hml hown hts htab (by decide) (by decide) q_896 (hM _) mv_X9_patronage q_984 (xtyD_0 hK) hZ hR hS (sub_w hS.1) (hw.lo (by decide)) xc9 (hw.s0 (by decide) rfl) rfl hl.1 rfl (Nat.le_of_ble_eq_true rfl) dL_patronage_5 ⟨by decide, by decide⟩ ⟨by decide, by decide⟩ (fun q9 H locs hR hk hS => ?_)
  have hP := ou_kept hP hap hk
  refine lv_astore (lv' := [(4, .ref q9), (0, .ref (w.2.2 0)), (1, .int x0), (2, .int x1), (3, .ref ou)]) hx hcb dL_patronage_13 hl (by decide) rfl (fun ls hl => ?_)
  refine lv_iconst (v := nI 1) hx hcb dL_patronage_15 (by decide) ?_
  refine W.widen (k := 1) (n := 6) (by decide) (by decide) ?_
  exact hret (nI 1) z _ _ _ _ _ dL_patronage_16 hR hP hS ⟨rfl, rfl⟩
def rm_L_totalPatronage : Room := { frames := 8, cells := 1, slots := 6, locals := 124 }
set_option maxRecDepth 100000 in
set_option maxHeartbeats 4000000 in
theorem n_L_totalPatronage (l : Launch) (G : xGl) (cD : ClassId) (w : xWd) (K : Nat) (hw : isC K w) (z : xSt) (f : Nat → Int64) (ou sz : Nat) (x0 : Int32) {post : Int32 → xSt → Prop} (hM : ∀ sz, xMi l yX9_totalPatronage cX9_totalPatronage 2 (some FieldType.int) rm_X9_totalPatronage G w z sz [.ref (w.2.2 0), .int x0] post) : xMw l yL_totalPatronage cL_totalPatronage 4 [(0, 9, 12, 13)] rm_L_totalPatronage G cD w z (.inl (G.2 3, 1, .inr (.inl f))) ou sz [.ref (w.2.2 0), .int x0, .ref ou] (fun r u => r = 0 ∧ ∃ v, post v u.1 ∧ u.2 = .inl (G.2 3, 1, .inr (.inl (va_up f 0 v.toInt64)))) := by
  refine x_mw (by decide) (Nat.le_of_ble_eq_true rfl) ?_
  intro p e s m args below meth c ls Q hsz X htab hR hP hap hS hl hret
  obtain ⟨hx, hcb, hml, hown, hts, hK, hZ⟩ := X
  have hl : lv_has ls 4 [(0, .ref (w.2.2 0)), (1, .int x0), (2, .ref ou)] := hl
  refine lv_aload_n hx hcb dL_totalPatronage_0 rfl (lv_at hl 2 rfl) ?_
  refine lv_iconst (v := nI 0) hx hcb dL_totalPatronage_1 (by decide) ?_
  refine lv_aload_n hx hcb dL_totalPatronage_2 rfl (lv_at hl 0 rfl) ?_
  refine lv_iload_n hx hcb dL_totalPatronage_3 rfl (lv_at hl 1 rfl) ?_
  refine l_ci (l_runV (w := w) (o := 0) (As := [.int x0]) (rest := [.int (nI 0), .ref ou]) hx hcb hml hown hts (hM _) mv_X9_totalPatronage q_996 (xtyD_0 hK) hZ hR hS (sub_w hS.1) (hw.lo (by decide)) xc9 (hw.s0 (by decide) rfl) rfl hl.1 rfl (Nat.le_of_ble_eq_true rfl) dL_totalPatronage_4 ⟨by decide, by decide⟩ ⟨by decide, by decide⟩) hS (sub_w hS.1) (fun v z1 H locs hp hR hk hS => ?_)
  have hP := ou_kept hP hap hk
  refine lv_i2l hx hcb dL_totalPatronage_7 rfl ?_
  refine l_last hx hcb hK hR hP hap hS dL_totalPatronage_8 (fun H locs hR hP hS => ?_)
  refine lv_goto (tgt := 15) hx hcb dL_totalPatronage_9 (by decide) ?_
  refine lv_iconst (v := nI 0) hx hcb dL_totalPatronage_15 (by decide) ?_
  refine W.widen (k := 1) (n := 6) (by decide) (by decide) ?_
  exact hret (nI 0) z1 _ _ _ _ _ dL_totalPatronage_16 hR hP hS ⟨rfl, v, hp, rfl⟩
set_option maxRecDepth 100000 in
set_option maxHeartbeats 4000000 in
theorem x_L_totalPatronage (l : Launch) (G : xGl) (cD : ClassId) (w : xWd) (K : Nat) (hw : isC K w) (z : xSt) (f : Nat → Int64) (ou sz : Nat) (x0 : Int32) (hM : ∀ sz, xX l yX9_totalPatronage cX9_totalPatronage 2 (some FieldType.int) rx_X9_totalPatronage G w z sz [.ref (w.2.2 0), .int x0]) : xMw l yL_totalPatronage cL_totalPatronage 4 [(0, 9, 12, 13)] rm_L_totalPatronage G cD w z (.inl (G.2 3, 1, .inr (.inl f))) ou sz [.ref (w.2.2 0), .int x0, .ref ou] (fun r u => r = 1 ∧ u = (z, (.inl (G.2 3, 1, .inr (.inl f))))) := by
  refine x_mw (by decide) (Nat.le_of_ble_eq_true rfl) ?_
  intro p e s m args below meth c ls Q hsz X htab hR hP hap hS hl hret
  obtain ⟨hx, hcb, hml, hown, hts, hK, hZ⟩ := X
  have hl : lv_has ls 4 [(0, .ref (w.2.2 0)), (1, .int x0), (2, .ref ou)] := hl
  refine lv_aload_n hx hcb dL_totalPatronage_0 rfl (lv_at hl 2 rfl) ?_
  refine lv_iconst (v := nI 0) hx hcb dL_totalPatronage_1 (by decide) ?_
  refine lv_aload_n hx hcb dL_totalPatronage_2 rfl (lv_at hl 0 rfl) ?_
  refine lv_iload_n hx hcb dL_totalPatronage_3 rfl (lv_at hl 1 rfl) ?_
  refine l_cx (w := w) (o := 0) (As := [.int x0]) (rest := [.int (nI 0), .ref ou]) hx hcb hml hown hts htab (by decide) (by decide) q_896 (hM _) mv_X9_totalPatronage q_996 (xtyD_0 hK) hZ hR hS (sub_w hS.1) (hw.lo (by decide)) xc9 (hw.s0 (by decide) rfl) rfl hl.1 rfl (Nat.le_of_ble_eq_true rfl) dL_totalPatronage_4 ⟨by decide, by decide⟩ ⟨by decide, by decide⟩ (fun q9 H locs hR hk hS => ?_)
  have hP := ou_kept hP hap hk
  refine lv_astore_n (lv' := [(3, .ref q9), (0, .ref (w.2.2 0)), (1, .int x0), (2, .ref ou)]) hx hcb dL_totalPatronage_12 rfl hl (by decide) rfl (fun ls hl => ?_)
  refine lv_iconst (v := nI 1) hx hcb dL_totalPatronage_13 (by decide) ?_
  refine W.widen (k := 1) (n := 6) (by decide) (by decide) ?_
  exact hret (nI 1) z _ _ _ _ _ dL_totalPatronage_14 hR hP hS ⟨rfl, rfl⟩
def rm_L_certificate : Room := { frames := 9, cells := 1, slots := 6, locals := 147 }
set_option maxRecDepth 100000 in
set_option maxHeartbeats 4000000 in
theorem n_L_certificate (l : Launch) (G : xGl) (cD : ClassId) (w : xWd) (K : Nat) (hw : isC K w) (z : xSt) (f : Nat → Int64) (ou sz : Nat) (x0 : Int32) (x1 : Int32) {post : Int32 → xSt → Prop} (hM : ∀ sz, xMi l yX9_certificate cX9_certificate 4 (some FieldType.int) rm_X9_certificate G w z sz [.ref (w.2.2 0), .int x0, .int x1] post) : xMw l yL_certificate cL_certificate 5 [(0, 10, 13, 13)] rm_L_certificate G cD w z (.inl (G.2 3, 1, .inr (.inl f))) ou sz [.ref (w.2.2 0), .int x0, .int x1, .ref ou] (fun r u => r = 0 ∧ ∃ v, post v u.1 ∧ u.2 = .inl (G.2 3, 1, .inr (.inl (va_up f 0 v.toInt64)))) := by
  refine x_mw (by decide) (Nat.le_of_ble_eq_true rfl) ?_
  intro p e s m args below meth c ls Q hsz X htab hR hP hap hS hl hret
  obtain ⟨hx, hcb, hml, hown, hts, hK, hZ⟩ := X
  have hl : lv_has ls 5 [(0, .ref (w.2.2 0)), (1, .int x0), (2, .int x1), (3, .ref ou)] := hl
  refine lv_aload_n hx hcb dL_certificate_0 rfl (lv_at hl 3 rfl) ?_
  refine lv_iconst (v := nI 0) hx hcb dL_certificate_1 (by decide) ?_
  refine lv_aload_n hx hcb dL_certificate_2 rfl (lv_at hl 0 rfl) ?_
  refine lv_iload_n hx hcb dL_certificate_3 rfl (lv_at hl 1 rfl) ?_
  refine lv_iload_n hx hcb dL_certificate_4 rfl (lv_at hl 2 rfl) ?_
  refine l_ci (l_runV (w := w) (o := 0) (As := [.int x0, .int x1]) (rest := [.int (nI 0), .ref ou]) hx hcb hml hown hts (hM _) mv_X9_certificate q_1004 (xtyD_0 hK) hZ hR hS (sub_w hS.1) (hw.lo (by decide)) xc9 (hw.s0 (by decide) rfl) rfl hl.1 rfl (Nat.le_of_ble_eq_true rfl) dL_certificate_5 ⟨by decide, by decide⟩ ⟨by decide, by decide⟩) hS (sub_w hS.1) (fun v z1 H locs hp hR hk hS => ?_)
  have hP := ou_kept hP hap hk
  refine lv_i2l hx hcb dL_certificate_8 rfl ?_
  refine l_last hx hcb hK hR hP hap hS dL_certificate_9 (fun H locs hR hP hS => ?_)
  refine lv_goto (tgt := 17) hx hcb dL_certificate_10 (by decide) ?_
  refine lv_iconst (v := nI 0) hx hcb dL_certificate_17 (by decide) ?_
  refine W.widen (k := 1) (n := 6) (by decide) (by decide) ?_
  exact hret (nI 0) z1 _ _ _ _ _ dL_certificate_18 hR hP hS ⟨rfl, v, hp, rfl⟩
set_option maxRecDepth 100000 in
set_option maxHeartbeats 4000000 in
theorem x_L_certificate (l : Launch) (G : xGl) (cD : ClassId) (w : xWd) (K : Nat) (hw : isC K w) (z : xSt) (f : Nat → Int64) (ou sz : Nat) (x0 : Int32) (x1 : Int32) (hM : ∀ sz, xX l yX9_certificate cX9_certificate 4 (some FieldType.int) rx_X9_certificate G w z sz [.ref (w.2.2 0), .int x0, .int x1]) : xMw l yL_certificate cL_certificate 5 [(0, 10, 13, 13)] rm_L_certificate G cD w z (.inl (G.2 3, 1, .inr (.inl f))) ou sz [.ref (w.2.2 0), .int x0, .int x1, .ref ou] (fun r u => r = 1 ∧ u = (z, (.inl (G.2 3, 1, .inr (.inl f))))) := by
  refine x_mw (by decide) (Nat.le_of_ble_eq_true rfl) ?_
  intro p e s m args below meth c ls Q hsz X htab hR hP hap hS hl hret
  obtain ⟨hx, hcb, hml, hown, hts, hK, hZ⟩ := X
  have hl : lv_has ls 5 [(0, .ref (w.2.2 0)), (1, .int x0), (2, .int x1), (3, .ref ou)] := hl
  refine lv_aload_n hx hcb dL_certificate_0 rfl (lv_at hl 3 rfl) ?_
  refine lv_iconst (v := nI 0) hx hcb dL_certificate_1 (by decide) ?_
  refine lv_aload_n hx hcb dL_certificate_2 rfl (lv_at hl 0 rfl) ?_
  refine lv_iload_n hx hcb dL_certificate_3 rfl (lv_at hl 1 rfl) ?_
  refine lv_iload_n hx hcb dL_certificate_4 rfl (lv_at hl 2 rfl) ?_
  refine l_cx (w := w) (o := 0) (As := [.int x0, .int x1]) (rest := [.int (nI 0), .ref ou]) hx hcb hml hown hts htab (by decide) (by decide) q_896 (hM _) mv_X9_certificate q_1004 (xtyD_0 hK) hZ hR hS (sub_w hS.1) (hw.lo (by decide)) xc9 (hw.s0 (by decide) rfl) rfl hl.1 rfl (Nat.le_of_ble_eq_true rfl) dL_certificate_5 ⟨by decide, by decide⟩ ⟨by decide, by decide⟩ (fun q9 H locs hR hk hS => ?_)
  have hP := ou_kept hP hap hk
  refine lv_astore (lv' := [(4, .ref q9), (0, .ref (w.2.2 0)), (1, .int x0), (2, .int x1), (3, .ref ou)]) hx hcb dL_certificate_13 hl (by decide) rfl (fun ls hl => ?_)
  refine lv_iconst (v := nI 1) hx hcb dL_certificate_15 (by decide) ?_
  refine W.widen (k := 1) (n := 6) (by decide) (by decide) ?_
  exact hret (nI 1) z _ _ _ _ _ dL_certificate_16 hR hP hS ⟨rfl, rfl⟩
def rm_L_kindOf : Room := { frames := 9, cells := 1, slots := 6, locals := 147 }
set_option maxRecDepth 100000 in
set_option maxHeartbeats 4000000 in
theorem n_L_kindOf (l : Launch) (G : xGl) (cD : ClassId) (w : xWd) (K : Nat) (hw : isC K w) (z : xSt) (f : Nat → Int64) (ou sz : Nat) (x0 : Int32) (x1 : Int32) {post : Int32 → xSt → Prop} (hM : ∀ sz, xMi l yX9_kindOf cX9_kindOf 4 (some FieldType.int) rm_X9_kindOf G w z sz [.ref (w.2.2 0), .int x0, .int x1] post) : xMw l yL_kindOf cL_kindOf 5 [(0, 10, 13, 13)] rm_L_kindOf G cD w z (.inl (G.2 3, 1, .inr (.inl f))) ou sz [.ref (w.2.2 0), .int x0, .int x1, .ref ou] (fun r u => r = 0 ∧ ∃ v, post v u.1 ∧ u.2 = .inl (G.2 3, 1, .inr (.inl (va_up f 0 v.toInt64)))) := by
  refine x_mw (by decide) (Nat.le_of_ble_eq_true rfl) ?_
  intro p e s m args below meth c ls Q hsz X htab hR hP hap hS hl hret
  obtain ⟨hx, hcb, hml, hown, hts, hK, hZ⟩ := X
  have hl : lv_has ls 5 [(0, .ref (w.2.2 0)), (1, .int x0), (2, .int x1), (3, .ref ou)] := hl
  refine lv_aload_n hx hcb dL_kindOf_0 rfl (lv_at hl 3 rfl) ?_
  refine lv_iconst (v := nI 0) hx hcb dL_kindOf_1 (by decide) ?_
  refine lv_aload_n hx hcb dL_kindOf_2 rfl (lv_at hl 0 rfl) ?_
  refine lv_iload_n hx hcb dL_kindOf_3 rfl (lv_at hl 1 rfl) ?_
  refine lv_iload_n hx hcb dL_kindOf_4 rfl (lv_at hl 2 rfl) ?_
  refine l_ci (l_runV (w := w) (o := 0) (As := [.int x0, .int x1]) (rest := [.int (nI 0), .ref ou]) hx hcb hml hown hts (hM _) mv_X9_kindOf q_1011 (xtyD_0 hK) hZ hR hS (sub_w hS.1) (hw.lo (by decide)) xc9 (hw.s0 (by decide) rfl) rfl hl.1 rfl (Nat.le_of_ble_eq_true rfl) dL_kindOf_5 ⟨by decide, by decide⟩ ⟨by decide, by decide⟩) hS (sub_w hS.1) (fun v z1 H locs hp hR hk hS => ?_)
  have hP := ou_kept hP hap hk
  refine lv_i2l hx hcb dL_kindOf_8 rfl ?_
  refine l_last hx hcb hK hR hP hap hS dL_kindOf_9 (fun H locs hR hP hS => ?_)
  refine lv_goto (tgt := 17) hx hcb dL_kindOf_10 (by decide) ?_
  refine lv_iconst (v := nI 0) hx hcb dL_kindOf_17 (by decide) ?_
  refine W.widen (k := 1) (n := 6) (by decide) (by decide) ?_
  exact hret (nI 0) z1 _ _ _ _ _ dL_kindOf_18 hR hP hS ⟨rfl, v, hp, rfl⟩
set_option maxRecDepth 100000 in
set_option maxHeartbeats 4000000 in
theorem x_L_kindOf (l : Launch) (G : xGl) (cD : ClassId) (w : xWd) (K : Nat) (hw : isC K w) (z : xSt) (f : Nat → Int64) (ou sz : Nat) (x0 : Int32) (x1 : Int32) (hM : ∀ sz, xX l yX9_kindOf cX9_kindOf 4 (some FieldType.int) rx_X9_kindOf G w z sz [.ref (w.2.2 0), .int x0, .int x1]) : xMw l yL_kindOf cL_kindOf 5 [(0, 10, 13, 13)] rm_L_kindOf G cD w z (.inl (G.2 3, 1, .inr (.inl f))) ou sz [.ref (w.2.2 0), .int x0, .int x1, .ref ou] (fun r u => r = 1 ∧ u = (z, (.inl (G.2 3, 1, .inr (.inl f))))) := by
  refine x_mw (by decide) (Nat.le_of_ble_eq_true rfl) ?_
  intro p e s m args below meth c ls Q hsz X htab hR hP hap hS hl hret
  obtain ⟨hx, hcb, hml, hown, hts, hK, hZ⟩ := X
  have hl : lv_has ls 5 [(0, .ref (w.2.2 0)), (1, .int x0), (2, .int x1), (3, .ref ou)] := hl
  refine lv_aload_n hx hcb dL_kindOf_0 rfl (lv_at hl 3 rfl) ?_
  refine lv_iconst (v := nI 0) hx hcb dL_kindOf_1 (by decide) ?_
  refine lv_aload_n hx hcb dL_kindOf_2 rfl (lv_at hl 0 rfl) ?_
  refine lv_iload_n hx hcb dL_kindOf_3 rfl (lv_at hl 1 rfl) ?_
  refine lv_iload_n hx hcb dL_kindOf_4 rfl (lv_at hl 2 rfl) ?_
  refine l_cx (w := w) (o := 0) (As := [.int x0, .int x1]) (rest := [.int (nI 0), .ref ou]) hx hcb hml hown hts htab (by decide) (by decide) q_896 (hM _) mv_X9_kindOf q_1011 (xtyD_0 hK) hZ hR hS (sub_w hS.1) (hw.lo (by decide)) xc9 (hw.s0 (by decide) rfl) rfl hl.1 rfl (Nat.le_of_ble_eq_true rfl) dL_kindOf_5 ⟨by decide, by decide⟩ ⟨by decide, by decide⟩ (fun q9 H locs hR hk hS => ?_)
  have hP := ou_kept hP hap hk
  refine lv_astore (lv' := [(4, .ref q9), (0, .ref (w.2.2 0)), (1, .int x0), (2, .int x1), (3, .ref ou)]) hx hcb dL_kindOf_13 hl (by decide) rfl (fun ls hl => ?_)
  refine lv_iconst (v := nI 1) hx hcb dL_kindOf_15 (by decide) ?_
  refine W.widen (k := 1) (n := 6) (by decide) (by decide) ?_
  exact hret (nI 1) z _ _ _ _ _ dL_kindOf_16 hR hP hS ⟨rfl, rfl⟩
def rm_L_equityOf : Room := { frames := 9, cells := 1, slots := 6, locals := 145 }
set_option maxRecDepth 100000 in
set_option maxHeartbeats 4000000 in
theorem n_L_equityOf (l : Launch) (G : xGl) (cD : ClassId) (w : xWd) (K : Nat) (hw : isC K w) (z : xSt) (f : Nat → Int64) (ou sz : Nat) (x0 : Int32) {post : Int32 → xSt → Prop} (hM : ∀ sz, xMi l yX9_equityOf cX9_equityOf 2 (some FieldType.int) rm_X9_equityOf G w z sz [.ref (w.2.2 0), .int x0] post) : xMw l yL_equityOf cL_equityOf 4 [(0, 9, 12, 13)] rm_L_equityOf G cD w z (.inl (G.2 3, 1, .inr (.inl f))) ou sz [.ref (w.2.2 0), .int x0, .ref ou] (fun r u => r = 0 ∧ ∃ v, post v u.1 ∧ u.2 = .inl (G.2 3, 1, .inr (.inl (va_up f 0 v.toInt64)))) := by
  refine x_mw (by decide) (Nat.le_of_ble_eq_true rfl) ?_
  intro p e s m args below meth c ls Q hsz X htab hR hP hap hS hl hret
  obtain ⟨hx, hcb, hml, hown, hts, hK, hZ⟩ := X
  have hl : lv_has ls 4 [(0, .ref (w.2.2 0)), (1, .int x0), (2, .ref ou)] := hl
  refine lv_aload_n hx hcb dL_equityOf_0 rfl (lv_at hl 2 rfl) ?_
  refine lv_iconst (v := nI 0) hx hcb dL_equityOf_1 (by decide) ?_
  refine lv_aload_n hx hcb dL_equityOf_2 rfl (lv_at hl 0 rfl) ?_
  refine lv_iload_n hx hcb dL_equityOf_3 rfl (lv_at hl 1 rfl) ?_
  refine l_ci (l_runV (w := w) (o := 0) (As := [.int x0]) (rest := [.int (nI 0), .ref ou]) hx hcb hml hown hts (hM _) mv_X9_equityOf q_1018 (xtyD_0 hK) hZ hR hS (sub_w hS.1) (hw.lo (by decide)) xc9 (hw.s0 (by decide) rfl) rfl hl.1 rfl (Nat.le_of_ble_eq_true rfl) dL_equityOf_4 ⟨by decide, by decide⟩ ⟨by decide, by decide⟩) hS (sub_w hS.1) (fun v z1 H locs hp hR hk hS => ?_)
  have hP := ou_kept hP hap hk
  refine lv_i2l hx hcb dL_equityOf_7 rfl ?_
  refine l_last hx hcb hK hR hP hap hS dL_equityOf_8 (fun H locs hR hP hS => ?_)
  refine lv_goto (tgt := 15) hx hcb dL_equityOf_9 (by decide) ?_
  refine lv_iconst (v := nI 0) hx hcb dL_equityOf_15 (by decide) ?_
  refine W.widen (k := 1) (n := 6) (by decide) (by decide) ?_
  exact hret (nI 0) z1 _ _ _ _ _ dL_equityOf_16 hR hP hS ⟨rfl, v, hp, rfl⟩
set_option maxRecDepth 100000 in
set_option maxHeartbeats 4000000 in
theorem x_L_equityOf (l : Launch) (G : xGl) (cD : ClassId) (w : xWd) (K : Nat) (hw : isC K w) (z : xSt) (f : Nat → Int64) (ou sz : Nat) (x0 : Int32) (hM : ∀ sz, xX l yX9_equityOf cX9_equityOf 2 (some FieldType.int) rx_X9_equityOf G w z sz [.ref (w.2.2 0), .int x0]) : xMw l yL_equityOf cL_equityOf 4 [(0, 9, 12, 13)] rm_L_equityOf G cD w z (.inl (G.2 3, 1, .inr (.inl f))) ou sz [.ref (w.2.2 0), .int x0, .ref ou] (fun r u => r = 1 ∧ u = (z, (.inl (G.2 3, 1, .inr (.inl f))))) := by
  refine x_mw (by decide) (Nat.le_of_ble_eq_true rfl) ?_
  intro p e s m args below meth c ls Q hsz X htab hR hP hap hS hl hret
  obtain ⟨hx, hcb, hml, hown, hts, hK, hZ⟩ := X
  have hl : lv_has ls 4 [(0, .ref (w.2.2 0)), (1, .int x0), (2, .ref ou)] := hl
  refine lv_aload_n hx hcb dL_equityOf_0 rfl (lv_at hl 2 rfl) ?_
  refine lv_iconst (v := nI 0) hx hcb dL_equityOf_1 (by decide) ?_
  refine lv_aload_n hx hcb dL_equityOf_2 rfl (lv_at hl 0 rfl) ?_
  refine lv_iload_n hx hcb dL_equityOf_3 rfl (lv_at hl 1 rfl) ?_
  refine l_cx (w := w) (o := 0) (As := [.int x0]) (rest := [.int (nI 0), .ref ou]) hx hcb hml hown hts htab (by decide) (by decide) q_896 (hM _) mv_X9_equityOf q_1018 (xtyD_0 hK) hZ hR hS (sub_w hS.1) (hw.lo (by decide)) xc9 (hw.s0 (by decide) rfl) rfl hl.1 rfl (Nat.le_of_ble_eq_true rfl) dL_equityOf_4 ⟨by decide, by decide⟩ ⟨by decide, by decide⟩ (fun q9 H locs hR hk hS => ?_)
  have hP := ou_kept hP hap hk
  refine lv_astore_n (lv' := [(3, .ref q9), (0, .ref (w.2.2 0)), (1, .int x0), (2, .ref ou)]) hx hcb dL_equityOf_12 rfl hl (by decide) rfl (fun ls hl => ?_)
  refine lv_iconst (v := nI 1) hx hcb dL_equityOf_13 (by decide) ?_
  refine W.widen (k := 1) (n := 6) (by decide) (by decide) ?_
  exact hret (nI 1) z _ _ _ _ _ dL_equityOf_14 hR hP hS ⟨rfl, rfl⟩
def rm_L_equityIn : Room := { frames := 9, cells := 1, slots := 6, locals := 147 }
set_option maxRecDepth 100000 in
set_option maxHeartbeats 4000000 in
theorem n_L_equityIn (l : Launch) (G : xGl) (cD : ClassId) (w : xWd) (K : Nat) (hw : isC K w) (z : xSt) (f : Nat → Int64) (ou sz : Nat) (x0 : Int32) (x1 : Int32) {post : Int32 → xSt → Prop} (hM : ∀ sz, xMi l yX9_equityIn cX9_equityIn 4 (some FieldType.int) rm_X9_equityIn G w z sz [.ref (w.2.2 0), .int x0, .int x1] post) : xMw l yL_equityIn cL_equityIn 5 [(0, 10, 13, 13)] rm_L_equityIn G cD w z (.inl (G.2 3, 1, .inr (.inl f))) ou sz [.ref (w.2.2 0), .int x0, .int x1, .ref ou] (fun r u => r = 0 ∧ ∃ v, post v u.1 ∧ u.2 = .inl (G.2 3, 1, .inr (.inl (va_up f 0 v.toInt64)))) := by
  refine x_mw (by decide) (Nat.le_of_ble_eq_true rfl) ?_
  intro p e s m args below meth c ls Q hsz X htab hR hP hap hS hl hret
  obtain ⟨hx, hcb, hml, hown, hts, hK, hZ⟩ := X
  have hl : lv_has ls 5 [(0, .ref (w.2.2 0)), (1, .int x0), (2, .int x1), (3, .ref ou)] := hl
  refine lv_aload_n hx hcb dL_equityIn_0 rfl (lv_at hl 3 rfl) ?_
  refine lv_iconst (v := nI 0) hx hcb dL_equityIn_1 (by decide) ?_
  refine lv_aload_n hx hcb dL_equityIn_2 rfl (lv_at hl 0 rfl) ?_
  refine lv_iload_n hx hcb dL_equityIn_3 rfl (lv_at hl 1 rfl) ?_
  refine lv_iload_n hx hcb dL_equityIn_4 rfl (lv_at hl 2 rfl) ?_
  refine l_ci (l_runV (w := w) (o := 0) (As := [.int x0, .int x1]) (rest := [.int (nI 0), .ref ou]) hx hcb hml hown hts (hM _) mv_X9_equityIn q_1025 (xtyD_0 hK) hZ hR hS (sub_w hS.1) (hw.lo (by decide)) xc9 (hw.s0 (by decide) rfl) rfl hl.1 rfl (Nat.le_of_ble_eq_true rfl) dL_equityIn_5 ⟨by decide, by decide⟩ ⟨by decide, by decide⟩) hS (sub_w hS.1) (fun v z1 H locs hp hR hk hS => ?_)
  have hP := ou_kept hP hap hk
  refine lv_i2l hx hcb dL_equityIn_8 rfl ?_
  refine l_last hx hcb hK hR hP hap hS dL_equityIn_9 (fun H locs hR hP hS => ?_)
  refine lv_goto (tgt := 17) hx hcb dL_equityIn_10 (by decide) ?_
  refine lv_iconst (v := nI 0) hx hcb dL_equityIn_17 (by decide) ?_
  refine W.widen (k := 1) (n := 6) (by decide) (by decide) ?_
  exact hret (nI 0) z1 _ _ _ _ _ dL_equityIn_18 hR hP hS ⟨rfl, v, hp, rfl⟩
set_option maxRecDepth 100000 in
set_option maxHeartbeats 4000000 in
theorem x_L_equityIn (l : Launch) (G : xGl) (cD : ClassId) (w : xWd) (K : Nat) (hw : isC K w) (z : xSt) (f : Nat → Int64) (ou sz : Nat) (x0 : Int32) (x1 : Int32) (hM : ∀ sz, xX l yX9_equityIn cX9_equityIn 4 (some FieldType.int) rx_X9_equityIn G w z sz [.ref (w.2.2 0), .int x0, .int x1]) : xMw l yL_equityIn cL_equityIn 5 [(0, 10, 13, 13)] rm_L_equityIn G cD w z (.inl (G.2 3, 1, .inr (.inl f))) ou sz [.ref (w.2.2 0), .int x0, .int x1, .ref ou] (fun r u => r = 1 ∧ u = (z, (.inl (G.2 3, 1, .inr (.inl f))))) := by
  refine x_mw (by decide) (Nat.le_of_ble_eq_true rfl) ?_
  intro p e s m args below meth c ls Q hsz X htab hR hP hap hS hl hret
  obtain ⟨hx, hcb, hml, hown, hts, hK, hZ⟩ := X
  have hl : lv_has ls 5 [(0, .ref (w.2.2 0)), (1, .int x0), (2, .int x1), (3, .ref ou)] := hl
  refine lv_aload_n hx hcb dL_equityIn_0 rfl (lv_at hl 3 rfl) ?_
  refine lv_iconst (v := nI 0) hx hcb dL_equityIn_1 (by decide) ?_
  refine lv_aload_n hx hcb dL_equityIn_2 rfl (lv_at hl 0 rfl) ?_
  refine lv_iload_n hx hcb dL_equityIn_3 rfl (lv_at hl 1 rfl) ?_
  refine lv_iload_n hx hcb dL_equityIn_4 rfl (lv_at hl 2 rfl) ?_
  refine l_cx (w := w) (o := 0) (As := [.int x0, .int x1]) (rest := [.int (nI 0), .ref ou]) hx hcb hml hown hts htab (by decide) (by decide) q_896 (hM _) mv_X9_equityIn q_1025 (xtyD_0 hK) hZ hR hS (sub_w hS.1) (hw.lo (by decide)) xc9 (hw.s0 (by decide) rfl) rfl hl.1 rfl (Nat.le_of_ble_eq_true rfl) dL_equityIn_5 ⟨by decide, by decide⟩ ⟨by decide, by decide⟩ (fun q9 H locs hR hk hS => ?_)
  have hP := ou_kept hP hap hk
  refine lv_astore (lv' := [(4, .ref q9), (0, .ref (w.2.2 0)), (1, .int x0), (2, .int x1), (3, .ref ou)]) hx hcb dL_equityIn_13 hl (by decide) rfl (fun ls hl => ?_)
  refine lv_iconst (v := nI 1) hx hcb dL_equityIn_15 (by decide) ?_
  refine W.widen (k := 1) (n := 6) (by decide) (by decide) ?_
  exact hret (nI 1) z _ _ _ _ _ dL_equityIn_16 hR hP hS ⟨rfl, rfl⟩
def rm_L_paidTo : Room := { frames := 9, cells := 1, slots := 6, locals := 147 }
set_option maxRecDepth 100000 in
set_option maxHeartbeats 4000000 in
theorem n_L_paidTo (l : Launch) (G : xGl) (cD : ClassId) (w : xWd) (K : Nat) (hw : isC K w) (z : xSt) (f : Nat → Int64) (ou sz : Nat) (x0 : Int32) (x1 : Int32) {post : Int32 → xSt → Prop} (hM : ∀ sz, xMi l yX9_paidTo cX9_paidTo 4 (some FieldType.int) rm_X9_paidTo G w z sz [.ref (w.2.2 0), .int x0, .int x1] post) : xMw l yL_paidTo cL_paidTo 5 [(0, 10, 13, 13)] rm_L_paidTo G cD w z (.inl (G.2 3, 1, .inr (.inl f))) ou sz [.ref (w.2.2 0), .int x0, .int x1, .ref ou] (fun r u => r = 0 ∧ ∃ v, post v u.1 ∧ u.2 = .inl (G.2 3, 1, .inr (.inl (va_up f 0 v.toInt64)))) := by
  refine x_mw (by decide) (Nat.le_of_ble_eq_true rfl) ?_
  intro p e s m args below meth c ls Q hsz X htab hR hP hap hS hl hret
  obtain ⟨hx, hcb, hml, hown, hts, hK, hZ⟩ := X
  have hl : lv_has ls 5 [(0, .ref (w.2.2 0)), (1, .int x0), (2, .int x1), (3, .ref ou)] := hl
  refine lv_aload_n hx hcb dL_paidTo_0 rfl (lv_at hl 3 rfl) ?_
  refine lv_iconst (v := nI 0) hx hcb dL_paidTo_1 (by decide) ?_
  refine lv_aload_n hx hcb dL_paidTo_2 rfl (lv_at hl 0 rfl) ?_
  refine lv_iload_n hx hcb dL_paidTo_3 rfl (lv_at hl 1 rfl) ?_
  refine lv_iload_n hx hcb dL_paidTo_4 rfl (lv_at hl 2 rfl) ?_
  refine l_ci (l_runV (w := w) (o := 0) (As := [.int x0, .int x1]) (rest := [.int (nI 0), .ref ou]) hx hcb hml hown hts (hM _) mv_X9_paidTo q_1036 (xtyD_0 hK) hZ hR hS (sub_w hS.1) (hw.lo (by decide)) xc9 (hw.s0 (by decide) rfl) rfl hl.1 rfl (Nat.le_of_ble_eq_true rfl) dL_paidTo_5 ⟨by decide, by decide⟩ ⟨by decide, by decide⟩) hS (sub_w hS.1) (fun v z1 H locs hp hR hk hS => ?_)
  have hP := ou_kept hP hap hk
  refine lv_i2l hx hcb dL_paidTo_8 rfl ?_
  refine l_last hx hcb hK hR hP hap hS dL_paidTo_9 (fun H locs hR hP hS => ?_)
  refine lv_goto (tgt := 17) hx hcb dL_paidTo_10 (by decide) ?_
  refine lv_iconst (v := nI 0) hx hcb dL_paidTo_17 (by decide) ?_
  refine W.widen (k := 1) (n := 6) (by decide) (by decide) ?_
  exact hret (nI 0) z1 _ _ _ _ _ dL_paidTo_18 hR hP hS ⟨rfl, v, hp, rfl⟩
set_option maxRecDepth 100000 in
set_option maxHeartbeats 4000000 in
theorem x_L_paidTo (l : Launch) (G : xGl) (cD : ClassId) (w : xWd) (K : Nat) (hw : isC K w) (z : xSt) (f : Nat → Int64) (ou sz : Nat) (x0 : Int32) (x1 : Int32) (hM : ∀ sz, xX l yX9_paidTo cX9_paidTo 4 (some FieldType.int) rx_X9_paidTo G w z sz [.ref (w.2.2 0), .int x0, .int x1]) : xMw l yL_paidTo cL_paidTo 5 [(0, 10, 13, 13)] rm_L_paidTo G cD w z (.inl (G.2 3, 1, .inr (.inl f))) ou sz [.ref (w.2.2 0), .int x0, .int x1, .ref ou] (fun r u => r = 1 ∧ u = (z, (.inl (G.2 3, 1, .inr (.inl f))))) := by
  refine x_mw (by decide) (Nat.le_of_ble_eq_true rfl) ?_
  intro p e s m args below meth c ls Q hsz X htab hR hP hap hS hl hret
  obtain ⟨hx, hcb, hml, hown, hts, hK, hZ⟩ := X
  have hl : lv_has ls 5 [(0, .ref (w.2.2 0)), (1, .int x0), (2, .int x1), (3, .ref ou)] := hl
  refine lv_aload_n hx hcb dL_paidTo_0 rfl (lv_at hl 3 rfl) ?_
  refine lv_iconst (v := nI 0) hx hcb dL_paidTo_1 (by decide) ?_
  refine lv_aload_n hx hcb dL_paidTo_2 rfl (lv_at hl 0 rfl) ?_
  refine lv_iload_n hx hcb dL_paidTo_3 rfl (lv_at hl 1 rfl) ?_
  refine lv_iload_n hx hcb dL_paidTo_4 rfl (lv_at hl 2 rfl) ?_
  refine l_cx (w := w) (o := 0) (As := [.int x0, .int x1]) (rest := [.int (nI 0), .ref ou]) hx hcb hml hown hts htab (by decide) (by decide) q_896 (hM _) mv_X9_paidTo q_1036 (xtyD_0 hK) hZ hR hS (sub_w hS.1) (hw.lo (by decide)) xc9 (hw.s0 (by decide) rfl) rfl hl.1 rfl (Nat.le_of_ble_eq_true rfl) dL_paidTo_5 ⟨by decide, by decide⟩ ⟨by decide, by decide⟩ (fun q9 H locs hR hk hS => ?_)
  have hP := ou_kept hP hap hk
  refine lv_astore (lv' := [(4, .ref q9), (0, .ref (w.2.2 0)), (1, .int x0), (2, .int x1), (3, .ref ou)]) hx hcb dL_paidTo_13 hl (by decide) rfl (fun ls hl => ?_)
  refine lv_iconst (v := nI 1) hx hcb dL_paidTo_15 (by decide) ?_
  refine W.widen (k := 1) (n := 6) (by decide) (by decide) ?_
  exact hret (nI 1) z _ _ _ _ _ dL_paidTo_16 hR hP hS ⟨rfl, rfl⟩
def rm_L_lastAllocation : Room := { frames := 9, cells := 1, slots := 6, locals := 145 }
set_option maxRecDepth 100000 in
set_option maxHeartbeats 4000000 in
theorem n_L_lastAllocation (l : Launch) (G : xGl) (cD : ClassId) (w : xWd) (K : Nat) (hw : isC K w) (z : xSt) (f : Nat → Int64) (ou sz : Nat) (x0 : Int32) {post : Int32 → xSt → Prop} (hM : ∀ sz, xMi l yX9_lastAllocation cX9_lastAllocation 2 (some FieldType.int) rm_X9_lastAllocation G w z sz [.ref (w.2.2 0), .int x0] post) : xMw l yL_lastAllocation cL_lastAllocation 4 [(0, 9, 12, 13)] rm_L_lastAllocation G cD w z (.inl (G.2 3, 1, .inr (.inl f))) ou sz [.ref (w.2.2 0), .int x0, .ref ou] (fun r u => r = 0 ∧ ∃ v, post v u.1 ∧ u.2 = .inl (G.2 3, 1, .inr (.inl (va_up f 0 v.toInt64)))) := by
  refine x_mw (by decide) (Nat.le_of_ble_eq_true rfl) ?_
  intro p e s m args below meth c ls Q hsz X htab hR hP hap hS hl hret
  obtain ⟨hx, hcb, hml, hown, hts, hK, hZ⟩ := X
  have hl : lv_has ls 4 [(0, .ref (w.2.2 0)), (1, .int x0), (2, .ref ou)] := hl
  refine lv_aload_n hx hcb dL_lastAllocation_0 rfl (lv_at hl 2 rfl) ?_
  refine lv_iconst (v := nI 0) hx hcb dL_lastAllocation_1 (by decide) ?_
  refine lv_aload_n hx hcb dL_lastAllocation_2 rfl (lv_at hl 0 rfl) ?_
  refine lv_iload_n hx hcb dL_lastAllocation_3 rfl (lv_at hl 1 rfl) ?_
  refine l_ci (l_runV (w := w) (o := 0) (As := [.int x0]) (rest := [.int (nI 0), .ref ou]) hx hcb hml hown hts (hM _) mv_X9_lastAllocation q_1043 (xtyD_0 hK) hZ hR hS (sub_w hS.1) (hw.lo (by decide)) xc9 (hw.s0 (by decide) rfl) rfl hl.1 rfl (Nat.le_of_ble_eq_true rfl) dL_lastAllocation_4 ⟨by decide, by decide⟩ ⟨by decide, by decide⟩) hS (sub_w hS.1) (fun v z1 H locs hp hR hk hS => ?_)
  have hP := ou_kept hP hap hk
  refine lv_i2l hx hcb dL_lastAllocation_7 rfl ?_
  refine l_last hx hcb hK hR hP hap hS dL_lastAllocation_8 (fun H locs hR hP hS => ?_)
  refine lv_goto (tgt := 15) hx hcb dL_lastAllocation_9 (by decide) ?_
  refine lv_iconst (v := nI 0) hx hcb dL_lastAllocation_15 (by decide) ?_
  refine W.widen (k := 1) (n := 6) (by decide) (by decide) ?_
  exact hret (nI 0) z1 _ _ _ _ _ dL_lastAllocation_16 hR hP hS ⟨rfl, v, hp, rfl⟩
set_option maxRecDepth 100000 in
set_option maxHeartbeats 4000000 in
theorem x_L_lastAllocation (l : Launch) (G : xGl) (cD : ClassId) (w : xWd) (K : Nat) (hw : isC K w) (z : xSt) (f : Nat → Int64) (ou sz : Nat) (x0 : Int32) (hM : ∀ sz, xX l yX9_lastAllocation cX9_lastAllocation 2 (some FieldType.int) rx_X9_lastAllocation G w z sz [.ref (w.2.2 0), .int x0]) : xMw l yL_lastAllocation cL_lastAllocation 4 [(0, 9, 12, 13)] rm_L_lastAllocation G cD w z (.inl (G.2 3, 1, .inr (.inl f))) ou sz [.ref (w.2.2 0), .int x0, .ref ou] (fun r u => r = 1 ∧ u = (z, (.inl (G.2 3, 1, .inr (.inl f))))) := by
  refine x_mw (by decide) (Nat.le_of_ble_eq_true rfl) ?_
  intro p e s m args below meth c ls Q hsz X htab hR hP hap hS hl hret
  obtain ⟨hx, hcb, hml, hown, hts, hK, hZ⟩ := X
  have hl : lv_has ls 4 [(0, .ref (w.2.2 0)), (1, .int x0), (2, .ref ou)] := hl
  refine lv_aload_n hx hcb dL_lastAllocation_0 rfl (lv_at hl 2 rfl) ?_
  refine lv_iconst (v := nI 0) hx hcb dL_lastAllocation_1 (by decide) ?_
  refine lv_aload_n hx hcb dL_lastAllocation_2 rfl (lv_at hl 0 rfl) ?_
  refine lv_iload_n hx hcb dL_lastAllocation_3 rfl (lv_at hl 1 rfl) ?_
  refine l_cx (w := w) (o := 0) (As := [.int x0]) (rest := [.int (nI 0), .ref ou]) hx hcb hml hown hts htab (by decide) (by decide) q_896 (hM _) mv_X9_lastAllocation q_1043 (xtyD_0 hK) hZ hR hS (sub_w hS.1) (hw.lo (by decide)) xc9 (hw.s0 (by decide) rfl) rfl hl.1 rfl (Nat.le_of_ble_eq_true rfl) dL_lastAllocation_4 ⟨by decide, by decide⟩ ⟨by decide, by decide⟩ (fun q9 H locs hR hk hS => ?_)
  have hP := ou_kept hP hap hk
  refine lv_astore_n (lv' := [(3, .ref q9), (0, .ref (w.2.2 0)), (1, .int x0), (2, .ref ou)]) hx hcb dL_lastAllocation_12 rfl hl (by decide) rfl (fun ls hl => ?_)
  refine lv_iconst (v := nI 1) hx hcb dL_lastAllocation_13 (by decide) ?_
  refine W.widen (k := 1) (n := 6) (by decide) (by decide) ?_
  exact hret (nI 1) z _ _ _ _ _ dL_lastAllocation_14 hR hP hS ⟨rfl, rfl⟩
def rm_L_lastRecapture : Room := { frames := 9, cells := 1, slots := 6, locals := 145 }
set_option maxRecDepth 100000 in
set_option maxHeartbeats 4000000 in
theorem n_L_lastRecapture (l : Launch) (G : xGl) (cD : ClassId) (w : xWd) (K : Nat) (hw : isC K w) (z : xSt) (f : Nat → Int64) (ou sz : Nat) (x0 : Int32) {post : Int32 → xSt → Prop} (hM : ∀ sz, xMi l yX9_lastRecapture cX9_lastRecapture 2 (some FieldType.int) rm_X9_lastRecapture G w z sz [.ref (w.2.2 0), .int x0] post) : xMw l yL_lastRecapture cL_lastRecapture 4 [(0, 9, 12, 13)] rm_L_lastRecapture G cD w z (.inl (G.2 3, 1, .inr (.inl f))) ou sz [.ref (w.2.2 0), .int x0, .ref ou] (fun r u => r = 0 ∧ ∃ v, post v u.1 ∧ u.2 = .inl (G.2 3, 1, .inr (.inl (va_up f 0 v.toInt64)))) := by
  refine x_mw (by decide) (Nat.le_of_ble_eq_true rfl) ?_
  intro p e s m args below meth c ls Q hsz X htab hR hP hap hS hl hret
  obtain ⟨hx, hcb, hml, hown, hts, hK, hZ⟩ := X
  have hl : lv_has ls 4 [(0, .ref (w.2.2 0)), (1, .int x0), (2, .ref ou)] := hl
  refine lv_aload_n hx hcb dL_lastRecapture_0 rfl (lv_at hl 2 rfl) ?_
  refine lv_iconst (v := nI 0) hx hcb dL_lastRecapture_1 (by decide) ?_
  refine lv_aload_n hx hcb dL_lastRecapture_2 rfl (lv_at hl 0 rfl) ?_
  refine lv_iload_n hx hcb dL_lastRecapture_3 rfl (lv_at hl 1 rfl) ?_
  refine l_ci (l_runV (w := w) (o := 0) (As := [.int x0]) (rest := [.int (nI 0), .ref ou]) hx hcb hml hown hts (hM _) mv_X9_lastRecapture q_1050 (xtyD_0 hK) hZ hR hS (sub_w hS.1) (hw.lo (by decide)) xc9 (hw.s0 (by decide) rfl) rfl hl.1 rfl (Nat.le_of_ble_eq_true rfl) dL_lastRecapture_4 ⟨by decide, by decide⟩ ⟨by decide, by decide⟩) hS (sub_w hS.1) (fun v z1 H locs hp hR hk hS => ?_)
  have hP := ou_kept hP hap hk
  refine lv_i2l hx hcb dL_lastRecapture_7 rfl ?_
  refine l_last hx hcb hK hR hP hap hS dL_lastRecapture_8 (fun H locs hR hP hS => ?_)
  refine lv_goto (tgt := 15) hx hcb dL_lastRecapture_9 (by decide) ?_
  refine lv_iconst (v := nI 0) hx hcb dL_lastRecapture_15 (by decide) ?_
  refine W.widen (k := 1) (n := 6) (by decide) (by decide) ?_
  exact hret (nI 0) z1 _ _ _ _ _ dL_lastRecapture_16 hR hP hS ⟨rfl, v, hp, rfl⟩
set_option maxRecDepth 100000 in
set_option maxHeartbeats 4000000 in
theorem x_L_lastRecapture (l : Launch) (G : xGl) (cD : ClassId) (w : xWd) (K : Nat) (hw : isC K w) (z : xSt) (f : Nat → Int64) (ou sz : Nat) (x0 : Int32) (hM : ∀ sz, xX l yX9_lastRecapture cX9_lastRecapture 2 (some FieldType.int) rx_X9_lastRecapture G w z sz [.ref (w.2.2 0), .int x0]) : xMw l yL_lastRecapture cL_lastRecapture 4 [(0, 9, 12, 13)] rm_L_lastRecapture G cD w z (.inl (G.2 3, 1, .inr (.inl f))) ou sz [.ref (w.2.2 0), .int x0, .ref ou] (fun r u => r = 1 ∧ u = (z, (.inl (G.2 3, 1, .inr (.inl f))))) := by
  refine x_mw (by decide) (Nat.le_of_ble_eq_true rfl) ?_
  intro p e s m args below meth c ls Q hsz X htab hR hP hap hS hl hret
  obtain ⟨hx, hcb, hml, hown, hts, hK, hZ⟩ := X
  have hl : lv_has ls 4 [(0, .ref (w.2.2 0)), (1, .int x0), (2, .ref ou)] := hl
  refine lv_aload_n hx hcb dL_lastRecapture_0 rfl (lv_at hl 2 rfl) ?_
  refine lv_iconst (v := nI 0) hx hcb dL_lastRecapture_1 (by decide) ?_
  refine lv_aload_n hx hcb dL_lastRecapture_2 rfl (lv_at hl 0 rfl) ?_
  refine lv_iload_n hx hcb dL_lastRecapture_3 rfl (lv_at hl 1 rfl) ?_
  refine l_cx (w := w) (o := 0) (As := [.int x0]) (rest := [.int (nI 0), .ref ou]) hx hcb hml hown hts htab (by decide) (by decide) q_896 (hM _) mv_X9_lastRecapture q_1050 (xtyD_0 hK) hZ hR hS (sub_w hS.1) (hw.lo (by decide)) xc9 (hw.s0 (by decide) rfl) rfl hl.1 rfl (Nat.le_of_ble_eq_true rfl) dL_lastRecapture_4 ⟨by decide, by decide⟩ ⟨by decide, by decide⟩ (fun q9 H locs hR hk hS => ?_)
  have hP := ou_kept hP hap hk
  refine lv_astore_n (lv' := [(3, .ref q9), (0, .ref (w.2.2 0)), (1, .int x0), (2, .ref ou)]) hx hcb dL_lastRecapture_12 rfl hl (by decide) rfl (fun ls hl => ?_)
  refine lv_iconst (v := nI 1) hx hcb dL_lastRecapture_13 (by decide) ?_
  refine W.widen (k := 1) (n := 6) (by decide) (by decide) ?_
  exact hret (nI 1) z _ _ _ _ _ dL_lastRecapture_14 hR hP hS ⟨rfl, rfl⟩
def rm_L_ratePoints : Room := { frames := 8, cells := 1, slots := 6, locals := 124 }
set_option maxRecDepth 100000 in
set_option maxHeartbeats 4000000 in
theorem n_L_ratePoints (l : Launch) (G : xGl) (cD : ClassId) (w : xWd) (K : Nat) (hw : isC K w) (z : xSt) (f : Nat → Int64) (ou sz : Nat) (x0 : Int32) {post : Int32 → xSt → Prop} (hM : ∀ sz, xMi l yX9_ratePoints cX9_ratePoints 2 (some FieldType.int) rm_X9_ratePoints G w z sz [.ref (w.2.2 0), .int x0] post) : xMw l yL_ratePoints cL_ratePoints 4 [(0, 9, 12, 13)] rm_L_ratePoints G cD w z (.inl (G.2 3, 1, .inr (.inl f))) ou sz [.ref (w.2.2 0), .int x0, .ref ou] (fun r u => r = 0 ∧ ∃ v, post v u.1 ∧ u.2 = .inl (G.2 3, 1, .inr (.inl (va_up f 0 v.toInt64)))) := by
  refine x_mw (by decide) (Nat.le_of_ble_eq_true rfl) ?_
  intro p e s m args below meth c ls Q hsz X htab hR hP hap hS hl hret
  obtain ⟨hx, hcb, hml, hown, hts, hK, hZ⟩ := X
  have hl : lv_has ls 4 [(0, .ref (w.2.2 0)), (1, .int x0), (2, .ref ou)] := hl
  refine lv_aload_n hx hcb dL_ratePoints_0 rfl (lv_at hl 2 rfl) ?_
  refine lv_iconst (v := nI 0) hx hcb dL_ratePoints_1 (by decide) ?_
  refine lv_aload_n hx hcb dL_ratePoints_2 rfl (lv_at hl 0 rfl) ?_
  refine lv_iload_n hx hcb dL_ratePoints_3 rfl (lv_at hl 1 rfl) ?_
  refine l_ci (l_runV (w := w) (o := 0) (As := [.int x0]) (rest := [.int (nI 0), .ref ou]) hx hcb hml hown hts (hM _) mv_X9_ratePoints q_1068 (xtyD_0 hK) hZ hR hS (sub_w hS.1) (hw.lo (by decide)) xc9 (hw.s0 (by decide) rfl) rfl hl.1 rfl (Nat.le_of_ble_eq_true rfl) dL_ratePoints_4 ⟨by decide, by decide⟩ ⟨by decide, by decide⟩) hS (sub_w hS.1) (fun v z1 H locs hp hR hk hS => ?_)
  have hP := ou_kept hP hap hk
  refine lv_i2l hx hcb dL_ratePoints_7 rfl ?_
  refine l_last hx hcb hK hR hP hap hS dL_ratePoints_8 (fun H locs hR hP hS => ?_)
  refine lv_goto (tgt := 15) hx hcb dL_ratePoints_9 (by decide) ?_
  refine lv_iconst (v := nI 0) hx hcb dL_ratePoints_15 (by decide) ?_
  refine W.widen (k := 1) (n := 6) (by decide) (by decide) ?_
  exact hret (nI 0) z1 _ _ _ _ _ dL_ratePoints_16 hR hP hS ⟨rfl, v, hp, rfl⟩
set_option maxRecDepth 100000 in
set_option maxHeartbeats 4000000 in
theorem x_L_ratePoints (l : Launch) (G : xGl) (cD : ClassId) (w : xWd) (K : Nat) (hw : isC K w) (z : xSt) (f : Nat → Int64) (ou sz : Nat) (x0 : Int32) (hM : ∀ sz, xX l yX9_ratePoints cX9_ratePoints 2 (some FieldType.int) rx_X9_ratePoints G w z sz [.ref (w.2.2 0), .int x0]) : xMw l yL_ratePoints cL_ratePoints 4 [(0, 9, 12, 13)] rm_L_ratePoints G cD w z (.inl (G.2 3, 1, .inr (.inl f))) ou sz [.ref (w.2.2 0), .int x0, .ref ou] (fun r u => r = 1 ∧ u = (z, (.inl (G.2 3, 1, .inr (.inl f))))) := by
  refine x_mw (by decide) (Nat.le_of_ble_eq_true rfl) ?_
  intro p e s m args below meth c ls Q hsz X htab hR hP hap hS hl hret
  obtain ⟨hx, hcb, hml, hown, hts, hK, hZ⟩ := X
  have hl : lv_has ls 4 [(0, .ref (w.2.2 0)), (1, .int x0), (2, .ref ou)] := hl
  refine lv_aload_n hx hcb dL_ratePoints_0 rfl (lv_at hl 2 rfl) ?_
  refine lv_iconst (v := nI 0) hx hcb dL_ratePoints_1 (by decide) ?_
  refine lv_aload_n hx hcb dL_ratePoints_2 rfl (lv_at hl 0 rfl) ?_
  refine lv_iload_n hx hcb dL_ratePoints_3 rfl (lv_at hl 1 rfl) ?_
  refine l_cx (w := w) (o := 0) (As := [.int x0]) (rest := [.int (nI 0), .ref ou]) hx hcb hml hown hts htab (by decide) (by decide) q_896 (hM _) mv_X9_ratePoints q_1068 (xtyD_0 hK) hZ hR hS (sub_w hS.1) (hw.lo (by decide)) xc9 (hw.s0 (by decide) rfl) rfl hl.1 rfl (Nat.le_of_ble_eq_true rfl) dL_ratePoints_4 ⟨by decide, by decide⟩ ⟨by decide, by decide⟩ (fun q9 H locs hR hk hS => ?_)
  have hP := ou_kept hP hap hk
  refine lv_astore_n (lv' := [(3, .ref q9), (0, .ref (w.2.2 0)), (1, .int x0), (2, .ref ou)]) hx hcb dL_ratePoints_12 rfl hl (by decide) rfl (fun ls hl => ?_)
  refine lv_iconst (v := nI 1) hx hcb dL_ratePoints_13 (by decide) ?_
  refine W.widen (k := 1) (n := 6) (by decide) (by decide) ?_
  exact hret (nI 1) z _ _ _ _ _ dL_ratePoints_14 hR hP hS ⟨rfl, rfl⟩
def rm_L_oldestYear : Room := { frames := 9, cells := 1, slots := 6, locals := 145 }
set_option maxRecDepth 100000 in
set_option maxHeartbeats 4000000 in
theorem n_L_oldestYear (l : Launch) (G : xGl) (cD : ClassId) (w : xWd) (K : Nat) (hw : isC K w) (z : xSt) (f : Nat → Int64) (ou sz : Nat) (x0 : Int32) {post : Int32 → xSt → Prop} (hM : ∀ sz, xMi l yX9_oldestYear cX9_oldestYear 2 (some FieldType.int) rm_X9_oldestYear G w z sz [.ref (w.2.2 0), .int x0] post) : xMw l yL_oldestYear cL_oldestYear 4 [(0, 9, 12, 13)] rm_L_oldestYear G cD w z (.inl (G.2 3, 1, .inr (.inl f))) ou sz [.ref (w.2.2 0), .int x0, .ref ou] (fun r u => r = 0 ∧ ∃ v, post v u.1 ∧ u.2 = .inl (G.2 3, 1, .inr (.inl (va_up f 0 v.toInt64)))) := by
  refine x_mw (by decide) (Nat.le_of_ble_eq_true rfl) ?_
  intro p e s m args below meth c ls Q hsz X htab hR hP hap hS hl hret
  obtain ⟨hx, hcb, hml, hown, hts, hK, hZ⟩ := X
  have hl : lv_has ls 4 [(0, .ref (w.2.2 0)), (1, .int x0), (2, .ref ou)] := hl
  refine lv_aload_n hx hcb dL_oldestYear_0 rfl (lv_at hl 2 rfl) ?_
  refine lv_iconst (v := nI 0) hx hcb dL_oldestYear_1 (by decide) ?_
  refine lv_aload_n hx hcb dL_oldestYear_2 rfl (lv_at hl 0 rfl) ?_
  refine lv_iload_n hx hcb dL_oldestYear_3 rfl (lv_at hl 1 rfl) ?_
  refine l_ci (l_runV (w := w) (o := 0) (As := [.int x0]) (rest := [.int (nI 0), .ref ou]) hx hcb hml hown hts (hM _) mv_X9_oldestYear q_1088 (xtyD_0 hK) hZ hR hS (sub_w hS.1) (hw.lo (by decide)) xc9 (hw.s0 (by decide) rfl) rfl hl.1 rfl (Nat.le_of_ble_eq_true rfl) dL_oldestYear_4 ⟨by decide, by decide⟩ ⟨by decide, by decide⟩) hS (sub_w hS.1) (fun v z1 H locs hp hR hk hS => ?_)
  have hP := ou_kept hP hap hk
  refine lv_i2l hx hcb dL_oldestYear_7 rfl ?_
  refine l_last hx hcb hK hR hP hap hS dL_oldestYear_8 (fun H locs hR hP hS => ?_)
  refine lv_goto (tgt := 15) hx hcb dL_oldestYear_9 (by decide) ?_
  refine lv_iconst (v := nI 0) hx hcb dL_oldestYear_15 (by decide) ?_
  refine W.widen (k := 1) (n := 6) (by decide) (by decide) ?_
  exact hret (nI 0) z1 _ _ _ _ _ dL_oldestYear_16 hR hP hS ⟨rfl, v, hp, rfl⟩
set_option maxRecDepth 100000 in
set_option maxHeartbeats 4000000 in
theorem x_L_oldestYear (l : Launch) (G : xGl) (cD : ClassId) (w : xWd) (K : Nat) (hw : isC K w) (z : xSt) (f : Nat → Int64) (ou sz : Nat) (x0 : Int32) (hM : ∀ sz, xX l yX9_oldestYear cX9_oldestYear 2 (some FieldType.int) rx_X9_oldestYear G w z sz [.ref (w.2.2 0), .int x0]) : xMw l yL_oldestYear cL_oldestYear 4 [(0, 9, 12, 13)] rm_L_oldestYear G cD w z (.inl (G.2 3, 1, .inr (.inl f))) ou sz [.ref (w.2.2 0), .int x0, .ref ou] (fun r u => r = 1 ∧ u = (z, (.inl (G.2 3, 1, .inr (.inl f))))) := by
  refine x_mw (by decide) (Nat.le_of_ble_eq_true rfl) ?_
  intro p e s m args below meth c ls Q hsz X htab hR hP hap hS hl hret
  obtain ⟨hx, hcb, hml, hown, hts, hK, hZ⟩ := X
  have hl : lv_has ls 4 [(0, .ref (w.2.2 0)), (1, .int x0), (2, .ref ou)] := hl
  refine lv_aload_n hx hcb dL_oldestYear_0 rfl (lv_at hl 2 rfl) ?_
  refine lv_iconst (v := nI 0) hx hcb dL_oldestYear_1 (by decide) ?_
  refine lv_aload_n hx hcb dL_oldestYear_2 rfl (lv_at hl 0 rfl) ?_
  refine lv_iload_n hx hcb dL_oldestYear_3 rfl (lv_at hl 1 rfl) ?_
  refine l_cx (w := w) (o := 0) (As := [.int x0]) (rest := [.int (nI 0), .ref ou]) hx hcb hml hown hts htab (by decide) (by decide) q_896 (hM _) mv_X9_oldestYear q_1088 (xtyD_0 hK) hZ hR hS (sub_w hS.1) (hw.lo (by decide)) xc9 (hw.s0 (by decide) rfl) rfl hl.1 rfl (Nat.le_of_ble_eq_true rfl) dL_oldestYear_4 ⟨by decide, by decide⟩ ⟨by decide, by decide⟩ (fun q9 H locs hR hk hS => ?_)
  have hP := ou_kept hP hap hk
  refine lv_astore_n (lv' := [(3, .ref q9), (0, .ref (w.2.2 0)), (1, .int x0), (2, .ref ou)]) hx hcb dL_oldestYear_12 rfl hl (by decide) rfl (fun ls hl => ?_)
  refine lv_iconst (v := nI 1) hx hcb dL_oldestYear_13 (by decide) ?_
  refine W.widen (k := 1) (n := 6) (by decide) (by decide) ?_
  exact hret (nI 1) z _ _ _ _ _ dL_oldestYear_14 hR hP hS ⟨rfl, rfl⟩
def rm_L_isUniform : Room := { frames := 9, cells := 1, slots := 6, locals := 146 }
set_option maxRecDepth 100000 in
set_option maxHeartbeats 4000000 in
theorem n_L_isUniform (l : Launch) (G : xGl) (cD : ClassId) (w : xWd) (K : Nat) (hw : isC K w) (z : xSt) (f : Nat → Int64) (ou sz : Nat) (x0 : Int32) {post : Int32 → xSt → Prop} (hM : ∀ sz, xMi l yX9_isUniform cX9_isUniform 3 (some FieldType.boolean) rm_X9_isUniform G w z sz [.ref (w.2.2 0), .int x0] post) : xMw l yL_isUniform cL_isUniform 4 [(0, 16, 19, 13)] rm_L_isUniform G cD w z (.inl (G.2 3, 1, .inr (.inl f))) ou sz [.ref (w.2.2 0), .int x0, .ref ou] (fun r u => r = 0 ∧ ∃ v, post v u.1 ∧ u.2 = .inl (G.2 3, 1, .inr (.inl (va_up f 0 (if v = 0 then (0 : Int64) else 1))))) := by
  refine x_mw (by decide) (Nat.le_of_ble_eq_true rfl) ?_
  intro p e s m args below meth c ls Q hsz X htab hR hP hap hS hl hret
  obtain ⟨hx, hcb, hml, hown, hts, hK, hZ⟩ := X
  have hl : lv_has ls 4 [(0, .ref (w.2.2 0)), (1, .int x0), (2, .ref ou)] := hl
  refine lv_aload_n hx hcb dL_isUniform_0 rfl (lv_at hl 2 rfl) ?_
  refine lv_iconst (v := nI 0) hx hcb dL_isUniform_1 (by decide) ?_
  refine lv_aload_n hx hcb dL_isUniform_2 rfl (lv_at hl 0 rfl) ?_
  refine lv_iload_n hx hcb dL_isUniform_3 rfl (lv_at hl 1 rfl) ?_
  refine l_ci (l_runV (w := w) (o := 0) (As := [.int x0]) (rest := [.int (nI 0), .ref ou]) hx hcb hml hown hts (hM _) mv_X9_isUniform q_1099 (xtyD_0 hK) hZ hR hS (sub_w hS.1) (hw.lo (by decide)) xc9 (hw.s0 (by decide) rfl) rfl hl.1 rfl (Nat.le_of_ble_eq_true rfl) dL_isUniform_4 ⟨by decide, by decide⟩ ⟨by decide, by decide⟩) hS (sub_w hS.1) (fun v z1 H locs hp hR hk hS => ?_)
  have hP := ou_kept hP hap hk
  refine lv_if_eq (tgt := 14) hx hcb dL_isUniform_7 (by decide) (fun c1 => ?_) (fun c1 => ?_)
  · refine lv_lconst (v := 0) hx hcb dL_isUniform_14 (by decide) ?_
    refine l_last hx hcb hK hR hP hap hS dL_isUniform_15 (fun H locs hR hP hS => ?_)
    refine lv_goto (tgt := 22) hx hcb dL_isUniform_16 (by decide) ?_
    refine lv_iconst (v := nI 0) hx hcb dL_isUniform_22 (by decide) ?_
    refine W.widen (k := 1) (n := 6) (by decide) (by decide) ?_
    exact hret (nI 0) z1 _ _ _ _ _ dL_isUniform_23 hR hP hS ⟨rfl, v, hp, by rw [if_pos c1]⟩
  · refine lv_lconst (v := 1) hx hcb dL_isUniform_10 (by decide) ?_
    refine lv_goto (tgt := 15) hx hcb dL_isUniform_11 (by decide) ?_
    refine l_last hx hcb hK hR hP hap hS dL_isUniform_15 (fun H locs hR hP hS => ?_)
    refine lv_goto (tgt := 22) hx hcb dL_isUniform_16 (by decide) ?_
    refine lv_iconst (v := nI 0) hx hcb dL_isUniform_22 (by decide) ?_
    refine W.widen (k := 1) (n := 6) (by decide) (by decide) ?_
    exact hret (nI 0) z1 _ _ _ _ _ dL_isUniform_23 hR hP hS ⟨rfl, v, hp, by rw [if_neg c1]⟩
set_option maxRecDepth 100000 in
set_option maxHeartbeats 4000000 in
theorem x_L_isUniform (l : Launch) (G : xGl) (cD : ClassId) (w : xWd) (K : Nat) (hw : isC K w) (z : xSt) (f : Nat → Int64) (ou sz : Nat) (x0 : Int32) (hM : ∀ sz, xX l yX9_isUniform cX9_isUniform 3 (some FieldType.boolean) rx_X9_isUniform G w z sz [.ref (w.2.2 0), .int x0]) : xMw l yL_isUniform cL_isUniform 4 [(0, 16, 19, 13)] rm_L_isUniform G cD w z (.inl (G.2 3, 1, .inr (.inl f))) ou sz [.ref (w.2.2 0), .int x0, .ref ou] (fun r u => r = 1 ∧ u = (z, (.inl (G.2 3, 1, .inr (.inl f))))) := by
  refine x_mw (by decide) (Nat.le_of_ble_eq_true rfl) ?_
  intro p e s m args below meth c ls Q hsz X htab hR hP hap hS hl hret
  obtain ⟨hx, hcb, hml, hown, hts, hK, hZ⟩ := X
  have hl : lv_has ls 4 [(0, .ref (w.2.2 0)), (1, .int x0), (2, .ref ou)] := hl
  refine lv_aload_n hx hcb dL_isUniform_0 rfl (lv_at hl 2 rfl) ?_
  refine lv_iconst (v := nI 0) hx hcb dL_isUniform_1 (by decide) ?_
  refine lv_aload_n hx hcb dL_isUniform_2 rfl (lv_at hl 0 rfl) ?_
  refine lv_iload_n hx hcb dL_isUniform_3 rfl (lv_at hl 1 rfl) ?_
  refine l_cx (w := w) (o := 0) (As := [.int x0]) (rest := [.int (nI 0), .ref ou]) hx hcb hml hown hts htab (by decide) (by decide) q_896 (hM _) mv_X9_isUniform q_1099 (xtyD_0 hK) hZ hR hS (sub_w hS.1) (hw.lo (by decide)) xc9 (hw.s0 (by decide) rfl) rfl hl.1 rfl (Nat.le_of_ble_eq_true rfl) dL_isUniform_4 ⟨by decide, by decide⟩ ⟨by decide, by decide⟩ (fun q9 H locs hR hk hS => ?_)
  have hP := ou_kept hP hap hk
  refine lv_astore_n (lv' := [(3, .ref q9), (0, .ref (w.2.2 0)), (1, .int x0), (2, .ref ou)]) hx hcb dL_isUniform_19 rfl hl (by decide) rfl (fun ls hl => ?_)
  refine lv_iconst (v := nI 1) hx hcb dL_isUniform_20 (by decide) ?_
  refine W.widen (k := 1) (n := 6) (by decide) (by decide) ?_
  exact hret (nI 1) z _ _ _ _ _ dL_isUniform_21 hR hP hS ⟨rfl, rfl⟩
def rm_L_wouldGet : Room := { frames := 8, cells := 1, slots := 6, locals := 134 }
set_option maxRecDepth 100000 in
set_option maxHeartbeats 4000000 in
theorem n_L_wouldGet (l : Launch) (G : xGl) (cD : ClassId) (w : xWd) (K : Nat) (hw : isC K w) (z : xSt) (f : Nat → Int64) (ou sz : Nat) (x0 : Int32) (x1 : Int32) (x2 : Int32) (x3 : Int32) (x4 : Int32) {post : Int32 → xSt → Prop} (hM : ∀ sz, xMi l yX9_wouldGet cX9_wouldGet 6 (some FieldType.int) rm_X9_wouldGet G w z sz [.ref (w.2.2 0), .int x0, .int x1, .int x2, .int x3, .int x4] post) : xMw l yL_wouldGet cL_wouldGet 8 [(0, 16, 19, 13)] rm_L_wouldGet G cD w z (.inl (G.2 3, 1, .inr (.inl f))) ou sz [.ref (w.2.2 0), .int x0, .int x1, .int x2, .int x3, .int x4, .ref ou] (fun r u => r = 0 ∧ ∃ v, post v u.1 ∧ u.2 = .inl (G.2 3, 1, .inr (.inl (va_up f 0 v.toInt64)))) := by
  refine x_mw (by decide) (Nat.le_of_ble_eq_true rfl) ?_
  intro p e s m args below meth c ls Q hsz X htab hR hP hap hS hl hret
  obtain ⟨hx, hcb, hml, hown, hts, hK, hZ⟩ := X
  have hl : lv_has ls 8 [(0, .ref (w.2.2 0)), (1, .int x0), (2, .int x1), (3, .int x2), (4, .int x3), (5, .int x4), (6, .ref ou)] := hl
  refine lv_aload hx hcb dL_wouldGet_0 (lv_at hl 6 rfl) ?_
  refine lv_iconst (v := nI 0) hx hcb dL_wouldGet_2 (by decide) ?_
  refine lv_aload_n hx hcb dL_wouldGet_3 rfl (lv_at hl 0 rfl) ?_
  refine lv_iload_n hx hcb dL_wouldGet_4 rfl (lv_at hl 1 rfl) ?_
  refine lv_iload_n hx hcb dL_wouldGet_5 rfl (lv_at hl 2 rfl) ?_
  refine lv_iload_n hx hcb dL_wouldGet_6 rfl (lv_at hl 3 rfl) ?_
  refine lv_iload hx hcb dL_wouldGet_7 (lv_at hl 4 rfl) ?_
  refine lv_iload hx hcb dL_wouldGet_9 (lv_at hl 5 rfl) ?_
  refine l_ci (l_runV (w := w) (o := 0) (As := [.int x0, .int x1, .int x2, .int x3, .int x4]) (rest := [.int (nI 0), .ref ou]) hx hcb hml hown hts (hM _) mv_X9_wouldGet q_1106 (xtyD_0 hK) hZ hR hS (sub_w hS.1) (hw.lo (by decide)) xc9 (hw.s0 (by decide) rfl) rfl hl.1 rfl (Nat.le_of_ble_eq_true rfl) dL_wouldGet_11 ⟨by decide, by decide⟩ ⟨by decide, by decide⟩) hS (sub_w hS.1) (fun v z1 H locs hp hR hk hS => ?_)
  have hP := ou_kept hP hap hk
  refine lv_i2l hx hcb dL_wouldGet_14 rfl ?_
  refine l_last hx hcb hK hR hP hap hS dL_wouldGet_15 (fun H locs hR hP hS => ?_)
  refine lv_goto (tgt := 23) hx hcb dL_wouldGet_16 (by decide) ?_
  refine lv_iconst (v := nI 0) hx hcb dL_wouldGet_23 (by decide) ?_
  refine W.widen (k := 1) (n := 6) (by decide) (by decide) ?_
  exact hret (nI 0) z1 _ _ _ _ _ dL_wouldGet_24 hR hP hS ⟨rfl, v, hp, rfl⟩
set_option maxRecDepth 100000 in
set_option maxHeartbeats 4000000 in
theorem x_L_wouldGet (l : Launch) (G : xGl) (cD : ClassId) (w : xWd) (K : Nat) (hw : isC K w) (z : xSt) (f : Nat → Int64) (ou sz : Nat) (x0 : Int32) (x1 : Int32) (x2 : Int32) (x3 : Int32) (x4 : Int32) (hM : ∀ sz, xX l yX9_wouldGet cX9_wouldGet 6 (some FieldType.int) rx_X9_wouldGet G w z sz [.ref (w.2.2 0), .int x0, .int x1, .int x2, .int x3, .int x4]) : xMw l yL_wouldGet cL_wouldGet 8 [(0, 16, 19, 13)] rm_L_wouldGet G cD w z (.inl (G.2 3, 1, .inr (.inl f))) ou sz [.ref (w.2.2 0), .int x0, .int x1, .int x2, .int x3, .int x4, .ref ou] (fun r u => r = 1 ∧ u = (z, (.inl (G.2 3, 1, .inr (.inl f))))) := by
  refine x_mw (by decide) (Nat.le_of_ble_eq_true rfl) ?_
  intro p e s m args below meth c ls Q hsz X htab hR hP hap hS hl hret
  obtain ⟨hx, hcb, hml, hown, hts, hK, hZ⟩ := X
  have hl : lv_has ls 8 [(0, .ref (w.2.2 0)), (1, .int x0), (2, .int x1), (3, .int x2), (4, .int x3), (5, .int x4), (6, .ref ou)] := hl
  refine lv_aload hx hcb dL_wouldGet_0 (lv_at hl 6 rfl) ?_
  refine lv_iconst (v := nI 0) hx hcb dL_wouldGet_2 (by decide) ?_
  refine lv_aload_n hx hcb dL_wouldGet_3 rfl (lv_at hl 0 rfl) ?_
  refine lv_iload_n hx hcb dL_wouldGet_4 rfl (lv_at hl 1 rfl) ?_
  refine lv_iload_n hx hcb dL_wouldGet_5 rfl (lv_at hl 2 rfl) ?_
  refine lv_iload_n hx hcb dL_wouldGet_6 rfl (lv_at hl 3 rfl) ?_
  refine lv_iload hx hcb dL_wouldGet_7 (lv_at hl 4 rfl) ?_
  refine lv_iload hx hcb dL_wouldGet_9 (lv_at hl 5 rfl) ?_
  refine l_cx (w := w) (o := 0) (As := [.int x0, .int x1, .int x2, .int x3, .int x4]) (rest := [.int (nI 0), .ref ou]) hx hcb hml hown hts htab (by decide) (by decide) q_896 (hM _) mv_X9_wouldGet q_1106 (xtyD_0 hK) hZ hR hS (sub_w hS.1) (hw.lo (by decide)) xc9 (hw.s0 (by decide) rfl) rfl hl.1 rfl (Nat.le_of_ble_eq_true rfl) dL_wouldGet_11 ⟨by decide, by decide⟩ ⟨by decide, by decide⟩ (fun q9 H locs hR hk hS => ?_)
  have hP := ou_kept hP hap hk
  refine lv_astore (lv' := [(7, .ref q9), (0, .ref (w.2.2 0)), (1, .int x0), (2, .int x1), (3, .int x2), (4, .int x3), (5, .int x4), (6, .ref ou)]) hx hcb dL_wouldGet_19 hl (by decide) rfl (fun ls hl => ?_)
  refine lv_iconst (v := nI 1) hx hcb dL_wouldGet_21 (by decide) ?_
  refine W.widen (k := 1) (n := 6) (by decide) (by decide) ?_
  exact hret (nI 1) z _ _ _ _ _ dL_wouldGet_22 hR hP hS ⟨rfl, rfl⟩
def rm_L_wouldRedeem : Room := { frames := 8, cells := 1, slots := 6, locals := 125 }
set_option maxRecDepth 100000 in
set_option maxHeartbeats 4000000 in
theorem n_L_wouldRedeem (l : Launch) (G : xGl) (cD : ClassId) (w : xWd) (K : Nat) (hw : isC K w) (z : xSt) (f : Nat → Int64) (ou sz : Nat) (x0 : Int32) (x1 : Int32) {post : Int32 → xSt → Prop} (hM : ∀ sz, xMi l yX9_wouldRedeem cX9_wouldRedeem 3 (some FieldType.int) rm_X9_wouldRedeem G w z sz [.ref (w.2.2 0), .int x0, .int x1] post) : xMw l yL_wouldRedeem cL_wouldRedeem 5 [(0, 10, 13, 13)] rm_L_wouldRedeem G cD w z (.inl (G.2 3, 1, .inr (.inl f))) ou sz [.ref (w.2.2 0), .int x0, .int x1, .ref ou] (fun r u => r = 0 ∧ ∃ v, post v u.1 ∧ u.2 = .inl (G.2 3, 1, .inr (.inl (va_up f 0 v.toInt64)))) := by
  refine x_mw (by decide) (Nat.le_of_ble_eq_true rfl) ?_
  intro p e s m args below meth c ls Q hsz X htab hR hP hap hS hl hret
  obtain ⟨hx, hcb, hml, hown, hts, hK, hZ⟩ := X
  have hl : lv_has ls 5 [(0, .ref (w.2.2 0)), (1, .int x0), (2, .int x1), (3, .ref ou)] := hl
  refine lv_aload_n hx hcb dL_wouldRedeem_0 rfl (lv_at hl 3 rfl) ?_
  refine lv_iconst (v := nI 0) hx hcb dL_wouldRedeem_1 (by decide) ?_
  refine lv_aload_n hx hcb dL_wouldRedeem_2 rfl (lv_at hl 0 rfl) ?_
  refine lv_iload_n hx hcb dL_wouldRedeem_3 rfl (lv_at hl 1 rfl) ?_
  refine lv_iload_n hx hcb dL_wouldRedeem_4 rfl (lv_at hl 2 rfl) ?_
  refine l_ci (l_runV (w := w) (o := 0) (As := [.int x0, .int x1]) (rest := [.int (nI 0), .ref ou]) hx hcb hml hown hts (hM _) mv_X9_wouldRedeem q_1113 (xtyD_0 hK) hZ hR hS (sub_w hS.1) (hw.lo (by decide)) xc9 (hw.s0 (by decide) rfl) rfl hl.1 rfl (Nat.le_of_ble_eq_true rfl) dL_wouldRedeem_5 ⟨by decide, by decide⟩ ⟨by decide, by decide⟩) hS (sub_w hS.1) (fun v z1 H locs hp hR hk hS => ?_)
  have hP := ou_kept hP hap hk
  refine lv_i2l hx hcb dL_wouldRedeem_8 rfl ?_
  refine l_last hx hcb hK hR hP hap hS dL_wouldRedeem_9 (fun H locs hR hP hS => ?_)
  refine lv_goto (tgt := 17) hx hcb dL_wouldRedeem_10 (by decide) ?_
  refine lv_iconst (v := nI 0) hx hcb dL_wouldRedeem_17 (by decide) ?_
  refine W.widen (k := 1) (n := 6) (by decide) (by decide) ?_
  exact hret (nI 0) z1 _ _ _ _ _ dL_wouldRedeem_18 hR hP hS ⟨rfl, v, hp, rfl⟩
set_option maxRecDepth 100000 in
set_option maxHeartbeats 4000000 in
theorem x_L_wouldRedeem (l : Launch) (G : xGl) (cD : ClassId) (w : xWd) (K : Nat) (hw : isC K w) (z : xSt) (f : Nat → Int64) (ou sz : Nat) (x0 : Int32) (x1 : Int32) (hM : ∀ sz, xX l yX9_wouldRedeem cX9_wouldRedeem 3 (some FieldType.int) rx_X9_wouldRedeem G w z sz [.ref (w.2.2 0), .int x0, .int x1]) : xMw l yL_wouldRedeem cL_wouldRedeem 5 [(0, 10, 13, 13)] rm_L_wouldRedeem G cD w z (.inl (G.2 3, 1, .inr (.inl f))) ou sz [.ref (w.2.2 0), .int x0, .int x1, .ref ou] (fun r u => r = 1 ∧ u = (z, (.inl (G.2 3, 1, .inr (.inl f))))) := by
  refine x_mw (by decide) (Nat.le_of_ble_eq_true rfl) ?_
  intro p e s m args below meth c ls Q hsz X htab hR hP hap hS hl hret
  obtain ⟨hx, hcb, hml, hown, hts, hK, hZ⟩ := X
  have hl : lv_has ls 5 [(0, .ref (w.2.2 0)), (1, .int x0), (2, .int x1), (3, .ref ou)] := hl
  refine lv_aload_n hx hcb dL_wouldRedeem_0 rfl (lv_at hl 3 rfl) ?_
  refine lv_iconst (v := nI 0) hx hcb dL_wouldRedeem_1 (by decide) ?_
  refine lv_aload_n hx hcb dL_wouldRedeem_2 rfl (lv_at hl 0 rfl) ?_
  refine lv_iload_n hx hcb dL_wouldRedeem_3 rfl (lv_at hl 1 rfl) ?_
  refine lv_iload_n hx hcb dL_wouldRedeem_4 rfl (lv_at hl 2 rfl) ?_
  refine l_cx (w := w) (o := 0) (As := [.int x0, .int x1]) (rest := [.int (nI 0), .ref ou]) hx hcb hml hown hts htab (by decide) (by decide) q_896 (hM _) mv_X9_wouldRedeem q_1113 (xtyD_0 hK) hZ hR hS (sub_w hS.1) (hw.lo (by decide)) xc9 (hw.s0 (by decide) rfl) rfl hl.1 rfl (Nat.le_of_ble_eq_true rfl) dL_wouldRedeem_5 ⟨by decide, by decide⟩ ⟨by decide, by decide⟩ (fun q9 H locs hR hk hS => ?_)
  have hP := ou_kept hP hap hk
  refine lv_astore (lv' := [(4, .ref q9), (0, .ref (w.2.2 0)), (1, .int x0), (2, .int x1), (3, .ref ou)]) hx hcb dL_wouldRedeem_13 hl (by decide) rfl (fun ls hl => ?_)
  refine lv_iconst (v := nI 1) hx hcb dL_wouldRedeem_15 (by decide) ?_
  refine W.widen (k := 1) (n := 6) (by decide) (by decide) ?_
  exact hret (nI 1) z _ _ _ _ _ dL_wouldRedeem_16 hR hP hS ⟨rfl, rfl⟩
def rm_L_installmentsLeft : Room := { frames := 9, cells := 1, slots := 6, locals := 145 }
set_option maxRecDepth 100000 in
set_option maxHeartbeats 4000000 in
theorem n_L_installmentsLeft (l : Launch) (G : xGl) (cD : ClassId) (w : xWd) (K : Nat) (hw : isC K w) (z : xSt) (f : Nat → Int64) (ou sz : Nat) (x0 : Int32) {post : Int32 → xSt → Prop} (hM : ∀ sz, xMi l yX9_installmentsLeft cX9_installmentsLeft 2 (some FieldType.int) rm_X9_installmentsLeft G w z sz [.ref (w.2.2 0), .int x0] post) : xMw l yL_installmentsLeft cL_installmentsLeft 4 [(0, 9, 12, 13)] rm_L_installmentsLeft G cD w z (.inl (G.2 3, 1, .inr (.inl f))) ou sz [.ref (w.2.2 0), .int x0, .ref ou] (fun r u => r = 0 ∧ ∃ v, post v u.1 ∧ u.2 = .inl (G.2 3, 1, .inr (.inl (va_up f 0 v.toInt64)))) := by
  refine x_mw (by decide) (Nat.le_of_ble_eq_true rfl) ?_
  intro p e s m args below meth c ls Q hsz X htab hR hP hap hS hl hret
  obtain ⟨hx, hcb, hml, hown, hts, hK, hZ⟩ := X
  have hl : lv_has ls 4 [(0, .ref (w.2.2 0)), (1, .int x0), (2, .ref ou)] := hl
  refine lv_aload_n hx hcb dL_installmentsLeft_0 rfl (lv_at hl 2 rfl) ?_
  refine lv_iconst (v := nI 0) hx hcb dL_installmentsLeft_1 (by decide) ?_
  refine lv_aload_n hx hcb dL_installmentsLeft_2 rfl (lv_at hl 0 rfl) ?_
  refine lv_iload_n hx hcb dL_installmentsLeft_3 rfl (lv_at hl 1 rfl) ?_
  refine l_ci (l_runV (w := w) (o := 0) (As := [.int x0]) (rest := [.int (nI 0), .ref ou]) hx hcb hml hown hts (hM _) mv_X9_installmentsLeft q_1124 (xtyD_0 hK) hZ hR hS (sub_w hS.1) (hw.lo (by decide)) xc9 (hw.s0 (by decide) rfl) rfl hl.1 rfl (Nat.le_of_ble_eq_true rfl) dL_installmentsLeft_4 ⟨by decide, by decide⟩ ⟨by decide, by decide⟩) hS (sub_w hS.1) (fun v z1 H locs hp hR hk hS => ?_)
  have hP := ou_kept hP hap hk
  refine lv_i2l hx hcb dL_installmentsLeft_7 rfl ?_
  refine l_last hx hcb hK hR hP hap hS dL_installmentsLeft_8 (fun H locs hR hP hS => ?_)
  refine lv_goto (tgt := 15) hx hcb dL_installmentsLeft_9 (by decide) ?_
  refine lv_iconst (v := nI 0) hx hcb dL_installmentsLeft_15 (by decide) ?_
  refine W.widen (k := 1) (n := 6) (by decide) (by decide) ?_
  exact hret (nI 0) z1 _ _ _ _ _ dL_installmentsLeft_16 hR hP hS ⟨rfl, v, hp, rfl⟩
set_option maxRecDepth 100000 in
set_option maxHeartbeats 4000000 in
theorem x_L_installmentsLeft (l : Launch) (G : xGl) (cD : ClassId) (w : xWd) (K : Nat) (hw : isC K w) (z : xSt) (f : Nat → Int64) (ou sz : Nat) (x0 : Int32) (hM : ∀ sz, xX l yX9_installmentsLeft cX9_installmentsLeft 2 (some FieldType.int) rx_X9_installmentsLeft G w z sz [.ref (w.2.2 0), .int x0]) : xMw l yL_installmentsLeft cL_installmentsLeft 4 [(0, 9, 12, 13)] rm_L_installmentsLeft G cD w z (.inl (G.2 3, 1, .inr (.inl f))) ou sz [.ref (w.2.2 0), .int x0, .ref ou] (fun r u => r = 1 ∧ u = (z, (.inl (G.2 3, 1, .inr (.inl f))))) := by
  refine x_mw (by decide) (Nat.le_of_ble_eq_true rfl) ?_
  intro p e s m args below meth c ls Q hsz X htab hR hP hap hS hl hret
  obtain ⟨hx, hcb, hml, hown, hts, hK, hZ⟩ := X
  have hl : lv_has ls 4 [(0, .ref (w.2.2 0)), (1, .int x0), (2, .ref ou)] := hl
  refine lv_aload_n hx hcb dL_installmentsLeft_0 rfl (lv_at hl 2 rfl) ?_
  refine lv_iconst (v := nI 0) hx hcb dL_installmentsLeft_1 (by decide) ?_
  refine lv_aload_n hx hcb dL_installmentsLeft_2 rfl (lv_at hl 0 rfl) ?_
  refine lv_iload_n hx hcb dL_installmentsLeft_3 rfl (lv_at hl 1 rfl) ?_
  refine l_cx (w := w) (o := 0) (As := [.int x0]) (rest := [.int (nI 0), .ref ou]) hx hcb hml hown hts htab (by decide) (by decide) q_896 (hM _) mv_X9_installmentsLeft q_1124 (xtyD_0 hK) hZ hR hS (sub_w hS.1) (hw.lo (by decide)) xc9 (hw.s0 (by decide) rfl) rfl hl.1 rfl (Nat.le_of_ble_eq_true rfl) dL_installmentsLeft_4 ⟨by decide, by decide⟩ ⟨by decide, by decide⟩ (fun q9 H locs hR hk hS => ?_)
  have hP := ou_kept hP hap hk
  refine lv_astore_n (lv' := [(3, .ref q9), (0, .ref (w.2.2 0)), (1, .int x0), (2, .ref ou)]) hx hcb dL_installmentsLeft_12 rfl hl (by decide) rfl (fun ls hl => ?_)
  refine lv_iconst (v := nI 1) hx hcb dL_installmentsLeft_13 (by decide) ?_
  refine W.widen (k := 1) (n := 6) (by decide) (by decide) ?_
  exact hret (nI 1) z _ _ _ _ _ dL_installmentsLeft_14 hR hP hS ⟨rfl, rfl⟩
def rm_L_installment : Room := { frames := 9, cells := 1, slots := 6, locals := 146 }
set_option maxRecDepth 100000 in
set_option maxHeartbeats 4000000 in
theorem n_L_installment (l : Launch) (G : xGl) (cD : ClassId) (w : xWd) (K : Nat) (hw : isC K w) (z : xSt) (f : Nat → Int64) (ou sz : Nat) (x0 : Int32) (x1 : Int32) {post : Int32 → xSt → Prop} (hM : ∀ sz, xMi l yX9_installment cX9_installment 3 (some FieldType.int) rm_X9_installment G w z sz [.ref (w.2.2 0), .int x0, .int x1] post) : xMw l yL_installment cL_installment 5 [(0, 10, 13, 13)] rm_L_installment G cD w z (.inl (G.2 3, 1, .inr (.inl f))) ou sz [.ref (w.2.2 0), .int x0, .int x1, .ref ou] (fun r u => r = 0 ∧ ∃ v, post v u.1 ∧ u.2 = .inl (G.2 3, 1, .inr (.inl (va_up f 0 v.toInt64)))) := by
  refine x_mw (by decide) (Nat.le_of_ble_eq_true rfl) ?_
  intro p e s m args below meth c ls Q hsz X htab hR hP hap hS hl hret
  obtain ⟨hx, hcb, hml, hown, hts, hK, hZ⟩ := X
  have hl : lv_has ls 5 [(0, .ref (w.2.2 0)), (1, .int x0), (2, .int x1), (3, .ref ou)] := hl
  refine lv_aload_n hx hcb dL_installment_0 rfl (lv_at hl 3 rfl) ?_
  refine lv_iconst (v := nI 0) hx hcb dL_installment_1 (by decide) ?_
  refine lv_aload_n hx hcb dL_installment_2 rfl (lv_at hl 0 rfl) ?_
  refine lv_iload_n hx hcb dL_installment_3 rfl (lv_at hl 1 rfl) ?_
  refine lv_iload_n hx hcb dL_installment_4 rfl (lv_at hl 2 rfl) ?_
  refine l_ci (l_runV (w := w) (o := 0) (As := [.int x0, .int x1]) (rest := [.int (nI 0), .ref ou]) hx hcb hml hown hts (hM _) mv_X9_installment q_1131 (xtyD_0 hK) hZ hR hS (sub_w hS.1) (hw.lo (by decide)) xc9 (hw.s0 (by decide) rfl) rfl hl.1 rfl (Nat.le_of_ble_eq_true rfl) dL_installment_5 ⟨by decide, by decide⟩ ⟨by decide, by decide⟩) hS (sub_w hS.1) (fun v z1 H locs hp hR hk hS => ?_)
  have hP := ou_kept hP hap hk
  refine lv_i2l hx hcb dL_installment_8 rfl ?_
  refine l_last hx hcb hK hR hP hap hS dL_installment_9 (fun H locs hR hP hS => ?_)
  refine lv_goto (tgt := 17) hx hcb dL_installment_10 (by decide) ?_
  refine lv_iconst (v := nI 0) hx hcb dL_installment_17 (by decide) ?_
  refine W.widen (k := 1) (n := 6) (by decide) (by decide) ?_
  exact hret (nI 0) z1 _ _ _ _ _ dL_installment_18 hR hP hS ⟨rfl, v, hp, rfl⟩
set_option maxRecDepth 100000 in
set_option maxHeartbeats 4000000 in
theorem x_L_installment (l : Launch) (G : xGl) (cD : ClassId) (w : xWd) (K : Nat) (hw : isC K w) (z : xSt) (f : Nat → Int64) (ou sz : Nat) (x0 : Int32) (x1 : Int32) (hM : ∀ sz, xX l yX9_installment cX9_installment 3 (some FieldType.int) rx_X9_installment G w z sz [.ref (w.2.2 0), .int x0, .int x1]) : xMw l yL_installment cL_installment 5 [(0, 10, 13, 13)] rm_L_installment G cD w z (.inl (G.2 3, 1, .inr (.inl f))) ou sz [.ref (w.2.2 0), .int x0, .int x1, .ref ou] (fun r u => r = 1 ∧ u = (z, (.inl (G.2 3, 1, .inr (.inl f))))) := by
  refine x_mw (by decide) (Nat.le_of_ble_eq_true rfl) ?_
  intro p e s m args below meth c ls Q hsz X htab hR hP hap hS hl hret
  obtain ⟨hx, hcb, hml, hown, hts, hK, hZ⟩ := X
  have hl : lv_has ls 5 [(0, .ref (w.2.2 0)), (1, .int x0), (2, .int x1), (3, .ref ou)] := hl
  refine lv_aload_n hx hcb dL_installment_0 rfl (lv_at hl 3 rfl) ?_
  refine lv_iconst (v := nI 0) hx hcb dL_installment_1 (by decide) ?_
  refine lv_aload_n hx hcb dL_installment_2 rfl (lv_at hl 0 rfl) ?_
  refine lv_iload_n hx hcb dL_installment_3 rfl (lv_at hl 1 rfl) ?_
  refine lv_iload_n hx hcb dL_installment_4 rfl (lv_at hl 2 rfl) ?_
  refine l_cx (w := w) (o := 0) (As := [.int x0, .int x1]) (rest := [.int (nI 0), .ref ou]) hx hcb hml hown hts htab (by decide) (by decide) q_896 (hM _) mv_X9_installment q_1131 (xtyD_0 hK) hZ hR hS (sub_w hS.1) (hw.lo (by decide)) xc9 (hw.s0 (by decide) rfl) rfl hl.1 rfl (Nat.le_of_ble_eq_true rfl) dL_installment_5 ⟨by decide, by decide⟩ ⟨by decide, by decide⟩ (fun q9 H locs hR hk hS => ?_)
  have hP := ou_kept hP hap hk
  refine lv_astore (lv' := [(4, .ref q9), (0, .ref (w.2.2 0)), (1, .int x0), (2, .int x1), (3, .ref ou)]) hx hcb dL_installment_13 hl (by decide) rfl (fun ls hl => ?_)
  refine lv_iconst (v := nI 1) hx hcb dL_installment_15 (by decide) ?_
  refine W.widen (k := 1) (n := 6) (by decide) (by decide) ?_
  exact hret (nI 1) z _ _ _ _ _ dL_installment_16 hR hP hS ⟨rfl, rfl⟩
def rm_L_yearsUntil : Room := { frames := 9, cells := 1, slots := 6, locals := 147 }
set_option maxRecDepth 100000 in
set_option maxHeartbeats 4000000 in
theorem n_L_yearsUntil (l : Launch) (G : xGl) (cD : ClassId) (w : xWd) (K : Nat) (hw : isC K w) (z : xSt) (f : Nat → Int64) (ou sz : Nat) (x0 : Int32) (x1 : Int32) {post : Int32 → xSt → Prop} (hM : ∀ sz, xMi l yX9_yearsUntil cX9_yearsUntil 4 (some FieldType.int) rm_X9_yearsUntil G w z sz [.ref (w.2.2 0), .int x0, .int x1] post) : xMw l yL_yearsUntil cL_yearsUntil 5 [(0, 10, 13, 13)] rm_L_yearsUntil G cD w z (.inl (G.2 3, 1, .inr (.inl f))) ou sz [.ref (w.2.2 0), .int x0, .int x1, .ref ou] (fun r u => r = 0 ∧ ∃ v, post v u.1 ∧ u.2 = .inl (G.2 3, 1, .inr (.inl (va_up f 0 v.toInt64)))) := by
  refine x_mw (by decide) (Nat.le_of_ble_eq_true rfl) ?_
  intro p e s m args below meth c ls Q hsz X htab hR hP hap hS hl hret
  obtain ⟨hx, hcb, hml, hown, hts, hK, hZ⟩ := X
  have hl : lv_has ls 5 [(0, .ref (w.2.2 0)), (1, .int x0), (2, .int x1), (3, .ref ou)] := hl
  refine lv_aload_n hx hcb dL_yearsUntil_0 rfl (lv_at hl 3 rfl) ?_
  refine lv_iconst (v := nI 0) hx hcb dL_yearsUntil_1 (by decide) ?_
  refine lv_aload_n hx hcb dL_yearsUntil_2 rfl (lv_at hl 0 rfl) ?_
  refine lv_iload_n hx hcb dL_yearsUntil_3 rfl (lv_at hl 1 rfl) ?_
  refine lv_iload_n hx hcb dL_yearsUntil_4 rfl (lv_at hl 2 rfl) ?_
  refine l_ci (l_runV (w := w) (o := 0) (As := [.int x0, .int x1]) (rest := [.int (nI 0), .ref ou]) hx hcb hml hown hts (hM _) mv_X9_yearsUntil q_1142 (xtyD_0 hK) hZ hR hS (sub_w hS.1) (hw.lo (by decide)) xc9 (hw.s0 (by decide) rfl) rfl hl.1 rfl (Nat.le_of_ble_eq_true rfl) dL_yearsUntil_5 ⟨by decide, by decide⟩ ⟨by decide, by decide⟩) hS (sub_w hS.1) (fun v z1 H locs hp hR hk hS => ?_)
  have hP := ou_kept hP hap hk
  refine lv_i2l hx hcb dL_yearsUntil_8 rfl ?_
  refine l_last hx hcb hK hR hP hap hS dL_yearsUntil_9 (fun H locs hR hP hS => ?_)
  refine lv_goto (tgt := 17) hx hcb dL_yearsUntil_10 (by decide) ?_
  refine lv_iconst (v := nI 0) hx hcb dL_yearsUntil_17 (by decide) ?_
  refine W.widen (k := 1) (n := 6) (by decide) (by decide) ?_
  exact hret (nI 0) z1 _ _ _ _ _ dL_yearsUntil_18 hR hP hS ⟨rfl, v, hp, rfl⟩
set_option maxRecDepth 100000 in
set_option maxHeartbeats 4000000 in
theorem x_L_yearsUntil (l : Launch) (G : xGl) (cD : ClassId) (w : xWd) (K : Nat) (hw : isC K w) (z : xSt) (f : Nat → Int64) (ou sz : Nat) (x0 : Int32) (x1 : Int32) (hM : ∀ sz, xX l yX9_yearsUntil cX9_yearsUntil 4 (some FieldType.int) rx_X9_yearsUntil G w z sz [.ref (w.2.2 0), .int x0, .int x1]) : xMw l yL_yearsUntil cL_yearsUntil 5 [(0, 10, 13, 13)] rm_L_yearsUntil G cD w z (.inl (G.2 3, 1, .inr (.inl f))) ou sz [.ref (w.2.2 0), .int x0, .int x1, .ref ou] (fun r u => r = 1 ∧ u = (z, (.inl (G.2 3, 1, .inr (.inl f))))) := by
  refine x_mw (by decide) (Nat.le_of_ble_eq_true rfl) ?_
  intro p e s m args below meth c ls Q hsz X htab hR hP hap hS hl hret
  obtain ⟨hx, hcb, hml, hown, hts, hK, hZ⟩ := X
  have hl : lv_has ls 5 [(0, .ref (w.2.2 0)), (1, .int x0), (2, .int x1), (3, .ref ou)] := hl
  refine lv_aload_n hx hcb dL_yearsUntil_0 rfl (lv_at hl 3 rfl) ?_
  refine lv_iconst (v := nI 0) hx hcb dL_yearsUntil_1 (by decide) ?_
  refine lv_aload_n hx hcb dL_yearsUntil_2 rfl (lv_at hl 0 rfl) ?_
  refine lv_iload_n hx hcb dL_yearsUntil_3 rfl (lv_at hl 1 rfl) ?_
  refine lv_iload_n hx hcb dL_yearsUntil_4 rfl (lv_at hl 2 rfl) ?_
  refine l_cx (w := w) (o := 0) (As := [.int x0, .int x1]) (rest := [.int (nI 0), .ref ou]) hx hcb hml hown hts htab (by decide) (by decide) q_896 (hM _) mv_X9_yearsUntil q_1142 (xtyD_0 hK) hZ hR hS (sub_w hS.1) (hw.lo (by decide)) xc9 (hw.s0 (by decide) rfl) rfl hl.1 rfl (Nat.le_of_ble_eq_true rfl) dL_yearsUntil_5 ⟨by decide, by decide⟩ ⟨by decide, by decide⟩ (fun q9 H locs hR hk hS => ?_)
  have hP := ou_kept hP hap hk
  refine lv_astore (lv' := [(4, .ref q9), (0, .ref (w.2.2 0)), (1, .int x0), (2, .int x1), (3, .ref ou)]) hx hcb dL_yearsUntil_13 hl (by decide) rfl (fun ls hl => ?_)
  refine lv_iconst (v := nI 1) hx hcb dL_yearsUntil_15 (by decide) ?_
  refine W.widen (k := 1) (n := 6) (by decide) (by decide) ?_
  exact hret (nI 1) z _ _ _ _ _ dL_yearsUntil_16 hR hP hS ⟨rfl, rfl⟩
