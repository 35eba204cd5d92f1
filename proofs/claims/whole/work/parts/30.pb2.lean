theorem leR_k {x : Int32} {n : Nat} (hn : n < 2147483648) (h : ¬ x < 0 ∧ x ≤ nI n) : x = nI x.toNatClampNeg ∧ x.toNatClampNeg ≤ n := by
  obtain ⟨j, hj, rfl⟩ := nI_of h.1
  rw [nI_clamp hj]
  exact ⟨rfl, (nI_leI hj hn).mp h.2⟩
def ldZ (z : xSt) (k q : Nat) : Int32 × xSt := if (rdX z k q).1 < 0 then ((rdX z k q).1, u1 (u1 (rdX z k q).2 14 1 0) 0 8 ((rdX z k q).2.1 14 4)) else ((rdX z k q).1, u1 (cpA (u1 (u1 (rdX z k q).2 14 1 0) 0 8 (-1)) 0 1 (bN (rdX z k q).2 1 3) (bN (rdX z k q).2 1 4)) 2 2 0)
def rm_X9_checkMember : Room := { frames := 1, cells := 0, slots := 0, locals := 21 }
set_option maxRecDepth 100000 in
set_option maxHeartbeats 4000000 in
theorem c_X9_checkMember (l : Launch) (G : xGl) (w : xWd) (K : Nat) (hw : isC K w) (z : xSt) (sz : Nat) (mi : Nat) (hB : bOk z 0) (hmi : mi < bN z 0 3) : xMv l yX9_checkMember cX9_checkMember 2 rm_X9_checkMember G w z sz [.ref (w.2.2 0), .int (nI mi)] (fun z1 => z1 = z) := by
  refine x_mv (by decide) (Nat.le_of_ble_eq_true rfl) ?_
  intro p e s mt args below meth c ls Q hsz X hR hS hl hret
  obtain ⟨hx, hcb, hml, hown, hts, hlk, hK, hZ⟩ := X
  have hl : lv_has ls 2 [(0, .ref (w.2.2 0)), (1, .int (nI mi))] := hl
  have hb3_ := hB.2.1
  have hb4_ := hB.2.2.2.1
  have hb5_ := hB.2.2.2.2.2
  refine lv_aload_n hx hcb dX9_checkMember_0 rfl (lv_at hl 0 rfl) ?_
  refine lv_iload_n hx hcb dX9_checkMember_1 rfl (lv_at hl 1 rfl) ?_
  refine x_ci0 rfl rfl (x_runV hx hcb hml hown hts (c_X9_isMember l G w K hw z _ (nI mi) hB) mv_X9_isMember q_837 hK hZ hR hS (hw.lo (by decide)) xc9 (hw.s0 (by decide) rfl) rfl hl.1 rfl (Nat.le_of_ble_eq_true rfl) dX9_checkMember_2 ⟨by decide, by decide⟩ ⟨by decide, by decide⟩) hS (fun r_1 z_2 H locs hp_3 hR hS => ?_)
  rw [hp_3.2] at hR; rw [hp_3.1]
  refine lv_if_ne (tgt := 19) hx hcb dX9_checkMember_5 (by decide) (fun c_4 => ?_) (fun c_4 => ?_)
  · skip
    exact hret z _ _ _ _ dX9_checkMember_19 hR hS rfl
  · skip
    exact absurd c_4 (by rw [if_pos (inR_n hmi (by omega))]; decide)
def rm_X9_checkDepartment : Room := { frames := 1, cells := 0, slots := 0, locals := 21 }
set_option maxRecDepth 100000 in
set_option maxHeartbeats 4000000 in
theorem c_X9_checkDepartment (l : Launch) (G : xGl) (w : xWd) (K : Nat) (hw : isC K w) (z : xSt) (sz : Nat) (di : Nat) (hB : bOk z 0) (hdi : di < bN z 0 4) : xMv l yX9_checkDepartment cX9_checkDepartment 2 rm_X9_checkDepartment G w z sz [.ref (w.2.2 0), .int (nI di)] (fun z1 => z1 = z) := by
  refine x_mv (by decide) (Nat.le_of_ble_eq_true rfl) ?_
  intro p e s mt args below meth c ls Q hsz X hR hS hl hret
  obtain ⟨hx, hcb, hml, hown, hts, hlk, hK, hZ⟩ := X
  have hl : lv_has ls 2 [(0, .ref (w.2.2 0)), (1, .int (nI di))] := hl
  have hb3_ := hB.2.1
  have hb4_ := hB.2.2.2.1
  have hb5_ := hB.2.2.2.2.2
  refine lv_aload_n hx hcb dX9_checkDepartment_0 rfl (lv_at hl 0 rfl) ?_
  refine lv_iload_n hx hcb dX9_checkDepartment_1 rfl (lv_at hl 1 rfl) ?_
  refine x_ci0 rfl rfl (x_runV hx hcb hml hown hts (c_X9_isDepartment l G w K hw z _ (nI di) hB) mv_X9_isDepartment q_841 hK hZ hR hS (hw.lo (by decide)) xc9 (hw.s0 (by decide) rfl) rfl hl.1 rfl (Nat.le_of_ble_eq_true rfl) dX9_checkDepartment_2 ⟨by decide, by decide⟩ ⟨by decide, by decide⟩) hS (fun r_1 z_2 H locs hp_3 hR hS => ?_)
  rw [hp_3.2] at hR; rw [hp_3.1]
  refine lv_if_ne (tgt := 19) hx hcb dX9_checkDepartment_5 (by decide) (fun c_4 => ?_) (fun c_4 => ?_)
  · skip
    exact hret z _ _ _ _ dX9_checkDepartment_19 hR hS rfl
  · skip
    exact absurd c_4 (by rw [if_pos (inR_n hdi (by omega))]; decide)
def rm_X9_memberAt : Room := { frames := 2, cells := 0, slots := 0, locals := 42 }
set_option maxRecDepth 100000 in
set_option maxHeartbeats 4000000 in
theorem c_X9_memberAt (l : Launch) (G : xGl) (w : xWd) (K : Nat) (hw : isC K w) (z : xSt) (sz : Nat) (mi : Nat) (hB : bOk z 0) (hmi : mi < bN z 0 3) : xMr l yX9_memberAt cX9_memberAt 2 (some (FieldType.object "PatronageBooks$Member")) rm_X9_memberAt G w z sz ((oM 0 mi)) [.ref (w.2.2 0), .int (nI mi)] (fun z1 => z1 = z) := by
  refine x_mr (by decide) (Nat.le_of_ble_eq_true rfl) ?_
  intro p e s mt args below meth c ls Q hsz X hR hS hl hret
  obtain ⟨hx, hcb, hml, hown, hts, hlk, hK, hZ⟩ := X
  have hl : lv_has ls 2 [(0, .ref (w.2.2 0)), (1, .int (nI mi))] := hl
  have hb3_ := hB.2.1
  have hb4_ := hB.2.2.2.1
  have hb5_ := hB.2.2.2.2.2
  have hm8_ : mi < 8 := by omega
  refine lv_aload_n hx hcb dX9_memberAt_0 rfl (lv_at hl 0 rfl) ?_
  refine lv_iload_n hx hcb dX9_memberAt_1 rfl (lv_at hl 1 rfl) ?_
  refine x_cv0 rfl rfl (x_runV hx hcb hml hown hts (c_X9_checkMember l G w K hw z _ mi hB hmi) mv_X9_checkMember q_905 hK hZ hR hS (hw.lo (by decide)) xc9 (hw.s0 (by decide) rfl) rfl hl.1 rfl (Nat.le_of_ble_eq_true rfl) dX9_memberAt_2 ⟨by decide, by decide⟩ ⟨by decide, by decide⟩) hS (fun z_2 H locs hp_3 hR hS => ?_)
  rw [hp_3] at hR
  refine lv_aload_n hx hcb dX9_memberAt_5 rfl (lv_at hl 0 rfl) ?_
  refine x_getR hx hcb hts hown hK xc9 hR (hw.lo (by decide)) (hw.s0 (by decide) rfl) 0 (by decide) rfl q_376 dX9_memberAt_6 ?_
  refine x_getR hx hcb hts hown hK xc0 hR (hoB hw (by omega)) (hsB hw) 0 (by decide) rfl q_259 dX9_memberAt_9 ?_
  refine lv_iload_n hx hcb dX9_memberAt_12 rfl (lv_at hl 1 rfl) ?_
  have hk_13 : mi < 8 := (by omega)
  refine x_aald hx hcb hK hR (hoMs hw (by omega)) (hsMs hw) rfl (oMs_at hk_13) (Nat.lt_of_lt_of_le (Nat.lt_succ_self _) (Nat.le_of_ble_eq_true rfl)) dX9_memberAt_13 ?_
  exact hret z _ _ _ _ dX9_memberAt_14 hR hS rfl
def rm_X9_consents : Room := { frames := 3, cells := 0, slots := 0, locals := 63 }
set_option maxRecDepth 100000 in
set_option maxHeartbeats 4000000 in
theorem c_X9_consents (l : Launch) (G : xGl) (w : xWd) (K : Nat) (hw : isC K w) (z : xSt) (sz : Nat) (mi : Nat) (hB : bOk z 0) (hmi : mi < bN z 0 3) (hC : cnB z 0) : xMi l yX9_consents cX9_consents 2 (some FieldType.boolean) rm_X9_consents G w z sz [.ref (w.2.2 0), .int (nI mi)] (fun r z1 => r = z.1 (oM 0 mi) 1 ∧ z1 = z) := by
  refine x_mi (by decide) (Nat.le_of_ble_eq_true rfl) ?_
  intro p e s mt args below meth c ls Q hsz X hR hS hl hret
  obtain ⟨hx, hcb, hml, hown, hts, hlk, hK, hZ⟩ := X
  have hl : lv_has ls 2 [(0, .ref (w.2.2 0)), (1, .int (nI mi))] := hl
  have hb3_ := hB.2.1
  have hb4_ := hB.2.2.2.1
  have hb5_ := hB.2.2.2.2.2
  have hm8_ : mi < 8 := by omega
  refine lv_aload_n hx hcb dX9_consents_0 rfl (lv_at hl 0 rfl) ?_
  refine lv_iload_n hx hcb dX9_consents_1 rfl (lv_at hl 1 rfl) ?_
  refine x_cr0 rfl rfl (x_runV hx hcb hml hown hts (c_X9_memberAt l G w K hw z _ mi hB hmi) mv_X9_memberAt q_901 hK hZ hR hS (hw.lo (by decide)) xc9 (hw.s0 (by decide) rfl) rfl hl.1 rfl (Nat.le_of_ble_eq_true rfl) dX9_consents_2 ⟨by decide, by decide⟩ ⟨by decide, by decide⟩) hS (fun z_2 H locs hp_3 hR hS => ?_)
  rw [hp_3] at hR
  refine x_getI hx hcb hts hown hK xc5 hR (hoM hw (by omega) hm8_) (hsM hw hm8_) 1 (by decide) rfl q_182 dX9_consents_5 ?_
  exact hret (z.1 (oM 0 mi) 1) z _ _ _ _ dX9_consents_8 (by rcases hC mi hm8_ with h_ | h_ <;> rw [h_] <;> rfl) hR hS (⟨rfl, rfl⟩)
def rm_X9_stateOf : Room := { frames := 3, cells := 0, slots := 0, locals := 63 }
set_option maxRecDepth 100000 in
set_option maxHeartbeats 4000000 in
theorem c_X9_stateOf (l : Launch) (G : xGl) (w : xWd) (K : Nat) (hw : isC K w) (z : xSt) (sz : Nat) (mi : Nat) (hB : bOk z 0) (hmi : mi < bN z 0 3) : xMi l yX9_stateOf cX9_stateOf 2 (some FieldType.int) rm_X9_stateOf G w z sz [.ref (w.2.2 0), .int (nI mi)] (fun r z1 => r = z.1 (oM 0 mi) 2 ∧ z1 = z) := by
  refine x_mi (by decide) (Nat.le_of_ble_eq_true rfl) ?_
  intro p e s mt args below meth c ls Q hsz X hR hS hl hret
  obtain ⟨hx, hcb, hml, hown, hts, hlk, hK, hZ⟩ := X
  have hl : lv_has ls 2 [(0, .ref (w.2.2 0)), (1, .int (nI mi))] := hl
  have hb3_ := hB.2.1
  have hb4_ := hB.2.2.2.1
  have hb5_ := hB.2.2.2.2.2
  have hm8_ : mi < 8 := by omega
  refine lv_aload_n hx hcb dX9_stateOf_0 rfl (lv_at hl 0 rfl) ?_
  refine lv_iload_n hx hcb dX9_stateOf_1 rfl (lv_at hl 1 rfl) ?_
  refine x_cr0 rfl rfl (x_runV hx hcb hml hown hts (c_X9_memberAt l G w K hw z _ mi hB hmi) mv_X9_memberAt q_901 hK hZ hR hS (hw.lo (by decide)) xc9 (hw.s0 (by decide) rfl) rfl hl.1 rfl (Nat.le_of_ble_eq_true rfl) dX9_stateOf_2 ⟨by decide, by decide⟩ ⟨by decide, by decide⟩) hS (fun z_2 H locs hp_3 hR hS => ?_)
  rw [hp_3] at hR
  refine x_getI hx hcb hts hown hK xc5 hR (hoM hw (by omega) hm8_) (hsM hw hm8_) 2 (by decide) rfl q_186 dX9_stateOf_5 ?_
  exact hret (z.1 (oM 0 mi) 2) z _ _ _ _ dX9_stateOf_8 rfl hR hS (⟨rfl, rfl⟩)
def rm_X9_installmentsLeft : Room := { frames := 3, cells := 0, slots := 0, locals := 63 }
set_option maxRecDepth 100000 in
set_option maxHeartbeats 4000000 in
theorem c_X9_installmentsLeft (l : Launch) (G : xGl) (w : xWd) (K : Nat) (hw : isC K w) (z : xSt) (sz : Nat) (mi : Nat) (hB : bOk z 0) (hmi : mi < bN z 0 3) : xMi l yX9_installmentsLeft cX9_installmentsLeft 2 (some FieldType.int) rm_X9_installmentsLeft G w z sz [.ref (w.2.2 0), .int (nI mi)] (fun r z1 => r = z.1 (oM 0 mi) 3 ∧ z1 = z) := by
  refine x_mi (by decide) (Nat.le_of_ble_eq_true rfl) ?_
  intro p e s mt args below meth c ls Q hsz X hR hS hl hret
  obtain ⟨hx, hcb, hml, hown, hts, hlk, hK, hZ⟩ := X
  have hl : lv_has ls 2 [(0, .ref (w.2.2 0)), (1, .int (nI mi))] := hl
  have hb3_ := hB.2.1
  have hb4_ := hB.2.2.2.1
  have hb5_ := hB.2.2.2.2.2
  have hm8_ : mi < 8 := by omega
  refine lv_aload_n hx hcb dX9_installmentsLeft_0 rfl (lv_at hl 0 rfl) ?_
  refine lv_iload_n hx hcb dX9_installmentsLeft_1 rfl (lv_at hl 1 rfl) ?_
  refine x_cr0 rfl rfl (x_runV hx hcb hml hown hts (c_X9_memberAt l G w K hw z _ mi hB hmi) mv_X9_memberAt q_901 hK hZ hR hS (hw.lo (by decide)) xc9 (hw.s0 (by decide) rfl) rfl hl.1 rfl (Nat.le_of_ble_eq_true rfl) dX9_installmentsLeft_2 ⟨by decide, by decide⟩ ⟨by decide, by decide⟩) hS (fun z_2 H locs hp_3 hR hS => ?_)
  rw [hp_3] at hR
  refine x_getI hx hcb hts hown hK xc5 hR (hoM hw (by omega) hm8_) (hsM hw hm8_) 3 (by decide) rfl q_188 dX9_installmentsLeft_5 ?_
  exact hret (z.1 (oM 0 mi) 3) z _ _ _ _ dX9_installmentsLeft_8 rfl hR hS (⟨rfl, rfl⟩)
def rm_X9_lastAllocation : Room := { frames := 3, cells := 0, slots := 0, locals := 63 }
set_option maxRecDepth 100000 in
set_option maxHeartbeats 4000000 in
theorem c_X9_lastAllocation (l : Launch) (G : xGl) (w : xWd) (K : Nat) (hw : isC K w) (z : xSt) (sz : Nat) (mi : Nat) (hB : bOk z 0) (hmi : mi < bN z 0 3) : xMi l yX9_lastAllocation cX9_lastAllocation 2 (some FieldType.int) rm_X9_lastAllocation G w z sz [.ref (w.2.2 0), .int (nI mi)] (fun r z1 => r = z.1 (oM 0 mi) 4 ∧ z1 = z) := by
  refine x_mi (by decide) (Nat.le_of_ble_eq_true rfl) ?_
  intro p e s mt args below meth c ls Q hsz X hR hS hl hret
  obtain ⟨hx, hcb, hml, hown, hts, hlk, hK, hZ⟩ := X
  have hl : lv_has ls 2 [(0, .ref (w.2.2 0)), (1, .int (nI mi))] := hl
  have hb3_ := hB.2.1
  have hb4_ := hB.2.2.2.1
  have hb5_ := hB.2.2.2.2.2
  have hm8_ : mi < 8 := by omega
  refine lv_aload_n hx hcb dX9_lastAllocation_0 rfl (lv_at hl 0 rfl) ?_
  refine lv_iload_n hx hcb dX9_lastAllocation_1 rfl (lv_at hl 1 rfl) ?_
  refine x_cr0 rfl rfl (x_runV hx hcb hml hown hts (c_X9_memberAt l G w K hw z _ mi hB hmi) mv_X9_memberAt q_901 hK hZ hR hS (hw.lo (by decide)) xc9 (hw.s0 (by decide) rfl) rfl hl.1 rfl (Nat.le_of_ble_eq_true rfl) dX9_lastAllocation_2 ⟨by decide, by decide⟩ ⟨by decide, by decide⟩) hS (fun z_2 H locs hp_3 hR hS => ?_)
  rw [hp_3] at hR
  refine x_getI hx hcb hts hown hK xc5 hR (hoM hw (by omega) hm8_) (hsM hw hm8_) 4 (by decide) rfl q_191 dX9_lastAllocation_5 ?_
  exact hret (z.1 (oM 0 mi) 4) z _ _ _ _ dX9_lastAllocation_8 rfl hR hS (⟨rfl, rfl⟩)
def rm_X9_lastRecapture : Room := { frames := 3, cells := 0, slots := 0, locals := 63 }
set_option maxRecDepth 100000 in
set_option maxHeartbeats 4000000 in
theorem c_X9_lastRecapture (l : Launch) (G : xGl) (w : xWd) (K : Nat) (hw : isC K w) (z : xSt) (sz : Nat) (mi : Nat) (hB : bOk z 0) (hmi : mi < bN z 0 3) : xMi l yX9_lastRecapture cX9_lastRecapture 2 (some FieldType.int) rm_X9_lastRecapture G w z sz [.ref (w.2.2 0), .int (nI mi)] (fun r z1 => r = z.1 (oM 0 mi) 5 ∧ z1 = z) := by
  refine x_mi (by decide) (Nat.le_of_ble_eq_true rfl) ?_
  intro p e s mt args below meth c ls Q hsz X hR hS hl hret
  obtain ⟨hx, hcb, hml, hown, hts, hlk, hK, hZ⟩ := X
  have hl : lv_has ls 2 [(0, .ref (w.2.2 0)), (1, .int (nI mi))] := hl
  have hb3_ := hB.2.1
  have hb4_ := hB.2.2.2.1
  have hb5_ := hB.2.2.2.2.2
  have hm8_ : mi < 8 := by omega
  refine lv_aload_n hx hcb dX9_lastRecapture_0 rfl (lv_at hl 0 rfl) ?_
  refine lv_iload_n hx hcb dX9_lastRecapture_1 rfl (lv_at hl 1 rfl) ?_
  refine x_cr0 rfl rfl (x_runV hx hcb hml hown hts (c_X9_memberAt l G w K hw z _ mi hB hmi) mv_X9_memberAt q_901 hK hZ hR hS (hw.lo (by decide)) xc9 (hw.s0 (by decide) rfl) rfl hl.1 rfl (Nat.le_of_ble_eq_true rfl) dX9_lastRecapture_2 ⟨by decide, by decide⟩ ⟨by decide, by decide⟩) hS (fun z_2 H locs hp_3 hR hS => ?_)
  rw [hp_3] at hR
  refine x_getI hx hcb hts hown hK xc5 hR (hoM hw (by omega) hm8_) (hsM hw hm8_) 5 (by decide) rfl q_194 dX9_lastRecapture_5 ?_
  exact hret (z.1 (oM 0 mi) 5) z _ _ _ _ dX9_lastRecapture_8 rfl hR hS (⟨rfl, rfl⟩)
def rm_X9_patronage : Room := { frames := 3, cells := 0, slots := 0, locals := 63 }
set_option maxRecDepth 100000 in
set_option maxHeartbeats 4000000 in
theorem c_X9_patronage (l : Launch) (G : xGl) (w : xWd) (K : Nat) (hw : isC K w) (z : xSt) (sz : Nat) (mi : Nat) (di : Nat) (hB : bOk z 0) (hmi : mi < bN z 0 3) (hdi : di < bN z 0 4) : xMi l yX9_patronage cX9_patronage 4 (some FieldType.int) rm_X9_patronage G w z sz [.ref (w.2.2 0), .int (nI mi), .int (nI di)] (fun r z1 => r = z.1 (oPt 0 mi) di ∧ z1 = z) := by
  refine x_mi (by decide) (Nat.le_of_ble_eq_true rfl) ?_
  intro p e s mt args below meth c ls Q hsz X hR hS hl hret
  obtain ⟨hx, hcb, hml, hown, hts, hlk, hK, hZ⟩ := X
  have hl : lv_has ls 4 [(0, .ref (w.2.2 0)), (1, .int (nI mi)), (2, .int (nI di))] := hl
  have hb3_ := hB.2.1
  have hb4_ := hB.2.2.2.1
  have hb5_ := hB.2.2.2.2.2
  have hm8_ : mi < 8 := by omega
  refine lv_aload_n hx hcb dX9_patronage_0 rfl (lv_at hl 0 rfl) ?_
  refine lv_iload_n hx hcb dX9_patronage_1 rfl (lv_at hl 1 rfl) ?_
  refine x_cr0 rfl rfl (x_runV hx hcb hml hown hts (c_X9_memberAt l G w K hw z _ mi hB hmi) mv_X9_memberAt q_901 hK hZ hR hS (hw.lo (by decide)) xc9 (hw.s0 (by decide) rfl) rfl hl.1 rfl (Nat.le_of_ble_eq_true rfl) dX9_patronage_2 ⟨by decide, by decide⟩ ⟨by decide, by decide⟩) hS (fun z_2 H locs hp_3 hR hS => ?_)
  rw [hp_3] at hR
  refine lv_astore_n (lv' := [(3, .ref (w.2.2 (oM 0 mi))), (0, .ref (w.2.2 0)), (1, .int (nI mi)), (2, .int (nI di))]) hx hcb dX9_patronage_5 rfl hl (by decide) rfl (fun ls hl => ?_)
  refine lv_aload_n hx hcb dX9_patronage_6 rfl (lv_at hl 1 rfl) ?_
  refine lv_iload_n hx hcb dX9_patronage_7 rfl (lv_at hl 3 rfl) ?_
  refine x_cv0 rfl rfl (x_runV hx hcb hml hown hts (c_X9_checkDepartment l G w K hw z _ di hB hdi) mv_X9_checkDepartment q_988 hK hZ hR hS (hw.lo (by decide)) xc9 (hw.s0 (by decide) rfl) rfl hl.1 rfl (Nat.le_of_ble_eq_true rfl) dX9_patronage_8 ⟨by decide, by decide⟩ ⟨by decide, by decide⟩) hS (fun z_5 H locs hp_6 hR hS => ?_)
  rw [hp_6] at hR
  refine lv_aload_n hx hcb dX9_patronage_11 rfl (lv_at hl 0 rfl) ?_
  refine x_getR hx hcb hts hown hK xc5 hR (hoM hw (by omega) hm8_) (hsM hw hm8_) 6 (by decide) rfl q_199 dX9_patronage_12 ?_
  refine lv_iload_n hx hcb dX9_patronage_15 rfl (lv_at hl 3 rfl) ?_
  refine x_iald hx hcb hK hR (hoPt hw (by omega) hm8_) (hsPt hw hm8_) (k := di) (by omega) (by decide) dX9_patronage_16 ?_
  exact hret (z.1 (oPt 0 mi) di) z _ _ _ _ dX9_patronage_17 rfl hR hS (⟨rfl, rfl⟩)
def rm_X9_totalPatronage : Room := { frames := 2, cells := 0, slots := 0, locals := 42 }
set_option maxRecDepth 100000 in
set_option maxHeartbeats 4000000 in
theorem c_X9_totalPatronage (l : Launch) (G : xGl) (w : xWd) (K : Nat) (hw : isC K w) (z : xSt) (sz : Nat) (di : Nat) (hB : bOk z 0) (hdi : di < bN z 0 4) : xMi l yX9_totalPatronage cX9_totalPatronage 2 (some FieldType.int) rm_X9_totalPatronage G w z sz [.ref (w.2.2 0), .int (nI di)] (fun r z1 => r = bx_sum (fun m => z.1 (oPt 0 m) di) (bN z 0 3) ∧ z1 = z) := by
  refine x_mi (by decide) (Nat.le_of_ble_eq_true rfl) ?_
  intro p e s mt args below meth c ls Q hsz X hR hS hl hret
  obtain ⟨hx, hcb, hml, hown, hts, hlk, hK, hZ⟩ := X
  have hl : lv_has ls 2 [(0, .ref (w.2.2 0)), (1, .int (nI di))] := hl
  have hb3_ := hB.2.1
  have hb4_ := hB.2.2.2.1
  have hb5_ := hB.2.2.2.2.2
  refine lv_aload_n hx hcb dX9_totalPatronage_0 rfl (lv_at hl 0 rfl) ?_
  refine lv_iload_n hx hcb dX9_totalPatronage_1 rfl (lv_at hl 1 rfl) ?_
  refine x_cv0 rfl rfl (x_runV hx hcb hml hown hts (c_X9_checkDepartment l G w K hw z _ di hB hdi) mv_X9_checkDepartment q_988 hK hZ hR hS (hw.lo (by decide)) xc9 (hw.s0 (by decide) rfl) rfl hl.1 rfl (Nat.le_of_ble_eq_true rfl) dX9_totalPatronage_2 ⟨by decide, by decide⟩ ⟨by decide, by decide⟩) hS (fun z_2 H locs hp_3 hR hS => ?_)
  rw [hp_3] at hR
  refine lv_aload_n hx hcb dX9_totalPatronage_5 rfl (lv_at hl 0 rfl) ?_
  refine x_getR hx hcb hts hown hK xc9 hR (hw.lo (by decide)) (hw.s0 (by decide) rfl) 0 (by decide) rfl q_376 dX9_totalPatronage_6 ?_
  refine lv_iload_n hx hcb dX9_totalPatronage_9 rfl (lv_at hl 1 rfl) ?_
  refine x_ci0 rfl rfl (x_runV hx hcb hml hown hts (c_X0_patronageIn l G w K hw z _ 0 (by omega) di (bN z 0 3) hB.1 hB.2.1 (by omega)) mv_X0_patronageIn q_1000 hK hZ hR hS (hoB hw (by omega)) xc0 (hsB hw) rfl hl.1 rfl (Nat.le_of_ble_eq_true rfl) dX9_totalPatronage_10 ⟨by decide, by decide⟩ ⟨by decide, by decide⟩) hS (fun r_4 z_5 H locs hp_6 hR hS => ?_)
  rw [hp_6.2] at hR; rw [hp_6.1]
  exact hret (bx_sum (fun m => z.1 (oPt 0 m) di) (bN z 0 3)) z _ _ _ _ dX9_totalPatronage_13 rfl hR hS (⟨rfl, rfl⟩)
def rm_X9_certificate : Room := { frames := 3, cells := 0, slots := 0, locals := 63 }
set_option maxRecDepth 100000 in
set_option maxHeartbeats 4000000 in
theorem c_X9_certificate (l : Launch) (G : xGl) (w : xWd) (K : Nat) (hw : isC K w) (z : xSt) (sz : Nat) (mi : Nat) (y : Int32) (hB : bOk z 0) (hmi : mi < bN z 0 3) : xMi l yX9_certificate cX9_certificate 4 (some FieldType.int) rm_X9_certificate G w z sz [.ref (w.2.2 0), .int (nI mi), .int y] (fun r z1 => r = (if inR y (bN z 0 5) then z.1 (oLf 0 mi) y.toNatClampNeg else (-2)) ∧ z1 = z) := by
  refine x_mi (by decide) (Nat.le_of_ble_eq_true rfl) ?_
  intro p e s mt args below meth c ls Q hsz X hR hS hl hret
  obtain ⟨hx, hcb, hml, hown, hts, hlk, hK, hZ⟩ := X
  have hl : lv_has ls 4 [(0, .ref (w.2.2 0)), (1, .int (nI mi)), (2, .int y)] := hl
  have hb3_ := hB.2.1
  have hb4_ := hB.2.2.2.1
  have hb5_ := hB.2.2.2.2.2
  have hm8_ : mi < 8 := by omega
  refine lv_aload_n hx hcb dX9_certificate_0 rfl (lv_at hl 0 rfl) ?_
  refine lv_iload_n hx hcb dX9_certificate_1 rfl (lv_at hl 1 rfl) ?_
  refine x_cr0 rfl rfl (x_runV hx hcb hml hown hts (c_X9_memberAt l G w K hw z _ mi hB hmi) mv_X9_memberAt q_901 hK hZ hR hS (hw.lo (by decide)) xc9 (hw.s0 (by decide) rfl) rfl hl.1 rfl (Nat.le_of_ble_eq_true rfl) dX9_certificate_2 ⟨by decide, by decide⟩ ⟨by decide, by decide⟩) hS (fun z_2 H locs hp_3 hR hS => ?_)
  rw [hp_3] at hR
  refine lv_astore_n (lv' := [(3, .ref (w.2.2 (oM 0 mi))), (0, .ref (w.2.2 0)), (1, .int (nI mi)), (2, .int y)]) hx hcb dX9_certificate_5 rfl hl (by decide) rfl (fun ls hl => ?_)
  refine lv_aload_n hx hcb dX9_certificate_6 rfl (lv_at hl 1 rfl) ?_
  refine lv_iload_n hx hcb dX9_certificate_7 rfl (lv_at hl 3 rfl) ?_
  refine x_ci0 rfl rfl (x_runV hx hcb hml hown hts (c_X9_isClosed l G w K hw z _ y hB) mv_X9_isClosed q_748 hK hZ hR hS (hw.lo (by decide)) xc9 (hw.s0 (by decide) rfl) rfl hl.1 rfl (Nat.le_of_ble_eq_true rfl) dX9_certificate_8 ⟨by decide, by decide⟩ ⟨by decide, by decide⟩) hS (fun r_4 z_5 H locs hp_6 hR hS => ?_)
  rw [hp_6.2] at hR; rw [hp_6.1]
  refine lv_if_eq (tgt := 23) hx hcb dX9_certificate_11 (by decide) (fun c_7 => ?_) (fun c_7 => ?_)
  · skip
    have h_ : ¬ (inR y (bN z 0 5)) := fun q_ => absurd c_7 (by rw [if_pos q_]; decide)
    refine lv_bipush (v := (-2)) hx hcb dX9_certificate_23 (by decide) ?_
    exact hret (-2) z _ _ _ _ dX9_certificate_25 rfl hR hS (⟨by first | (rw [if_pos h_, ← ek_]; done) | (rw [if_neg h_]; done), rfl⟩)
  · skip
    have h_ : inR y (bN z 0 5) := Classical.byContradiction (fun q_ => c_7 (if_neg q_))
    have hxk_ := inR_k (n := bN z 0 5) (by omega) h_
    obtain ⟨k_, ek_⟩ : ∃ q_, q_ = y.toNatClampNeg := ⟨_, rfl⟩
    rw [← ek_] at hxk_
    have hltk_ := hxk_.2
    rw [hxk_.1] at hl
    refine lv_aload_n hx hcb dX9_certificate_14 rfl (lv_at hl 0 rfl) ?_
    refine x_getR hx hcb hts hown hK xc5 hR (hoM hw (by omega) hm8_) (hsM hw hm8_) 7 (by decide) rfl q_203 dX9_certificate_15 ?_
    refine lv_iload_n hx hcb dX9_certificate_18 rfl (lv_at hl 3 rfl) ?_
    refine x_iald hx hcb hK hR (hoLf hw (by omega) hm8_) (hsLf hw hm8_) (k := k_) (by omega) (by decide) dX9_certificate_19 ?_
    refine lv_goto (tgt := 25) hx hcb dX9_certificate_20 (by decide) ?_
    exact hret (z.1 (oLf 0 mi) k_) z _ _ _ _ dX9_certificate_25 rfl hR hS (⟨by first | (rw [if_pos h_, ← ek_]; done) | (rw [if_neg h_]; done), rfl⟩)
def rm_X9_kindOf : Room := { frames := 3, cells := 0, slots := 0, locals := 63 }
set_option maxRecDepth 100000 in
set_option maxHeartbeats 4000000 in
theorem c_X9_kindOf (l : Launch) (G : xGl) (w : xWd) (K : Nat) (hw : isC K w) (z : xSt) (sz : Nat) (mi : Nat) (y : Int32) (hB : bOk z 0) (hmi : mi < bN z 0 3) : xMi l yX9_kindOf cX9_kindOf 4 (some FieldType.int) rm_X9_kindOf G w z sz [.ref (w.2.2 0), .int (nI mi), .int y] (fun r z1 => r = (if inR y (bN z 0 5) then (if 0 < z.1 (oLf 0 mi) y.toNatClampNeg then z.1 (oKd 0 mi) y.toNatClampNeg else (-1)) else (-2)) ∧ z1 = z) := by
  refine x_mi (by decide) (Nat.le_of_ble_eq_true rfl) ?_
  intro p e s mt args below meth c ls Q hsz X hR hS hl hret
  obtain ⟨hx, hcb, hml, hown, hts, hlk, hK, hZ⟩ := X
  have hl : lv_has ls 4 [(0, .ref (w.2.2 0)), (1, .int (nI mi)), (2, .int y)] := hl
  have hb3_ := hB.2.1
  have hb4_ := hB.2.2.2.1
  have hb5_ := hB.2.2.2.2.2
  have hm8_ : mi < 8 := by omega
  refine lv_aload_n hx hcb dX9_kindOf_0 rfl (lv_at hl 0 rfl) ?_
  refine lv_iload_n hx hcb dX9_kindOf_1 rfl (lv_at hl 1 rfl) ?_
  refine x_cr0 rfl rfl (x_runV hx hcb hml hown hts (c_X9_memberAt l G w K hw z _ mi hB hmi) mv_X9_memberAt q_901 hK hZ hR hS (hw.lo (by decide)) xc9 (hw.s0 (by decide) rfl) rfl hl.1 rfl (Nat.le_of_ble_eq_true rfl) dX9_kindOf_2 ⟨by decide, by decide⟩ ⟨by decide, by decide⟩) hS (fun z_2 H locs hp_3 hR hS => ?_)
  rw [hp_3] at hR
  refine lv_astore_n (lv' := [(3, .ref (w.2.2 (oM 0 mi))), (0, .ref (w.2.2 0)), (1, .int (nI mi)), (2, .int y)]) hx hcb dX9_kindOf_5 rfl hl (by decide) rfl (fun ls hl => ?_)
  refine lv_aload_n hx hcb dX9_kindOf_6 rfl (lv_at hl 1 rfl) ?_
  refine lv_iload_n hx hcb dX9_kindOf_7 rfl (lv_at hl 3 rfl) ?_
  refine x_ci0 rfl rfl (x_runV hx hcb hml hown hts (c_X9_isClosed l G w K hw z _ y hB) mv_X9_isClosed q_748 hK hZ hR hS (hw.lo (by decide)) xc9 (hw.s0 (by decide) rfl) rfl hl.1 rfl (Nat.le_of_ble_eq_true rfl) dX9_kindOf_8 ⟨by decide, by decide⟩ ⟨by decide, by decide⟩) hS (fun r_4 z_5 H locs hp_6 hR hS => ?_)
  rw [hp_6.2] at hR; rw [hp_6.1]
  refine lv_if_ne (tgt := 17) hx hcb dX9_kindOf_11 (by decide) (fun c_7 => ?_) (fun c_7 => ?_)
  · skip
    have h_ : inR y (bN z 0 5) := Classical.byContradiction (fun q_ => c_7 (if_neg q_))
    have hxk_ := inR_k (n := bN z 0 5) (by omega) h_
    obtain ⟨k_, ek_⟩ : ∃ q_, q_ = y.toNatClampNeg := ⟨_, rfl⟩
    rw [← ek_] at hxk_
    have hltk_ := hxk_.2
    rw [hxk_.1] at hl
    refine lv_aload_n hx hcb dX9_kindOf_17 rfl (lv_at hl 0 rfl) ?_
    refine x_getR hx hcb hts hown hK xc5 hR (hoM hw (by omega) hm8_) (hsM hw hm8_) 7 (by decide) rfl q_203 dX9_kindOf_18 ?_
    refine lv_iload_n hx hcb dX9_kindOf_21 rfl (lv_at hl 3 rfl) ?_
    refine x_iald hx hcb hK hR (hoLf hw (by omega) hm8_) (hsLf hw hm8_) (k := k_) (by omega) (by decide) dX9_kindOf_22 ?_
    refine lv_if_le (tgt := 35) hx hcb dX9_kindOf_23 (by decide) (fun c_8 => ?_) (fun c_8 => ?_)
    · skip
      have hl_ : ¬ 0 < z.1 (oLf 0 mi) k_ := Int32.not_lt.mpr c_8
      refine lv_iconst (v := (-1)) hx hcb dX9_kindOf_35 (by decide) ?_
      exact hret (-1) z _ _ _ _ dX9_kindOf_36 rfl hR hS (⟨by first | (rw [if_pos h_, ← ek_, if_pos hl_]; done) | (rw [if_pos h_, ← ek_, if_neg hl_]; done), rfl⟩)
    · skip
      have hl_ : 0 < z.1 (oLf 0 mi) k_ := Int32.not_le.mp c_8
      refine lv_aload_n hx hcb dX9_kindOf_26 rfl (lv_at hl 0 rfl) ?_
      refine x_getR hx hcb hts hown hK xc5 hR (hoM hw (by omega) hm8_) (hsM hw hm8_) 8 (by decide) rfl q_205 dX9_kindOf_27 ?_
      refine lv_iload_n hx hcb dX9_kindOf_30 rfl (lv_at hl 3 rfl) ?_
      refine x_iald hx hcb hK hR (hoKd hw (by omega) hm8_) (hsKd hw hm8_) (k := k_) (by omega) (by decide) dX9_kindOf_31 ?_
      refine lv_goto (tgt := 36) hx hcb dX9_kindOf_32 (by decide) ?_
      exact hret (z.1 (oKd 0 mi) k_) z _ _ _ _ dX9_kindOf_36 rfl hR hS (⟨by first | (rw [if_pos h_, ← ek_, if_pos hl_]; done) | (rw [if_pos h_, ← ek_, if_neg hl_]; done), rfl⟩)
  · skip
    have h_ : ¬ (inR y (bN z 0 5)) := fun q_ => absurd c_7 (by rw [if_pos q_]; decide)
    refine lv_bipush (v := (-2)) hx hcb dX9_kindOf_14 (by decide) ?_
    exact hret (-2) z _ _ _ _ dX9_kindOf_16 rfl hR hS (⟨by rw [if_neg h_], rfl⟩)
def rm_X9_equityOf : Room := { frames := 3, cells := 0, slots := 0, locals := 63 }
set_option maxRecDepth 100000 in
set_option maxHeartbeats 4000000 in
theorem c_X9_equityOf (l : Launch) (G : xGl) (w : xWd) (K : Nat) (hw : isC K w) (z : xSt) (sz : Nat) (mi : Nat) (hB : bOk z 0) (hmi : mi < bN z 0 3) : xMi l yX9_equityOf cX9_equityOf 2 (some FieldType.int) rm_X9_equityOf G w z sz [.ref (w.2.2 0), .int (nI mi)] (fun r z1 => r = bx_sum (z.1 (oLf 0 mi)) 25 ∧ z1 = z) := by
  refine x_mi (by decide) (Nat.le_of_ble_eq_true rfl) ?_
  intro p e s mt args below meth c ls Q hsz X hR hS hl hret
  obtain ⟨hx, hcb, hml, hown, hts, hlk, hK, hZ⟩ := X
  have hl : lv_has ls 2 [(0, .ref (w.2.2 0)), (1, .int (nI mi))] := hl
  have hb3_ := hB.2.1
  have hb4_ := hB.2.2.2.1
  have hb5_ := hB.2.2.2.2.2
  have hm8_ : mi < 8 := by omega
  refine lv_aload_n hx hcb dX9_equityOf_0 rfl (lv_at hl 0 rfl) ?_
  refine lv_iload_n hx hcb dX9_equityOf_1 rfl (lv_at hl 1 rfl) ?_
  refine x_cr0 rfl rfl (x_runV hx hcb hml hown hts (c_X9_memberAt l G w K hw z _ mi hB hmi) mv_X9_memberAt q_901 hK hZ hR hS (hw.lo (by decide)) xc9 (hw.s0 (by decide) rfl) rfl hl.1 rfl (Nat.le_of_ble_eq_true rfl) dX9_equityOf_2 ⟨by decide, by decide⟩ ⟨by decide, by decide⟩) hS (fun z_2 H locs hp_3 hR hS => ?_)
  rw [hp_3] at hR
  refine x_ci0 rfl rfl (x_runV hx hcb hml hown hts (c_X5_equity l G w K hw z _ 0 mi (by omega) hm8_) mv_X5_equity q_812 hK hZ hR hS (hoM hw (by omega) hm8_) xc5 (hsM hw hm8_) rfl hl.1 rfl (Nat.le_of_ble_eq_true rfl) dX9_equityOf_5 ⟨by decide, by decide⟩ ⟨by decide, by decide⟩) hS (fun r_4 z_5 H locs hp_6 hR hS => ?_)
  rw [hp_6.2] at hR; rw [hp_6.1]
  exact hret (bx_sum (z.1 (oLf 0 mi)) 25) z _ _ _ _ dX9_equityOf_8 rfl hR hS (⟨rfl, rfl⟩)
def rm_X9_equityIn : Room := { frames := 3, cells := 0, slots := 0, locals := 63 }
set_option maxRecDepth 100000 in
set_option maxHeartbeats 4000000 in
theorem c_X9_equityIn (l : Launch) (G : xGl) (w : xWd) (K : Nat) (hw : isC K w) (z : xSt) (sz : Nat) (mi : Nat) (kd : Int32) (hB : bOk z 0) (hmi : mi < bN z 0 3) : xMi l yX9_equityIn cX9_equityIn 4 (some FieldType.int) rm_X9_equityIn G w z sz [.ref (w.2.2 0), .int (nI mi), .int kd] (fun r z1 => r = (if kd = 0 ∨ kd = nI 1 then bx_sum (fun y => if (z.1 (oKd 0 mi)) y = kd then (z.1 (oLf 0 mi)) y else 0) 25 else (-2)) ∧ z1 = z) := by
  refine x_mi (by decide) (Nat.le_of_ble_eq_true rfl) ?_
  intro p e s mt args below meth c ls Q hsz X hR hS hl hret
  obtain ⟨hx, hcb, hml, hown, hts, hlk, hK, hZ⟩ := X
  have hl : lv_has ls 4 [(0, .ref (w.2.2 0)), (1, .int (nI mi)), (2, .int kd)] := hl
  have hb3_ := hB.2.1
  have hb4_ := hB.2.2.2.1
  have hb5_ := hB.2.2.2.2.2
  have hm8_ : mi < 8 := by omega
  refine lv_aload_n hx hcb dX9_equityIn_0 rfl (lv_at hl 0 rfl) ?_
  refine lv_iload_n hx hcb dX9_equityIn_1 rfl (lv_at hl 1 rfl) ?_
  refine x_cr0 rfl rfl (x_runV hx hcb hml hown hts (c_X9_memberAt l G w K hw z _ mi hB hmi) mv_X9_memberAt q_901 hK hZ hR hS (hw.lo (by decide)) xc9 (hw.s0 (by decide) rfl) rfl hl.1 rfl (Nat.le_of_ble_eq_true rfl) dX9_equityIn_2 ⟨by decide, by decide⟩ ⟨by decide, by decide⟩) hS (fun z_2 H locs hp_3 hR hS => ?_)
  rw [hp_3] at hR
  refine lv_astore_n (lv' := [(3, .ref (w.2.2 (oM 0 mi))), (0, .ref (w.2.2 0)), (1, .int (nI mi)), (2, .int kd)]) hx hcb dX9_equityIn_5 rfl hl (by decide) rfl (fun ls hl => ?_)
  refine lv_iload_n hx hcb dX9_equityIn_6 rfl (lv_at hl 3 rfl) ?_
  refine lv_if_eq (tgt := 18) hx hcb dX9_equityIn_7 (by decide) (fun c_4 => ?_) (fun c_4 => ?_)
  · skip
    have h_ : kd = 0 ∨ kd = nI 1 := Or.inl c_4
    refine lv_aload_n hx hcb dX9_equityIn_18 rfl (lv_at hl 0 rfl) ?_
    refine lv_iload_n hx hcb dX9_equityIn_19 rfl (lv_at hl 3 rfl) ?_
    refine x_ci0 rfl rfl (x_runV hx hcb hml hown hts (c_X5_equityOfKind l G w K hw z _ 0 mi (by omega) hm8_ kd) mv_X5_equityOfKind q_1029 hK hZ hR hS (hoM hw (by omega) hm8_) xc5 (hsM hw hm8_) rfl hl.1 rfl (Nat.le_of_ble_eq_true rfl) dX9_equityIn_20 ⟨by decide, by decide⟩ ⟨by decide, by decide⟩) hS (fun r_5 z_6 H locs hp_7 hR hS => ?_)
    rw [hp_7.2] at hR; rw [hp_7.1]
    exact hret (bx_sum (fun y => if z.1 (oKd 0 mi) y = kd then z.1 (oLf 0 mi) y else 0) 25) z _ _ _ _ dX9_equityIn_23 rfl hR hS (⟨by rw [if_pos h_], rfl⟩)
  · skip
    have h0_ := c_4
    refine lv_iload_n hx hcb dX9_equityIn_10 rfl (lv_at hl 3 rfl) ?_
    refine lv_iconst (v := (nI 1)) hx hcb dX9_equityIn_11 (by decide) ?_
    refine lv_icmp_eq (tgt := 18) hx hcb dX9_equityIn_12 (by decide) (fun c_8 => ?_) (fun c_8 => ?_)
    · skip
      have h_ : kd = 0 ∨ kd = nI 1 := Or.inr c_8
      refine lv_aload_n hx hcb dX9_equityIn_18 rfl (lv_at hl 0 rfl) ?_
      refine lv_iload_n hx hcb dX9_equityIn_19 rfl (lv_at hl 3 rfl) ?_
      refine x_ci0 rfl rfl (x_runV hx hcb hml hown hts (c_X5_equityOfKind l G w K hw z _ 0 mi (by omega) hm8_ kd) mv_X5_equityOfKind q_1029 hK hZ hR hS (hoM hw (by omega) hm8_) xc5 (hsM hw hm8_) rfl hl.1 rfl (Nat.le_of_ble_eq_true rfl) dX9_equityIn_20 ⟨by decide, by decide⟩ ⟨by decide, by decide⟩) hS (fun r_9 z_10 H locs hp_11 hR hS => ?_)
      rw [hp_11.2] at hR; rw [hp_11.1]
      exact hret (bx_sum (fun y => if z.1 (oKd 0 mi) y = kd then z.1 (oLf 0 mi) y else 0) 25) z _ _ _ _ dX9_equityIn_23 rfl hR hS (⟨by rw [if_pos h_], rfl⟩)
    · skip
      have h_ : ¬ (kd = 0 ∨ kd = nI 1) := fun q_ => q_.elim h0_ c_8
      refine lv_bipush (v := (-2)) hx hcb dX9_equityIn_15 (by decide) ?_
      exact hret (-2) z _ _ _ _ dX9_equityIn_17 rfl hR hS (⟨by rw [if_neg h_], rfl⟩)
def rm_X9_paidTo : Room := { frames := 3, cells := 0, slots := 0, locals := 63 }
set_option maxRecDepth 100000 in
set_option maxHeartbeats 4000000 in
theorem c_X9_paidTo (l : Launch) (G : xGl) (w : xWd) (K : Nat) (hw : isC K w) (z : xSt) (sz : Nat) (mi : Nat) (y : Int32) (hB : bOk z 0) (hmi : mi < bN z 0 3) : xMi l yX9_paidTo cX9_paidTo 4 (some FieldType.int) rm_X9_paidTo G w z sz [.ref (w.2.2 0), .int (nI mi), .int y] (fun r z1 => r = (if inR y 3 then z.1 (oPd 0 mi) y.toNatClampNeg else (-2)) ∧ z1 = z) := by
  refine x_mi (by decide) (Nat.le_of_ble_eq_true rfl) ?_
  intro p e s mt args below meth c ls Q hsz X hR hS hl hret
  obtain ⟨hx, hcb, hml, hown, hts, hlk, hK, hZ⟩ := X
  have hl : lv_has ls 4 [(0, .ref (w.2.2 0)), (1, .int (nI mi)), (2, .int y)] := hl
  have hb3_ := hB.2.1
  have hb4_ := hB.2.2.2.1
  have hb5_ := hB.2.2.2.2.2
  have hm8_ : mi < 8 := by omega
  refine lv_aload_n hx hcb dX9_paidTo_0 rfl (lv_at hl 0 rfl) ?_
  refine lv_iload_n hx hcb dX9_paidTo_1 rfl (lv_at hl 1 rfl) ?_
  refine x_cr0 rfl rfl (x_runV hx hcb hml hown hts (c_X9_memberAt l G w K hw z _ mi hB hmi) mv_X9_memberAt q_901 hK hZ hR hS (hw.lo (by decide)) xc9 (hw.s0 (by decide) rfl) rfl hl.1 rfl (Nat.le_of_ble_eq_true rfl) dX9_paidTo_2 ⟨by decide, by decide⟩ ⟨by decide, by decide⟩) hS (fun z_2 H locs hp_3 hR hS => ?_)
  rw [hp_3] at hR
  refine lv_astore_n (lv' := [(3, .ref (w.2.2 (oM 0 mi))), (0, .ref (w.2.2 0)), (1, .int (nI mi)), (2, .int y)]) hx hcb dX9_paidTo_5 rfl hl (by decide) rfl (fun ls hl => ?_)
  refine lv_iload_n hx hcb dX9_paidTo_6 rfl (lv_at hl 3 rfl) ?_
  refine lv_if_lt (tgt := 24) hx hcb dX9_paidTo_7 (by decide) (fun c_4 => ?_) (fun c_4 => ?_)
  · skip
    have h_ : ¬ inR y 3 := fun q_ => q_.1 c_4
    refine lv_bipush (v := (-2)) hx hcb dX9_paidTo_24 (by decide) ?_
    exact hret (-2) z _ _ _ _ dX9_paidTo_26 rfl hR hS (⟨by first | (rw [if_pos h_, ← ek_]; done) | (rw [if_neg h_]; done), rfl⟩)
  · skip
    have h0_ := c_4
    refine lv_iload_n hx hcb dX9_paidTo_10 rfl (lv_at hl 3 rfl) ?_
    refine lv_iconst (v := (nI 3)) hx hcb dX9_paidTo_11 (by decide) ?_
    refine lv_icmp_ge (tgt := 24) hx hcb dX9_paidTo_12 (by decide) (fun c_5 => ?_) (fun c_5 => ?_)
    · skip
      have h_ : ¬ inR y 3 := fun q_ => absurd q_.2 (Int32.not_lt.mpr c_5)
      refine lv_bipush (v := (-2)) hx hcb dX9_paidTo_24 (by decide) ?_
      exact hret (-2) z _ _ _ _ dX9_paidTo_26 rfl hR hS (⟨by first | (rw [if_pos h_, ← ek_]; done) | (rw [if_neg h_]; done), rfl⟩)
    · skip
      have h_ : inR y 3 := ⟨h0_, Int32.not_le.mp c_5⟩
      have hxk_ := inR_k (n := 3) (by omega) h_
      obtain ⟨k_, ek_⟩ : ∃ q_, q_ = y.toNatClampNeg := ⟨_, rfl⟩
      rw [← ek_] at hxk_
      have hltk_ := hxk_.2
      rw [hxk_.1] at hl
      refine lv_aload_n hx hcb dX9_paidTo_15 rfl (lv_at hl 0 rfl) ?_
      refine x_getR hx hcb hts hown hK xc5 hR (hoM hw (by omega) hm8_) (hsM hw hm8_) 9 (by decide) rfl q_210 dX9_paidTo_16 ?_
      refine lv_iload_n hx hcb dX9_paidTo_19 rfl (lv_at hl 3 rfl) ?_
      refine x_iald hx hcb hK hR (hoPd hw (by omega) hm8_) (hsPd hw hm8_) (k := k_) (by omega) (by decide) dX9_paidTo_20 ?_
      refine lv_goto (tgt := 26) hx hcb dX9_paidTo_21 (by decide) ?_
      exact hret (z.1 (oPd 0 mi) k_) z _ _ _ _ dX9_paidTo_26 rfl hR hS (⟨by first | (rw [if_pos h_, ← ek_]; done) | (rw [if_neg h_]; done), rfl⟩)
def rm_X9_oldestYear : Room := { frames := 3, cells := 0, slots := 0, locals := 63 }
set_option maxRecDepth 100000 in
set_option maxHeartbeats 4000000 in
theorem c_X9_oldestYear (l : Launch) (G : xGl) (w : xWd) (K : Nat) (hw : isC K w) (z : xSt) (sz : Nat) (mi : Nat) (hB : bOk z 0) (hmi : mi < bN z 0 3) : xMi l yX9_oldestYear cX9_oldestYear 2 (some FieldType.int) rm_X9_oldestYear G w z sz [.ref (w.2.2 0), .int (nI mi)] (fun r z1 => r = xff (fun y => decide (0 < z.1 (oLf 0 mi) y)) 25 0 ∧ z1 = z) := by
  refine x_mi (by decide) (Nat.le_of_ble_eq_true rfl) ?_
  intro p e s mt args below meth c ls Q hsz X hR hS hl hret
  obtain ⟨hx, hcb, hml, hown, hts, hlk, hK, hZ⟩ := X
  have hl : lv_has ls 2 [(0, .ref (w.2.2 0)), (1, .int (nI mi))] := hl
  have hb3_ := hB.2.1
  have hb4_ := hB.2.2.2.1
  have hb5_ := hB.2.2.2.2.2
  have hm8_ : mi < 8 := by omega
  refine lv_aload_n hx hcb dX9_oldestYear_0 rfl (lv_at hl 0 rfl) ?_
  refine lv_iload_n hx hcb dX9_oldestYear_1 rfl (lv_at hl 1 rfl) ?_
  refine x_cr0 rfl rfl (x_runV hx hcb hml hown hts (c_X9_memberAt l G w K hw z _ mi hB hmi) mv_X9_memberAt q_901 hK hZ hR hS (hw.lo (by decide)) xc9 (hw.s0 (by decide) rfl) rfl hl.1 rfl (Nat.le_of_ble_eq_true rfl) dX9_oldestYear_2 ⟨by decide, by decide⟩ ⟨by decide, by decide⟩) hS (fun z_2 H locs hp_3 hR hS => ?_)
  rw [hp_3] at hR
  refine x_ci0 rfl rfl (x_runV hx hcb hml hown hts (c_X5_earliestYear l G w K hw z _ 0 mi (by omega) hm8_) mv_X5_earliestYear q_1092 hK hZ hR hS (hoM hw (by omega) hm8_) xc5 (hsM hw hm8_) rfl hl.1 rfl (Nat.le_of_ble_eq_true rfl) dX9_oldestYear_5 ⟨by decide, by decide⟩ ⟨by decide, by decide⟩) hS (fun r_4 z_5 H locs hp_6 hR hS => ?_)
  rw [hp_6.2] at hR; rw [hp_6.1]
  exact hret (xff (fun y => decide (0 < z.1 (oLf 0 mi) y)) 25 0) z _ _ _ _ dX9_oldestYear_8 rfl hR hS (⟨rfl, rfl⟩)
def rm_X9_isUniform : Room := { frames := 3, cells := 0, slots := 0, locals := 63 }
set_option maxRecDepth 100000 in
set_option maxHeartbeats 4000000 in
theorem c_X9_isUniform (l : Launch) (G : xGl) (w : xWd) (K : Nat) (hw : isC K w) (z : xSt) (sz : Nat) (mi : Nat) (hB : bOk z 0) (hmi : mi < bN z 0 3) : xMi l yX9_isUniform cX9_isUniform 3 (some FieldType.boolean) rm_X9_isUniform G w z sz [.ref (w.2.2 0), .int (nI mi)] (fun r z1 => r = (if bx_sum (fun y => if (z.1 (oKd 0 mi)) y = 0 then (z.1 (oLf 0 mi)) y else 0) 25 = 0 ∨ bx_sum (fun y => if (z.1 (oKd 0 mi)) y = 1 then (z.1 (oLf 0 mi)) y else 0) 25 = 0 then 1 else 0) ∧ z1 = z) := by
  refine x_mi (by decide) (Nat.le_of_ble_eq_true rfl) ?_
  intro p e s mt args below meth c ls Q hsz X hR hS hl hret
  obtain ⟨hx, hcb, hml, hown, hts, hlk, hK, hZ⟩ := X
  have hl : lv_has ls 3 [(0, .ref (w.2.2 0)), (1, .int (nI mi))] := hl
  have hb3_ := hB.2.1
  have hb4_ := hB.2.2.2.1
  have hb5_ := hB.2.2.2.2.2
  have hm8_ : mi < 8 := by omega
  refine lv_aload_n hx hcb dX9_isUniform_0 rfl (lv_at hl 0 rfl) ?_
  refine lv_iload_n hx hcb dX9_isUniform_1 rfl (lv_at hl 1 rfl) ?_
  refine x_cr0 rfl rfl (x_runV hx hcb hml hown hts (c_X9_memberAt l G w K hw z _ mi hB hmi) mv_X9_memberAt q_901 hK hZ hR hS (hw.lo (by decide)) xc9 (hw.s0 (by decide) rfl) rfl hl.1 rfl (Nat.le_of_ble_eq_true rfl) dX9_isUniform_2 ⟨by decide, by decide⟩ ⟨by decide, by decide⟩) hS (fun z_2 H locs hp_3 hR hS => ?_)
  rw [hp_3] at hR
  refine lv_astore_n (lv' := [(2, .ref (w.2.2 (oM 0 mi))), (0, .ref (w.2.2 0)), (1, .int (nI mi))]) hx hcb dX9_isUniform_5 rfl hl (by decide) rfl (fun ls hl => ?_)
  refine lv_aload_n hx hcb dX9_isUniform_6 rfl (lv_at hl 0 rfl) ?_
  refine lv_iconst (v := (nI 0)) hx hcb dX9_isUniform_7 (by decide) ?_
  refine x_ci0 rfl rfl (x_runV hx hcb hml hown hts (c_X5_equityOfKind l G w K hw z _ 0 mi (by omega) hm8_ 0) mv_X5_equityOfKind q_1029 hK hZ hR hS (hoM hw (by omega) hm8_) xc5 (hsM hw hm8_) rfl hl.1 rfl (Nat.le_of_ble_eq_true rfl) dX9_isUniform_8 ⟨by decide, by decide⟩ ⟨by decide, by decide⟩) hS (fun r_4 z_5 H locs hp_6 hR hS => ?_)
  rw [hp_6.2] at hR; rw [hp_6.1]
  refine x_top (show (bx_sum (fun y => if z.1 (oKd 0 mi) y = 0 then z.1 (oLf 0 mi) y else 0) 25) = (bx_sum (fun y => if (z.1 (oKd 0 mi)) y = 0 then (z.1 (oLf 0 mi)) y else 0) 25) from rfl) ?_
  refine lv_if_eq (tgt := 22) hx hcb dX9_isUniform_11 (by decide) (fun c_7 => ?_) (fun c_7 => ?_)
  · skip
    have h_ : bx_sum (fun y => if (z.1 (oKd 0 mi)) y = 0 then (z.1 (oLf 0 mi)) y else 0) 25 = 0 ∨ bx_sum (fun y => if (z.1 (oKd 0 mi)) y = 1 then (z.1 (oLf 0 mi)) y else 0) 25 = 0 := Or.inl c_7
    refine lv_iconst (v := (nI 1)) hx hcb dX9_isUniform_22 (by decide) ?_
    refine lv_goto (tgt := 27) hx hcb dX9_isUniform_23 (by decide) ?_
    exact hret (nI 1) z _ _ _ _ dX9_isUniform_27 rfl hR hS (⟨by first | (rw [if_pos h_]; first | done | rfl) | (rw [if_neg h_]; first | done | rfl), rfl⟩)
  · skip
    have h0_ := c_7
    refine lv_aload_n hx hcb dX9_isUniform_14 rfl (lv_at hl 0 rfl) ?_
    refine lv_iconst (v := (nI 1)) hx hcb dX9_isUniform_15 (by decide) ?_
    refine x_ci0 rfl rfl (x_runV hx hcb hml hown hts (c_X5_equityOfKind l G w K hw z _ 0 mi (by omega) hm8_ 1) mv_X5_equityOfKind q_1029 hK hZ hR hS (hoM hw (by omega) hm8_) xc5 (hsM hw hm8_) rfl hl.1 rfl (Nat.le_of_ble_eq_true rfl) dX9_isUniform_16 ⟨by decide, by decide⟩ ⟨by decide, by decide⟩) hS (fun r_8 z_9 H locs hp_10 hR hS => ?_)
    rw [hp_10.2] at hR; rw [hp_10.1]
    refine x_top (show (bx_sum (fun y => if z.1 (oKd 0 mi) y = 1 then z.1 (oLf 0 mi) y else 0) 25) = (bx_sum (fun y => if (z.1 (oKd 0 mi)) y = 1 then (z.1 (oLf 0 mi)) y else 0) 25) from rfl) ?_
    refine lv_if_ne (tgt := 26) hx hcb dX9_isUniform_19 (by decide) (fun c_11 => ?_) (fun c_11 => ?_)
    · skip
      have h_ : ¬ (bx_sum (fun y => if (z.1 (oKd 0 mi)) y = 0 then (z.1 (oLf 0 mi)) y else 0) 25 = 0 ∨ bx_sum (fun y => if (z.1 (oKd 0 mi)) y = 1 then (z.1 (oLf 0 mi)) y else 0) 25 = 0) := fun q_ => q_.elim h0_ c_11
      refine lv_iconst (v := (nI 0)) hx hcb dX9_isUniform_26 (by decide) ?_
      exact hret (nI 0) z _ _ _ _ dX9_isUniform_27 rfl hR hS (⟨by first | (rw [if_pos h_]; first | done | rfl) | (rw [if_neg h_]; first | done | rfl), rfl⟩)
    · skip
      have h_ : bx_sum (fun y => if (z.1 (oKd 0 mi)) y = 0 then (z.1 (oLf 0 mi)) y else 0) 25 = 0 ∨ bx_sum (fun y => if (z.1 (oKd 0 mi)) y = 1 then (z.1 (oLf 0 mi)) y else 0) 25 = 0 := Or.inr c_11
      refine lv_iconst (v := (nI 1)) hx hcb dX9_isUniform_22 (by decide) ?_
      refine lv_goto (tgt := 27) hx hcb dX9_isUniform_23 (by decide) ?_
      exact hret (nI 1) z _ _ _ _ dX9_isUniform_27 rfl hR hS (⟨by first | (rw [if_pos h_]; first | done | rfl) | (rw [if_neg h_]; first | done | rfl), rfl⟩)
def rm_X9_wouldGet : Room := { frames := 5, cells := 0, slots := 0, locals := 109 }
set_option maxRecDepth 100000 in
set_option maxHeartbeats 4000000 in
theorem c_X9_wouldGet (l : Launch) (G : xGl) (w : xWd) (K : Nat) (hw : isC K w) (z : xSt) (sz : Nat) (mi : Nat) (a : Int32) (b : Int32) (c_ : Int32) (d : Int32) (hB : bOk z 0) (hmi : mi < bN z 0 3) (hC : cnB z 0) : xMi l yX9_wouldGet cX9_wouldGet 6 (some FieldType.int) rm_X9_wouldGet G w z sz [.ref (w.2.2 0), .int (nI mi), .int a, .int b, .int c_, .int d] (fun r z1 => r = (if okR (bN z 0 4) ((zR z a b c_ d).1 1) then (tcZ z a b c_ d).1 (oM 1 mi) 4 else (-100000000)) ∧ z1 = tcY z a b c_ d) := by
  refine x_mi (by decide) (Nat.le_of_ble_eq_true rfl) ?_
  intro p e s mt args below meth c ls Q hsz X hR hS hl hret
  obtain ⟨hx, hcb, hml, hown, hts, hlk, hK, hZ⟩ := X
  have hl : lv_has ls 6 [(0, .ref (w.2.2 0)), (1, .int (nI mi)), (2, .int a), (3, .int b), (4, .int c_), (5, .int d)] := hl
  have hb3_ := hB.2.1
  have hb4_ := hB.2.2.2.1
  have hb5_ := hB.2.2.2.2.2
  have hm8_ : mi < 8 := by omega
  refine lv_aload_n hx hcb dX9_wouldGet_0 rfl (lv_at hl 0 rfl) ?_
  refine lv_iload_n hx hcb dX9_wouldGet_1 rfl (lv_at hl 1 rfl) ?_
  refine x_cv0 rfl rfl (x_runV hx hcb hml hown hts (c_X9_checkMember l G w K hw z _ mi hB hmi) mv_X9_checkMember q_905 hK hZ hR hS (hw.lo (by decide)) xc9 (hw.s0 (by decide) rfl) rfl hl.1 rfl (Nat.le_of_ble_eq_true rfl) dX9_wouldGet_2 ⟨by decide, by decide⟩ ⟨by decide, by decide⟩) hS (fun z_2 H locs hp_3 hR hS => ?_)
  rw [hp_3] at hR
  refine lv_aload_n hx hcb dX9_wouldGet_5 rfl (lv_at hl 0 rfl) ?_
  refine lv_iload_n hx hcb dX9_wouldGet_6 rfl (lv_at hl 2 rfl) ?_
  refine lv_iload_n hx hcb dX9_wouldGet_7 rfl (lv_at hl 3 rfl) ?_
  refine lv_iload hx hcb dX9_wouldGet_8 (lv_at hl 4 rfl) ?_
  refine lv_iload hx hcb dX9_wouldGet_10 (lv_at hl 5 rfl) ?_
  refine x_ci0 rfl rfl (x_runV hx hcb hml hown hts (c_X9_tryClosing l G w K hw z _ a b c_ d hB hC) mv_X9_tryClosing q_722 hK hZ hR hS (hw.lo (by decide)) xc9 (hw.s0 (by decide) rfl) rfl hl.1 rfl (Nat.le_of_ble_eq_true rfl) dX9_wouldGet_12 ⟨by decide, by decide⟩ ⟨by decide, by decide⟩) hS (fun r_4 z_5 H locs hp_6 hR hS => ?_)
  rw [hp_6.2] at hR; rw [hp_6.1]
  refine lv_if_ne (tgt := 21) hx hcb dX9_wouldGet_15 (by decide) (fun c_7 => ?_) (fun c_7 => ?_)
  · skip
    have h_ : okR (bN z 0 4) ((zR z a b c_ d).1 1) := Classical.byContradiction (fun q_ => c_7 (if_neg q_))
    refine lv_aload_n hx hcb dX9_wouldGet_21 rfl (lv_at hl 0 rfl) ?_
    refine x_getR hx hcb hts hown hK xc9 hR (hw.lo (by decide)) (hw.s0 (by decide) rfl) 1 (by decide) rfl q_377 dX9_wouldGet_22 ?_
    refine x_getR hx hcb hts hown hK xc0 hR (hoB hw (by omega)) (hsB hw) 0 (by decide) rfl q_259 dX9_wouldGet_25 ?_
    refine lv_iload_n hx hcb dX9_wouldGet_28 rfl (lv_at hl 1 rfl) ?_
    have hk_29 : mi < 8 := (by omega)
    refine x_aald hx hcb hK hR (hoMs hw (by omega)) (hsMs hw) rfl (oMs_at hk_29) (Nat.lt_of_lt_of_le (Nat.lt_succ_self _) (Nat.le_of_ble_eq_true rfl)) dX9_wouldGet_29 ?_
    refine x_getI hx hcb hts hown hK xc5 hR (hoM hw (by omega) hk_29) (hsM hw hk_29) 4 (by decide) rfl q_191 dX9_wouldGet_30 ?_
    exact hret ((tcY z a b c_ d).1 (oM 1 mi) 4) (tcY z a b c_ d) _ _ _ _ dX9_wouldGet_33 rfl hR hS (⟨by rw [if_pos h_]; unfold tcY; rw [if_pos h_], rfl⟩)
  · skip
    have h_ : ¬ (okR (bN z 0 4) ((zR z a b c_ d).1 1)) := fun q_ => absurd c_7 (by rw [if_pos q_]; decide)
    refine lv_ldc (v := (-100000000)) hx hcb hown (hts _ q_803) dX9_wouldGet_18 ?_
    exact hret (-100000000) (tcY z a b c_ d) _ _ _ _ dX9_wouldGet_20 rfl hR hS (⟨by rw [if_neg h_], rfl⟩)
def rm_X9_wouldRedeem : Room := { frames := 4, cells := 0, slots := 0, locals := 102 }
set_option maxRecDepth 100000 in
set_option maxHeartbeats 4000000 in
theorem c_X9_wouldRedeem (l : Launch) (G : xGl) (w : xWd) (K : Nat) (hw : isC K w) (z : xSt) (sz : Nat) (mi : Nat) (x : Int32) (hB : bOk z 0) (hmi : mi < bN z 0 3) : xMi l yX9_wouldRedeem cX9_wouldRedeem 3 (some FieldType.int) rm_X9_wouldRedeem G w z sz [.ref (w.2.2 0), .int (nI mi), .int x] (fun r z1 => (r, z1) = if ¬ x < 0 ∧ x ≤ nI 10000000 then (bx_sum (fun i => if (plZ z 0 (bN z 0 3) x).1 10 i = nI mi then (plZ z 0 (bN z 0 3) x).1 13 i else 0) (plN z 0 (bN z 0 3)), (plZ z 0 (bN z 0 3) x)) else ((-2), z)) := by
  refine x_mi (by decide) (Nat.le_of_ble_eq_true rfl) ?_
  intro p e s mt args below meth c ls Q hsz X hR hS hl hret
  obtain ⟨hx, hcb, hml, hown, hts, hlk, hK, hZ⟩ := X
  have hl : lv_has ls 3 [(0, .ref (w.2.2 0)), (1, .int (nI mi)), (2, .int x)] := hl
  have hb3_ := hB.2.1
  have hb4_ := hB.2.2.2.1
  have hb5_ := hB.2.2.2.2.2
  have hm8_ : mi < 8 := by omega
  refine lv_aload_n hx hcb dX9_wouldRedeem_0 rfl (lv_at hl 0 rfl) ?_
  refine lv_iload_n hx hcb dX9_wouldRedeem_1 rfl (lv_at hl 1 rfl) ?_
  refine x_cv0 rfl rfl (x_runV hx hcb hml hown hts (c_X9_checkMember l G w K hw z _ mi hB hmi) mv_X9_checkMember q_905 hK hZ hR hS (hw.lo (by decide)) xc9 (hw.s0 (by decide) rfl) rfl hl.1 rfl (Nat.le_of_ble_eq_true rfl) dX9_wouldRedeem_2 ⟨by decide, by decide⟩ ⟨by decide, by decide⟩) hS (fun z_2 H locs hp_3 hR hS => ?_)
  rw [hp_3] at hR
  refine lv_iload_n hx hcb dX9_wouldRedeem_5 rfl (lv_at hl 2 rfl) ?_
  refine x_ci0 rfl rfl (x_runS hx hcb hml hown hts (c_X9_isBudget l G w K hw z _ x) ms_X9_isBudget q_821 hK hZ hR hS rfl hl.1 rfl (Nat.le_of_ble_eq_true rfl) dX9_wouldRedeem_6 ⟨by decide, by decide⟩ ⟨by decide, by decide⟩) hS (fun r_4 z_5 H locs hp_6 hR hS => ?_)
  rw [hp_6.2] at hR; rw [hp_6.1]
  refine lv_if_ne (tgt := 15) hx hcb dX9_wouldRedeem_9 (by decide) (fun c_7 => ?_) (fun c_7 => ?_)
  · skip
    have h_ : ¬ x < 0 ∧ x ≤ nI 10000000 := Classical.byContradiction (fun q_ => c_7 (if_neg q_))
    refine lv_aload_n hx hcb dX9_wouldRedeem_15 rfl (lv_at hl 0 rfl) ?_
    refine x_getR hx hcb hts hown hK xc9 hR (hw.lo (by decide)) (hw.s0 (by decide) rfl) 5 (by decide) rfl q_381 dX9_wouldRedeem_16 ?_
    refine lv_aload_n hx hcb dX9_wouldRedeem_19 rfl (lv_at hl 0 rfl) ?_
    refine x_getR hx hcb hts hown hK xc9 hR (hw.lo (by decide)) (hw.s0 (by decide) rfl) 0 (by decide) rfl q_376 dX9_wouldRedeem_20 ?_
    refine lv_iload_n hx hcb dX9_wouldRedeem_23 rfl (lv_at hl 2 rfl) ?_
    refine x_ci0 rfl rfl (x_runV hx hcb hml hown hts (c_X6_plan l G w K hw z _ 0 (by omega) x (bN z 0 3) hB.1 hB.2.1) mv_X6_plan q_764 hK hZ hR hS (hw.lo (by decide)) xc6 (hw.s0 (by decide) rfl) rfl hl.1 rfl (Nat.le_of_ble_eq_true rfl) dX9_wouldRedeem_24 ⟨by decide, by decide⟩ ⟨by decide, by decide⟩) hS (fun r_8 z_9 H locs hp_10 hR hS => ?_)
    rw [hp_10.2] at hR; rw [hp_10.1]
    refine lv_pop hx hcb dX9_wouldRedeem_27 rfl ?_
    refine lv_aload_n hx hcb dX9_wouldRedeem_28 rfl (lv_at hl 0 rfl) ?_
    refine x_getR hx hcb hts hown hK xc9 hR (hw.lo (by decide)) (hw.s0 (by decide) rfl) 5 (by decide) rfl q_381 dX9_wouldRedeem_29 ?_
    refine lv_iload_n hx hcb dX9_wouldRedeem_32 rfl (lv_at hl 1 rfl) ?_
    refine x_ci0 rfl rfl (x_runV hx hcb hml hown hts (c_X6_paymentFor l G w K hw (plZ z 0 (bN z 0 3) x) _ (nI mi) (plN z 0 (bN z 0 3)) plZ_n (plN_le hB.2.1)) mv_X6_paymentFor q_1117 hK hZ hR hS (hw.lo (by decide)) xc6 (hw.s0 (by decide) rfl) rfl hl.1 rfl (Nat.le_of_ble_eq_true rfl) dX9_wouldRedeem_33 ⟨by decide, by decide⟩ ⟨by decide, by decide⟩) hS (fun r_11 z_12 H locs hp_13 hR hS => ?_)
    rw [hp_13.2] at hR; rw [hp_13.1]
    exact hret (bx_sum (fun i => if (plZ z 0 (bN z 0 3) x).1 10 i = (nI mi) then (plZ z 0 (bN z 0 3) x).1 13 i else 0) (plN z 0 (bN z 0 3))) (plZ z 0 (bN z 0 3) x) _ _ _ _ dX9_wouldRedeem_36 rfl hR hS (by rw [if_pos h_])
  · skip
    have h_ : ¬ (¬ x < 0 ∧ x ≤ nI 10000000) := fun q_ => absurd c_7 (by rw [if_pos q_]; decide)
    refine lv_bipush (v := (-2)) hx hcb dX9_wouldRedeem_12 (by decide) ?_
    exact hret (-2) z _ _ _ _ dX9_wouldRedeem_14 rfl hR hS (by rw [if_neg h_])
def rm_X9_installment : Room := { frames := 3, cells := 0, slots := 0, locals := 63 }
set_option maxRecDepth 100000 in
set_option maxHeartbeats 4000000 in
theorem c_X9_installment (l : Launch) (G : xGl) (w : xWd) (K : Nat) (hw : isC K w) (z : xSt) (sz : Nat) (mi : Nat) (k : Int32) (hB : bOk z 0) (hmi : mi < bN z 0 3) : xMi l yX9_installment cX9_installment 3 (some FieldType.int) rm_X9_installment G w z sz [.ref (w.2.2 0), .int (nI mi), .int k] (fun r z1 => r = (if k < 0 ∨ ¬ k < z.1 (oM 0 mi) 3 then -1 else rup (insA (bx_sum (z.1 (oLf 0 mi)) 25) (z.1 (oM 0 mi) 3) k.toNatClampNeg) (z.1 (oM 0 mi) 3 - k)) ∧ z1 = z) := by
  refine x_mi (by decide) (Nat.le_of_ble_eq_true rfl) ?_
  intro p e s mt args below meth c ls Q hsz X hR hS hl hret
  obtain ⟨hx, hcb, hml, hown, hts, hlk, hK, hZ⟩ := X
  have hl : lv_has ls 3 [(0, .ref (w.2.2 0)), (1, .int (nI mi)), (2, .int k)] := hl
  have hb3_ := hB.2.1
  have hb4_ := hB.2.2.2.1
  have hb5_ := hB.2.2.2.2.2
  have hm8_ : mi < 8 := by omega
  refine lv_aload_n hx hcb dX9_installment_0 rfl (lv_at hl 0 rfl) ?_
  refine lv_iload_n hx hcb dX9_installment_1 rfl (lv_at hl 1 rfl) ?_
  refine x_cr0 rfl rfl (x_runV hx hcb hml hown hts (c_X9_memberAt l G w K hw z _ mi hB hmi) mv_X9_memberAt q_901 hK hZ hR hS (hw.lo (by decide)) xc9 (hw.s0 (by decide) rfl) rfl hl.1 rfl (Nat.le_of_ble_eq_true rfl) dX9_installment_2 ⟨by decide, by decide⟩ ⟨by decide, by decide⟩) hS (fun z_2 H locs hp_3 hR hS => ?_)
  rw [hp_3] at hR
  refine lv_iload_n hx hcb dX9_installment_5 rfl (lv_at hl 2 rfl) ?_
  refine x_ci0 rfl rfl (x_runV hx hcb hml hown hts (c_X5_installmentAfter l G w K hw z _ 0 mi (by omega) hm8_ k) mv_X5_installmentAfter q_1135 hK hZ hR hS (hoM hw (by omega) hm8_) xc5 (hsM hw hm8_) rfl hl.1 rfl (Nat.le_of_ble_eq_true rfl) dX9_installment_6 ⟨by decide, by decide⟩ ⟨by decide, by decide⟩) hS (fun r_4 z_5 H locs hp_6 hR hS => ?_)
  rw [hp_6.2] at hR; rw [hp_6.1]
  exact hret (if k < 0 ∨ ¬ k < z.1 (oM 0 mi) 3 then -1 else rup (insA (bx_sum (z.1 (oLf 0 mi)) 25) (z.1 (oM 0 mi) 3) k.toNatClampNeg) (z.1 (oM 0 mi) 3 - k)) z _ _ _ _ dX9_installment_9 rfl hR hS (⟨rfl, rfl⟩)
def rm_X9_yearsUntil : Room := { frames := 3, cells := 0, slots := 0, locals := 63 }
set_option maxRecDepth 100000 in
set_option maxHeartbeats 4000000 in
theorem c_X9_yearsUntil (l : Launch) (G : xGl) (w : xWd) (K : Nat) (hw : isC K w) (z : xSt) (sz : Nat) (mi : Nat) (y : Int32) (hB : bOk z 0) (hmi : mi < bN z 0 3) : xMi l yX9_yearsUntil cX9_yearsUntil 4 (some FieldType.int) rm_X9_yearsUntil G w z sz [.ref (w.2.2 0), .int (nI mi), .int y] (fun r z1 => r = (if inR y (bN z 0 5) then (if z.1 (oLf 0 mi) y.toNatClampNeg = 0 ∨ z.1 (oM 0 mi) 2 ≠ 0 then (-1) else if nI 0 < z.1 (oSt 0) 3 - (z.1 (oB 0) 5 - y) then z.1 (oSt 0) 3 - (z.1 (oB 0) 5 - y) else nI 0) else (-2)) ∧ z1 = z) := by
  refine x_mi (by decide) (Nat.le_of_ble_eq_true rfl) ?_
  intro p e s mt args below meth c ls Q hsz X hR hS hl hret
  obtain ⟨hx, hcb, hml, hown, hts, hlk, hK, hZ⟩ := X
  have hl : lv_has ls 4 [(0, .ref (w.2.2 0)), (1, .int (nI mi)), (2, .int y)] := hl
  have hb3_ := hB.2.1
  have hb4_ := hB.2.2.2.1
  have hb5_ := hB.2.2.2.2.2
  have hm8_ : mi < 8 := by omega
  refine lv_aload_n hx hcb dX9_yearsUntil_0 rfl (lv_at hl 0 rfl) ?_
  refine lv_iload_n hx hcb dX9_yearsUntil_1 rfl (lv_at hl 1 rfl) ?_
  refine x_cr0 rfl rfl (x_runV hx hcb hml hown hts (c_X9_memberAt l G w K hw z _ mi hB hmi) mv_X9_memberAt q_901 hK hZ hR hS (hw.lo (by decide)) xc9 (hw.s0 (by decide) rfl) rfl hl.1 rfl (Nat.le_of_ble_eq_true rfl) dX9_yearsUntil_2 ⟨by decide, by decide⟩ ⟨by decide, by decide⟩) hS (fun z_2 H locs hp_3 hR hS => ?_)
  rw [hp_3] at hR
  refine lv_astore_n (lv' := [(3, .ref (w.2.2 (oM 0 mi))), (0, .ref (w.2.2 0)), (1, .int (nI mi)), (2, .int y)]) hx hcb dX9_yearsUntil_5 rfl hl (by decide) rfl (fun ls hl => ?_)
  refine lv_aload_n hx hcb dX9_yearsUntil_6 rfl (lv_at hl 1 rfl) ?_
  refine lv_iload_n hx hcb dX9_yearsUntil_7 rfl (lv_at hl 3 rfl) ?_
  refine x_ci0 rfl rfl (x_runV hx hcb hml hown hts (c_X9_isClosed l G w K hw z _ y hB) mv_X9_isClosed q_748 hK hZ hR hS (hw.lo (by decide)) xc9 (hw.s0 (by decide) rfl) rfl hl.1 rfl (Nat.le_of_ble_eq_true rfl) dX9_yearsUntil_8 ⟨by decide, by decide⟩ ⟨by decide, by decide⟩) hS (fun r_4 z_5 H locs hp_6 hR hS => ?_)
  rw [hp_6.2] at hR; rw [hp_6.1]
  refine lv_if_ne (tgt := 17) hx hcb dX9_yearsUntil_11 (by decide) (fun c_7 => ?_) (fun c_7 => ?_)
  · skip
    have h_ : inR y (bN z 0 5) := Classical.byContradiction (fun q_ => c_7 (if_neg q_))
    have hxk_ := inR_k (n := bN z 0 5) (by omega) h_
    obtain ⟨k_, ek_⟩ : ∃ q_, q_ = y.toNatClampNeg := ⟨_, rfl⟩
    rw [← ek_] at hxk_
    have hltk_ := hxk_.2
    rw [hxk_.1] at hl
    refine lv_aload_n hx hcb dX9_yearsUntil_17 rfl (lv_at hl 0 rfl) ?_
    refine x_getR hx hcb hts hown hK xc5 hR (hoM hw (by omega) hm8_) (hsM hw hm8_) 7 (by decide) rfl q_203 dX9_yearsUntil_18 ?_
    refine lv_iload_n hx hcb dX9_yearsUntil_21 rfl (lv_at hl 3 rfl) ?_
    refine x_iald hx hcb hK hR (hoLf hw (by omega) hm8_) (hsLf hw hm8_) (k := k_) (by omega) (by decide) dX9_yearsUntil_22 ?_
    refine lv_if_eq (tgt := 33) hx hcb dX9_yearsUntil_23 (by decide) (fun c_8 => ?_) (fun c_8 => ?_)
    · skip
      have hl_ : z.1 (oLf 0 mi) k_ = 0 ∨ z.1 (oM 0 mi) 2 ≠ 0 := Or.inl c_8
      refine lv_iconst (v := (-1)) hx hcb dX9_yearsUntil_33 (by decide) ?_
      exact hret (-1) z _ _ _ _ dX9_yearsUntil_34 rfl hR hS (⟨by rw [if_pos h_, ← ek_, if_pos hl_], rfl⟩)
    · skip
      have hl0_ := c_8
      refine lv_aload_n hx hcb dX9_yearsUntil_26 rfl (lv_at hl 0 rfl) ?_
      refine x_getI hx hcb hts hown hK xc5 hR (hoM hw (by omega) hm8_) (hsM hw hm8_) 2 (by decide) rfl q_186 dX9_yearsUntil_27 ?_
      refine lv_if_eq (tgt := 35) hx hcb dX9_yearsUntil_30 (by decide) (fun c_9 => ?_) (fun c_9 => ?_)
      · skip
        have hl_ : ¬ (z.1 (oLf 0 mi) k_ = 0 ∨ z.1 (oM 0 mi) 2 ≠ 0) := fun q_ => q_.elim hl0_ (fun q_ => q_ c_9)
        refine lv_iconst (v := (nI 0)) hx hcb dX9_yearsUntil_35 (by decide) ?_
        refine lv_aload_n hx hcb dX9_yearsUntil_36 rfl (lv_at hl 1 rfl) ?_
        refine x_getR hx hcb hts hown hK xc9 hR (hw.lo (by decide)) (hw.s0 (by decide) rfl) 0 (by decide) rfl q_376 dX9_yearsUntil_37 ?_
        refine x_getR hx hcb hts hown hK xc0 hR (hoB hw (by omega)) (hsB hw) 2 (by decide) rfl q_267 dX9_yearsUntil_40 ?_
        refine lv_iconst (v := (nI 3)) hx hcb dX9_yearsUntil_43 (by decide) ?_
        refine x_iald hx hcb hK hR (hoSt hw (by omega)) (hsSt hw) (k := 3) (by omega) (by decide) dX9_yearsUntil_44 ?_
        refine lv_aload_n hx hcb dX9_yearsUntil_45 rfl (lv_at hl 1 rfl) ?_
        refine x_getR hx hcb hts hown hK xc9 hR (hw.lo (by decide)) (hw.s0 (by decide) rfl) 0 (by decide) rfl q_376 dX9_yearsUntil_46 ?_
        refine x_getI hx hcb hts hown hK xc0 hR (hoB hw (by omega)) (hsB hw) 5 (by decide) rfl q_280 dX9_yearsUntil_49 ?_
        refine lv_iload_n hx hcb dX9_yearsUntil_52 rfl (lv_at hl 3 rfl) ?_
        refine lv_isub hx hcb dX9_yearsUntil_53 ?_
        refine lv_isub hx hcb dX9_yearsUntil_54 ?_
        refine x_max hx hcb hml hown hts hl.1 q_1146 (by decide) (Nat.le_of_ble_eq_true rfl) (by decide) (by decide) dX9_yearsUntil_55 ?_
        exact hret (if (nI 0) < ((z.1 (oSt 0) 3) - ((z.1 (oB 0) 5) - (nI k_))) then ((z.1 (oSt 0) 3) - ((z.1 (oB 0) 5) - (nI k_))) else (nI 0)) z _ _ _ _ dX9_yearsUntil_58 rfl hR hS (⟨by rw [if_pos h_, ← ek_, if_neg hl_, hxk_.1], rfl⟩)
      · skip
        have hl_ : z.1 (oLf 0 mi) k_ = 0 ∨ z.1 (oM 0 mi) 2 ≠ 0 := Or.inr c_9
        refine lv_iconst (v := (-1)) hx hcb dX9_yearsUntil_33 (by decide) ?_
        exact hret (-1) z _ _ _ _ dX9_yearsUntil_34 rfl hR hS (⟨by rw [if_pos h_, ← ek_, if_pos hl_], rfl⟩)
  · skip
    have h_ : ¬ (inR y (bN z 0 5)) := fun q_ => absurd c_7 (by rw [if_pos q_]; decide)
    refine lv_bipush (v := (-2)) hx hcb dX9_yearsUntil_14 (by decide) ?_
    exact hret (-2) z _ _ _ _ dX9_yearsUntil_16 rfl hR hS (⟨by rw [if_neg h_], rfl⟩)
def rm_X9_load : Room := { frames := 10, cells := 0, slots := 0, locals := 214 }
set_option maxRecDepth 100000 in
set_option maxHeartbeats 4000000 in
theorem c_X9_load (l : Launch) (G : xGl) (w : xWd) (K : Nat) (hw : isC K w) (z : xSt) (sz : Nat) (x : Int32) (q : Nat) (hq : z.1 14 1 = nI q) (hq9 : q ≤ 900) (hC1 : cnB z 1) : xMi l yX9_load cX9_load 3 (some FieldType.int) rm_X9_load G w z sz [.ref (w.2.2 0), .int x] (fun r z1 => (r, z1) = if ¬ x < 0 ∧ x ≤ nI q then ldZ z x.toNatClampNeg q else ((-2), z)) := by
  refine x_mi (by decide) (Nat.le_of_ble_eq_true rfl) ?_
  intro p e s mt args below meth c ls Q hsz X hR hS hl hret
  obtain ⟨hx, hcb, hml, hown, hts, hlk, hK, hZ⟩ := X
  have hl : lv_has ls 3 [(0, .ref (w.2.2 0)), (1, .int x)] := hl
  refine lv_iload_n hx hcb dX9_load_0 rfl (lv_at hl 1 rfl) ?_
  refine lv_if_lt (tgt := 15) hx hcb dX9_load_1 (by decide) (fun c_1 => ?_) (fun c_1 => ?_)
  · skip
    have h_ : ¬ (¬ x < 0 ∧ x ≤ nI q) := fun q_ => q_.1 c_1
    refine lv_bipush (v := (-2)) hx hcb dX9_load_15 (by decide) ?_
    exact hret (-2) z _ _ _ _ dX9_load_17 rfl hR hS (by rw [if_neg h_])
  · skip
    have h0_ := c_1
    refine lv_iload_n hx hcb dX9_load_4 rfl (lv_at hl 1 rfl) ?_
    refine lv_aload_n hx hcb dX9_load_5 rfl (lv_at hl 0 rfl) ?_
    refine x_getR hx hcb hts hown hK xc9 hR (hw.lo (by decide)) (hw.s0 (by decide) rfl) 6 (by decide) rfl q_382 dX9_load_6 ?_
    refine x_getN hx hcb hts hown hK xc8 hR (hw.lo (by decide)) (hw.s0 (by decide) rfl) 1 (by decide) rfl (hZ.1.1 _ (List.mem_of_getElem? (i := 2) rfl)) dX9_load_9 ?_
    refine x_top (show (z.1 14 1) = (nI q) from hq) ?_
    refine lv_icmp_le (tgt := 18) hx hcb dX9_load_12 (by decide) (fun c_2 => ?_) (fun c_2 => ?_)
    · skip
      have h_ : ¬ x < 0 ∧ x ≤ nI q := ⟨h0_, c_2⟩
      have hxk_ := leR_k (n := q) (by omega) h_
      obtain ⟨k_, ek_⟩ : ∃ q_, q_ = x.toNatClampNeg := ⟨_, rfl⟩
      rw [← ek_] at hxk_
      have hk_ := hxk_.2
      have hX_ := rdX_ok (z := z) (n := k_) hq9 hC1
      rw [hxk_.1] at hl
      refine lv_aload_n hx hcb dX9_load_18 rfl (lv_at hl 0 rfl) ?_
      refine x_getR hx hcb hts hown hK xc9 hR (hw.lo (by decide)) (hw.s0 (by decide) rfl) 7 (by decide) rfl q_383 dX9_load_19 ?_
      refine lv_iload_n hx hcb dX9_load_22 rfl (lv_at hl 1 rfl) ?_
      refine x_ci0 rfl rfl (x_runV hx hcb hml hown hts (c_X4_readText l G w K hw z _ k_ q hq hq9 (by omega)) mv_X4_readText q_420 hK hZ hR hS (hw.lo (by decide)) xc4 (hw.s0 (by decide) rfl) rfl hl.1 rfl (Nat.le_of_ble_eq_true rfl) dX9_load_23 ⟨by decide, by decide⟩ ⟨by decide, by decide⟩) hS (fun r_3 z_4 H locs hp_5 hR hS => ?_)
      rw [hp_5.2] at hR; rw [hp_5.1]
      refine lv_istore_n (lv' := [(2, .int ((rdX z k_ q).1)), (0, .ref (w.2.2 0)), (1, .int (nI k_))]) hx hcb dX9_load_26 rfl hl (by decide) rfl (fun ls hl => ?_)
      refine lv_aload_n hx hcb dX9_load_27 rfl (lv_at hl 1 rfl) ?_
      refine x_getR hx hcb hts hown hK xc9 hR (hw.lo (by decide)) (hw.s0 (by decide) rfl) 6 (by decide) rfl q_382 dX9_load_28 ?_
      refine lv_iconst (v := (nI 0)) hx hcb dX9_load_31 (by decide) ?_
      refine x_putN hx hcb hts hown hK xc8 hR hS (hw.lo (by decide)) (hw.s0 (by decide) rfl) 1 (by decide) rfl (hZ.1.1 _ (List.mem_of_getElem? (i := 2) rfl)) rfl (v := 0) rfl rfl dX9_load_32 (fun H locs hR hS => ?_)
      refine lv_iload_n hx hcb dX9_load_35 rfl (lv_at hl 0 rfl) ?_
      refine lv_if_ge (tgt := 52) hx hcb dX9_load_36 (by decide) (fun c_6 => ?_) (fun c_6 => ?_)
      · skip
        have hn_ : ¬ (rdX z k_ q).1 < 0 := Int32.not_lt.mpr c_6
        refine lv_aload_n hx hcb dX9_load_52 rfl (lv_at hl 1 rfl) ?_
        refine lv_iconst (v := (-1)) hx hcb dX9_load_53 (by decide) ?_
        refine x_putI hx hcb hts hown hK xc9 hR hS (hw.lo (by decide)) (hw.s0 (by decide) rfl) 8 (by decide) rfl q_384 rfl (v := (-1)) rfl rfl dX9_load_54 (fun H locs hR hS => ?_)
        refine lv_aload_n hx hcb dX9_load_57 rfl (lv_at hl 1 rfl) ?_
        refine x_getR hx hcb hts hown hK xc9 hR (hw.lo (by decide)) (hw.s0 (by decide) rfl) 0 (by decide) rfl q_376 dX9_load_58 ?_
        refine lv_aload_n hx hcb dX9_load_61 rfl (lv_at hl 1 rfl) ?_
        refine x_getR hx hcb hts hown hK xc9 hR (hw.lo (by decide)) (hw.s0 (by decide) rfl) 1 (by decide) rfl q_377 dX9_load_62 ?_
        refine x_cv0 rfl rfl (x_runV hx hcb hml hown hts (c_X0_copyFrom l G w K hw (u1 (u1 ((rdX z k_ q).2) 14 1 0) 0 8 (-1)) _ 0 (by omega) 1 (by omega) (bN (rdX z k_ q).2 1 3) (bN (rdX z k_ q).2 1 4) (by omega) (by rw [u1_ne _ (by decide), u1_ne _ (by decide)]; exact hX_.2.2.1) hX_.2.2.2.1 (by rw [u1_ne _ (by decide), u1_ne _ (by decide)]; exact hX_.2.2.2.2.1) hX_.2.2.2.2.2.1 (fun m hm => by rw [u1_ne _ (by simp only [oM]; omega), u1_ne _ (by simp only [oM]; omega)]; exact hX_.1 m (by have := hX_.2.2.2.1; omega))) mv_X0_copyFrom q_651 hK hZ hR hS (hoB hw (by omega)) xc0 (hsB hw) rfl hl.1 rfl (Nat.le_of_ble_eq_true rfl) dX9_load_65 ⟨by decide, by decide⟩ ⟨by decide, by decide⟩) hS (fun z_8 H locs hp_9 hR hS => ?_)
        rw [hp_9] at hR
        refine lv_aload_n hx hcb dX9_load_68 rfl (lv_at hl 1 rfl) ?_
        refine x_getR hx hcb hts hown hK xc9 hR (hw.lo (by decide)) (hw.s0 (by decide) rfl) 3 (by decide) rfl q_379 dX9_load_69 ?_
        refine x_cv0 rfl rfl (x_runV hx hcb hml hown hts (c_X3_forget l G w K hw (cpA (u1 (u1 ((rdX z k_ q).2) 14 1 0) 0 8 (-1)) 0 1 (bN (rdX z k_ q).2 1 3) (bN (rdX z k_ q).2 1 4)) _ ) mv_X3_forget q_664 hK hZ hR hS (hw.lo (by decide)) xc3 (hw.s0 (by decide) rfl) rfl hl.1 rfl (Nat.le_of_ble_eq_true rfl) dX9_load_72 ⟨by decide, by decide⟩ ⟨by decide, by decide⟩) hS (fun z_11 H locs hp_12 hR hS => ?_)
        rw [hp_12] at hR
        refine lv_iload_n hx hcb dX9_load_75 rfl (lv_at hl 0 rfl) ?_
        exact hret ((rdX z k_ q).1) (u1 (cpA (u1 (u1 ((rdX z k_ q).2) 14 1 0) 0 8 (-1)) 0 1 (bN (rdX z k_ q).2 1 3) (bN (rdX z k_ q).2 1 4)) 2 2 0) _ _ _ _ dX9_load_76 rfl hR hS (by rw [if_pos h_, ← ek_]; unfold ldZ; rw [if_neg hn_])
      · skip
        have hn_ : (rdX z k_ q).1 < 0 := Int32.not_le.mp c_6
        refine lv_aload_n hx hcb dX9_load_39 rfl (lv_at hl 1 rfl) ?_
        refine lv_aload_n hx hcb dX9_load_40 rfl (lv_at hl 1 rfl) ?_
        refine x_getR hx hcb hts hown hK xc9 hR (hw.lo (by decide)) (hw.s0 (by decide) rfl) 6 (by decide) rfl q_382 dX9_load_41 ?_
        refine x_getN hx hcb hts hown hK xc8 hR (hw.lo (by decide)) (hw.s0 (by decide) rfl) 4 (by decide) rfl (hZ.1.1 _ (List.mem_of_getElem? (i := 4) rfl)) dX9_load_44 ?_
        refine x_top (show ((u1 ((rdX z k_ q).2) 14 1 0).1 14 4) = ((rdX z k_ q).2.1 14 4) from rfl) ?_
        refine x_putI hx hcb hts hown hK xc9 hR hS (hw.lo (by decide)) (hw.s0 (by decide) rfl) 8 (by decide) rfl q_384 rfl (v := ((rdX z k_ q).2.1 14 4)) rfl rfl dX9_load_47 (fun H locs hR hS => ?_)
        refine lv_iload_n hx hcb dX9_load_50 rfl (lv_at hl 0 rfl) ?_
        exact hret ((rdX z k_ q).1) (u1 (u1 ((rdX z k_ q).2) 14 1 0) 0 8 ((rdX z k_ q).2.1 14 4)) _ _ _ _ dX9_load_51 rfl hR hS (by rw [if_pos h_, ← ek_]; unfold ldZ; rw [if_pos hn_])
    · skip
      have h_ : ¬ (¬ x < 0 ∧ x ≤ nI q) := fun q_ => c_2 q_.2
      refine lv_bipush (v := (-2)) hx hcb dX9_load_15 (by decide) ?_
      exact hret (-2) z _ _ _ _ dX9_load_17 rfl hR hS (by rw [if_neg h_])
