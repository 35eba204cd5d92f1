/-! THE LAW, from its entry -/
theorem lJ_of {G : xGl} {w v : xWd} {zc zm : xSt} {ou od : Nat} {e1 e2 : va_E} {sz : Nat} {H : Heap} (hP : va_P G.1 vwCl (xwl G w zc ++ xwl G v zm ++ [(ou, e1)] ++ [(od, e2)]) H) (hD : va_D (fun q => sz ≤ q) (xwl G w zc ++ xwl G v zm ++ [(ou, e1)] ++ [(od, e2)])) : lJ G w v zc zm ou od e1 e2 sz H := by
  simp only [List.append_assoc] at hP hD
  have a1 : ∀ o, o < w.1 → (xwl G w zc ++ (xwl G v zm ++ ([(ou, e1)] ++ [(od, e2)])))[o]? = some (w.2.2 o, xent G w.2.2 (zc.1 o) (zc.2 o) (w.2.1 o)) := fun o ho => by
    rw [List.getElem?_append_left (by rw [xwl_len]; exact ho)]; exact xwl_get ho
  have a2 : ∀ o, o < v.1 → (xwl G w zc ++ (xwl G v zm ++ ([(ou, e1)] ++ [(od, e2)])))[w.1 + o]? = some (v.2.2 o, xent G v.2.2 (zm.1 o) (zm.2 o) (v.2.1 o)) := fun o ho => by
    rw [List.getElem?_append_right (by rw [xwl_len]; omega), xwl_len, Nat.add_sub_cancel_left, List.getElem?_append_left (by rw [xwl_len]; exact ho)]; exact xwl_get ho
  have a3 : (xwl G w zc ++ (xwl G v zm ++ ([(ou, e1)] ++ [(od, e2)])))[w.1 + (v.1 + 0)]? = some (ou, e1) := by
    rw [List.getElem?_append_right (by rw [xwl_len]; omega), xwl_len, Nat.add_sub_cancel_left, List.getElem?_append_right (by rw [xwl_len]; omega), xwl_len, Nat.add_sub_cancel_left]; rfl
  have a4 : (xwl G w zc ++ (xwl G v zm ++ ([(ou, e1)] ++ [(od, e2)])))[w.1 + (v.1 + 1)]? = some (od, e2) := by
    rw [List.getElem?_append_right (by rw [xwl_len]; omega), xwl_len, Nat.add_sub_cancel_left, List.getElem?_append_right (by rw [xwl_len]; omega), xwl_len, Nat.add_sub_cancel_left]; rfl
  obtain ⟨d1, d2⟩ := hD
  have one : ∀ (q : Nat) (e0 : va_E) (i : Nat), (xwl G w zc ++ (xwl G v zm ++ ([(ou, e1)] ++ [(od, e2)])))[i]? = some (q, e0) → va_P G.1 vwCl [(q, e0)] H := fun q e0 i hi k x hx => by
    match k, hx with
    | 0, hx => cases hx; exact hP i _ hi
    | k + 1, hx => simp at hx
  refine ⟨⟨⟨fun o ho => hP o _ (a1 o ho), fun o o' ho ho' h => d1 o o' _ _ (a1 o ho) (a1 o' ho') h⟩, ⟨fun o ho => hP _ _ (a2 o ho), fun o o' ho ho' h => Nat.add_left_cancel (d1 _ _ _ _ (a2 o ho) (a2 o' ho') h)⟩, one _ _ _ a3, one _ _ _ a4⟩, ⟨fun o ho => d2 _ _ (a1 o ho), fun o ho => d2 _ _ (a2 o ho), d2 _ _ a3, d2 _ _ a4⟩, fun o o' ho ho' h => ?_, fun o ho h => ?_, fun o ho h => ?_, fun o ho h => ?_, fun o ho h => ?_, fun h => ?_⟩
  · have := d1 _ _ _ _ (a1 o ho) (a2 o' ho') h; omega
  · have := d1 _ _ _ _ (a1 o ho) a3 h; omega
  · have := d1 _ _ _ _ (a1 o ho) a4 h; omega
  · have := d1 _ _ _ _ (a2 o ho) a3 h; omega
  · have := d1 _ _ _ _ (a2 o ho) a4 h; omega
  · have := d1 _ _ _ _ a3 a4 h; omega
theorem dfX9_ok : ∀ j, j < 9 → defaultValue (tyX9 j) = vp_V [.null, .null, .null, .null, .null, .null, .null, .null, .int 0] j := by
  intro j hj
  match j, hj with
  | 0, _ => exact rfl
  | 1, _ => exact rfl
  | 2, _ => exact rfl
  | 3, _ => exact rfl
  | 4, _ => exact rfl
  | 5, _ => exact rfl
  | 6, _ => exact rfl
  | 7, _ => exact rfl
  | 8, _ => exact rfl
  | k + 9, h => exact absurd h (by omega)
theorem dfX10_ok : ∀ j, j < 32 → defaultValue (tyX10 j) = vp_V [.int 0, .null, .int 0, .null, .null, .null, .null, .null, .int 0, .null, .null, .null, .null, .null, .null, .int 0, .null, .int 0, .null, .null, .int 0, .int 0, .int 0, .int 0, .int 0, .int 0, .int 0, .int 0, .int 0, .int 0, .int 0, .null] j := by
  intro j hj
  match j, hj with
  | 0, _ => exact rfl
  | 1, _ => exact rfl
  | 2, _ => exact rfl
  | 3, _ => exact rfl
  | 4, _ => exact rfl
  | 5, _ => exact rfl
  | 6, _ => exact rfl
  | 7, _ => exact rfl
  | 8, _ => exact rfl
  | 9, _ => exact rfl
  | 10, _ => exact rfl
  | 11, _ => exact rfl
  | 12, _ => exact rfl
  | 13, _ => exact rfl
  | 14, _ => exact rfl
  | 15, _ => exact rfl
  | 16, _ => exact rfl
  | 17, _ => exact rfl
  | 18, _ => exact rfl
  | 19, _ => exact rfl
  | 20, _ => exact rfl
  | 21, _ => exact rfl
  | 22, _ => exact rfl
  | 23, _ => exact rfl
  | 24, _ => exact rfl
  | 25, _ => exact rfl
  | 26, _ => exact rfl
  | 27, _ => exact rfl
  | 28, _ => exact rfl
  | 29, _ => exact rfl
  | 30, _ => exact rfl
  | 31, _ => exact rfl
  | k + 32, h => exact absurd h (by omega)
set_option maxRecDepth 100000 in
set_option maxHeartbeats 4000000 in
theorem whole_start {p : Program} {e : Env} {s : State} {m : MethodId} {below : List Frame} {meth : Method} {c : Code} (l : Launch) (hflags : l.flags = flags0) {b L : Nat} {xs : Nat → Int32} (hL : L ≤ 3072) (C0 : lw_At p s m meth c b L xs) : W p l e room_1 s m #[Value.ref b] below meth c s.heap [] 0 0 (lw_Z below #[Value.ref b] s) (entryFrame m ([Value.ref b] : List Value).toArray 9) := by
  obtain ⟨hx, hcb, hr, hml, hown, hts0, hX, hbl, hlocks, hgv⟩ := id C0
  have hlt : l.stackTraces = false := by
    unfold Launch.stackTraces
    rw [hflags]
    decide +kernel
  have hts : ∀ w ∈ xw, w.before #[Value.ref b] s = true := fun w h => hts0 w (xw_tbl h)
  have hZ := z_start hts0 hgv
  obtain ⟨G, cD, hKD⟩ := k_start hts0
  have hK := xtyD_0 hKD
  have hA : ∀ q : Nat, s.heap.size ≤ q → lA s q := fun _ h => h
  have hS : va_S (lA s) s.heap s.heap [] := va_S.rf
  have hP : va_P G.1 vwCl [] s.heap := fun k q h => by simp at h
  have hD : va_D (lA s) [] := ⟨fun i j p q h => by simp at h, fun k q h => by simp at h⟩
  have hl := lv_entry ([.ref b]) (n := 9) (Nat.le_of_ble_eq_true rfl)
  rw [lg_entry_eq]
  generalize (lg_sl ([.ref b]) ++ List.replicate (9 - (lg_sl ([.ref b])).length) Slot.unset).toArray = ls at hl ⊢
  have hl : lv_has ls 9 [(0, .ref b)] := hl
  refine y_new (fs := [.null, .null, .null, .null, .null, .null, .null, .null, .int 0]) hx hcb hts hown xc9 q_94 q_95 q_72 dfX9_ok hK hP hD hS hA (by decide) (by decide) dL_law_0 (fun q1 H hP hD hS => ?_)
  refine lv_dup hx hcb dL_law_3 rfl ?_
  refine y_cI (ws0 := []) (As := []) (rest := [.ref q1]) hx hcb hml hown hts (c_X9_init l G q1 H.size) mi_X9_init q_96 hK hZ hP hD hS hA rfl hl.1 rfl (Nat.le_of_ble_eq_true rfl) dL_law_4 ⟨by decide, by decide⟩ ⟨by decide, by decide⟩ (fun w1 H locs hw_ hPn hDn hS => ?_)
  obtain ⟨w, hw, ew, ew1⟩ := hw_
  rw [ew1] at hPn hDn
  refine lv_astore_n (lv' := [(1, .ref q1), (0, .ref b)]) hx hcb dL_law_7 rfl hl (by decide) rfl (fun ls hl => ?_)
  have hP : va_P G.1 vwCl (xwl G w zC0) H := hPn
  have hD : va_D (lA s) (xwl G w zC0) := hDn
  refine y_new (fs := [.int 0, .null, .int 0, .null, .null, .null, .null, .null, .int 0, .null, .null, .null, .null, .null, .null, .int 0, .null, .int 0, .null, .null, .int 0, .int 0, .int 0, .int 0, .int 0, .int 0, .int 0, .int 0, .int 0, .int 0, .int 0, .null]) hx hcb hts hown xc10 q_1156 q_1157 q_83 dfX10_ok hK hP hD hS hA (by decide) (by decide) dL_law_8 (fun q2 H hP hD hS => ?_)
  refine lv_dup hx hcb dL_law_11 rfl ?_
  refine y_cI (ws0 := xwl G w zC0) (As := []) (rest := [.ref q2]) hx hcb hml hown hts (c_X10_init l G q2 H.size) mi_X10_init q_1158 hK hZ hP hD hS hA rfl hl.1 rfl (Nat.le_of_ble_eq_true rfl) dL_law_12 ⟨by decide, by decide⟩ ⟨by decide, by decide⟩ (fun w1 H locs hw_ hPn hDn hS => ?_)
  obtain ⟨v, hv, ev, ev1⟩ := hw_
  rw [ev1] at hPn hDn
  refine lv_astore_n (lv' := [(2, .ref q2), (1, .ref q1), (0, .ref b)]) hx hcb dL_law_15 rfl hl (by decide) rfl (fun ls hl => ?_)
  refine lv_iconst (v := nI 1) hx hcb dL_law_16 (by decide) ?_
  refine y_newa (atype := .long) (ty := .long) (t := 3) (N := 1) (a0 := (1, .inr (.inl (fun _ => 0)))) hx hcb hts q_122 rfl rfl (fun _ => rfl) (by decide) (by decide) hK hPn hDn hS hA (by decide) (by decide) dL_law_17 (fun ou H hP hD hS => ?_)
  refine lv_astore_n (lv' := [(3, .ref ou), (2, .ref q2), (1, .ref q1), (0, .ref b)]) hx hcb dL_law_19 rfl hl (by decide) rfl (fun ls hl => ?_)
  refine lv_iconst (v := nI 1) hx hcb dL_law_20 (by decide) ?_
  refine va_newa (atype := .double) (ty := .double) (N' := 1) (a0 := (1, .inr (.inr (.inr (.inl (fun _ => 0)))))) hx hcb (hts _ q_1693) rfl hKD hP hD hS hA (fun _ => rfl) (nI_pos (by decide)) (nI_clamp (by decide)) (by decide) (by decide) (by decide) dL_law_21 (fun od cA H hK1 hP hD hS => ?_)
  have e1 : cA = cD := rA_one (hK1.2 8 (cA, .double) rfl).2 (hKD.2 7 (cD, .double) rfl).2
  rw [e1] at hP hD
  refine lv_astore (lv' := [(4, .ref od), (3, .ref ou), (2, .ref q2), (1, .ref q1), (0, .ref b)]) hx hcb dL_law_23 hl (by decide) rfl (fun ls hl => ?_)
  refine lv_iconst (v := nI 0) hx hcb dL_law_25 (by decide) ?_
  refine lv_istore (lv' := [(5, .int (nI 0)), (4, .ref od), (3, .ref ou), (2, .ref q2), (1, .ref q1), (0, .ref b)]) hx hcb dL_law_26 hl (by decide) rfl (fun ls hl => ?_)
  refine W.widen (k := 1000 + 48 * 0) (n := 100000 + 574 * 0) (by decide) (by decide) ?_
  have hJ : lJ G w v zC0 (nbk zM0) ou od (lE1 G (fun _ => 0)) (lE2 cD (fun _ => 0)) s.heap.size H := lJ_of hP hD
  refine law_loop (c0 := 1000) (s0 := 100000) hlt ⟨hx, hcb, hml, hown, hts, hKD, hZ, hX, hbl⟩ hL hv (by decide) (by decide) (fun n H locs ls hn hS => ?_) 512 0 rfl 0 w zC0 (nbk zM0) _ _ H _ ls hw j_start hJ hS ?_
  · refine va_forget (fun q hq => hS.2.2 q hq) ?_
    refine W.widen (k := 601024) (n := 7293034) (by omega) (by omega) ?_
    refine lv_iconst (v := 1) hx hcb dL_law_2590 (by decide) ?_
    exact W.base (lw_ret (Drawn.sameBut.refl s.drawn lw_cs) hx hcb hr hlocks dL_law_2591)
  · show lv_has ls 9 [(0, .ref b), (1, .ref (w.2.2 0)), (2, .ref (v.2.2 0)), (3, .ref ou), (4, .ref od), (5, .int (nI (6 * 0)))]
    rw [ew, ev]
    exact lv_sub hl [5, 4, 3, 2, 1, 0] rfl
