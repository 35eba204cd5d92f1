/-! METHODS THAT ANSWER AN OBJECT OF THE WORLD -/
abbrev xMr (l : Launch) (y : MethodName) (cc : ByteArray) (maxL : Nat) (ret : Option FieldType) (rm : Room) (G : xGl) (w : xWd) (z : xSt) (sz : Nat) (o : Nat) (av : List Value) (post : xSt → Prop) : Prop := Met l y (xws y cc maxL ret) rm (xP G w z sz av) (va_Qr post (fun u a t => a = w.2.2 o ∧ xB G w u t) (xA w sz)) rm.cells rm.slots (xA w sz)
theorem x_mr {l : Launch} {y : MethodName} {cc : ByteArray} {maxL : Nat} {nm : String} {rm : Room} {G : xGl} {w : xWd} {z : xSt} {sz o : Nat} {av : List Value} {post : xSt → Prop} (hy : plainName y.cls = true) (hav : (lg_sl av).length ≤ maxL)
    (body : ∀ (p : Program) (e : Env) (s : State) (m : MethodId) (args : Array Value) (below : List Frame) (meth : Method) (c : Code) (ls : Array Slot) (Q : State → Prop), sz = s.heap.size → xCx p s m args c meth cc maxL y.cls G w → Rh G w z s.heap → va_S (xA w s.heap.size) s.heap s.heap [] → lv_has ls maxL (lv_args 0 av) →
      (∀ (z1 : xSt) (H : Heap) (locs : List Loc) (pc : Nat) (ls : Array Slot), decode cc pc = .ok (.areturn, 1) → Rh G w z1 H → va_S (xA w s.heap.size) s.heap H locs → post z1 → W p l e rm s m args below meth c H locs rm.cells rm.slots Q (F0 m pc ls [.ref (w.2.2 o)])) →
      W p l e rm s m args below meth c s.heap [] 0 0 Q (F0 m 0 ls [])) : xMr l y cc maxL (some (.object nm)) rm G w z sz o av post := by
  refine x_met hy hav ?_
  intro p e s m below meth c ls hsz hx hb hr hml hown hts hlocks _ hK hZ hR hS hl
  subst hsz
  exact body p e s m _ below meth c ls _ rfl ⟨hx, hb, hml, hown, hts, hlocks, hK, hZ⟩ hR hS hl (fun z1 H locs pc ls hd hR hS hp => W.aret hx hb hr (Or.inl ⟨nm, rfl⟩) (Or.inr ⟨_, rfl⟩) (fun t ht hW => ⟨⟨z1, w.2.2 o, rfl, hp, rfl, by show Rh G w z1 t.heap; rw [ht]; exact hR⟩, hS.F ht⟩) hS.2.2 hd hlocks)
section XR
variable {p : Program} {l : Launch} {e : Env} {R : Room} {s : State} {m : MethodId} {args : Array Value} {below : List Frame} {meth : Method} {c : Code} {H : Heap} {locs : List Loc} {cells slots mc ms : Nat} {Q : State → Prop}
variable {pc : Nat} {ls : Array Slot} {rest st0 : List Value} {G : xGl} {w : xWd} {a : Array Value} {H0 : Heap}
theorem x_cr0 {post : xSt → Prop} {o : Nat} (h1 : mc = 0) (h2 : ms = 0) (hr : va_Run p l e R s m args below meth c H locs cells slots mc ms (F0 m pc ls st0) rest (va_Qr post (fun u a t => a = w.2.2 o ∧ xB G w u t) (xA w H.size) a) (xA w H.size)) (hS : va_S (xA w H0.size) H0 H locs)
    (kk : ∀ (z1 : xSt) (H1 : Heap) (locs1 : List Loc), post z1 → Rh G w z1 H1 → va_S (xA w H0.size) H0 H1 locs1 → W p l e R s m args below meth c H1 locs1 cells slots Q (F0 m (pc + 3) ls (.ref (w.2.2 o) :: rest))) : W p l e R s m args below meth c H locs cells slots Q (F0 m pc ls st0) := by
  subst h1; subst h2
  exact va_callr hr hS (fun q _ h => xA_sub hS q h) (xA_sub hS) (fun u ra t H1 locs1 ht _ hp hB _ _ hS1 => by rw [hB.1]; exact kk u H1 locs1 hp (ht ▸ hB.2) hS1)
end XR
theorem inR_n {k n : Nat} (hk : k < n) (hn : n < 2147483648) : inR (nI k) n := ⟨nI_pos (by omega), (nI_ltI (by omega) hn).mpr hk⟩
theorem okR_s {f g : Nat → Int32} {i : Nat} (h : ∀ j, j < i → -(g j) ≤ f j ∧ f j ≤ g j) (h2 : -(g i) ≤ f i ∧ f i ≤ g i) (j : Nat) (hj : j < i + 1) : -(g j) ≤ f j ∧ f j ≤ g j := by
  rcases Nat.lt_succ_iff_lt_or_eq.mp hj with h1 | h1
  · exact h j h1
  · rw [h1]; exact h2
def rm_X9_isMember : Room := { frames := 0, cells := 0, slots := 0, locals := 0 }
set_option maxRecDepth 100000 in
set_option maxHeartbeats 4000000 in
theorem c_X9_isMember (l : Launch) (G : xGl) (w : xWd) (K : Nat) (hw : isC K w) (z : xSt) (sz : Nat) (x : Int32) (hB : bOk z 0) : xMi l yX9_isMember cX9_isMember 2 (some FieldType.boolean) rm_X9_isMember G w z sz [.ref (w.2.2 0), .int x] (fun r z1 => r = (if inR x (bN z 0 3) then 1 else 0) ∧ z1 = z) := by
  refine x_mi (by decide) (Nat.le_of_ble_eq_true rfl) ?_
  intro p e s mt args below meth c ls Q hsz X hR hS hl hret
  obtain ⟨hx, hcb, hml, hown, hts, hlk, hK, hZ⟩ := X
  have hl : lv_has ls 2 [(0, .ref (w.2.2 0)), (1, .int x)] := hl
  refine lv_iload_n hx hcb dX9_isMember_0 rfl (lv_at hl 1 rfl) ?_
  refine lv_if_lt (tgt := 19) hx hcb dX9_isMember_1 (by decide) (fun c_1 => ?_) (fun c_1 => ?_)
  · skip
    have h_ : ¬ inR x (bN z 0 3) := fun q_ => q_.1 c_1
    refine lv_iconst (v := (nI 0)) hx hcb dX9_isMember_19 (by decide) ?_
    exact hret (nI 0) z _ _ _ _ dX9_isMember_20 rfl hR hS (⟨by first | (rw [if_pos h_]; first | done | rfl) | (rw [if_neg h_]; first | done | rfl), rfl⟩)
  · skip
    have h0_ := c_1
    refine lv_iload_n hx hcb dX9_isMember_4 rfl (lv_at hl 1 rfl) ?_
    refine lv_aload_n hx hcb dX9_isMember_5 rfl (lv_at hl 0 rfl) ?_
    refine x_getR hx hcb hts hown hK xc9 hR (hw.lo (by decide)) (hw.s0 (by decide) rfl) 0 (by decide) rfl q_376 dX9_isMember_6 ?_
    refine x_getI hx hcb hts hown hK xc0 hR (hoB hw (by omega)) (hsB hw) 3 (by decide) rfl q_271 dX9_isMember_9 ?_
    refine x_top (show (z.1 (oB 0) 3) = (nI (bN z 0 3)) from hB.1) ?_
    refine lv_icmp_ge (tgt := 19) hx hcb dX9_isMember_12 (by decide) (fun c_2 => ?_) (fun c_2 => ?_)
    · skip
      have h_ : ¬ inR x (bN z 0 3) := fun q_ => absurd q_.2 (Int32.not_lt.mpr c_2)
      refine lv_iconst (v := (nI 0)) hx hcb dX9_isMember_19 (by decide) ?_
      exact hret (nI 0) z _ _ _ _ dX9_isMember_20 rfl hR hS (⟨by first | (rw [if_pos h_]; first | done | rfl) | (rw [if_neg h_]; first | done | rfl), rfl⟩)
    · skip
      have h_ : inR x (bN z 0 3) := ⟨h0_, Int32.not_le.mp c_2⟩
      refine lv_iconst (v := (nI 1)) hx hcb dX9_isMember_15 (by decide) ?_
      refine lv_goto (tgt := 20) hx hcb dX9_isMember_16 (by decide) ?_
      exact hret (nI 1) z _ _ _ _ dX9_isMember_20 rfl hR hS (⟨by first | (rw [if_pos h_]; first | done | rfl) | (rw [if_neg h_]; first | done | rfl), rfl⟩)
def rm_X9_isDepartment : Room := { frames := 0, cells := 0, slots := 0, locals := 0 }
set_option maxRecDepth 100000 in
set_option maxHeartbeats 4000000 in
theorem c_X9_isDepartment (l : Launch) (G : xGl) (w : xWd) (K : Nat) (hw : isC K w) (z : xSt) (sz : Nat) (x : Int32) (hB : bOk z 0) : xMi l yX9_isDepartment cX9_isDepartment 2 (some FieldType.boolean) rm_X9_isDepartment G w z sz [.ref (w.2.2 0), .int x] (fun r z1 => r = (if inR x (bN z 0 4) then 1 else 0) ∧ z1 = z) := by
  refine x_mi (by decide) (Nat.le_of_ble_eq_true rfl) ?_
  intro p e s mt args below meth c ls Q hsz X hR hS hl hret
  obtain ⟨hx, hcb, hml, hown, hts, hlk, hK, hZ⟩ := X
  have hl : lv_has ls 2 [(0, .ref (w.2.2 0)), (1, .int x)] := hl
  refine lv_iload_n hx hcb dX9_isDepartment_0 rfl (lv_at hl 1 rfl) ?_
  refine lv_if_lt (tgt := 19) hx hcb dX9_isDepartment_1 (by decide) (fun c_1 => ?_) (fun c_1 => ?_)
  · skip
    have h_ : ¬ inR x (bN z 0 4) := fun q_ => q_.1 c_1
    refine lv_iconst (v := (nI 0)) hx hcb dX9_isDepartment_19 (by decide) ?_
    exact hret (nI 0) z _ _ _ _ dX9_isDepartment_20 rfl hR hS (⟨by first | (rw [if_pos h_]; first | done | rfl) | (rw [if_neg h_]; first | done | rfl), rfl⟩)
  · skip
    have h0_ := c_1
    refine lv_iload_n hx hcb dX9_isDepartment_4 rfl (lv_at hl 1 rfl) ?_
    refine lv_aload_n hx hcb dX9_isDepartment_5 rfl (lv_at hl 0 rfl) ?_
    refine x_getR hx hcb hts hown hK xc9 hR (hw.lo (by decide)) (hw.s0 (by decide) rfl) 0 (by decide) rfl q_376 dX9_isDepartment_6 ?_
    refine x_getI hx hcb hts hown hK xc0 hR (hoB hw (by omega)) (hsB hw) 4 (by decide) rfl q_276 dX9_isDepartment_9 ?_
    refine x_top (show (z.1 (oB 0) 4) = (nI (bN z 0 4)) from hB.2.2.1) ?_
    refine lv_icmp_ge (tgt := 19) hx hcb dX9_isDepartment_12 (by decide) (fun c_2 => ?_) (fun c_2 => ?_)
    · skip
      have h_ : ¬ inR x (bN z 0 4) := fun q_ => absurd q_.2 (Int32.not_lt.mpr c_2)
      refine lv_iconst (v := (nI 0)) hx hcb dX9_isDepartment_19 (by decide) ?_
      exact hret (nI 0) z _ _ _ _ dX9_isDepartment_20 rfl hR hS (⟨by first | (rw [if_pos h_]; first | done | rfl) | (rw [if_neg h_]; first | done | rfl), rfl⟩)
    · skip
      have h_ : inR x (bN z 0 4) := ⟨h0_, Int32.not_le.mp c_2⟩
      refine lv_iconst (v := (nI 1)) hx hcb dX9_isDepartment_15 (by decide) ?_
      refine lv_goto (tgt := 20) hx hcb dX9_isDepartment_16 (by decide) ?_
      exact hret (nI 1) z _ _ _ _ dX9_isDepartment_20 rfl hR hS (⟨by first | (rw [if_pos h_]; first | done | rfl) | (rw [if_neg h_]; first | done | rfl), rfl⟩)
def rm_X9_isClosed : Room := { frames := 0, cells := 0, slots := 0, locals := 0 }
set_option maxRecDepth 100000 in
set_option maxHeartbeats 4000000 in
theorem c_X9_isClosed (l : Launch) (G : xGl) (w : xWd) (K : Nat) (hw : isC K w) (z : xSt) (sz : Nat) (x : Int32) (hB : bOk z 0) : xMi l yX9_isClosed cX9_isClosed 2 (some FieldType.boolean) rm_X9_isClosed G w z sz [.ref (w.2.2 0), .int x] (fun r z1 => r = (if inR x (bN z 0 5) then 1 else 0) ∧ z1 = z) := by
  refine x_mi (by decide) (Nat.le_of_ble_eq_true rfl) ?_
  intro p e s mt args below meth c ls Q hsz X hR hS hl hret
  obtain ⟨hx, hcb, hml, hown, hts, hlk, hK, hZ⟩ := X
  have hl : lv_has ls 2 [(0, .ref (w.2.2 0)), (1, .int x)] := hl
  refine lv_iload_n hx hcb dX9_isClosed_0 rfl (lv_at hl 1 rfl) ?_
  refine lv_if_lt (tgt := 19) hx hcb dX9_isClosed_1 (by decide) (fun c_1 => ?_) (fun c_1 => ?_)
  · skip
    have h_ : ¬ inR x (bN z 0 5) := fun q_ => q_.1 c_1
    refine lv_iconst (v := (nI 0)) hx hcb dX9_isClosed_19 (by decide) ?_
    exact hret (nI 0) z _ _ _ _ dX9_isClosed_20 rfl hR hS (⟨by first | (rw [if_pos h_]; first | done | rfl) | (rw [if_neg h_]; first | done | rfl), rfl⟩)
  · skip
    have h0_ := c_1
    refine lv_iload_n hx hcb dX9_isClosed_4 rfl (lv_at hl 1 rfl) ?_
    refine lv_aload_n hx hcb dX9_isClosed_5 rfl (lv_at hl 0 rfl) ?_
    refine x_getR hx hcb hts hown hK xc9 hR (hw.lo (by decide)) (hw.s0 (by decide) rfl) 0 (by decide) rfl q_376 dX9_isClosed_6 ?_
    refine x_getI hx hcb hts hown hK xc0 hR (hoB hw (by omega)) (hsB hw) 5 (by decide) rfl q_280 dX9_isClosed_9 ?_
    refine x_top (show (z.1 (oB 0) 5) = (nI (bN z 0 5)) from hB.2.2.2.2.1) ?_
    refine lv_icmp_ge (tgt := 19) hx hcb dX9_isClosed_12 (by decide) (fun c_2 => ?_) (fun c_2 => ?_)
    · skip
      have h_ : ¬ inR x (bN z 0 5) := fun q_ => absurd q_.2 (Int32.not_lt.mpr c_2)
      refine lv_iconst (v := (nI 0)) hx hcb dX9_isClosed_19 (by decide) ?_
      exact hret (nI 0) z _ _ _ _ dX9_isClosed_20 rfl hR hS (⟨by first | (rw [if_pos h_]; first | done | rfl) | (rw [if_neg h_]; first | done | rfl), rfl⟩)
    · skip
      have h_ : inR x (bN z 0 5) := ⟨h0_, Int32.not_le.mp c_2⟩
      refine lv_iconst (v := (nI 1)) hx hcb dX9_isClosed_15 (by decide) ?_
      refine lv_goto (tgt := 20) hx hcb dX9_isClosed_16 (by decide) ?_
      exact hret (nI 1) z _ _ _ _ dX9_isClosed_20 rfl hR hS (⟨by first | (rw [if_pos h_]; first | done | rfl) | (rw [if_neg h_]; first | done | rfl), rfl⟩)
def rm_X9_isBudget : Room := { frames := 0, cells := 0, slots := 0, locals := 0 }
set_option maxRecDepth 100000 in
set_option maxHeartbeats 4000000 in
theorem c_X9_isBudget (l : Launch) (G : xGl) (w : xWd) (K : Nat) (hw : isC K w) (z : xSt) (sz : Nat) (x : Int32)  : xMi l yX9_isBudget cX9_isBudget 1 (some FieldType.boolean) rm_X9_isBudget G w z sz [.int x] (fun r z1 => r = (if ¬ x < 0 ∧ x ≤ nI 10000000 then 1 else 0) ∧ z1 = z) := by
  refine x_mi (by decide) (Nat.le_of_ble_eq_true rfl) ?_
  intro p e s mt args below meth c ls Q hsz X hR hS hl hret
  obtain ⟨hx, hcb, hml, hown, hts, hlk, hK, hZ⟩ := X
  have hl : lv_has ls 1 [(0, .int x)] := hl
  refine lv_iload_n hx hcb dX9_isBudget_0 rfl (lv_at hl 0 rfl) ?_
  refine lv_if_lt (tgt := 15) hx hcb dX9_isBudget_1 (by decide) (fun c_1 => ?_) (fun c_1 => ?_)
  · skip
    have h_ : ¬ (¬ x < 0 ∧ x ≤ nI 10000000) := fun q_ => q_.1 c_1
    refine lv_iconst (v := (nI 0)) hx hcb dX9_isBudget_15 (by decide) ?_
    exact hret (nI 0) z _ _ _ _ dX9_isBudget_16 rfl hR hS (⟨by first | (rw [if_pos h_]; first | done | rfl) | (rw [if_neg h_]; first | done | rfl), rfl⟩)
  · skip
    have h0_ := c_1
    refine lv_iload_n hx hcb dX9_isBudget_4 rfl (lv_at hl 0 rfl) ?_
    refine lv_ldcw (v := (nI 10000000)) hx hcb hown (hts _ q_824) dX9_isBudget_5 ?_
    refine lv_icmp_gt (tgt := 15) hx hcb dX9_isBudget_8 (by decide) (fun c_2 => ?_) (fun c_2 => ?_)
    · skip
      have h_ : ¬ (¬ x < 0 ∧ x ≤ nI 10000000) := fun q_ => absurd c_2 (Int32.not_lt.mpr q_.2)
      refine lv_iconst (v := (nI 0)) hx hcb dX9_isBudget_15 (by decide) ?_
      exact hret (nI 0) z _ _ _ _ dX9_isBudget_16 rfl hR hS (⟨by first | (rw [if_pos h_]; first | done | rfl) | (rw [if_neg h_]; first | done | rfl), rfl⟩)
    · skip
      have h_ : ¬ x < 0 ∧ x ≤ nI 10000000 := ⟨h0_, Int32.not_lt.mp c_2⟩
      refine lv_iconst (v := (nI 1)) hx hcb dX9_isBudget_11 (by decide) ?_
      refine lv_goto (tgt := 16) hx hcb dX9_isBudget_12 (by decide) ?_
      exact hret (nI 1) z _ _ _ _ dX9_isBudget_16 rfl hR hS (⟨by first | (rw [if_pos h_]; first | done | rfl) | (rw [if_neg h_]; first | done | rfl), rfl⟩)
def rm_X9_isSetting : Room := { frames := 0, cells := 0, slots := 0, locals := 0 }
set_option maxRecDepth 100000 in
set_option maxHeartbeats 4000000 in
theorem c_X9_isSetting (l : Launch) (G : xGl) (w : xWd) (K : Nat) (hw : isC K w) (z : xSt) (sz : Nat) (x : Int32)  : xMi l yX9_isSetting cX9_isSetting 1 (some FieldType.boolean) rm_X9_isSetting G w z sz [.int x] (fun r z1 => r = (if inR x 5 then 1 else 0) ∧ z1 = z) := by
  refine x_mi (by decide) (Nat.le_of_ble_eq_true rfl) ?_
  intro p e s mt args below meth c ls Q hsz X hR hS hl hret
  obtain ⟨hx, hcb, hml, hown, hts, hlk, hK, hZ⟩ := X
  have hl : lv_has ls 1 [(0, .int x)] := hl
  refine lv_iload_n hx hcb dX9_isSetting_0 rfl (lv_at hl 0 rfl) ?_
  refine lv_if_lt (tgt := 13) hx hcb dX9_isSetting_1 (by decide) (fun c_1 => ?_) (fun c_1 => ?_)
  · skip
    have h_ : ¬ inR x 5 := fun q_ => q_.1 c_1
    refine lv_iconst (v := (nI 0)) hx hcb dX9_isSetting_13 (by decide) ?_
    exact hret (nI 0) z _ _ _ _ dX9_isSetting_14 rfl hR hS (⟨by first | (rw [if_pos h_]; first | done | rfl) | (rw [if_neg h_]; first | done | rfl), rfl⟩)
  · skip
    have h0_ := c_1
    refine lv_iload_n hx hcb dX9_isSetting_4 rfl (lv_at hl 0 rfl) ?_
    refine lv_iconst (v := (nI 5)) hx hcb dX9_isSetting_5 (by decide) ?_
    refine lv_icmp_ge (tgt := 13) hx hcb dX9_isSetting_6 (by decide) (fun c_2 => ?_) (fun c_2 => ?_)
    · skip
      have h_ : ¬ inR x 5 := fun q_ => absurd q_.2 (Int32.not_lt.mpr c_2)
      refine lv_iconst (v := (nI 0)) hx hcb dX9_isSetting_13 (by decide) ?_
      exact hret (nI 0) z _ _ _ _ dX9_isSetting_14 rfl hR hS (⟨by first | (rw [if_pos h_]; first | done | rfl) | (rw [if_neg h_]; first | done | rfl), rfl⟩)
    · skip
      have h_ : inR x 5 := ⟨h0_, Int32.not_le.mp c_2⟩
      refine lv_iconst (v := (nI 1)) hx hcb dX9_isSetting_9 (by decide) ?_
      refine lv_goto (tgt := 14) hx hcb dX9_isSetting_10 (by decide) ?_
      exact hret (nI 1) z _ _ _ _ dX9_isSetting_14 rfl hR hS (⟨by first | (rw [if_pos h_]; first | done | rfl) | (rw [if_neg h_]; first | done | rfl), rfl⟩)
def rm_X9_isInRange : Room := { frames := 0, cells := 0, slots := 0, locals := 0 }
set_option maxRecDepth 100000 in
set_option maxHeartbeats 4000000 in
theorem c_X9_isInRange (l : Launch) (G : xGl) (w : xWd) (K : Nat) (hw : isC K w) (z : xSt) (sz : Nat) (k : Nat) (v : Int32) (hk : k < 5) : xMi l yX9_isInRange cX9_isInRange 2 (some FieldType.boolean) rm_X9_isInRange G w z sz [.int (nI k), .int v] (fun r z1 => r = (if xLea k ≤ v ∧ v ≤ xGre k then 1 else 0) ∧ z1 = z) := by
  refine x_mi (by decide) (Nat.le_of_ble_eq_true rfl) ?_
  intro p e s mt args below meth c ls Q hsz X hR hS hl hret
  obtain ⟨hx, hcb, hml, hown, hts, hlk, hK, hZ⟩ := X
  have hl : lv_has ls 2 [(0, .int (nI k)), (1, .int v)] := hl
  refine lv_iload_n hx hcb dX9_isInRange_0 rfl (lv_at hl 1 rfl) ?_
  obtain ⟨tLea_, hzLea_, htLea_⟩ := hZ.2.1.2.1
  refine va_gets hx hcb hzLea_ hS hown (hts _ q_883) (fun _ h_ => h_) dX9_isInRange_1 ?_
  refine lv_iload_n hx hcb dX9_isInRange_4 rfl (lv_at hl 0 rfl) ?_
  refine x_ti hx hcb htLea_ hS (k := k) (by omega) (by decide) dX9_isInRange_5 ?_
  refine lv_icmp_lt (tgt := 22) hx hcb dX9_isInRange_6 (by decide) (fun c_1 => ?_) (fun c_1 => ?_)
  · skip
    have h_ : ¬ (xLea k ≤ v ∧ v ≤ xGre k) := fun q_ => absurd c_1 (Int32.not_lt.mpr q_.1)
    refine lv_iconst (v := (nI 0)) hx hcb dX9_isInRange_22 (by decide) ?_
    exact hret (nI 0) z _ _ _ _ dX9_isInRange_23 rfl hR hS (⟨by first | (rw [if_pos h_]; first | done | rfl) | (rw [if_neg h_]; first | done | rfl), rfl⟩)
  · skip
    have h0_ := c_1
    refine lv_iload_n hx hcb dX9_isInRange_9 rfl (lv_at hl 1 rfl) ?_
    obtain ⟨tGre_, hzGre_, htGre_⟩ := hZ.2.1.2.2
    refine va_gets hx hcb hzGre_ hS hown (hts _ q_884) (fun _ h_ => h_) dX9_isInRange_10 ?_
    refine lv_iload_n hx hcb dX9_isInRange_13 rfl (lv_at hl 0 rfl) ?_
    refine x_ti hx hcb htGre_ hS (k := k) (by omega) (by decide) dX9_isInRange_14 ?_
    refine lv_icmp_gt (tgt := 22) hx hcb dX9_isInRange_15 (by decide) (fun c_2 => ?_) (fun c_2 => ?_)
    · skip
      have h_ : ¬ (xLea k ≤ v ∧ v ≤ xGre k) := fun q_ => absurd c_2 (Int32.not_lt.mpr q_.2)
      refine lv_iconst (v := (nI 0)) hx hcb dX9_isInRange_22 (by decide) ?_
      exact hret (nI 0) z _ _ _ _ dX9_isInRange_23 rfl hR hS (⟨by first | (rw [if_pos h_]; first | done | rfl) | (rw [if_neg h_]; first | done | rfl), rfl⟩)
    · skip
      have h_ : xLea k ≤ v ∧ v ≤ xGre k := ⟨Int32.not_lt.mp h0_, Int32.not_lt.mp c_2⟩
      refine lv_iconst (v := (nI 1)) hx hcb dX9_isInRange_18 (by decide) ?_
      refine lv_goto (tgt := 23) hx hcb dX9_isInRange_19 (by decide) ?_
      exact hret (nI 1) z _ _ _ _ dX9_isInRange_23 rfl hR hS (⟨by first | (rw [if_pos h_]; first | done | rfl) | (rw [if_neg h_]; first | done | rfl), rfl⟩)
def rm_X9_errorPosition : Room := { frames := 0, cells := 0, slots := 0, locals := 0 }
set_option maxRecDepth 100000 in
set_option maxHeartbeats 4000000 in
theorem c_X9_errorPosition (l : Launch) (G : xGl) (w : xWd) (K : Nat) (hw : isC K w) (z : xSt) (sz : Nat)   : xMi l yX9_errorPosition cX9_errorPosition 1 (some FieldType.int) rm_X9_errorPosition G w z sz [.ref (w.2.2 0)] (fun r z1 => r = z.1 0 8 ∧ z1 = z) := by
  refine x_mi (by decide) (Nat.le_of_ble_eq_true rfl) ?_
  intro p e s mt args below meth c ls Q hsz X hR hS hl hret
  obtain ⟨hx, hcb, hml, hown, hts, hlk, hK, hZ⟩ := X
  have hl : lv_has ls 1 [(0, .ref (w.2.2 0))] := hl
  refine lv_aload_n hx hcb dX9_errorPosition_0 rfl (lv_at hl 0 rfl) ?_
  refine x_getI hx hcb hts hown hK xc9 hR (hw.lo (by decide)) (hw.s0 (by decide) rfl) 8 (by decide) rfl q_384 dX9_errorPosition_1 ?_
  exact hret (z.1 0 8) z _ _ _ _ dX9_errorPosition_4 rfl hR hS (⟨rfl, rfl⟩)
def rm_X9_memberCount : Room := { frames := 0, cells := 0, slots := 0, locals := 0 }
set_option maxRecDepth 100000 in
set_option maxHeartbeats 4000000 in
theorem c_X9_memberCount (l : Launch) (G : xGl) (w : xWd) (K : Nat) (hw : isC K w) (z : xSt) (sz : Nat)   : xMi l yX9_memberCount cX9_memberCount 1 (some FieldType.int) rm_X9_memberCount G w z sz [.ref (w.2.2 0)] (fun r z1 => r = z.1 (oB 0) 3 ∧ z1 = z) := by
  refine x_mi (by decide) (Nat.le_of_ble_eq_true rfl) ?_
  intro p e s mt args below meth c ls Q hsz X hR hS hl hret
  obtain ⟨hx, hcb, hml, hown, hts, hlk, hK, hZ⟩ := X
  have hl : lv_has ls 1 [(0, .ref (w.2.2 0))] := hl
  refine lv_aload_n hx hcb dX9_memberCount_0 rfl (lv_at hl 0 rfl) ?_
  refine x_getR hx hcb hts hown hK xc9 hR (hw.lo (by decide)) (hw.s0 (by decide) rfl) 0 (by decide) rfl q_376 dX9_memberCount_1 ?_
  refine x_getI hx hcb hts hown hK xc0 hR (hoB hw (by omega)) (hsB hw) 3 (by decide) rfl q_271 dX9_memberCount_4 ?_
  exact hret (z.1 (oB 0) 3) z _ _ _ _ dX9_memberCount_7 rfl hR hS (⟨rfl, rfl⟩)
def rm_X9_departmentCount : Room := { frames := 0, cells := 0, slots := 0, locals := 0 }
set_option maxRecDepth 100000 in
set_option maxHeartbeats 4000000 in
theorem c_X9_departmentCount (l : Launch) (G : xGl) (w : xWd) (K : Nat) (hw : isC K w) (z : xSt) (sz : Nat)   : xMi l yX9_departmentCount cX9_departmentCount 1 (some FieldType.int) rm_X9_departmentCount G w z sz [.ref (w.2.2 0)] (fun r z1 => r = z.1 (oB 0) 4 ∧ z1 = z) := by
  refine x_mi (by decide) (Nat.le_of_ble_eq_true rfl) ?_
  intro p e s mt args below meth c ls Q hsz X hR hS hl hret
  obtain ⟨hx, hcb, hml, hown, hts, hlk, hK, hZ⟩ := X
  have hl : lv_has ls 1 [(0, .ref (w.2.2 0))] := hl
  refine lv_aload_n hx hcb dX9_departmentCount_0 rfl (lv_at hl 0 rfl) ?_
  refine x_getR hx hcb hts hown hK xc9 hR (hw.lo (by decide)) (hw.s0 (by decide) rfl) 0 (by decide) rfl q_376 dX9_departmentCount_1 ?_
  refine x_getI hx hcb hts hown hK xc0 hR (hoB hw (by omega)) (hsB hw) 4 (by decide) rfl q_276 dX9_departmentCount_4 ?_
  exact hret (z.1 (oB 0) 4) z _ _ _ _ dX9_departmentCount_7 rfl hR hS (⟨rfl, rfl⟩)
def rm_X9_year : Room := { frames := 0, cells := 0, slots := 0, locals := 0 }
set_option maxRecDepth 100000 in
set_option maxHeartbeats 4000000 in
theorem c_X9_year (l : Launch) (G : xGl) (w : xWd) (K : Nat) (hw : isC K w) (z : xSt) (sz : Nat)   : xMi l yX9_year cX9_year 1 (some FieldType.int) rm_X9_year G w z sz [.ref (w.2.2 0)] (fun r z1 => r = z.1 (oB 0) 5 ∧ z1 = z) := by
  refine x_mi (by decide) (Nat.le_of_ble_eq_true rfl) ?_
  intro p e s mt args below meth c ls Q hsz X hR hS hl hret
  obtain ⟨hx, hcb, hml, hown, hts, hlk, hK, hZ⟩ := X
  have hl : lv_has ls 1 [(0, .ref (w.2.2 0))] := hl
  refine lv_aload_n hx hcb dX9_year_0 rfl (lv_at hl 0 rfl) ?_
  refine x_getR hx hcb hts hown hK xc9 hR (hw.lo (by decide)) (hw.s0 (by decide) rfl) 0 (by decide) rfl q_376 dX9_year_1 ?_
  refine x_getI hx hcb hts hown hK xc0 hR (hoB hw (by omega)) (hsB hw) 5 (by decide) rfl q_280 dX9_year_4 ?_
  exact hret (z.1 (oB 0) 5) z _ _ _ _ dX9_year_7 rfl hR hS (⟨rfl, rfl⟩)
def rm_X9_reserve : Room := { frames := 0, cells := 0, slots := 0, locals := 0 }
set_option maxRecDepth 100000 in
set_option maxHeartbeats 4000000 in
theorem c_X9_reserve (l : Launch) (G : xGl) (w : xWd) (K : Nat) (hw : isC K w) (z : xSt) (sz : Nat)   : xMi l yX9_reserve cX9_reserve 1 (some FieldType.int) rm_X9_reserve G w z sz [.ref (w.2.2 0)] (fun r z1 => r = z.1 (oB 0) 6 ∧ z1 = z) := by
  refine x_mi (by decide) (Nat.le_of_ble_eq_true rfl) ?_
  intro p e s mt args below meth c ls Q hsz X hR hS hl hret
  obtain ⟨hx, hcb, hml, hown, hts, hlk, hK, hZ⟩ := X
  have hl : lv_has ls 1 [(0, .ref (w.2.2 0))] := hl
  refine lv_aload_n hx hcb dX9_reserve_0 rfl (lv_at hl 0 rfl) ?_
  refine x_getR hx hcb hts hown hK xc9 hR (hw.lo (by decide)) (hw.s0 (by decide) rfl) 0 (by decide) rfl q_376 dX9_reserve_1 ?_
  refine x_getI hx hcb hts hown hK xc0 hR (hoB hw (by omega)) (hsB hw) 6 (by decide) rfl q_283 dX9_reserve_4 ?_
  exact hret (z.1 (oB 0) 6) z _ _ _ _ dX9_reserve_7 rfl hR hS (⟨rfl, rfl⟩)
def rm_X9_undoCount : Room := { frames := 0, cells := 0, slots := 0, locals := 0 }
set_option maxRecDepth 100000 in
set_option maxHeartbeats 4000000 in
theorem c_X9_undoCount (l : Launch) (G : xGl) (w : xWd) (K : Nat) (hw : isC K w) (z : xSt) (sz : Nat)   : xMi l yX9_undoCount cX9_undoCount 1 (some FieldType.int) rm_X9_undoCount G w z sz [.ref (w.2.2 0)] (fun r z1 => r = z.1 2 2 ∧ z1 = z) := by
  refine x_mi (by decide) (Nat.le_of_ble_eq_true rfl) ?_
  intro p e s mt args below meth c ls Q hsz X hR hS hl hret
  obtain ⟨hx, hcb, hml, hown, hts, hlk, hK, hZ⟩ := X
  have hl : lv_has ls 1 [(0, .ref (w.2.2 0))] := hl
  refine lv_aload_n hx hcb dX9_undoCount_0 rfl (lv_at hl 0 rfl) ?_
  refine x_getR hx hcb hts hown hK xc9 hR (hw.lo (by decide)) (hw.s0 (by decide) rfl) 3 (by decide) rfl q_379 dX9_undoCount_1 ?_
  refine x_getN hx hcb hts hown hK xc3 hR (hw.lo (by decide)) (hw.s0 (by decide) rfl) 2 (by decide) rfl (hZ.1.1 _ (List.mem_of_getElem? (i := 9) rfl)) dX9_undoCount_4 ?_
  exact hret (z.1 2 2) z _ _ _ _ dX9_undoCount_7 rfl hR hS (⟨rfl, rfl⟩)
def rm_X9_memberNamed : Room := { frames := 1, cells := 0, slots := 0, locals := 22 }
set_option maxRecDepth 100000 in
set_option maxHeartbeats 4000000 in
theorem c_X9_memberNamed (l : Launch) (G : xGl) (w : xWd) (K : Nat) (hw : isC K w) (z : xSt) (sz : Nat) (nm : Int32) (hB : bOk z 0) : xMi l yX9_memberNamed cX9_memberNamed 2 (some FieldType.int) rm_X9_memberNamed G w z sz [.ref (w.2.2 0), .int nm] (fun r z1 => r = fM z 0 nm ∧ z1 = z) := by
  refine x_mi (by decide) (Nat.le_of_ble_eq_true rfl) ?_
  intro p e s mt args below meth c ls Q hsz X hR hS hl hret
  obtain ⟨hx, hcb, hml, hown, hts, hlk, hK, hZ⟩ := X
  have hl : lv_has ls 2 [(0, .ref (w.2.2 0)), (1, .int nm)] := hl
  refine lv_aload_n hx hcb dX9_memberNamed_0 rfl (lv_at hl 0 rfl) ?_
  refine x_getR hx hcb hts hown hK xc9 hR (hw.lo (by decide)) (hw.s0 (by decide) rfl) 0 (by decide) rfl q_376 dX9_memberNamed_1 ?_
  refine lv_iload_n hx hcb dX9_memberNamed_4 rfl (lv_at hl 1 rfl) ?_
  refine x_ci0 rfl rfl (x_runV hx hcb hml hown hts (c_X0_findMember l G w K hw z _ 0 (by omega) nm (bN z 0 3) hB.1 hB.2.1) mv_X0_findMember q_692 hK hZ hR hS (hoB hw (by omega)) xc0 (hsB hw) rfl hl.1 rfl (Nat.le_of_ble_eq_true rfl) dX9_memberNamed_5 ⟨by decide, by decide⟩ ⟨by decide, by decide⟩) hS (fun r_1 z_2 H locs hp_3 hR hS => ?_)
  rw [hp_3.2] at hR; rw [hp_3.1]
  exact hret (xff (fun m => decide (z.1 (oM 0 m) 0 = nm)) (bN z 0 3) 0) z _ _ _ _ dX9_memberNamed_8 rfl hR hS (⟨rfl, rfl⟩)
def rm_X9_departmentNamed : Room := { frames := 1, cells := 0, slots := 0, locals := 22 }
set_option maxRecDepth 100000 in
set_option maxHeartbeats 4000000 in
theorem c_X9_departmentNamed (l : Launch) (G : xGl) (w : xWd) (K : Nat) (hw : isC K w) (z : xSt) (sz : Nat) (nm : Int32) (hB : bOk z 0) : xMi l yX9_departmentNamed cX9_departmentNamed 2 (some FieldType.int) rm_X9_departmentNamed G w z sz [.ref (w.2.2 0), .int nm] (fun r z1 => r = fD z 0 nm ∧ z1 = z) := by
  refine x_mi (by decide) (Nat.le_of_ble_eq_true rfl) ?_
  intro p e s mt args below meth c ls Q hsz X hR hS hl hret
  obtain ⟨hx, hcb, hml, hown, hts, hlk, hK, hZ⟩ := X
  have hl : lv_has ls 2 [(0, .ref (w.2.2 0)), (1, .int nm)] := hl
  refine lv_aload_n hx hcb dX9_departmentNamed_0 rfl (lv_at hl 0 rfl) ?_
  refine x_getR hx hcb hts hown hK xc9 hR (hw.lo (by decide)) (hw.s0 (by decide) rfl) 0 (by decide) rfl q_376 dX9_departmentNamed_1 ?_
  refine lv_iload_n hx hcb dX9_departmentNamed_4 rfl (lv_at hl 1 rfl) ?_
  refine x_ci0 rfl rfl (x_runV hx hcb hml hown hts (c_X0_findDepartment l G w K hw z _ 0 (by omega) nm (bN z 0 4) hB.2.2.1 hB.2.2.2.1) mv_X0_findDepartment q_697 hK hZ hR hS (hoB hw (by omega)) xc0 (hsB hw) rfl hl.1 rfl (Nat.le_of_ble_eq_true rfl) dX9_departmentNamed_5 ⟨by decide, by decide⟩ ⟨by decide, by decide⟩) hS (fun r_1 z_2 H locs hp_3 hR hS => ?_)
  rw [hp_3.2] at hR; rw [hp_3.1]
  exact hret (xff (fun m => decide (z.1 (oD 0 m) 0 = nm)) (bN z 0 4) 0) z _ _ _ _ dX9_departmentNamed_8 rfl hR hS (⟨rfl, rfl⟩)
def rm_X9_getSetting : Room := { frames := 1, cells := 0, slots := 0, locals := 20 }
set_option maxRecDepth 100000 in
set_option maxHeartbeats 4000000 in
theorem c_X9_getSetting (l : Launch) (G : xGl) (w : xWd) (K : Nat) (hw : isC K w) (z : xSt) (sz : Nat) (x : Int32)  : xMi l yX9_getSetting cX9_getSetting 2 (some FieldType.int) rm_X9_getSetting G w z sz [.ref (w.2.2 0), .int x] (fun r z1 => r = (if inR x 5 then z.1 (oSt 0) x.toNatClampNeg else (-2)) ∧ z1 = z) := by
  refine x_mi (by decide) (Nat.le_of_ble_eq_true rfl) ?_
  intro p e s mt args below meth c ls Q hsz X hR hS hl hret
  obtain ⟨hx, hcb, hml, hown, hts, hlk, hK, hZ⟩ := X
  have hl : lv_has ls 2 [(0, .ref (w.2.2 0)), (1, .int x)] := hl
  refine lv_iload_n hx hcb dX9_getSetting_0 rfl (lv_at hl 1 rfl) ?_
  refine x_ci0 rfl rfl (x_runS hx hcb hml hown hts (c_X9_isSetting l G w K hw z _ x) ms_X9_isSetting q_702 hK hZ hR hS rfl hl.1 rfl (Nat.le_of_ble_eq_true rfl) dX9_getSetting_1 ⟨by decide, by decide⟩ ⟨by decide, by decide⟩) hS (fun r_1 z_2 H locs hp_3 hR hS => ?_)
  rw [hp_3.2] at hR; rw [hp_3.1]
  refine lv_if_eq (tgt := 19) hx hcb dX9_getSetting_4 (by decide) (fun c_4 => ?_) (fun c_4 => ?_)
  · skip
    have h_ : ¬ (inR x 5) := fun q_ => absurd c_4 (by rw [if_pos q_]; decide)
    refine lv_bipush (v := (-2)) hx hcb dX9_getSetting_19 (by decide) ?_
    exact hret (-2) z _ _ _ _ dX9_getSetting_21 rfl hR hS (⟨by first | (rw [if_pos h_, ← ek_]; done) | (rw [if_neg h_]; done), rfl⟩)
  · skip
    have h_ : inR x 5 := Classical.byContradiction (fun q_ => c_4 (if_neg q_))
    have hxk_ := inR_k (n := 5) (by omega) h_
    obtain ⟨k_, ek_⟩ : ∃ q_, q_ = x.toNatClampNeg := ⟨_, rfl⟩
    rw [← ek_] at hxk_
    have hltk_ := hxk_.2
    rw [hxk_.1] at hl
    refine lv_aload_n hx hcb dX9_getSetting_7 rfl (lv_at hl 0 rfl) ?_
    refine x_getR hx hcb hts hown hK xc9 hR (hw.lo (by decide)) (hw.s0 (by decide) rfl) 0 (by decide) rfl q_376 dX9_getSetting_8 ?_
    refine x_getR hx hcb hts hown hK xc0 hR (hoB hw (by omega)) (hsB hw) 2 (by decide) rfl q_267 dX9_getSetting_11 ?_
    refine lv_iload_n hx hcb dX9_getSetting_14 rfl (lv_at hl 1 rfl) ?_
    refine x_iald hx hcb hK hR (hoSt hw (by omega)) (hsSt hw) (k := k_) (by omega) (by decide) dX9_getSetting_15 ?_
    refine lv_goto (tgt := 21) hx hcb dX9_getSetting_16 (by decide) ?_
    exact hret (z.1 (oSt 0) k_) z _ _ _ _ dX9_getSetting_21 rfl hR hS (⟨by first | (rw [if_pos h_, ← ek_]; done) | (rw [if_neg h_]; done), rfl⟩)
def rm_X9_totalEquity : Room := { frames := 2, cells := 0, slots := 0, locals := 44 }
set_option maxRecDepth 100000 in
set_option maxHeartbeats 4000000 in
theorem c_X9_totalEquity (l : Launch) (G : xGl) (w : xWd) (K : Nat) (hw : isC K w) (z : xSt) (sz : Nat)  (hB : bOk z 0) : xMi l yX9_totalEquity cX9_totalEquity 1 (some FieldType.int) rm_X9_totalEquity G w z sz [.ref (w.2.2 0)] (fun r z1 => r = bx_sum (fun m => bx_sum (z.1 (oLf 0 m)) 25) (bN z 0 3) ∧ z1 = z) := by
  refine x_mi (by decide) (Nat.le_of_ble_eq_true rfl) ?_
  intro p e s mt args below meth c ls Q hsz X hR hS hl hret
  obtain ⟨hx, hcb, hml, hown, hts, hlk, hK, hZ⟩ := X
  have hl : lv_has ls 1 [(0, .ref (w.2.2 0))] := hl
  refine lv_aload_n hx hcb dX9_totalEquity_0 rfl (lv_at hl 0 rfl) ?_
  refine x_getR hx hcb hts hown hK xc9 hR (hw.lo (by decide)) (hw.s0 (by decide) rfl) 0 (by decide) rfl q_376 dX9_totalEquity_1 ?_
  refine x_ci0 rfl rfl (x_runV hx hcb hml hown hts (c_X0_equityOfAll l G w K hw z _ 0 (by omega) (bN z 0 3) hB.1 hB.2.1) mv_X0_equityOfAll q_709 hK hZ hR hS (hoB hw (by omega)) xc0 (hsB hw) rfl hl.1 rfl (Nat.le_of_ble_eq_true rfl) dX9_totalEquity_4 ⟨by decide, by decide⟩ ⟨by decide, by decide⟩) hS (fun r_1 z_2 H locs hp_3 hR hS => ?_)
  rw [hp_3.2] at hR; rw [hp_3.1]
  exact hret (bx_sum (fun m => bx_sum (z.1 (oLf 0 m)) 25) (bN z 0 3)) z _ _ _ _ dX9_totalEquity_7 rfl hR hS (⟨rfl, rfl⟩)
def rm_X9_redeemable : Room := { frames := 2, cells := 0, slots := 0, locals := 46 }
set_option maxRecDepth 100000 in
set_option maxHeartbeats 4000000 in
theorem c_X9_redeemable (l : Launch) (G : xGl) (w : xWd) (K : Nat) (hw : isC K w) (z : xSt) (sz : Nat)  (hB : bOk z 0) : xMi l yX9_redeemable cX9_redeemable 1 (some FieldType.int) rm_X9_redeemable G w z sz [.ref (w.2.2 0)] (fun r z1 => r = rTh z 0 (bN z 0 3) 25 ∧ z1 = z) := by
  refine x_mi (by decide) (Nat.le_of_ble_eq_true rfl) ?_
  intro p e s mt args below meth c ls Q hsz X hR hS hl hret
  obtain ⟨hx, hcb, hml, hown, hts, hlk, hK, hZ⟩ := X
  have hl : lv_has ls 1 [(0, .ref (w.2.2 0))] := hl
  refine lv_aload_n hx hcb dX9_redeemable_0 rfl (lv_at hl 0 rfl) ?_
  refine x_getR hx hcb hts hown hK xc9 hR (hw.lo (by decide)) (hw.s0 (by decide) rfl) 0 (by decide) rfl q_376 dX9_redeemable_1 ?_
  refine lv_bipush (v := (nI 24)) hx hcb dX9_redeemable_4 (by decide) ?_
  refine x_ci0 rfl rfl (x_runV hx hcb hml hown hts (c_X0_redeemableThrough l G w K hw z _ 0 (by omega) 24 (bN z 0 3) hB.1 hB.2.1 (by omega)) mv_X0_redeemableThrough q_736 hK hZ hR hS (hoB hw (by omega)) xc0 (hsB hw) rfl hl.1 rfl (Nat.le_of_ble_eq_true rfl) dX9_redeemable_6 ⟨by decide, by decide⟩ ⟨by decide, by decide⟩) hS (fun r_1 z_2 H locs hp_3 hR hS => ?_)
  rw [hp_3.2] at hR; rw [hp_3.1]
  exact hret (rTh z 0 (bN z 0 3) (24 + 1)) z _ _ _ _ dX9_redeemable_9 rfl hR hS (⟨rfl, rfl⟩)
def rm_X9_budgetThrough : Room := { frames := 2, cells := 0, slots := 0, locals := 46 }
set_option maxRecDepth 100000 in
set_option maxHeartbeats 4000000 in
theorem c_X9_budgetThrough (l : Launch) (G : xGl) (w : xWd) (K : Nat) (hw : isC K w) (z : xSt) (sz : Nat) (x : Int32) (hB : bOk z 0) : xMi l yX9_budgetThrough cX9_budgetThrough 2 (some FieldType.int) rm_X9_budgetThrough G w z sz [.ref (w.2.2 0), .int x] (fun r z1 => r = (if inR x (bN z 0 5) then rTh z 0 (bN z 0 3) (x.toNatClampNeg + 1) else (-2)) ∧ z1 = z) := by
  refine x_mi (by decide) (Nat.le_of_ble_eq_true rfl) ?_
  intro p e s mt args below meth c ls Q hsz X hR hS hl hret
  obtain ⟨hx, hcb, hml, hown, hts, hlk, hK, hZ⟩ := X
  have hl : lv_has ls 2 [(0, .ref (w.2.2 0)), (1, .int x)] := hl
  have hb3_ := hB.2.1
  have hb4_ := hB.2.2.2.1
  have hb5_ := hB.2.2.2.2.2
  refine lv_aload_n hx hcb dX9_budgetThrough_0 rfl (lv_at hl 0 rfl) ?_
  refine lv_iload_n hx hcb dX9_budgetThrough_1 rfl (lv_at hl 1 rfl) ?_
  refine x_ci0 rfl rfl (x_runV hx hcb hml hown hts (c_X9_isClosed l G w K hw z _ x hB) mv_X9_isClosed q_748 hK hZ hR hS (hw.lo (by decide)) xc9 (hw.s0 (by decide) rfl) rfl hl.1 rfl (Nat.le_of_ble_eq_true rfl) dX9_budgetThrough_2 ⟨by decide, by decide⟩ ⟨by decide, by decide⟩) hS (fun r_1 z_2 H locs hp_3 hR hS => ?_)
  rw [hp_3.2] at hR; rw [hp_3.1]
  refine lv_if_eq (tgt := 19) hx hcb dX9_budgetThrough_5 (by decide) (fun c_4 => ?_) (fun c_4 => ?_)
  · skip
    have h_ : ¬ (inR x (bN z 0 5)) := fun q_ => absurd c_4 (by rw [if_pos q_]; decide)
    refine lv_bipush (v := (-2)) hx hcb dX9_budgetThrough_19 (by decide) ?_
    exact hret (-2) z _ _ _ _ dX9_budgetThrough_21 rfl hR hS (⟨by first | (rw [if_pos h_, ← ek_]; done) | (rw [if_neg h_]; done), rfl⟩)
  · skip
    have h_ : inR x (bN z 0 5) := Classical.byContradiction (fun q_ => c_4 (if_neg q_))
    have hxk_ := inR_k (n := bN z 0 5) (by omega) h_
    obtain ⟨k_, ek_⟩ : ∃ q_, q_ = x.toNatClampNeg := ⟨_, rfl⟩
    rw [← ek_] at hxk_
    have hltk_ := hxk_.2
    rw [hxk_.1] at hl
    refine lv_aload_n hx hcb dX9_budgetThrough_8 rfl (lv_at hl 0 rfl) ?_
    refine x_getR hx hcb hts hown hK xc9 hR (hw.lo (by decide)) (hw.s0 (by decide) rfl) 0 (by decide) rfl q_376 dX9_budgetThrough_9 ?_
    refine lv_iload_n hx hcb dX9_budgetThrough_12 rfl (lv_at hl 1 rfl) ?_
    refine x_ci0 rfl rfl (x_runV hx hcb hml hown hts (c_X0_redeemableThrough l G w K hw z _ 0 (by omega) k_ (bN z 0 3) hB.1 hB.2.1 (by omega)) mv_X0_redeemableThrough q_736 hK hZ hR hS (hoB hw (by omega)) xc0 (hsB hw) rfl hl.1 rfl (Nat.le_of_ble_eq_true rfl) dX9_budgetThrough_13 ⟨by decide, by decide⟩ ⟨by decide, by decide⟩) hS (fun r_5 z_6 H locs hp_7 hR hS => ?_)
    rw [hp_7.2] at hR; rw [hp_7.1]
    refine lv_goto (tgt := 21) hx hcb dX9_budgetThrough_16 (by decide) ?_
    exact hret (rTh z 0 (bN z 0 3) (k_ + 1)) z _ _ _ _ dX9_budgetThrough_21 rfl hR hS (⟨by first | (rw [if_pos h_, ← ek_]; done) | (rw [if_neg h_]; done), rfl⟩)
def rm_X9_balance : Room := { frames := 1, cells := 0, slots := 0, locals := 23 }
set_option maxRecDepth 100000 in
set_option maxHeartbeats 4000000 in
theorem c_X9_balance (l : Launch) (G : xGl) (w : xWd) (K : Nat) (hw : isC K w) (z : xSt) (sz : Nat)  (hB : bOk z 0) : xMi l yX9_balance cX9_balance 1 (some FieldType.int) rm_X9_balance G w z sz [.ref (w.2.2 0)] (fun r z1 => r = z.1 (oB 0) 7 - z.1 (oB 0) 8 - bx_sum (fun m => z.1 (oPd 0 m) 0) (bN z 0 3) - bx_sum (fun m => z.1 (oPd 0 m) 1) (bN z 0 3) - bx_sum (fun m => z.1 (oPd 0 m) 2) (bN z 0 3) ∧ z1 = z) := by
  refine x_mi (by decide) (Nat.le_of_ble_eq_true rfl) ?_
  intro p e s mt args below meth c ls Q hsz X hR hS hl hret
  obtain ⟨hx, hcb, hml, hown, hts, hlk, hK, hZ⟩ := X
  have hl : lv_has ls 1 [(0, .ref (w.2.2 0))] := hl
  refine lv_aload_n hx hcb dX9_balance_0 rfl (lv_at hl 0 rfl) ?_
  refine x_getR hx hcb hts hown hK xc9 hR (hw.lo (by decide)) (hw.s0 (by decide) rfl) 0 (by decide) rfl q_376 dX9_balance_1 ?_
  refine x_getI hx hcb hts hown hK xc0 hR (hoB hw (by omega)) (hsB hw) 7 (by decide) rfl q_286 dX9_balance_4 ?_
  refine lv_aload_n hx hcb dX9_balance_7 rfl (lv_at hl 0 rfl) ?_
  refine x_getR hx hcb hts hown hK xc9 hR (hw.lo (by decide)) (hw.s0 (by decide) rfl) 0 (by decide) rfl q_376 dX9_balance_8 ?_
  refine x_getI hx hcb hts hown hK xc0 hR (hoB hw (by omega)) (hsB hw) 8 (by decide) rfl q_289 dX9_balance_11 ?_
  refine lv_isub hx hcb dX9_balance_14 ?_
  refine lv_aload_n hx hcb dX9_balance_15 rfl (lv_at hl 0 rfl) ?_
  refine x_getR hx hcb hts hown hK xc9 hR (hw.lo (by decide)) (hw.s0 (by decide) rfl) 0 (by decide) rfl q_376 dX9_balance_16 ?_
  refine lv_iconst (v := (nI 0)) hx hcb dX9_balance_19 (by decide) ?_
  refine x_ci0 rfl rfl (x_runV hx hcb hml hown hts (c_X0_paidInAll l G w K hw z _ 0 (by omega) 0 (bN z 0 3) hB.1 hB.2.1 (by omega)) mv_X0_paidInAll q_756 hK hZ hR hS (hoB hw (by omega)) xc0 (hsB hw) rfl hl.1 rfl (Nat.le_of_ble_eq_true rfl) dX9_balance_20 ⟨by decide, by decide⟩ ⟨by decide, by decide⟩) hS (fun r_1 z_2 H locs hp_3 hR hS => ?_)
  rw [hp_3.2] at hR; rw [hp_3.1]
  refine lv_isub hx hcb dX9_balance_23 ?_
  refine lv_aload_n hx hcb dX9_balance_24 rfl (lv_at hl 0 rfl) ?_
  refine x_getR hx hcb hts hown hK xc9 hR (hw.lo (by decide)) (hw.s0 (by decide) rfl) 0 (by decide) rfl q_376 dX9_balance_25 ?_
  refine lv_iconst (v := (nI 1)) hx hcb dX9_balance_28 (by decide) ?_
  refine x_ci0 rfl rfl (x_runV hx hcb hml hown hts (c_X0_paidInAll l G w K hw z _ 0 (by omega) 1 (bN z 0 3) hB.1 hB.2.1 (by omega)) mv_X0_paidInAll q_756 hK hZ hR hS (hoB hw (by omega)) xc0 (hsB hw) rfl hl.1 rfl (Nat.le_of_ble_eq_true rfl) dX9_balance_29 ⟨by decide, by decide⟩ ⟨by decide, by decide⟩) hS (fun r_4 z_5 H locs hp_6 hR hS => ?_)
  rw [hp_6.2] at hR; rw [hp_6.1]
  refine lv_isub hx hcb dX9_balance_32 ?_
  refine lv_aload_n hx hcb dX9_balance_33 rfl (lv_at hl 0 rfl) ?_
  refine x_getR hx hcb hts hown hK xc9 hR (hw.lo (by decide)) (hw.s0 (by decide) rfl) 0 (by decide) rfl q_376 dX9_balance_34 ?_
  refine lv_iconst (v := (nI 2)) hx hcb dX9_balance_37 (by decide) ?_
  refine x_ci0 rfl rfl (x_runV hx hcb hml hown hts (c_X0_paidInAll l G w K hw z _ 0 (by omega) 2 (bN z 0 3) hB.1 hB.2.1 (by omega)) mv_X0_paidInAll q_756 hK hZ hR hS (hoB hw (by omega)) xc0 (hsB hw) rfl hl.1 rfl (Nat.le_of_ble_eq_true rfl) dX9_balance_38 ⟨by decide, by decide⟩ ⟨by decide, by decide⟩) hS (fun r_7 z_8 H locs hp_9 hR hS => ?_)
  rw [hp_9.2] at hR; rw [hp_9.1]
  refine lv_isub hx hcb dX9_balance_41 ?_
  exact hret (((((z.1 (oB 0) 7) - (z.1 (oB 0) 8)) - (bx_sum (fun m => z.1 (oPd 0 m) 0) (bN z 0 3))) - (bx_sum (fun m => z.1 (oPd 0 m) 1) (bN z 0 3))) - (bx_sum (fun m => z.1 (oPd 0 m) 2) (bN z 0 3))) z _ _ _ _ dX9_balance_42 rfl hR hS (⟨rfl, rfl⟩)
def rm_X9_nextInLine : Room := { frames := 4, cells := 0, slots := 0, locals := 102 }
set_option maxRecDepth 100000 in
set_option maxHeartbeats 4000000 in
theorem c_X9_nextInLine (l : Launch) (G : xGl) (w : xWd) (K : Nat) (hw : isC K w) (z : xSt) (sz : Nat)  (hB : bOk z 0) : xMi l yX9_nextInLine cX9_nextInLine 1 (some FieldType.int) rm_X9_nextInLine G w z sz [.ref (w.2.2 0)] (fun r z1 => r = fpd ((plZ z 0 (bN z 0 3) 1).1 13) ((plZ z 0 (bN z 0 3) 1).1 10) (plN z 0 (bN z 0 3)) 0 ∧ z1 = plZ z 0 (bN z 0 3) 1) := by
  refine x_mi (by decide) (Nat.le_of_ble_eq_true rfl) ?_
  intro p e s mt args below meth c ls Q hsz X hR hS hl hret
  obtain ⟨hx, hcb, hml, hown, hts, hlk, hK, hZ⟩ := X
  have hl : lv_has ls 1 [(0, .ref (w.2.2 0))] := hl
  refine lv_aload_n hx hcb dX9_nextInLine_0 rfl (lv_at hl 0 rfl) ?_
  refine x_getR hx hcb hts hown hK xc9 hR (hw.lo (by decide)) (hw.s0 (by decide) rfl) 5 (by decide) rfl q_381 dX9_nextInLine_1 ?_
  refine lv_aload_n hx hcb dX9_nextInLine_4 rfl (lv_at hl 0 rfl) ?_
  refine x_getR hx hcb hts hown hK xc9 hR (hw.lo (by decide)) (hw.s0 (by decide) rfl) 0 (by decide) rfl q_376 dX9_nextInLine_5 ?_
  refine lv_iconst (v := (nI 1)) hx hcb dX9_nextInLine_8 (by decide) ?_
  refine x_ci0 rfl rfl (x_runV hx hcb hml hown hts (c_X6_plan l G w K hw z _ 0 (by omega) 1 (bN z 0 3) hB.1 hB.2.1) mv_X6_plan q_764 hK hZ hR hS (hw.lo (by decide)) xc6 (hw.s0 (by decide) rfl) rfl hl.1 rfl (Nat.le_of_ble_eq_true rfl) dX9_nextInLine_9 ⟨by decide, by decide⟩ ⟨by decide, by decide⟩) hS (fun r_1 z_2 H locs hp_3 hR hS => ?_)
  rw [hp_3.2] at hR; rw [hp_3.1]
  refine lv_pop hx hcb dX9_nextInLine_12 rfl ?_
  refine lv_aload_n hx hcb dX9_nextInLine_13 rfl (lv_at hl 0 rfl) ?_
  refine x_getR hx hcb hts hown hK xc9 hR (hw.lo (by decide)) (hw.s0 (by decide) rfl) 5 (by decide) rfl q_381 dX9_nextInLine_14 ?_
  refine x_ci0 rfl rfl (x_runV hx hcb hml hown hts (c_X6_firstPaid l G w K hw (plZ z 0 (bN z 0 3) 1) _ (plN z 0 (bN z 0 3)) plZ_n (plN_le hB.2.1)) mv_X6_firstPaid q_791 hK hZ hR hS (hw.lo (by decide)) xc6 (hw.s0 (by decide) rfl) rfl hl.1 rfl (Nat.le_of_ble_eq_true rfl) dX9_nextInLine_17 ⟨by decide, by decide⟩ ⟨by decide, by decide⟩) hS (fun r_4 z_5 H locs hp_6 hR hS => ?_)
  rw [hp_6.2] at hR; rw [hp_6.1]
  exact hret (fpd ((plZ z 0 (bN z 0 3) 1).1 13) ((plZ z 0 (bN z 0 3) 1).1 10) (plN z 0 (bN z 0 3)) 0) (plZ z 0 (bN z 0 3) 1) _ _ _ _ dX9_nextInLine_20 rfl hR hS (⟨rfl, rfl⟩)
def rm_X9_equityOfYear : Room := { frames := 1, cells := 0, slots := 0, locals := 21 }
set_option maxRecDepth 100000 in
set_option maxHeartbeats 4000000 in
theorem c_X9_equityOfYear (l : Launch) (G : xGl) (w : xWd) (K : Nat) (hw : isC K w) (z : xSt) (sz : Nat) (x : Int32) (hB : bOk z 0) : xMi l yX9_equityOfYear cX9_equityOfYear 4 (some FieldType.int) rm_X9_equityOfYear G w z sz [.ref (w.2.2 0), .int x] (fun r z1 => r = (if inR x (bN z 0 5) then bx_sum (fun m => z.1 (oLf 0 m) x.toNatClampNeg) (bN z 0 3) else (-2)) ∧ z1 = z) := by
  refine x_mi (by decide) (Nat.le_of_ble_eq_true rfl) ?_
  intro p e s mt args below meth c ls Q hsz X hR hS hl hret
  obtain ⟨hx, hcb, hml, hown, hts, hlk, hK, hZ⟩ := X
  have hl : lv_has ls 4 [(0, .ref (w.2.2 0)), (1, .int x)] := hl
  have hb3_ := hB.2.1
  have hb4_ := hB.2.2.2.1
  have hb5_ := hB.2.2.2.2.2
  refine lv_aload_n hx hcb dX9_equityOfYear_0 rfl (lv_at hl 0 rfl) ?_
  refine lv_iload_n hx hcb dX9_equityOfYear_1 rfl (lv_at hl 1 rfl) ?_
  refine x_ci0 rfl rfl (x_runV hx hcb hml hown hts (c_X9_isClosed l G w K hw z _ x hB) mv_X9_isClosed q_748 hK hZ hR hS (hw.lo (by decide)) xc9 (hw.s0 (by decide) rfl) rfl hl.1 rfl (Nat.le_of_ble_eq_true rfl) dX9_equityOfYear_2 ⟨by decide, by decide⟩ ⟨by decide, by decide⟩) hS (fun r_1 z_2 H locs hp_3 hR hS => ?_)
  rw [hp_3.2] at hR; rw [hp_3.1]
  refine lv_if_ne (tgt := 11) hx hcb dX9_equityOfYear_5 (by decide) (fun c_4 => ?_) (fun c_4 => ?_)
  · skip
    have h_ : inR x (bN z 0 5) := Classical.byContradiction (fun q_ => c_4 (if_neg q_))
    have hxk_ := inR_k (n := bN z 0 5) (by omega) h_
    obtain ⟨k_, ek_⟩ : ∃ q_, q_ = x.toNatClampNeg := ⟨_, rfl⟩
    rw [← ek_] at hxk_
    have hltk_ := hxk_.2
    rw [hxk_.1] at hl
    refine lv_iconst (v := (nI 0)) hx hcb dX9_equityOfYear_11 (by decide) ?_
    refine lv_istore_n (lv' := [(2, .int (nI 0)), (0, .ref (w.2.2 0)), (1, .int (nI k_))]) hx hcb dX9_equityOfYear_12 rfl hl (by decide) rfl (fun ls hl => ?_)
    refine lv_iconst (v := (nI 0)) hx hcb dX9_equityOfYear_13 (by decide) ?_
    refine lv_istore_n (lv' := [(3, .int (nI 0)), (2, .int (nI 0)), (0, .ref (w.2.2 0)), (1, .int (nI k_))]) hx hcb dX9_equityOfYear_14 rfl hl (by decide) rfl (fun ls hl => ?_)
    rw [show (nI 0) = (bx_sum (fun m => z.1 (oLf 0 m) x.toNatClampNeg) 0) from rfl] at hl
    suffices LP_15 : ∀ (nn : Nat) (i_ : Nat) (_ : bN z 0 3 - i_ < nn) (hi_ : i_ ≤ bN z 0 3) (H : Heap) (locs : List Loc) (ls : Array Slot), Rh G w z H → va_S (xA w s.heap.size) s.heap H locs → lv_has ls 4 [(0, .ref (w.2.2 0)), (1, .int (nI k_)), (2, .int (bx_sum (fun m => z.1 (oLf 0 m) x.toNatClampNeg) i_)), (3, .int (nI i_))] → W p l e rm_X9_equityOfYear s mt args below meth c H locs 0 0 Q (F0 mt 15 ls []) from LP_15 ((_) + 1) 0 (Nat.lt_succ_self _) (Nat.zero_le _) _ _ _ hR hS (lv_sub hl [2, 3, 1, 0] rfl)
    intro nn
    induction nn with
    | zero => intro i_ hm_ ; exact absurd hm_ (Nat.not_lt_zero _)
    | succ nn ih_15 =>
      intro i_ hm_15 hi_ H locs ls hR hS hl
      refine lv_iload_n hx hcb dX9_equityOfYear_15 rfl (lv_at hl 3 rfl) ?_
      refine lv_aload_n hx hcb dX9_equityOfYear_16 rfl (lv_at hl 0 rfl) ?_
      refine x_getR hx hcb hts hown hK xc9 hR (hw.lo (by decide)) (hw.s0 (by decide) rfl) 0 (by decide) rfl q_376 dX9_equityOfYear_17 ?_
      refine x_getI hx hcb hts hown hK xc0 hR (hoB hw (by omega)) (hsB hw) 3 (by decide) rfl q_271 dX9_equityOfYear_20 ?_
      refine x_top (show (z.1 (oB 0) 3) = (nI (bN z 0 3)) from hB.1) ?_
      refine lv_icmp_ge (tgt := 49) hx hcb dX9_equityOfYear_23 (by decide) (fun c_5 => ?_) (fun c_5 => ?_)
      · skip
        have c_5 : (bN z 0 3) ≤ i_ := (nI_leI (by omega) (by omega)).mp c_5
        obtain rfl : bN z 0 3 = i_ := by omega
        refine lv_iload_n hx hcb dX9_equityOfYear_49 rfl (lv_at hl 2 rfl) ?_
        exact hret (bx_sum (fun m => z.1 (oLf 0 m) x.toNatClampNeg) (bN z 0 3)) z _ _ _ _ dX9_equityOfYear_50 rfl hR hS (⟨by rw [if_pos h_]; first | done | rfl, rfl⟩)
      · skip
        have c_5 : ¬ (bN z 0 3) ≤ i_ := fun h_ => c_5 ((nI_leI (by omega) (by omega)).mpr h_)
        refine lv_iload_n hx hcb dX9_equityOfYear_26 rfl (lv_at hl 2 rfl) ?_
        refine lv_aload_n hx hcb dX9_equityOfYear_27 rfl (lv_at hl 0 rfl) ?_
        refine x_getR hx hcb hts hown hK xc9 hR (hw.lo (by decide)) (hw.s0 (by decide) rfl) 0 (by decide) rfl q_376 dX9_equityOfYear_28 ?_
        refine x_getR hx hcb hts hown hK xc0 hR (hoB hw (by omega)) (hsB hw) 0 (by decide) rfl q_259 dX9_equityOfYear_31 ?_
        refine lv_iload_n hx hcb dX9_equityOfYear_34 rfl (lv_at hl 3 rfl) ?_
        have hk_35 : i_ < 8 := (by omega)
        refine x_aald hx hcb hK hR (hoMs hw (by omega)) (hsMs hw) rfl (oMs_at hk_35) (Nat.lt_of_lt_of_le (Nat.lt_succ_self _) (Nat.le_of_ble_eq_true rfl)) dX9_equityOfYear_35 ?_
        refine x_getR hx hcb hts hown hK xc5 hR (hoM hw (by omega) hk_35) (hsM hw hk_35) 7 (by decide) rfl q_203 dX9_equityOfYear_36 ?_
        refine lv_iload_n hx hcb dX9_equityOfYear_39 rfl (lv_at hl 1 rfl) ?_
        refine x_iald hx hcb hK hR (hoLf hw (by omega) hk_35) (hsLf hw hk_35) (k := k_) (by omega) (by decide) dX9_equityOfYear_40 ?_
        refine lv_iadd hx hcb dX9_equityOfYear_41 ?_
        refine lv_istore_n (lv' := [(2, .int ((bx_sum (fun m => z.1 (oLf 0 m) x.toNatClampNeg) i_) + (z.1 (oLf 0 i_) k_))), (0, .ref (w.2.2 0)), (1, .int (nI k_)), (3, .int (nI i_))]) hx hcb dX9_equityOfYear_42 rfl hl (by decide) rfl (fun ls hl => ?_)
        refine lv_iinc (v := (nI (i_ + 1))) (lv' := [(3, .int (nI (i_ + 1))), (2, .int ((bx_sum (fun m => z.1 (oLf 0 m) x.toNatClampNeg) i_) + (z.1 (oLf 0 i_) k_))), (0, .ref (w.2.2 0)), (1, .int (nI k_))]) hx hcb dX9_equityOfYear_43 hl (k := 3) rfl (x_iinc1 _) (by decide) rfl (fun ls hl => ?_)
        refine lv_goto (tgt := 15) hx hcb dX9_equityOfYear_46 (by decide) ?_
        rw [show ((bx_sum (fun m => z.1 (oLf 0 m) x.toNatClampNeg) i_) + (z.1 (oLf 0 i_) k_)) = (bx_sum (fun m => z.1 (oLf 0 m) x.toNatClampNeg) (i_ + 1)) from by rw [ek_]; rfl] at hl
        exact ih_15 (i_ + 1) (by omega) (by omega) _ _ _ hR hS (lv_sub hl [2, 3, 1, 0] rfl)
  · skip
    have h_ : ¬ (inR x (bN z 0 5)) := fun q_ => absurd c_4 (by rw [if_pos q_]; decide)
    refine lv_bipush (v := (-2)) hx hcb dX9_equityOfYear_8 (by decide) ?_
    exact hret (-2) z _ _ _ _ dX9_equityOfYear_10 rfl hR hS (⟨by rw [if_neg h_]; first | done | rfl, rfl⟩)
def rm_X9_richest : Room := { frames := 1, cells := 0, slots := 0, locals := 22 }
set_option maxRecDepth 100000 in
set_option maxHeartbeats 4000000 in
theorem c_X9_richest (l : Launch) (G : xGl) (w : xWd) (K : Nat) (hw : isC K w) (z : xSt) (sz : Nat)  (hB : bOk z 0) : xMi l yX9_richest cX9_richest 5 (some FieldType.int) rm_X9_richest G w z sz [.ref (w.2.2 0)] (fun r z1 => r = (mxI (fun m => bx_sum (z.1 (oLf 0 m)) 25) (bN z 0 3)).1 ∧ z1 = z) := by
  refine x_mi (by decide) (Nat.le_of_ble_eq_true rfl) ?_
  intro p e s mt args below meth c ls Q hsz X hR hS hl hret
  obtain ⟨hx, hcb, hml, hown, hts, hlk, hK, hZ⟩ := X
  have hl : lv_has ls 5 [(0, .ref (w.2.2 0))] := hl
  have hb3_ := hB.2.1
  have hb4_ := hB.2.2.2.1
  have hb5_ := hB.2.2.2.2.2
  refine lv_iconst (v := (-1)) hx hcb dX9_richest_0 (by decide) ?_
  refine lv_istore_n (lv' := [(1, .int (-1)), (0, .ref (w.2.2 0))]) hx hcb dX9_richest_1 rfl hl (by decide) rfl (fun ls hl => ?_)
  refine lv_iconst (v := (nI 0)) hx hcb dX9_richest_2 (by decide) ?_
  refine lv_istore_n (lv' := [(2, .int (nI 0)), (1, .int (-1)), (0, .ref (w.2.2 0))]) hx hcb dX9_richest_3 rfl hl (by decide) rfl (fun ls hl => ?_)
  refine lv_iconst (v := (nI 0)) hx hcb dX9_richest_4 (by decide) ?_
  refine lv_istore_n (lv' := [(3, .int (nI 0)), (2, .int (nI 0)), (1, .int (-1)), (0, .ref (w.2.2 0))]) hx hcb dX9_richest_5 rfl hl (by decide) rfl (fun ls hl => ?_)
  rw [show (-1) = (mxI (fun m => bx_sum (z.1 (oLf 0 m)) 25) 0).1 from rfl] at hl
  rw [show (nI 0) = (mxI (fun m => bx_sum (z.1 (oLf 0 m)) 25) 0).2 from rfl] at hl
  suffices LP_6 : ∀ (nn : Nat) (i_ : Nat) (_ : bN z 0 3 - i_ < nn) (hi_ : i_ ≤ bN z 0 3) (H : Heap) (locs : List Loc) (ls : Array Slot), Rh G w z H → va_S (xA w s.heap.size) s.heap H locs → lv_has ls 5 [(0, .ref (w.2.2 0)), (1, .int ((mxI (fun m => bx_sum (z.1 (oLf 0 m)) 25) i_).1)), (2, .int ((mxI (fun m => bx_sum (z.1 (oLf 0 m)) 25) i_).2)), (3, .int (nI i_))] → W p l e rm_X9_richest s mt args below meth c H locs 0 0 Q (F0 mt 6 ls []) from LP_6 ((_) + 1) 0 (Nat.lt_succ_self _) (Nat.zero_le _) _ _ _ hR hS (lv_sub hl [3, 2, 1, 0] rfl)
  intro nn
  induction nn with
  | zero => intro i_ hm_ ; exact absurd hm_ (Nat.not_lt_zero _)
  | succ nn ih_6 =>
    intro i_ hm_6 hi_ H locs ls hR hS hl
    refine lv_iload_n hx hcb dX9_richest_6 rfl (lv_at hl 3 rfl) ?_
    refine lv_aload_n hx hcb dX9_richest_7 rfl (lv_at hl 0 rfl) ?_
    refine x_getR hx hcb hts hown hK xc9 hR (hw.lo (by decide)) (hw.s0 (by decide) rfl) 0 (by decide) rfl q_376 dX9_richest_8 ?_
    refine x_getI hx hcb hts hown hK xc0 hR (hoB hw (by omega)) (hsB hw) 3 (by decide) rfl q_271 dX9_richest_11 ?_
    refine x_top (show (z.1 (oB 0) 3) = (nI (bN z 0 3)) from hB.1) ?_
    refine lv_icmp_ge (tgt := 53) hx hcb dX9_richest_14 (by decide) (fun c_1 => ?_) (fun c_1 => ?_)
    · skip
      have c_1 : (bN z 0 3) ≤ i_ := (nI_leI (by omega) (by omega)).mp c_1
      obtain rfl : bN z 0 3 = i_ := by omega
      refine lv_iload_n hx hcb dX9_richest_53 rfl (lv_at hl 1 rfl) ?_
      exact hret ((mxI (fun m => bx_sum (z.1 (oLf 0 m)) 25) (bN z 0 3)).1) z _ _ _ _ dX9_richest_54 rfl hR hS (⟨rfl, rfl⟩)
    · skip
      have c_1 : ¬ (bN z 0 3) ≤ i_ := fun h_ => c_1 ((nI_leI (by omega) (by omega)).mpr h_)
      refine lv_aload_n hx hcb dX9_richest_17 rfl (lv_at hl 0 rfl) ?_
      refine x_getR hx hcb hts hown hK xc9 hR (hw.lo (by decide)) (hw.s0 (by decide) rfl) 0 (by decide) rfl q_376 dX9_richest_18 ?_
      refine x_getR hx hcb hts hown hK xc0 hR (hoB hw (by omega)) (hsB hw) 0 (by decide) rfl q_259 dX9_richest_21 ?_
      refine lv_iload_n hx hcb dX9_richest_24 rfl (lv_at hl 3 rfl) ?_
      have hk_25 : i_ < 8 := (by omega)
      refine x_aald hx hcb hK hR (hoMs hw (by omega)) (hsMs hw) rfl (oMs_at hk_25) (Nat.lt_of_lt_of_le (Nat.lt_succ_self _) (Nat.le_of_ble_eq_true rfl)) dX9_richest_25 ?_
      refine x_ci0 rfl rfl (x_runV hx hcb hml hown hts (c_X5_equity l G w K hw z _ 0 i_ (by omega) hk_25) mv_X5_equity q_812 hK hZ hR hS (hoM hw (by omega) hk_25) xc5 (hsM hw hk_25) rfl hl.1 rfl (Nat.le_of_ble_eq_true rfl) dX9_richest_26 ⟨by decide, by decide⟩ ⟨by decide, by decide⟩) hS (fun r_2 z_3 H locs hp_4 hR hS => ?_)
      rw [hp_4.2] at hR; rw [hp_4.1]
      refine x_top (show (bx_sum (z.1 (oLf 0 i_)) 25) = ((fun m => bx_sum (z.1 (oLf 0 m)) 25) i_) from rfl) ?_
      refine lv_istore (lv' := [(4, .int ((fun m => bx_sum (z.1 (oLf 0 m)) 25) i_)), (0, .ref (w.2.2 0)), (1, .int ((mxI (fun m => bx_sum (z.1 (oLf 0 m)) 25) i_).1)), (2, .int ((mxI (fun m => bx_sum (z.1 (oLf 0 m)) 25) i_).2)), (3, .int (nI i_))]) hx hcb dX9_richest_29 hl (by decide) rfl (fun ls hl => ?_)
      refine lv_iload_n hx hcb dX9_richest_31 rfl (lv_at hl 2 rfl) ?_
      refine lv_iconst (v := (-1)) hx hcb dX9_richest_32 (by decide) ?_
      refine lv_icmp_eq (tgt := 42) hx hcb dX9_richest_33 (by decide) (fun c_5 => ?_) (fun c_5 => ?_)
      · skip
        have hq_ : (mxI (fun m => bx_sum (z.1 (oLf 0 m)) 25) i_).1 = (-1) ∨ (mxI (fun m => bx_sum (z.1 (oLf 0 m)) 25) i_).2 < (fun m => bx_sum (z.1 (oLf 0 m)) 25) i_ := Or.inl c_5
        refine lv_iload_n hx hcb dX9_richest_42 rfl (lv_at hl 4 rfl) ?_
        refine lv_istore_n (lv' := [(1, .int (nI i_)), (4, .int ((fun m => bx_sum (z.1 (oLf 0 m)) 25) i_)), (0, .ref (w.2.2 0)), (2, .int ((mxI (fun m => bx_sum (z.1 (oLf 0 m)) 25) i_).2)), (3, .int (nI i_))]) hx hcb dX9_richest_43 rfl hl (by decide) rfl (fun ls hl => ?_)
        refine lv_iload hx hcb dX9_richest_44 (lv_at hl 1 rfl) ?_
        refine lv_istore_n (lv' := [(2, .int ((fun m => bx_sum (z.1 (oLf 0 m)) 25) i_)), (1, .int (nI i_)), (4, .int ((fun m => bx_sum (z.1 (oLf 0 m)) 25) i_)), (0, .ref (w.2.2 0)), (3, .int (nI i_))]) hx hcb dX9_richest_46 rfl hl (by decide) rfl (fun ls hl => ?_)
        refine lv_iinc (v := (nI (i_ + 1))) (lv' := [(3, .int (nI (i_ + 1))), (2, .int ((fun m => bx_sum (z.1 (oLf 0 m)) 25) i_)), (1, .int (nI i_)), (4, .int ((fun m => bx_sum (z.1 (oLf 0 m)) 25) i_)), (0, .ref (w.2.2 0))]) hx hcb dX9_richest_47 hl (k := 4) rfl (x_iinc1 _) (by decide) rfl (fun ls hl => ?_)
        refine lv_goto (tgt := 6) hx hcb dX9_richest_50 (by decide) ?_
        rw [show (nI i_) = ((mxI (fun m => bx_sum (z.1 (oLf 0 m)) 25) (i_ + 1)).1) from by first | rw [mxI_y hq_] | rw [mxI_n hq_]] at hl
        rw [show ((fun m => bx_sum (z.1 (oLf 0 m)) 25) i_) = ((mxI (fun m => bx_sum (z.1 (oLf 0 m)) 25) (i_ + 1)).2) from by first | rw [mxI_y hq_] | rw [mxI_n hq_]] at hl
        exact ih_6 (i_ + 1) (by omega) (by omega) _ _ _ hR hS (lv_sub hl [4, 2, 1, 0] rfl)
      · skip
        have hq0_ := c_5
        refine lv_iload hx hcb dX9_richest_36 (lv_at hl 0 rfl) ?_
        refine lv_iload_n hx hcb dX9_richest_38 rfl (lv_at hl 3 rfl) ?_
        refine lv_icmp_le (tgt := 47) hx hcb dX9_richest_39 (by decide) (fun c_6 => ?_) (fun c_6 => ?_)
        · skip
          have hq_ : ¬ ((mxI (fun m => bx_sum (z.1 (oLf 0 m)) 25) i_).1 = (-1) ∨ (mxI (fun m => bx_sum (z.1 (oLf 0 m)) 25) i_).2 < (fun m => bx_sum (z.1 (oLf 0 m)) 25) i_) := fun q_ => q_.elim hq0_ (Int32.not_lt.mpr c_6)
          refine lv_iinc (v := (nI (i_ + 1))) (lv' := [(3, .int (nI (i_ + 1))), (4, .int ((fun m => bx_sum (z.1 (oLf 0 m)) 25) i_)), (0, .ref (w.2.2 0)), (1, .int ((mxI (fun m => bx_sum (z.1 (oLf 0 m)) 25) i_).1)), (2, .int ((mxI (fun m => bx_sum (z.1 (oLf 0 m)) 25) i_).2))]) hx hcb dX9_richest_47 hl (k := 4) rfl (x_iinc1 _) (by decide) rfl (fun ls hl => ?_)
          refine lv_goto (tgt := 6) hx hcb dX9_richest_50 (by decide) ?_
          rw [show ((mxI (fun m => bx_sum (z.1 (oLf 0 m)) 25) i_).1) = ((mxI (fun m => bx_sum (z.1 (oLf 0 m)) 25) (i_ + 1)).1) from by first | rw [mxI_y hq_] | rw [mxI_n hq_]] at hl
          rw [show ((mxI (fun m => bx_sum (z.1 (oLf 0 m)) 25) i_).2) = ((mxI (fun m => bx_sum (z.1 (oLf 0 m)) 25) (i_ + 1)).2) from by first | rw [mxI_y hq_] | rw [mxI_n hq_]] at hl
          exact ih_6 (i_ + 1) (by omega) (by omega) _ _ _ hR hS (lv_sub hl [2, 3, 4, 0] rfl)
        · skip
          have hq_ : (mxI (fun m => bx_sum (z.1 (oLf 0 m)) 25) i_).1 = (-1) ∨ (mxI (fun m => bx_sum (z.1 (oLf 0 m)) 25) i_).2 < (fun m => bx_sum (z.1 (oLf 0 m)) 25) i_ := Or.inr (Int32.not_le.mp c_6)
          refine lv_iload_n hx hcb dX9_richest_42 rfl (lv_at hl 4 rfl) ?_
          refine lv_istore_n (lv' := [(1, .int (nI i_)), (4, .int ((fun m => bx_sum (z.1 (oLf 0 m)) 25) i_)), (0, .ref (w.2.2 0)), (2, .int ((mxI (fun m => bx_sum (z.1 (oLf 0 m)) 25) i_).2)), (3, .int (nI i_))]) hx hcb dX9_richest_43 rfl hl (by decide) rfl (fun ls hl => ?_)
          refine lv_iload hx hcb dX9_richest_44 (lv_at hl 1 rfl) ?_
          refine lv_istore_n (lv' := [(2, .int ((fun m => bx_sum (z.1 (oLf 0 m)) 25) i_)), (1, .int (nI i_)), (4, .int ((fun m => bx_sum (z.1 (oLf 0 m)) 25) i_)), (0, .ref (w.2.2 0)), (3, .int (nI i_))]) hx hcb dX9_richest_46 rfl hl (by decide) rfl (fun ls hl => ?_)
          refine lv_iinc (v := (nI (i_ + 1))) (lv' := [(3, .int (nI (i_ + 1))), (2, .int ((fun m => bx_sum (z.1 (oLf 0 m)) 25) i_)), (1, .int (nI i_)), (4, .int ((fun m => bx_sum (z.1 (oLf 0 m)) 25) i_)), (0, .ref (w.2.2 0))]) hx hcb dX9_richest_47 hl (k := 4) rfl (x_iinc1 _) (by decide) rfl (fun ls hl => ?_)
          refine lv_goto (tgt := 6) hx hcb dX9_richest_50 (by decide) ?_
          rw [show (nI i_) = ((mxI (fun m => bx_sum (z.1 (oLf 0 m)) 25) (i_ + 1)).1) from by first | rw [mxI_y hq_] | rw [mxI_n hq_]] at hl
          rw [show ((fun m => bx_sum (z.1 (oLf 0 m)) 25) i_) = ((mxI (fun m => bx_sum (z.1 (oLf 0 m)) 25) (i_ + 1)).2) from by first | rw [mxI_y hq_] | rw [mxI_n hq_]] at hl
          exact ih_6 (i_ + 1) (by omega) (by omega) _ _ _ hR hS (lv_sub hl [4, 2, 1, 0] rfl)
def rm_X9_membersIn : Room := { frames := 0, cells := 0, slots := 0, locals := 0 }
set_option maxRecDepth 100000 in
set_option maxHeartbeats 4000000 in
theorem c_X9_membersIn (l : Launch) (G : xGl) (w : xWd) (K : Nat) (hw : isC K w) (z : xSt) (sz : Nat) (x : Int32) (hB : bOk z 0) : xMi l yX9_membersIn cX9_membersIn 4 (some FieldType.int) rm_X9_membersIn G w z sz [.ref (w.2.2 0), .int x] (fun r z1 => r = (if x = 0 ∨ x = nI 1 ∨ x = nI 2 then nI (ctN (fun m => decide (z.1 (oM 0 m) 2 = x)) (bN z 0 3)) else (-2)) ∧ z1 = z) := by
  refine x_mi (by decide) (Nat.le_of_ble_eq_true rfl) ?_
  intro p e s mt args below meth c ls Q hsz X hR hS hl hret
  obtain ⟨hx, hcb, hml, hown, hts, hlk, hK, hZ⟩ := X
  have hl : lv_has ls 4 [(0, .ref (w.2.2 0)), (1, .int x)] := hl
  have hb3_ := hB.2.1
  have hb4_ := hB.2.2.2.1
  have hb5_ := hB.2.2.2.2.2
  refine lv_iload_n hx hcb dX9_membersIn_0 rfl (lv_at hl 1 rfl) ?_
  refine lv_if_eq (tgt := 17) hx hcb dX9_membersIn_1 (by decide) (fun c_1 => ?_) (fun c_1 => ?_)
  · skip
    have h_ : x = 0 ∨ x = nI 1 ∨ x = nI 2 := Or.inl c_1
    refine lv_iconst (v := (nI 0)) hx hcb dX9_membersIn_17 (by decide) ?_
    refine lv_istore_n (lv' := [(2, .int (nI 0)), (0, .ref (w.2.2 0)), (1, .int x)]) hx hcb dX9_membersIn_18 rfl hl (by decide) rfl (fun ls hl => ?_)
    refine lv_iconst (v := (nI 0)) hx hcb dX9_membersIn_19 (by decide) ?_
    refine lv_istore_n (lv' := [(3, .int (nI 0)), (2, .int (nI 0)), (0, .ref (w.2.2 0)), (1, .int x)]) hx hcb dX9_membersIn_20 rfl hl (by decide) rfl (fun ls hl => ?_)
    rw [show (nI 0) = (nI (ctN (fun m => decide (z.1 (oM 0 m) 2 = x)) 0)) from rfl] at hl
    suffices LP_21 : ∀ (nn : Nat) (i_ : Nat) (_ : bN z 0 3 - i_ < nn) (hi_ : i_ ≤ bN z 0 3) (H : Heap) (locs : List Loc) (ls : Array Slot), Rh G w z H → va_S (xA w s.heap.size) s.heap H locs → lv_has ls 4 [(0, .ref (w.2.2 0)), (1, .int x), (2, .int (nI (ctN (fun m => decide (z.1 (oM 0 m) 2 = x)) i_))), (3, .int (nI i_))] → W p l e rm_X9_membersIn s mt args below meth c H locs 0 0 Q (F0 mt 21 ls []) from LP_21 ((_) + 1) 0 (Nat.lt_succ_self _) (Nat.zero_le _) _ _ _ hR hS (lv_sub hl [2, 3, 1, 0] rfl)
    intro nn
    induction nn with
    | zero => intro i_ hm_ ; exact absurd hm_ (Nat.not_lt_zero _)
    | succ nn ih_21 =>
      intro i_ hm_21 hi_ H locs ls hR hS hl
      refine lv_iload_n hx hcb dX9_membersIn_21 rfl (lv_at hl 3 rfl) ?_
      refine lv_aload_n hx hcb dX9_membersIn_22 rfl (lv_at hl 0 rfl) ?_
      refine x_getR hx hcb hts hown hK xc9 hR (hw.lo (by decide)) (hw.s0 (by decide) rfl) 0 (by decide) rfl q_376 dX9_membersIn_23 ?_
      refine x_getI hx hcb hts hown hK xc0 hR (hoB hw (by omega)) (hsB hw) 3 (by decide) rfl q_271 dX9_membersIn_26 ?_
      refine x_top (show (z.1 (oB 0) 3) = (nI (bN z 0 3)) from hB.1) ?_
      refine lv_icmp_ge (tgt := 57) hx hcb dX9_membersIn_29 (by decide) (fun c_2 => ?_) (fun c_2 => ?_)
      · skip
        have c_2 : (bN z 0 3) ≤ i_ := (nI_leI (by omega) (by omega)).mp c_2
        obtain rfl : bN z 0 3 = i_ := by omega
        refine lv_iload_n hx hcb dX9_membersIn_57 rfl (lv_at hl 2 rfl) ?_
        exact hret (nI (ctN (fun m => decide (z.1 (oM 0 m) 2 = x)) (bN z 0 3))) z _ _ _ _ dX9_membersIn_58 rfl hR hS (⟨by rw [if_pos h_], rfl⟩)
      · skip
        have c_2 : ¬ (bN z 0 3) ≤ i_ := fun h_ => c_2 ((nI_leI (by omega) (by omega)).mpr h_)
        refine lv_aload_n hx hcb dX9_membersIn_32 rfl (lv_at hl 0 rfl) ?_
        refine x_getR hx hcb hts hown hK xc9 hR (hw.lo (by decide)) (hw.s0 (by decide) rfl) 0 (by decide) rfl q_376 dX9_membersIn_33 ?_
        refine x_getR hx hcb hts hown hK xc0 hR (hoB hw (by omega)) (hsB hw) 0 (by decide) rfl q_259 dX9_membersIn_36 ?_
        refine lv_iload_n hx hcb dX9_membersIn_39 rfl (lv_at hl 3 rfl) ?_
        have hk_40 : i_ < 8 := (by omega)
        refine x_aald hx hcb hK hR (hoMs hw (by omega)) (hsMs hw) rfl (oMs_at hk_40) (Nat.lt_of_lt_of_le (Nat.lt_succ_self _) (Nat.le_of_ble_eq_true rfl)) dX9_membersIn_40 ?_
        refine x_getI hx hcb hts hown hK xc5 hR (hoM hw (by omega) hk_40) (hsM hw hk_40) 2 (by decide) rfl q_186 dX9_membersIn_41 ?_
        refine lv_iload_n hx hcb dX9_membersIn_44 rfl (lv_at hl 1 rfl) ?_
        refine lv_icmp_ne (tgt := 51) hx hcb dX9_membersIn_45 (by decide) (fun c_3 => ?_) (fun c_3 => ?_)
        · skip
          have hq_ := c_3
          refine lv_iinc (v := (nI (i_ + 1))) (lv' := [(3, .int (nI (i_ + 1))), (0, .ref (w.2.2 0)), (1, .int x), (2, .int (nI (ctN (fun m => decide (z.1 (oM 0 m) 2 = x)) i_)))]) hx hcb dX9_membersIn_51 hl (k := 3) rfl (x_iinc1 _) (by decide) rfl (fun ls hl => ?_)
          refine lv_goto (tgt := 21) hx hcb dX9_membersIn_54 (by decide) ?_
          rw [show (nI (ctN (fun m => decide (z.1 (oM 0 m) 2 = x)) i_)) = (nI (ctN (fun m => decide (z.1 (oM 0 m) 2 = x)) (i_ + 1))) from by first | rw [ctN_y (decide_eq_true hq_)] | rw [ctN_n (fun q_ => hq_ (of_decide_eq_true q_))]] at hl
          exact ih_21 (i_ + 1) (by omega) (by omega) _ _ _ hR hS (lv_sub hl [1, 2, 3, 0] rfl)
        · skip
          have hq_ := c_3
          refine lv_iinc (v := (nI ((ctN (fun m => decide (z.1 (oM 0 m) 2 = x)) i_) + 1))) (lv' := [(2, .int (nI ((ctN (fun m => decide (z.1 (oM 0 m) 2 = x)) i_) + 1))), (0, .ref (w.2.2 0)), (1, .int x), (3, .int (nI i_))]) hx hcb dX9_membersIn_48 hl (k := 2) rfl (x_iinc1 _) (by decide) rfl (fun ls hl => ?_)
          refine lv_iinc (v := (nI (i_ + 1))) (lv' := [(3, .int (nI (i_ + 1))), (2, .int (nI ((ctN (fun m => decide (z.1 (oM 0 m) 2 = x)) i_) + 1))), (0, .ref (w.2.2 0)), (1, .int x)]) hx hcb dX9_membersIn_51 hl (k := 3) rfl (x_iinc1 _) (by decide) rfl (fun ls hl => ?_)
          refine lv_goto (tgt := 21) hx hcb dX9_membersIn_54 (by decide) ?_
          rw [show (nI ((ctN (fun m => decide (z.1 (oM 0 m) 2 = x)) i_) + 1)) = (nI (ctN (fun m => decide (z.1 (oM 0 m) 2 = x)) (i_ + 1))) from by first | rw [ctN_y (decide_eq_true hq_)] | rw [ctN_n (fun q_ => hq_ (of_decide_eq_true q_))]] at hl
          exact ih_21 (i_ + 1) (by omega) (by omega) _ _ _ hR hS (lv_sub hl [2, 3, 1, 0] rfl)
  · skip
    have h0_ := c_1
    refine lv_iload_n hx hcb dX9_membersIn_4 rfl (lv_at hl 1 rfl) ?_
    refine lv_iconst (v := (nI 1)) hx hcb dX9_membersIn_5 (by decide) ?_
    refine lv_icmp_eq (tgt := 17) hx hcb dX9_membersIn_6 (by decide) (fun c_4 => ?_) (fun c_4 => ?_)
    · skip
      have h_ : x = 0 ∨ x = nI 1 ∨ x = nI 2 := Or.inr (Or.inl c_4)
      refine lv_iconst (v := (nI 0)) hx hcb dX9_membersIn_17 (by decide) ?_
      refine lv_istore_n (lv' := [(2, .int (nI 0)), (0, .ref (w.2.2 0)), (1, .int x)]) hx hcb dX9_membersIn_18 rfl hl (by decide) rfl (fun ls hl => ?_)
      refine lv_iconst (v := (nI 0)) hx hcb dX9_membersIn_19 (by decide) ?_
      refine lv_istore_n (lv' := [(3, .int (nI 0)), (2, .int (nI 0)), (0, .ref (w.2.2 0)), (1, .int x)]) hx hcb dX9_membersIn_20 rfl hl (by decide) rfl (fun ls hl => ?_)
      rw [show (nI 0) = (nI (ctN (fun m => decide (z.1 (oM 0 m) 2 = x)) 0)) from rfl] at hl
      suffices LP_21 : ∀ (nn : Nat) (i_ : Nat) (_ : bN z 0 3 - i_ < nn) (hi_ : i_ ≤ bN z 0 3) (H : Heap) (locs : List Loc) (ls : Array Slot), Rh G w z H → va_S (xA w s.heap.size) s.heap H locs → lv_has ls 4 [(0, .ref (w.2.2 0)), (1, .int x), (2, .int (nI (ctN (fun m => decide (z.1 (oM 0 m) 2 = x)) i_))), (3, .int (nI i_))] → W p l e rm_X9_membersIn s mt args below meth c H locs 0 0 Q (F0 mt 21 ls []) from LP_21 ((_) + 1) 0 (Nat.lt_succ_self _) (Nat.zero_le _) _ _ _ hR hS (lv_sub hl [2, 3, 1, 0] rfl)
      intro nn
      induction nn with
      | zero => intro i_ hm_ ; exact absurd hm_ (Nat.not_lt_zero _)
      | succ nn ih_21 =>
        intro i_ hm_21 hi_ H locs ls hR hS hl
        refine lv_iload_n hx hcb dX9_membersIn_21 rfl (lv_at hl 3 rfl) ?_
        refine lv_aload_n hx hcb dX9_membersIn_22 rfl (lv_at hl 0 rfl) ?_
        refine x_getR hx hcb hts hown hK xc9 hR (hw.lo (by decide)) (hw.s0 (by decide) rfl) 0 (by decide) rfl q_376 dX9_membersIn_23 ?_
        refine x_getI hx hcb hts hown hK xc0 hR (hoB hw (by omega)) (hsB hw) 3 (by decide) rfl q_271 dX9_membersIn_26 ?_
        refine x_top (show (z.1 (oB 0) 3) = (nI (bN z 0 3)) from hB.1) ?_
        refine lv_icmp_ge (tgt := 57) hx hcb dX9_membersIn_29 (by decide) (fun c_5 => ?_) (fun c_5 => ?_)
        · skip
          have c_5 : (bN z 0 3) ≤ i_ := (nI_leI (by omega) (by omega)).mp c_5
          obtain rfl : bN z 0 3 = i_ := by omega
          refine lv_iload_n hx hcb dX9_membersIn_57 rfl (lv_at hl 2 rfl) ?_
          exact hret (nI (ctN (fun m => decide (z.1 (oM 0 m) 2 = x)) (bN z 0 3))) z _ _ _ _ dX9_membersIn_58 rfl hR hS (⟨by rw [if_pos h_], rfl⟩)
        · skip
          have c_5 : ¬ (bN z 0 3) ≤ i_ := fun h_ => c_5 ((nI_leI (by omega) (by omega)).mpr h_)
          refine lv_aload_n hx hcb dX9_membersIn_32 rfl (lv_at hl 0 rfl) ?_
          refine x_getR hx hcb hts hown hK xc9 hR (hw.lo (by decide)) (hw.s0 (by decide) rfl) 0 (by decide) rfl q_376 dX9_membersIn_33 ?_
          refine x_getR hx hcb hts hown hK xc0 hR (hoB hw (by omega)) (hsB hw) 0 (by decide) rfl q_259 dX9_membersIn_36 ?_
          refine lv_iload_n hx hcb dX9_membersIn_39 rfl (lv_at hl 3 rfl) ?_
          have hk_40 : i_ < 8 := (by omega)
          refine x_aald hx hcb hK hR (hoMs hw (by omega)) (hsMs hw) rfl (oMs_at hk_40) (Nat.lt_of_lt_of_le (Nat.lt_succ_self _) (Nat.le_of_ble_eq_true rfl)) dX9_membersIn_40 ?_
          refine x_getI hx hcb hts hown hK xc5 hR (hoM hw (by omega) hk_40) (hsM hw hk_40) 2 (by decide) rfl q_186 dX9_membersIn_41 ?_
          refine lv_iload_n hx hcb dX9_membersIn_44 rfl (lv_at hl 1 rfl) ?_
          refine lv_icmp_ne (tgt := 51) hx hcb dX9_membersIn_45 (by decide) (fun c_6 => ?_) (fun c_6 => ?_)
          · skip
            have hq_ := c_6
            refine lv_iinc (v := (nI (i_ + 1))) (lv' := [(3, .int (nI (i_ + 1))), (0, .ref (w.2.2 0)), (1, .int x), (2, .int (nI (ctN (fun m => decide (z.1 (oM 0 m) 2 = x)) i_)))]) hx hcb dX9_membersIn_51 hl (k := 3) rfl (x_iinc1 _) (by decide) rfl (fun ls hl => ?_)
            refine lv_goto (tgt := 21) hx hcb dX9_membersIn_54 (by decide) ?_
            rw [show (nI (ctN (fun m => decide (z.1 (oM 0 m) 2 = x)) i_)) = (nI (ctN (fun m => decide (z.1 (oM 0 m) 2 = x)) (i_ + 1))) from by first | rw [ctN_y (decide_eq_true hq_)] | rw [ctN_n (fun q_ => hq_ (of_decide_eq_true q_))]] at hl
            exact ih_21 (i_ + 1) (by omega) (by omega) _ _ _ hR hS (lv_sub hl [1, 2, 3, 0] rfl)
          · skip
            have hq_ := c_6
            refine lv_iinc (v := (nI ((ctN (fun m => decide (z.1 (oM 0 m) 2 = x)) i_) + 1))) (lv' := [(2, .int (nI ((ctN (fun m => decide (z.1 (oM 0 m) 2 = x)) i_) + 1))), (0, .ref (w.2.2 0)), (1, .int x), (3, .int (nI i_))]) hx hcb dX9_membersIn_48 hl (k := 2) rfl (x_iinc1 _) (by decide) rfl (fun ls hl => ?_)
            refine lv_iinc (v := (nI (i_ + 1))) (lv' := [(3, .int (nI (i_ + 1))), (2, .int (nI ((ctN (fun m => decide (z.1 (oM 0 m) 2 = x)) i_) + 1))), (0, .ref (w.2.2 0)), (1, .int x)]) hx hcb dX9_membersIn_51 hl (k := 3) rfl (x_iinc1 _) (by decide) rfl (fun ls hl => ?_)
            refine lv_goto (tgt := 21) hx hcb dX9_membersIn_54 (by decide) ?_
            rw [show (nI ((ctN (fun m => decide (z.1 (oM 0 m) 2 = x)) i_) + 1)) = (nI (ctN (fun m => decide (z.1 (oM 0 m) 2 = x)) (i_ + 1))) from by first | rw [ctN_y (decide_eq_true hq_)] | rw [ctN_n (fun q_ => hq_ (of_decide_eq_true q_))]] at hl
            exact ih_21 (i_ + 1) (by omega) (by omega) _ _ _ hR hS (lv_sub hl [2, 3, 1, 0] rfl)
    · skip
      have h1_ := c_4
      refine lv_iload_n hx hcb dX9_membersIn_9 rfl (lv_at hl 1 rfl) ?_
      refine lv_iconst (v := (nI 2)) hx hcb dX9_membersIn_10 (by decide) ?_
      refine lv_icmp_eq (tgt := 17) hx hcb dX9_membersIn_11 (by decide) (fun c_7 => ?_) (fun c_7 => ?_)
      · skip
        have h_ : x = 0 ∨ x = nI 1 ∨ x = nI 2 := Or.inr (Or.inr c_7)
        refine lv_iconst (v := (nI 0)) hx hcb dX9_membersIn_17 (by decide) ?_
        refine lv_istore_n (lv' := [(2, .int (nI 0)), (0, .ref (w.2.2 0)), (1, .int x)]) hx hcb dX9_membersIn_18 rfl hl (by decide) rfl (fun ls hl => ?_)
        refine lv_iconst (v := (nI 0)) hx hcb dX9_membersIn_19 (by decide) ?_
        refine lv_istore_n (lv' := [(3, .int (nI 0)), (2, .int (nI 0)), (0, .ref (w.2.2 0)), (1, .int x)]) hx hcb dX9_membersIn_20 rfl hl (by decide) rfl (fun ls hl => ?_)
        rw [show (nI 0) = (nI (ctN (fun m => decide (z.1 (oM 0 m) 2 = x)) 0)) from rfl] at hl
        suffices LP_21 : ∀ (nn : Nat) (i_ : Nat) (_ : bN z 0 3 - i_ < nn) (hi_ : i_ ≤ bN z 0 3) (H : Heap) (locs : List Loc) (ls : Array Slot), Rh G w z H → va_S (xA w s.heap.size) s.heap H locs → lv_has ls 4 [(0, .ref (w.2.2 0)), (1, .int x), (2, .int (nI (ctN (fun m => decide (z.1 (oM 0 m) 2 = x)) i_))), (3, .int (nI i_))] → W p l e rm_X9_membersIn s mt args below meth c H locs 0 0 Q (F0 mt 21 ls []) from LP_21 ((_) + 1) 0 (Nat.lt_succ_self _) (Nat.zero_le _) _ _ _ hR hS (lv_sub hl [2, 3, 1, 0] rfl)
        intro nn
        induction nn with
        | zero => intro i_ hm_ ; exact absurd hm_ (Nat.not_lt_zero _)
        | succ nn ih_21 =>
          intro i_ hm_21 hi_ H locs ls hR hS hl
          refine lv_iload_n hx hcb dX9_membersIn_21 rfl (lv_at hl 3 rfl) ?_
          refine lv_aload_n hx hcb dX9_membersIn_22 rfl (lv_at hl 0 rfl) ?_
          refine x_getR hx hcb hts hown hK xc9 hR (hw.lo (by decide)) (hw.s0 (by decide) rfl) 0 (by decide) rfl q_376 dX9_membersIn_23 ?_
          refine x_getI hx hcb hts hown hK xc0 hR (hoB hw (by omega)) (hsB hw) 3 (by decide) rfl q_271 dX9_membersIn_26 ?_
          refine x_top (show (z.1 (oB 0) 3) = (nI (bN z 0 3)) from hB.1) ?_
          refine lv_icmp_ge (tgt := 57) hx hcb dX9_membersIn_29 (by decide) (fun c_8 => ?_) (fun c_8 => ?_)
          · skip
            have c_8 : (bN z 0 3) ≤ i_ := (nI_leI (by omega) (by omega)).mp c_8
            obtain rfl : bN z 0 3 = i_ := by omega
            refine lv_iload_n hx hcb dX9_membersIn_57 rfl (lv_at hl 2 rfl) ?_
            exact hret (nI (ctN (fun m => decide (z.1 (oM 0 m) 2 = x)) (bN z 0 3))) z _ _ _ _ dX9_membersIn_58 rfl hR hS (⟨by rw [if_pos h_], rfl⟩)
          · skip
            have c_8 : ¬ (bN z 0 3) ≤ i_ := fun h_ => c_8 ((nI_leI (by omega) (by omega)).mpr h_)
            refine lv_aload_n hx hcb dX9_membersIn_32 rfl (lv_at hl 0 rfl) ?_
            refine x_getR hx hcb hts hown hK xc9 hR (hw.lo (by decide)) (hw.s0 (by decide) rfl) 0 (by decide) rfl q_376 dX9_membersIn_33 ?_
            refine x_getR hx hcb hts hown hK xc0 hR (hoB hw (by omega)) (hsB hw) 0 (by decide) rfl q_259 dX9_membersIn_36 ?_
            refine lv_iload_n hx hcb dX9_membersIn_39 rfl (lv_at hl 3 rfl) ?_
            have hk_40 : i_ < 8 := (by omega)
            refine x_aald hx hcb hK hR (hoMs hw (by omega)) (hsMs hw) rfl (oMs_at hk_40) (Nat.lt_of_lt_of_le (Nat.lt_succ_self _) (Nat.le_of_ble_eq_true rfl)) dX9_membersIn_40 ?_
            refine x_getI hx hcb hts hown hK xc5 hR (hoM hw (by omega) hk_40) (hsM hw hk_40) 2 (by decide) rfl q_186 dX9_membersIn_41 ?_
            refine lv_iload_n hx hcb dX9_membersIn_44 rfl (lv_at hl 1 rfl) ?_
            refine lv_icmp_ne (tgt := 51) hx hcb dX9_membersIn_45 (by decide) (fun c_9 => ?_) (fun c_9 => ?_)
            · skip
              have hq_ := c_9
              refine lv_iinc (v := (nI (i_ + 1))) (lv' := [(3, .int (nI (i_ + 1))), (0, .ref (w.2.2 0)), (1, .int x), (2, .int (nI (ctN (fun m => decide (z.1 (oM 0 m) 2 = x)) i_)))]) hx hcb dX9_membersIn_51 hl (k := 3) rfl (x_iinc1 _) (by decide) rfl (fun ls hl => ?_)
              refine lv_goto (tgt := 21) hx hcb dX9_membersIn_54 (by decide) ?_
              rw [show (nI (ctN (fun m => decide (z.1 (oM 0 m) 2 = x)) i_)) = (nI (ctN (fun m => decide (z.1 (oM 0 m) 2 = x)) (i_ + 1))) from by first | rw [ctN_y (decide_eq_true hq_)] | rw [ctN_n (fun q_ => hq_ (of_decide_eq_true q_))]] at hl
              exact ih_21 (i_ + 1) (by omega) (by omega) _ _ _ hR hS (lv_sub hl [1, 2, 3, 0] rfl)
            · skip
              have hq_ := c_9
              refine lv_iinc (v := (nI ((ctN (fun m => decide (z.1 (oM 0 m) 2 = x)) i_) + 1))) (lv' := [(2, .int (nI ((ctN (fun m => decide (z.1 (oM 0 m) 2 = x)) i_) + 1))), (0, .ref (w.2.2 0)), (1, .int x), (3, .int (nI i_))]) hx hcb dX9_membersIn_48 hl (k := 2) rfl (x_iinc1 _) (by decide) rfl (fun ls hl => ?_)
              refine lv_iinc (v := (nI (i_ + 1))) (lv' := [(3, .int (nI (i_ + 1))), (2, .int (nI ((ctN (fun m => decide (z.1 (oM 0 m) 2 = x)) i_) + 1))), (0, .ref (w.2.2 0)), (1, .int x)]) hx hcb dX9_membersIn_51 hl (k := 3) rfl (x_iinc1 _) (by decide) rfl (fun ls hl => ?_)
              refine lv_goto (tgt := 21) hx hcb dX9_membersIn_54 (by decide) ?_
              rw [show (nI ((ctN (fun m => decide (z.1 (oM 0 m) 2 = x)) i_) + 1)) = (nI (ctN (fun m => decide (z.1 (oM 0 m) 2 = x)) (i_ + 1))) from by first | rw [ctN_y (decide_eq_true hq_)] | rw [ctN_n (fun q_ => hq_ (of_decide_eq_true q_))]] at hl
              exact ih_21 (i_ + 1) (by omega) (by omega) _ _ _ hR hS (lv_sub hl [2, 3, 1, 0] rfl)
      · skip
        have h_ : ¬ (x = 0 ∨ x = nI 1 ∨ x = nI 2) := fun q_ => q_.elim h0_ (fun q_ => q_.elim h1_ c_7)
        refine lv_bipush (v := (-2)) hx hcb dX9_membersIn_14 (by decide) ?_
        exact hret (-2) z _ _ _ _ dX9_membersIn_16 rfl hR hS (⟨by rw [if_neg h_], rfl⟩)
def rm_X9_takeResults : Room := { frames := 0, cells := 0, slots := 0, locals := 0 }
set_option maxRecDepth 100000 in
set_option maxHeartbeats 4000000 in
theorem c_X9_takeResults (l : Launch) (G : xGl) (w : xWd) (K : Nat) (hw : isC K w) (z : xSt) (sz : Nat) (a : Int32) (b : Int32) (c_ : Int32) (d : Int32) (hB : bOk z 0) : xMi l yX9_takeResults cX9_takeResults 7 (some FieldType.boolean) rm_X9_takeResults G w z sz [.ref (w.2.2 0), .int a, .int b, .int c_, .int d] (fun r z1 => r = (if okR (bN z 0 4) ((zR z a b c_ d).1 1) then 1 else 0) ∧ z1 = zR z a b c_ d) := by
  refine x_mi (by decide) (Nat.le_of_ble_eq_true rfl) ?_
  intro p e s mt args below meth c ls Q hsz X hR hS hl hret
  obtain ⟨hx, hcb, hml, hown, hts, hlk, hK, hZ⟩ := X
  have hl : lv_has ls 7 [(0, .ref (w.2.2 0)), (1, .int a), (2, .int b), (3, .int c_), (4, .int d)] := hl
  have hb3_ := hB.2.1
  have hb4_ := hB.2.2.2.1
  have hb5_ := hB.2.2.2.2.2
  refine lv_aload_n hx hcb dX9_takeResults_0 rfl (lv_at hl 0 rfl) ?_
  refine x_getR hx hcb hts hown hK xc9 hR (hw.lo (by decide)) (hw.s0 (by decide) rfl) 2 (by decide) rfl q_378 dX9_takeResults_1 ?_
  refine lv_iconst (v := (nI 0)) hx hcb dX9_takeResults_4 (by decide) ?_
  refine lv_iload_n hx hcb dX9_takeResults_5 rfl (lv_at hl 1 rfl) ?_
  refine x_iast hx hcb hK hR hS (hw.lo (by decide)) (hw.s0 (by decide) rfl) (k := 0) (v := a) (by omega) (by decide) dX9_takeResults_6 (fun H locs hR hS => ?_)
  refine lv_aload_n hx hcb dX9_takeResults_7 rfl (lv_at hl 0 rfl) ?_
  refine x_getR hx hcb hts hown hK xc9 hR (hw.lo (by decide)) (hw.s0 (by decide) rfl) 2 (by decide) rfl q_378 dX9_takeResults_8 ?_
  refine lv_iconst (v := (nI 1)) hx hcb dX9_takeResults_11 (by decide) ?_
  refine lv_iload_n hx hcb dX9_takeResults_12 rfl (lv_at hl 2 rfl) ?_
  refine x_iast hx hcb hK hR hS (hw.lo (by decide)) (hw.s0 (by decide) rfl) (k := 1) (v := b) (by omega) (by decide) dX9_takeResults_13 (fun H locs hR hS => ?_)
  refine lv_aload_n hx hcb dX9_takeResults_14 rfl (lv_at hl 0 rfl) ?_
  refine x_getR hx hcb hts hown hK xc9 hR (hw.lo (by decide)) (hw.s0 (by decide) rfl) 2 (by decide) rfl q_378 dX9_takeResults_15 ?_
  refine lv_iconst (v := (nI 2)) hx hcb dX9_takeResults_18 (by decide) ?_
  refine lv_iload_n hx hcb dX9_takeResults_19 rfl (lv_at hl 3 rfl) ?_
  refine x_iast hx hcb hK hR hS (hw.lo (by decide)) (hw.s0 (by decide) rfl) (k := 2) (v := c_) (by omega) (by decide) dX9_takeResults_20 (fun H locs hR hS => ?_)
  refine lv_aload_n hx hcb dX9_takeResults_21 rfl (lv_at hl 0 rfl) ?_
  refine x_getR hx hcb hts hown hK xc9 hR (hw.lo (by decide)) (hw.s0 (by decide) rfl) 2 (by decide) rfl q_378 dX9_takeResults_22 ?_
  refine lv_iconst (v := (nI 3)) hx hcb dX9_takeResults_25 (by decide) ?_
  refine lv_iload hx hcb dX9_takeResults_26 (lv_at hl 4 rfl) ?_
  refine x_iast hx hcb hK hR hS (hw.lo (by decide)) (hw.s0 (by decide) rfl) (k := 3) (v := d) (by omega) (by decide) dX9_takeResults_28 (fun H locs hR hS => ?_)
  rw [show u1 (u1 (u1 (u1 z 1 0 a) 1 1 b) 1 2 c_) 1 3 d = zR z a b c_ d from rfl] at hR
  refine lv_iconst (v := (nI 0)) hx hcb dX9_takeResults_29 (by decide) ?_
  refine lv_istore (lv' := [(5, .int (nI 0)), (0, .ref (w.2.2 0)), (1, .int a), (2, .int b), (3, .int c_), (4, .int d)]) hx hcb dX9_takeResults_30 hl (by decide) rfl (fun ls hl => ?_)
  suffices LP_32 : ∀ (nn : Nat) (i_ : Nat) (_ : 4 - i_ < nn) (hi_ : i_ ≤ 4) (ha_ : ∀ j, j < i_ → -(mst (bN z 0 4) j) ≤ (zR z a b c_ d).1 1 j ∧ (zR z a b c_ d).1 1 j ≤ mst (bN z 0 4) j) (H : Heap) (locs : List Loc) (ls : Array Slot), Rh G w (zR z a b c_ d) H → va_S (xA w s.heap.size) s.heap H locs → lv_has ls 7 [(0, .ref (w.2.2 0)), (5, .int (nI i_))] → W p l e rm_X9_takeResults s mt args below meth c H locs 0 0 Q (F0 mt 32 ls []) from LP_32 ((_) + 1) 0 (Nat.lt_succ_self _) (by omega) (fun j q_ => absurd q_ (Nat.not_lt_zero j)) _ _ _ hR hS (lv_sub hl [1, 0] rfl)
  intro nn
  induction nn with
  | zero => intro i_ hm_ ; exact absurd hm_ (Nat.not_lt_zero _)
  | succ nn ih_32 =>
    intro i_ hm_32 hi_ ha_ H locs ls hR hS hl
    refine lv_iload hx hcb dX9_takeResults_32 (lv_at hl 1 rfl) ?_
    refine lv_iconst (v := (nI 4)) hx hcb dX9_takeResults_34 (by decide) ?_
    refine lv_icmp_ge (tgt := 92) hx hcb dX9_takeResults_35 (by decide) (fun c_1 => ?_) (fun c_1 => ?_)
    · skip
      have c_1 : 4 ≤ i_ := (nI_leI (by omega) (by omega)).mp c_1
      obtain rfl : 4 = i_ := by omega
      have h_ : okR (bN z 0 4) ((zR z a b c_ d).1 1) := ha_
      refine lv_iconst (v := (nI 1)) hx hcb dX9_takeResults_92 (by decide) ?_
      exact hret (nI 1) (zR z a b c_ d) _ _ _ _ dX9_takeResults_93 rfl hR hS (⟨by first | (rw [if_pos h_]; first | done | rfl) | (rw [if_neg h_]; first | done | rfl), rfl⟩)
    · skip
      have c_1 : ¬ 4 ≤ i_ := fun h_ => c_1 ((nI_leI (by omega) (by omega)).mpr h_)
      refine lv_iload hx hcb dX9_takeResults_38 (lv_at hl 1 rfl) ?_
      refine lv_aload_n hx hcb dX9_takeResults_40 rfl (lv_at hl 0 rfl) ?_
      refine x_getR hx hcb hts hown hK xc9 hR (hw.lo (by decide)) (hw.s0 (by decide) rfl) 0 (by decide) rfl q_376 dX9_takeResults_41 ?_
      refine x_getI hx hcb hts hown hK xc0 hR (hoB hw (by omega)) (hsB hw) 4 (by decide) rfl q_276 dX9_takeResults_44 ?_
      refine x_top (show ((zR z a b c_ d).1 (oB 0) 4) = (nI (bN z 0 4)) from by rw [zR_ne (by decide)]; exact hB.2.2.1) ?_
      refine lv_icmp_ge (tgt := 56) hx hcb dX9_takeResults_47 (by decide) (fun c_2 => ?_) (fun c_2 => ?_)
      · skip
        have c_2 : (bN z 0 4) ≤ i_ := (nI_leI (by omega) (by omega)).mp c_2
        have em_ : mst (bN z 0 4) i_ = nI 0 := if_neg (by omega)
        refine lv_iconst (v := (nI 0)) hx hcb dX9_takeResults_56 (by decide) ?_
        refine lv_istore (lv' := [(6, .int (nI 0)), (0, .ref (w.2.2 0)), (5, .int (nI i_))]) hx hcb dX9_takeResults_57 hl (by decide) rfl (fun ls hl => ?_)
        refine lv_aload_n hx hcb dX9_takeResults_59 rfl (lv_at hl 1 rfl) ?_
        refine x_getR hx hcb hts hown hK xc9 hR (hw.lo (by decide)) (hw.s0 (by decide) rfl) 2 (by decide) rfl q_378 dX9_takeResults_60 ?_
        refine lv_iload hx hcb dX9_takeResults_63 (lv_at hl 2 rfl) ?_
        refine x_iald hx hcb hK hR (hw.lo (by decide)) (hw.s0 (by decide) rfl) (k := i_) (by omega) (by decide) dX9_takeResults_65 ?_
        refine lv_iload hx hcb dX9_takeResults_66 (lv_at hl 0 rfl) ?_
        refine lv_ineg hx hcb dX9_takeResults_68 ?_
        refine lv_icmp_lt (tgt := 84) hx hcb dX9_takeResults_69 (by decide) (fun c_3 => ?_) (fun c_3 => ?_)
        · skip
          have h_ : ¬ okR (bN z 0 4) ((zR z a b c_ d).1 1) := fun q_ => absurd c_3 (Int32.not_lt.mpr (by have t_ := (q_ i_ (by omega)).1; rw [em_] at t_; exact t_))
          refine lv_iconst (v := (nI 0)) hx hcb dX9_takeResults_84 (by decide) ?_
          exact hret (nI 0) (zR z a b c_ d) _ _ _ _ dX9_takeResults_85 rfl hR hS (⟨by first | (rw [if_pos h_]; first | done | rfl) | (rw [if_neg h_]; first | done | rfl), rfl⟩)
        · skip
          have h1_ : -(mst (bN z 0 4) i_) ≤ (zR z a b c_ d).1 1 i_ := by rw [em_]; exact Int32.not_lt.mp c_3
          refine lv_aload_n hx hcb dX9_takeResults_72 rfl (lv_at hl 1 rfl) ?_
          refine x_getR hx hcb hts hown hK xc9 hR (hw.lo (by decide)) (hw.s0 (by decide) rfl) 2 (by decide) rfl q_378 dX9_takeResults_73 ?_
          refine lv_iload hx hcb dX9_takeResults_76 (lv_at hl 2 rfl) ?_
          refine x_iald hx hcb hK hR (hw.lo (by decide)) (hw.s0 (by decide) rfl) (k := i_) (by omega) (by decide) dX9_takeResults_78 ?_
          refine lv_iload hx hcb dX9_takeResults_79 (lv_at hl 0 rfl) ?_
          refine lv_icmp_le (tgt := 86) hx hcb dX9_takeResults_81 (by decide) (fun c_4 => ?_) (fun c_4 => ?_)
          · skip
            have h2_ : (zR z a b c_ d).1 1 i_ ≤ mst (bN z 0 4) i_ := by rw [em_]; exact c_4
            refine lv_iinc (v := (nI (i_ + 1))) (lv' := [(5, .int (nI (i_ + 1))), (6, .int (nI 0)), (0, .ref (w.2.2 0))]) hx hcb dX9_takeResults_86 hl (k := 2) rfl (x_iinc1 _) (by decide) rfl (fun ls hl => ?_)
            refine lv_goto (tgt := 32) hx hcb dX9_takeResults_89 (by decide) ?_
            exact ih_32 (i_ + 1) (by omega) (by omega) (okR_s ha_ ⟨h1_, h2_⟩) _ _ _ hR hS (lv_sub hl [2, 0] rfl)
          · skip
            have h_ : ¬ okR (bN z 0 4) ((zR z a b c_ d).1 1) := fun q_ => c_4 (by have t_ := (q_ i_ (by omega)).2; rw [em_] at t_; exact t_)
            refine lv_iconst (v := (nI 0)) hx hcb dX9_takeResults_84 (by decide) ?_
            exact hret (nI 0) (zR z a b c_ d) _ _ _ _ dX9_takeResults_85 rfl hR hS (⟨by first | (rw [if_pos h_]; first | done | rfl) | (rw [if_neg h_]; first | done | rfl), rfl⟩)
      · skip
        have c_2 : ¬ (bN z 0 4) ≤ i_ := fun h_ => c_2 ((nI_leI (by omega) (by omega)).mpr h_)
        have em_ : mst (bN z 0 4) i_ = nI 1000000 := if_pos (by omega)
        refine lv_ldcw (v := (nI 1000000)) hx hcb hown (hts _ q_730) dX9_takeResults_50 ?_
        refine lv_goto (tgt := 57) hx hcb dX9_takeResults_53 (by decide) ?_
        refine lv_istore (lv' := [(6, .int (nI 1000000)), (0, .ref (w.2.2 0)), (5, .int (nI i_))]) hx hcb dX9_takeResults_57 hl (by decide) rfl (fun ls hl => ?_)
        refine lv_aload_n hx hcb dX9_takeResults_59 rfl (lv_at hl 1 rfl) ?_
        refine x_getR hx hcb hts hown hK xc9 hR (hw.lo (by decide)) (hw.s0 (by decide) rfl) 2 (by decide) rfl q_378 dX9_takeResults_60 ?_
        refine lv_iload hx hcb dX9_takeResults_63 (lv_at hl 2 rfl) ?_
        refine x_iald hx hcb hK hR (hw.lo (by decide)) (hw.s0 (by decide) rfl) (k := i_) (by omega) (by decide) dX9_takeResults_65 ?_
        refine lv_iload hx hcb dX9_takeResults_66 (lv_at hl 0 rfl) ?_
        refine lv_ineg hx hcb dX9_takeResults_68 ?_
        refine lv_icmp_lt (tgt := 84) hx hcb dX9_takeResults_69 (by decide) (fun c_5 => ?_) (fun c_5 => ?_)
        · skip
          have h_ : ¬ okR (bN z 0 4) ((zR z a b c_ d).1 1) := fun q_ => absurd c_5 (Int32.not_lt.mpr (by have t_ := (q_ i_ (by omega)).1; rw [em_] at t_; exact t_))
          refine lv_iconst (v := (nI 0)) hx hcb dX9_takeResults_84 (by decide) ?_
          exact hret (nI 0) (zR z a b c_ d) _ _ _ _ dX9_takeResults_85 rfl hR hS (⟨by first | (rw [if_pos h_]; first | done | rfl) | (rw [if_neg h_]; first | done | rfl), rfl⟩)
        · skip
          have h1_ : -(mst (bN z 0 4) i_) ≤ (zR z a b c_ d).1 1 i_ := by rw [em_]; exact Int32.not_lt.mp c_5
          refine lv_aload_n hx hcb dX9_takeResults_72 rfl (lv_at hl 1 rfl) ?_
          refine x_getR hx hcb hts hown hK xc9 hR (hw.lo (by decide)) (hw.s0 (by decide) rfl) 2 (by decide) rfl q_378 dX9_takeResults_73 ?_
          refine lv_iload hx hcb dX9_takeResults_76 (lv_at hl 2 rfl) ?_
          refine x_iald hx hcb hK hR (hw.lo (by decide)) (hw.s0 (by decide) rfl) (k := i_) (by omega) (by decide) dX9_takeResults_78 ?_
          refine lv_iload hx hcb dX9_takeResults_79 (lv_at hl 0 rfl) ?_
          refine lv_icmp_le (tgt := 86) hx hcb dX9_takeResults_81 (by decide) (fun c_6 => ?_) (fun c_6 => ?_)
          · skip
            have h2_ : (zR z a b c_ d).1 1 i_ ≤ mst (bN z 0 4) i_ := by rw [em_]; exact c_6
            refine lv_iinc (v := (nI (i_ + 1))) (lv' := [(5, .int (nI (i_ + 1))), (6, .int (nI 1000000)), (0, .ref (w.2.2 0))]) hx hcb dX9_takeResults_86 hl (k := 2) rfl (x_iinc1 _) (by decide) rfl (fun ls hl => ?_)
            refine lv_goto (tgt := 32) hx hcb dX9_takeResults_89 (by decide) ?_
            exact ih_32 (i_ + 1) (by omega) (by omega) (okR_s ha_ ⟨h1_, h2_⟩) _ _ _ hR hS (lv_sub hl [2, 0] rfl)
          · skip
            have h_ : ¬ okR (bN z 0 4) ((zR z a b c_ d).1 1) := fun q_ => c_6 (by have t_ := (q_ i_ (by omega)).2; rw [em_] at t_; exact t_)
            refine lv_iconst (v := (nI 0)) hx hcb dX9_takeResults_84 (by decide) ?_
            exact hret (nI 0) (zR z a b c_ d) _ _ _ _ dX9_takeResults_85 rfl hR hS (⟨by first | (rw [if_pos h_]; first | done | rfl) | (rw [if_neg h_]; first | done | rfl), rfl⟩)
def rm_X9_tryClosing : Room := { frames := 4, cells := 0, slots := 0, locals := 85 }
set_option maxRecDepth 100000 in
set_option maxHeartbeats 4000000 in
theorem c_X9_tryClosing (l : Launch) (G : xGl) (w : xWd) (K : Nat) (hw : isC K w) (z : xSt) (sz : Nat) (a : Int32) (b : Int32) (c_ : Int32) (d : Int32) (hB : bOk z 0) (hC : cnB z 0) : xMi l yX9_tryClosing cX9_tryClosing 5 (some FieldType.boolean) rm_X9_tryClosing G w z sz [.ref (w.2.2 0), .int a, .int b, .int c_, .int d] (fun r z1 => r = (if okR (bN z 0 4) ((zR z a b c_ d).1 1) then 1 else 0) ∧ z1 = tcY z a b c_ d) := by
  refine x_mi (by decide) (Nat.le_of_ble_eq_true rfl) ?_
  intro p e s mt args below meth c ls Q hsz X hR hS hl hret
  obtain ⟨hx, hcb, hml, hown, hts, hlk, hK, hZ⟩ := X
  have hl : lv_has ls 5 [(0, .ref (w.2.2 0)), (1, .int a), (2, .int b), (3, .int c_), (4, .int d)] := hl
  have hb3_ := hB.2.1
  have hb4_ := hB.2.2.2.1
  have hb5_ := hB.2.2.2.2.2
  refine lv_aload_n hx hcb dX9_tryClosing_0 rfl (lv_at hl 0 rfl) ?_
  refine lv_iload_n hx hcb dX9_tryClosing_1 rfl (lv_at hl 1 rfl) ?_
  refine lv_iload_n hx hcb dX9_tryClosing_2 rfl (lv_at hl 2 rfl) ?_
  refine lv_iload_n hx hcb dX9_tryClosing_3 rfl (lv_at hl 3 rfl) ?_
  refine lv_iload hx hcb dX9_tryClosing_4 (lv_at hl 4 rfl) ?_
  refine x_ci0 rfl rfl (x_runV hx hcb hml hown hts (c_X9_takeResults l G w K hw z _ a b c_ d hB) mv_X9_takeResults q_726 hK hZ hR hS (hw.lo (by decide)) xc9 (hw.s0 (by decide) rfl) rfl hl.1 rfl (Nat.le_of_ble_eq_true rfl) dX9_tryClosing_6 ⟨by decide, by decide⟩ ⟨by decide, by decide⟩) hS (fun r_1 z_2 H locs hp_3 hR hS => ?_)
  rw [hp_3.2] at hR; rw [hp_3.1]
  refine lv_if_ne (tgt := 14) hx hcb dX9_tryClosing_9 (by decide) (fun c_4 => ?_) (fun c_4 => ?_)
  · skip
    have h_ : okR (bN z 0 4) ((zR z a b c_ d).1 1) := Classical.byContradiction (fun q_ => c_4 (if_neg q_))
    refine lv_aload_n hx hcb dX9_tryClosing_14 rfl (lv_at hl 0 rfl) ?_
    refine x_getR hx hcb hts hown hK xc9 hR (hw.lo (by decide)) (hw.s0 (by decide) rfl) 1 (by decide) rfl q_377 dX9_tryClosing_15 ?_
    refine lv_aload_n hx hcb dX9_tryClosing_18 rfl (lv_at hl 0 rfl) ?_
    refine x_getR hx hcb hts hown hK xc9 hR (hw.lo (by decide)) (hw.s0 (by decide) rfl) 0 (by decide) rfl q_376 dX9_tryClosing_19 ?_
    refine x_cv0 rfl rfl (x_runV hx hcb hml hown hts (c_X0_copyFrom l G w K hw (zR z a b c_ d) _ 1 (by omega) 0 (by omega) (bN z 0 3) (bN z 0 4) (by omega) (by rw [zR_ne (by decide)]; exact hB.1) hb3_ (by rw [zR_ne (by decide)]; exact hB.2.2.1) hb4_ (fun m hm => by rw [zR_ne (by simp only [oM]; omega)]; exact hC m (by omega))) mv_X0_copyFrom q_651 hK hZ hR hS (hoB hw (by omega)) xc0 (hsB hw) rfl hl.1 rfl (Nat.le_of_ble_eq_true rfl) dX9_tryClosing_22 ⟨by decide, by decide⟩ ⟨by decide, by decide⟩) hS (fun z_6 H locs hp_7 hR hS => ?_)
    rw [hp_7] at hR
    refine lv_aload_n hx hcb dX9_tryClosing_25 rfl (lv_at hl 0 rfl) ?_
    refine x_getR hx hcb hts hown hK xc9 hR (hw.lo (by decide)) (hw.s0 (by decide) rfl) 4 (by decide) rfl q_380 dX9_tryClosing_26 ?_
    refine lv_aload_n hx hcb dX9_tryClosing_29 rfl (lv_at hl 0 rfl) ?_
    refine x_getR hx hcb hts hown hK xc9 hR (hw.lo (by decide)) (hw.s0 (by decide) rfl) 1 (by decide) rfl q_377 dX9_tryClosing_30 ?_
    refine lv_aload_n hx hcb dX9_tryClosing_33 rfl (lv_at hl 0 rfl) ?_
    refine x_getR hx hcb hts hown hK xc9 hR (hw.lo (by decide)) (hw.s0 (by decide) rfl) 2 (by decide) rfl q_378 dX9_tryClosing_34 ?_
    refine x_cv0 rfl rfl (x_runV hx hcb hml hown hts (c_X1_carryOut l G w K hw (cpA (zR z a b c_ d) 1 0 (bN z 0 3) (bN z 0 4)) _ 1 (by omega) 1 4 (hw.lo (by decide)) (hw.s0 (by decide) rfl) (by decide) (bN z 0 3) (bN z 0 4) (bN z 0 5) (⟨rfl, Or.inl rfl⟩) (by rw [cpA_B, zR_ne (by decide)]; exact hB.1) hb3_ (by rw [cpA_B, zR_ne (by decide)]; exact hB.2.2.1) hb4_ (by rw [cpA_B, zR_ne (by decide)]; exact hB.2.2.2.2.1) (by omega)) mv_X1_carryOut q_731 hK hZ hR hS (hw.lo (by decide)) xc1 (hw.s0 (by decide) rfl) rfl hl.1 rfl (Nat.le_of_ble_eq_true rfl) dX9_tryClosing_37 ⟨by decide, by decide⟩ ⟨by decide, by decide⟩) hS (fun z_9 H locs hp_10 hR hS => ?_)
    rw [hp_10] at hR
    refine lv_iconst (v := (nI 1)) hx hcb dX9_tryClosing_40 (by decide) ?_
    exact hret (nI 1) (clos (cpA (zR z a b c_ d) 1 0 (bN z 0 3) (bN z 0 4)) 1 1 (bN z 0 3) (bN z 0 4) (bN z 0 5)) _ _ _ _ dX9_tryClosing_41 rfl hR hS (⟨by rw [if_pos h_]; first | done | rfl, by unfold tcY; rw [if_pos h_]; rfl⟩)
  · skip
    have h_ : ¬ (okR (bN z 0 4) ((zR z a b c_ d).1 1)) := fun q_ => absurd c_4 (by rw [if_pos q_]; decide)
    refine lv_iconst (v := (nI 0)) hx hcb dX9_tryClosing_12 (by decide) ?_
    exact hret (nI 0) (zR z a b c_ d) _ _ _ _ dX9_tryClosing_13 rfl hR hS (⟨by rw [if_neg h_]; first | done | rfl, by unfold tcY; rw [if_neg h_]⟩)
def rm_X9_wouldReserve : Room := { frames := 5, cells := 0, slots := 0, locals := 109 }
set_option maxRecDepth 100000 in
set_option maxHeartbeats 4000000 in
theorem c_X9_wouldReserve (l : Launch) (G : xGl) (w : xWd) (K : Nat) (hw : isC K w) (z : xSt) (sz : Nat) (a : Int32) (b : Int32) (c_ : Int32) (d : Int32) (hB : bOk z 0) (hC : cnB z 0) : xMi l yX9_wouldReserve cX9_wouldReserve 5 (some FieldType.int) rm_X9_wouldReserve G w z sz [.ref (w.2.2 0), .int a, .int b, .int c_, .int d] (fun r z1 => r = (if okR (bN z 0 4) ((zR z a b c_ d).1 1) then (tcZ z a b c_ d).1 (oB 1) 6 else (-100000000)) ∧ z1 = tcY z a b c_ d) := by
  refine x_mi (by decide) (Nat.le_of_ble_eq_true rfl) ?_
  intro p e s mt args below meth c ls Q hsz X hR hS hl hret
  obtain ⟨hx, hcb, hml, hown, hts, hlk, hK, hZ⟩ := X
  have hl : lv_has ls 5 [(0, .ref (w.2.2 0)), (1, .int a), (2, .int b), (3, .int c_), (4, .int d)] := hl
  refine lv_aload_n hx hcb dX9_wouldReserve_0 rfl (lv_at hl 0 rfl) ?_
  refine lv_iload_n hx hcb dX9_wouldReserve_1 rfl (lv_at hl 1 rfl) ?_
  refine lv_iload_n hx hcb dX9_wouldReserve_2 rfl (lv_at hl 2 rfl) ?_
  refine lv_iload_n hx hcb dX9_wouldReserve_3 rfl (lv_at hl 3 rfl) ?_
  refine lv_iload hx hcb dX9_wouldReserve_4 (lv_at hl 4 rfl) ?_
  refine x_ci0 rfl rfl (x_runV hx hcb hml hown hts (c_X9_tryClosing l G w K hw z _ a b c_ d hB hC) mv_X9_tryClosing q_722 hK hZ hR hS (hw.lo (by decide)) xc9 (hw.s0 (by decide) rfl) rfl hl.1 rfl (Nat.le_of_ble_eq_true rfl) dX9_wouldReserve_6 ⟨by decide, by decide⟩ ⟨by decide, by decide⟩) hS (fun r_1 z_2 H locs hp_3 hR hS => ?_)
  rw [hp_3.2] at hR; rw [hp_3.1]
  refine lv_if_eq (tgt := 22) hx hcb dX9_wouldReserve_9 (by decide) (fun c_4 => ?_) (fun c_4 => ?_)
  · skip
    have h_ : ¬ (okR (bN z 0 4) ((zR z a b c_ d).1 1)) := fun q_ => absurd c_4 (by rw [if_pos q_]; decide)
    refine lv_ldc (v := (-100000000)) hx hcb hown (hts _ q_803) dX9_wouldReserve_22 ?_
    exact hret (-100000000) (tcY z a b c_ d) _ _ _ _ dX9_wouldReserve_24 rfl hR hS (⟨by first | (rw [if_pos h_]; unfold tcY; rw [if_pos h_]; done) | (rw [if_neg h_]; done), rfl⟩)
  · skip
    have h_ : okR (bN z 0 4) ((zR z a b c_ d).1 1) := Classical.byContradiction (fun q_ => c_4 (if_neg q_))
    refine lv_aload_n hx hcb dX9_wouldReserve_12 rfl (lv_at hl 0 rfl) ?_
    refine x_getR hx hcb hts hown hK xc9 hR (hw.lo (by decide)) (hw.s0 (by decide) rfl) 1 (by decide) rfl q_377 dX9_wouldReserve_13 ?_
    refine x_getI hx hcb hts hown hK xc0 hR (hoB hw (by omega)) (hsB hw) 6 (by decide) rfl q_283 dX9_wouldReserve_16 ?_
    refine lv_goto (tgt := 24) hx hcb dX9_wouldReserve_19 (by decide) ?_
    exact hret ((tcY z a b c_ d).1 (oB 1) 6) (tcY z a b c_ d) _ _ _ _ dX9_wouldReserve_24 rfl hR hS (⟨by first | (rw [if_pos h_]; unfold tcY; rw [if_pos h_]; done) | (rw [if_neg h_]; done), rfl⟩)
def rm_X9_cashNeeded : Room := { frames := 5, cells := 0, slots := 0, locals := 109 }
set_option maxRecDepth 100000 in
set_option maxHeartbeats 4000000 in
theorem c_X9_cashNeeded (l : Launch) (G : xGl) (w : xWd) (K : Nat) (hw : isC K w) (z : xSt) (sz : Nat) (a : Int32) (b : Int32) (c_ : Int32) (d : Int32) (hB : bOk z 0) (hC : cnB z 0) : xMi l yX9_cashNeeded cX9_cashNeeded 5 (some FieldType.int) rm_X9_cashNeeded G w z sz [.ref (w.2.2 0), .int a, .int b, .int c_, .int d] (fun r z1 => r = (if okR (bN z 0 4) ((zR z a b c_ d).1 1) then bx_sum (fun m => (tcZ z a b c_ d).1 (oPd 1 m) 0) (bN z 0 3) - bx_sum (fun m => (tcZ z a b c_ d).1 (oPd 0 m) 0) (bN z 0 3) + bx_sum (fun m => (tcZ z a b c_ d).1 (oPd 1 m) 2) (bN z 0 3) - bx_sum (fun m => (tcZ z a b c_ d).1 (oPd 0 m) 2) (bN z 0 3) else (-2)) ∧ z1 = tcY z a b c_ d) := by
  refine x_mi (by decide) (Nat.le_of_ble_eq_true rfl) ?_
  intro p e s mt args below meth c ls Q hsz X hR hS hl hret
  obtain ⟨hx, hcb, hml, hown, hts, hlk, hK, hZ⟩ := X
  have hl : lv_has ls 5 [(0, .ref (w.2.2 0)), (1, .int a), (2, .int b), (3, .int c_), (4, .int d)] := hl
  refine lv_aload_n hx hcb dX9_cashNeeded_0 rfl (lv_at hl 0 rfl) ?_
  refine lv_iload_n hx hcb dX9_cashNeeded_1 rfl (lv_at hl 1 rfl) ?_
  refine lv_iload_n hx hcb dX9_cashNeeded_2 rfl (lv_at hl 2 rfl) ?_
  refine lv_iload_n hx hcb dX9_cashNeeded_3 rfl (lv_at hl 3 rfl) ?_
  refine lv_iload hx hcb dX9_cashNeeded_4 (lv_at hl 4 rfl) ?_
  refine x_ci0 rfl rfl (x_runV hx hcb hml hown hts (c_X9_tryClosing l G w K hw z _ a b c_ d hB hC) mv_X9_tryClosing q_722 hK hZ hR hS (hw.lo (by decide)) xc9 (hw.s0 (by decide) rfl) rfl hl.1 rfl (Nat.le_of_ble_eq_true rfl) dX9_cashNeeded_6 ⟨by decide, by decide⟩ ⟨by decide, by decide⟩) hS (fun r_1 z_2 H locs hp_3 hR hS => ?_)
  rw [hp_3.2] at hR; rw [hp_3.1]
  refine lv_if_ne (tgt := 15) hx hcb dX9_cashNeeded_9 (by decide) (fun c_4 => ?_) (fun c_4 => ?_)
  · skip
    have h_ : okR (bN z 0 4) ((zR z a b c_ d).1 1) := Classical.byContradiction (fun q_ => c_4 (if_neg q_))
    rw [show tcY z a b c_ d = tcZ z a b c_ d from if_pos h_] at hR
    refine lv_aload_n hx hcb dX9_cashNeeded_15 rfl (lv_at hl 0 rfl) ?_
    refine x_getR hx hcb hts hown hK xc9 hR (hw.lo (by decide)) (hw.s0 (by decide) rfl) 1 (by decide) rfl q_377 dX9_cashNeeded_16 ?_
    refine lv_iconst (v := (nI 0)) hx hcb dX9_cashNeeded_19 (by decide) ?_
    refine x_ci0 rfl rfl (x_runV hx hcb hml hown hts (c_X0_paidInAll l G w K hw (tcZ z a b c_ d) _ 1 (by omega) 0 (bN z 0 3) (tcZ_B hB) hB.2.1 (by omega)) mv_X0_paidInAll q_756 hK hZ hR hS (hoB hw (by omega)) xc0 (hsB hw) rfl hl.1 rfl (Nat.le_of_ble_eq_true rfl) dX9_cashNeeded_20 ⟨by decide, by decide⟩ ⟨by decide, by decide⟩) hS (fun r_5 z_6 H locs hp_7 hR hS => ?_)
    rw [hp_7.2] at hR; rw [hp_7.1]
    refine lv_aload_n hx hcb dX9_cashNeeded_23 rfl (lv_at hl 0 rfl) ?_
    refine x_getR hx hcb hts hown hK xc9 hR (hw.lo (by decide)) (hw.s0 (by decide) rfl) 0 (by decide) rfl q_376 dX9_cashNeeded_24 ?_
    refine lv_iconst (v := (nI 0)) hx hcb dX9_cashNeeded_27 (by decide) ?_
    refine x_ci0 rfl rfl (x_runV hx hcb hml hown hts (c_X0_paidInAll l G w K hw (tcZ z a b c_ d) _ 0 (by omega) 0 (bN z 0 3) (by rw [tcZ_0 hB (by decide) (by decide)]; exact hB.1) hB.2.1 (by omega)) mv_X0_paidInAll q_756 hK hZ hR hS (hoB hw (by omega)) xc0 (hsB hw) rfl hl.1 rfl (Nat.le_of_ble_eq_true rfl) dX9_cashNeeded_28 ⟨by decide, by decide⟩ ⟨by decide, by decide⟩) hS (fun r_8 z_9 H locs hp_10 hR hS => ?_)
    rw [hp_10.2] at hR; rw [hp_10.1]
    refine lv_isub hx hcb dX9_cashNeeded_31 ?_
    refine lv_aload_n hx hcb dX9_cashNeeded_32 rfl (lv_at hl 0 rfl) ?_
    refine x_getR hx hcb hts hown hK xc9 hR (hw.lo (by decide)) (hw.s0 (by decide) rfl) 1 (by decide) rfl q_377 dX9_cashNeeded_33 ?_
    refine lv_iconst (v := (nI 2)) hx hcb dX9_cashNeeded_36 (by decide) ?_
    refine x_ci0 rfl rfl (x_runV hx hcb hml hown hts (c_X0_paidInAll l G w K hw (tcZ z a b c_ d) _ 1 (by omega) 2 (bN z 0 3) (tcZ_B hB) hB.2.1 (by omega)) mv_X0_paidInAll q_756 hK hZ hR hS (hoB hw (by omega)) xc0 (hsB hw) rfl hl.1 rfl (Nat.le_of_ble_eq_true rfl) dX9_cashNeeded_37 ⟨by decide, by decide⟩ ⟨by decide, by decide⟩) hS (fun r_11 z_12 H locs hp_13 hR hS => ?_)
    rw [hp_13.2] at hR; rw [hp_13.1]
    refine lv_iadd hx hcb dX9_cashNeeded_40 ?_
    refine lv_aload_n hx hcb dX9_cashNeeded_41 rfl (lv_at hl 0 rfl) ?_
    refine x_getR hx hcb hts hown hK xc9 hR (hw.lo (by decide)) (hw.s0 (by decide) rfl) 0 (by decide) rfl q_376 dX9_cashNeeded_42 ?_
    refine lv_iconst (v := (nI 2)) hx hcb dX9_cashNeeded_45 (by decide) ?_
    refine x_ci0 rfl rfl (x_runV hx hcb hml hown hts (c_X0_paidInAll l G w K hw (tcZ z a b c_ d) _ 0 (by omega) 2 (bN z 0 3) (by rw [tcZ_0 hB (by decide) (by decide)]; exact hB.1) hB.2.1 (by omega)) mv_X0_paidInAll q_756 hK hZ hR hS (hoB hw (by omega)) xc0 (hsB hw) rfl hl.1 rfl (Nat.le_of_ble_eq_true rfl) dX9_cashNeeded_46 ⟨by decide, by decide⟩ ⟨by decide, by decide⟩) hS (fun r_14 z_15 H locs hp_16 hR hS => ?_)
    rw [hp_16.2] at hR; rw [hp_16.1]
    refine lv_isub hx hcb dX9_cashNeeded_49 ?_
    exact hret ((((bx_sum (fun m => (tcZ z a b c_ d).1 (oPd 1 m) 0) (bN z 0 3)) - (bx_sum (fun m => (tcZ z a b c_ d).1 (oPd 0 m) 0) (bN z 0 3))) + (bx_sum (fun m => (tcZ z a b c_ d).1 (oPd 1 m) 2) (bN z 0 3))) - (bx_sum (fun m => (tcZ z a b c_ d).1 (oPd 0 m) 2) (bN z 0 3))) (tcZ z a b c_ d) _ _ _ _ dX9_cashNeeded_50 rfl hR hS (⟨by rw [if_pos h_], by unfold tcY; rw [if_pos h_]⟩)
  · skip
    have h_ : ¬ (okR (bN z 0 4) ((zR z a b c_ d).1 1)) := fun q_ => absurd c_4 (by rw [if_pos q_]; decide)
    refine lv_bipush (v := (-2)) hx hcb dX9_cashNeeded_12 (by decide) ?_
    exact hret (-2) (tcY z a b c_ d) _ _ _ _ dX9_cashNeeded_14 rfl hR hS (⟨by rw [if_neg h_], rfl⟩)
def rm_X9_topMember : Room := { frames := 5, cells := 0, slots := 0, locals := 109 }
set_option maxRecDepth 100000 in
set_option maxHeartbeats 4000000 in
theorem c_X9_topMember (l : Launch) (G : xGl) (w : xWd) (K : Nat) (hw : isC K w) (z : xSt) (sz : Nat) (a : Int32) (b : Int32) (c_ : Int32) (d : Int32) (hB : bOk z 0) (hC : cnB z 0) : xMi l yX9_topMember cX9_topMember 9 (some FieldType.int) rm_X9_topMember G w z sz [.ref (w.2.2 0), .int a, .int b, .int c_, .int d] (fun r z1 => r = (if okR (bN z 0 4) ((zR z a b c_ d).1 1) then (mxI (fun m => (tcZ z a b c_ d).1 (oM 1 m) 4) (bN z 0 3)).1 else (-2)) ∧ z1 = tcY z a b c_ d) := by
  refine x_mi (by decide) (Nat.le_of_ble_eq_true rfl) ?_
  intro p e s mt args below meth c ls Q hsz X hR hS hl hret
  obtain ⟨hx, hcb, hml, hown, hts, hlk, hK, hZ⟩ := X
  have hl : lv_has ls 9 [(0, .ref (w.2.2 0)), (1, .int a), (2, .int b), (3, .int c_), (4, .int d)] := hl
  have hb3_ := hB.2.1
  have hb4_ := hB.2.2.2.1
  have hb5_ := hB.2.2.2.2.2
  refine lv_aload_n hx hcb dX9_topMember_0 rfl (lv_at hl 0 rfl) ?_
  refine lv_iload_n hx hcb dX9_topMember_1 rfl (lv_at hl 1 rfl) ?_
  refine lv_iload_n hx hcb dX9_topMember_2 rfl (lv_at hl 2 rfl) ?_
  refine lv_iload_n hx hcb dX9_topMember_3 rfl (lv_at hl 3 rfl) ?_
  refine lv_iload hx hcb dX9_topMember_4 (lv_at hl 4 rfl) ?_
  refine x_ci0 rfl rfl (x_runV hx hcb hml hown hts (c_X9_tryClosing l G w K hw z _ a b c_ d hB hC) mv_X9_tryClosing q_722 hK hZ hR hS (hw.lo (by decide)) xc9 (hw.s0 (by decide) rfl) rfl hl.1 rfl (Nat.le_of_ble_eq_true rfl) dX9_topMember_6 ⟨by decide, by decide⟩ ⟨by decide, by decide⟩) hS (fun r_1 z_2 H locs hp_3 hR hS => ?_)
  rw [hp_3.2] at hR; rw [hp_3.1]
  refine lv_if_ne (tgt := 15) hx hcb dX9_topMember_9 (by decide) (fun c_4 => ?_) (fun c_4 => ?_)
  · skip
    have h_ : okR (bN z 0 4) ((zR z a b c_ d).1 1) := Classical.byContradiction (fun q_ => c_4 (if_neg q_))
    rw [show tcY z a b c_ d = tcZ z a b c_ d from if_pos h_] at hR
    refine lv_iconst (v := (-1)) hx hcb dX9_topMember_15 (by decide) ?_
    refine lv_istore (lv' := [(5, .int (-1)), (0, .ref (w.2.2 0)), (1, .int a), (2, .int b), (3, .int c_), (4, .int d)]) hx hcb dX9_topMember_16 hl (by decide) rfl (fun ls hl => ?_)
    refine lv_iconst (v := (nI 0)) hx hcb dX9_topMember_18 (by decide) ?_
    refine lv_istore (lv' := [(6, .int (nI 0)), (5, .int (-1)), (0, .ref (w.2.2 0)), (1, .int a), (2, .int b), (3, .int c_), (4, .int d)]) hx hcb dX9_topMember_19 hl (by decide) rfl (fun ls hl => ?_)
    refine lv_iconst (v := (nI 0)) hx hcb dX9_topMember_21 (by decide) ?_
    refine lv_istore (lv' := [(7, .int (nI 0)), (6, .int (nI 0)), (5, .int (-1)), (0, .ref (w.2.2 0)), (1, .int a), (2, .int b), (3, .int c_), (4, .int d)]) hx hcb dX9_topMember_22 hl (by decide) rfl (fun ls hl => ?_)
    rw [show (-1) = (mxI (fun m => (tcZ z a b c_ d).1 (oM 1 m) 4) 0).1 from rfl] at hl
    rw [show (nI 0) = (mxI (fun m => (tcZ z a b c_ d).1 (oM 1 m) 4) 0).2 from rfl] at hl
    suffices LP_24 : ∀ (nn : Nat) (i_ : Nat) (_ : bN z 0 3 - i_ < nn) (hi_ : i_ ≤ bN z 0 3) (H : Heap) (locs : List Loc) (ls : Array Slot), Rh G w (tcZ z a b c_ d) H → va_S (xA w s.heap.size) s.heap H locs → lv_has ls 9 [(0, .ref (w.2.2 0)), (5, .int ((mxI (fun m => (tcZ z a b c_ d).1 (oM 1 m) 4) i_).1)), (6, .int ((mxI (fun m => (tcZ z a b c_ d).1 (oM 1 m) 4) i_).2)), (7, .int (nI i_))] → W p l e rm_X9_topMember s mt args below meth c H locs 0 0 Q (F0 mt 24 ls []) from LP_24 ((_) + 1) 0 (Nat.lt_succ_self _) (Nat.zero_le _) _ _ _ hR hS (lv_sub hl [3, 2, 1, 0] rfl)
    intro nn
    induction nn with
    | zero => intro i_ hm_ ; exact absurd hm_ (Nat.not_lt_zero _)
    | succ nn ih_24 =>
      intro i_ hm_24 hi_ H locs ls hR hS hl
      refine lv_iload hx hcb dX9_topMember_24 (lv_at hl 3 rfl) ?_
      refine lv_aload_n hx hcb dX9_topMember_26 rfl (lv_at hl 0 rfl) ?_
      refine x_getR hx hcb hts hown hK xc9 hR (hw.lo (by decide)) (hw.s0 (by decide) rfl) 1 (by decide) rfl q_377 dX9_topMember_27 ?_
      refine x_getI hx hcb hts hown hK xc0 hR (hoB hw (by omega)) (hsB hw) 3 (by decide) rfl q_271 dX9_topMember_30 ?_
      refine x_top (show ((tcZ z a b c_ d).1 (oB 1) 3) = (nI (bN z 0 3)) from tcZ_B hB) ?_
      refine lv_icmp_ge (tgt := 78) hx hcb dX9_topMember_33 (by decide) (fun c_5 => ?_) (fun c_5 => ?_)
      · skip
        have c_5 : (bN z 0 3) ≤ i_ := (nI_leI (by omega) (by omega)).mp c_5
        obtain rfl : bN z 0 3 = i_ := by omega
        refine lv_iload hx hcb dX9_topMember_78 (lv_at hl 1 rfl) ?_
        exact hret ((mxI (fun m => (tcZ z a b c_ d).1 (oM 1 m) 4) (bN z 0 3)).1) (tcZ z a b c_ d) _ _ _ _ dX9_topMember_80 rfl hR hS (⟨by rw [if_pos h_], by unfold tcY; rw [if_pos h_]⟩)
      · skip
        have c_5 : ¬ (bN z 0 3) ≤ i_ := fun h_ => c_5 ((nI_leI (by omega) (by omega)).mpr h_)
        refine lv_aload_n hx hcb dX9_topMember_36 rfl (lv_at hl 0 rfl) ?_
        refine x_getR hx hcb hts hown hK xc9 hR (hw.lo (by decide)) (hw.s0 (by decide) rfl) 1 (by decide) rfl q_377 dX9_topMember_37 ?_
        refine x_getR hx hcb hts hown hK xc0 hR (hoB hw (by omega)) (hsB hw) 0 (by decide) rfl q_259 dX9_topMember_40 ?_
        refine lv_iload hx hcb dX9_topMember_43 (lv_at hl 3 rfl) ?_
        have hk_45 : i_ < 8 := (by omega)
        refine x_aald hx hcb hK hR (hoMs hw (by omega)) (hsMs hw) rfl (oMs_at hk_45) (Nat.lt_of_lt_of_le (Nat.lt_succ_self _) (Nat.le_of_ble_eq_true rfl)) dX9_topMember_45 ?_
        refine x_getI hx hcb hts hown hK xc5 hR (hoM hw (by omega) hk_45) (hsM hw hk_45) 4 (by decide) rfl q_191 dX9_topMember_46 ?_
        refine x_top (show ((tcZ z a b c_ d).1 (oM 1 i_) 4) = ((fun m => (tcZ z a b c_ d).1 (oM 1 m) 4) i_) from rfl) ?_
        refine lv_istore (lv' := [(8, .int ((fun m => (tcZ z a b c_ d).1 (oM 1 m) 4) i_)), (0, .ref (w.2.2 0)), (5, .int ((mxI (fun m => (tcZ z a b c_ d).1 (oM 1 m) 4) i_).1)), (6, .int ((mxI (fun m => (tcZ z a b c_ d).1 (oM 1 m) 4) i_).2)), (7, .int (nI i_))]) hx hcb dX9_topMember_49 hl (by decide) rfl (fun ls hl => ?_)
        refine lv_iload hx hcb dX9_topMember_51 (lv_at hl 2 rfl) ?_
        refine lv_iconst (v := (-1)) hx hcb dX9_topMember_53 (by decide) ?_
        refine lv_icmp_eq (tgt := 64) hx hcb dX9_topMember_54 (by decide) (fun c_6 => ?_) (fun c_6 => ?_)
        · skip
          have hq_ : (mxI (fun m => (tcZ z a b c_ d).1 (oM 1 m) 4) i_).1 = (-1) ∨ (mxI (fun m => (tcZ z a b c_ d).1 (oM 1 m) 4) i_).2 < (fun m => (tcZ z a b c_ d).1 (oM 1 m) 4) i_ := Or.inl c_6
          refine lv_iload hx hcb dX9_topMember_64 (lv_at hl 4 rfl) ?_
          refine lv_istore (lv' := [(5, .int (nI i_)), (8, .int ((fun m => (tcZ z a b c_ d).1 (oM 1 m) 4) i_)), (0, .ref (w.2.2 0)), (6, .int ((mxI (fun m => (tcZ z a b c_ d).1 (oM 1 m) 4) i_).2)), (7, .int (nI i_))]) hx hcb dX9_topMember_66 hl (by decide) rfl (fun ls hl => ?_)
          refine lv_iload hx hcb dX9_topMember_68 (lv_at hl 1 rfl) ?_
          refine lv_istore (lv' := [(6, .int ((fun m => (tcZ z a b c_ d).1 (oM 1 m) 4) i_)), (5, .int (nI i_)), (8, .int ((fun m => (tcZ z a b c_ d).1 (oM 1 m) 4) i_)), (0, .ref (w.2.2 0)), (7, .int (nI i_))]) hx hcb dX9_topMember_70 hl (by decide) rfl (fun ls hl => ?_)
          refine lv_iinc (v := (nI (i_ + 1))) (lv' := [(7, .int (nI (i_ + 1))), (6, .int ((fun m => (tcZ z a b c_ d).1 (oM 1 m) 4) i_)), (5, .int (nI i_)), (8, .int ((fun m => (tcZ z a b c_ d).1 (oM 1 m) 4) i_)), (0, .ref (w.2.2 0))]) hx hcb dX9_topMember_72 hl (k := 4) rfl (x_iinc1 _) (by decide) rfl (fun ls hl => ?_)
          refine lv_goto (tgt := 24) hx hcb dX9_topMember_75 (by decide) ?_
          rw [show (nI i_) = ((mxI (fun m => (tcZ z a b c_ d).1 (oM 1 m) 4) (i_ + 1)).1) from by first | rw [mxI_y hq_] | rw [mxI_n hq_]] at hl
          rw [show ((fun m => (tcZ z a b c_ d).1 (oM 1 m) 4) i_) = ((mxI (fun m => (tcZ z a b c_ d).1 (oM 1 m) 4) (i_ + 1)).2) from by first | rw [mxI_y hq_] | rw [mxI_n hq_]] at hl
          exact ih_24 (i_ + 1) (by omega) (by omega) _ _ _ hR hS (lv_sub hl [4, 2, 1, 0] rfl)
        · skip
          have hq0_ := c_6
          refine lv_iload hx hcb dX9_topMember_57 (lv_at hl 0 rfl) ?_
          refine lv_iload hx hcb dX9_topMember_59 (lv_at hl 3 rfl) ?_
          refine lv_icmp_le (tgt := 72) hx hcb dX9_topMember_61 (by decide) (fun c_7 => ?_) (fun c_7 => ?_)
          · skip
            have hq_ : ¬ ((mxI (fun m => (tcZ z a b c_ d).1 (oM 1 m) 4) i_).1 = (-1) ∨ (mxI (fun m => (tcZ z a b c_ d).1 (oM 1 m) 4) i_).2 < (fun m => (tcZ z a b c_ d).1 (oM 1 m) 4) i_) := fun q_ => q_.elim hq0_ (Int32.not_lt.mpr c_7)
            refine lv_iinc (v := (nI (i_ + 1))) (lv' := [(7, .int (nI (i_ + 1))), (8, .int ((fun m => (tcZ z a b c_ d).1 (oM 1 m) 4) i_)), (0, .ref (w.2.2 0)), (5, .int ((mxI (fun m => (tcZ z a b c_ d).1 (oM 1 m) 4) i_).1)), (6, .int ((mxI (fun m => (tcZ z a b c_ d).1 (oM 1 m) 4) i_).2))]) hx hcb dX9_topMember_72 hl (k := 4) rfl (x_iinc1 _) (by decide) rfl (fun ls hl => ?_)
            refine lv_goto (tgt := 24) hx hcb dX9_topMember_75 (by decide) ?_
            rw [show ((mxI (fun m => (tcZ z a b c_ d).1 (oM 1 m) 4) i_).1) = ((mxI (fun m => (tcZ z a b c_ d).1 (oM 1 m) 4) (i_ + 1)).1) from by first | rw [mxI_y hq_] | rw [mxI_n hq_]] at hl
            rw [show ((mxI (fun m => (tcZ z a b c_ d).1 (oM 1 m) 4) i_).2) = ((mxI (fun m => (tcZ z a b c_ d).1 (oM 1 m) 4) (i_ + 1)).2) from by first | rw [mxI_y hq_] | rw [mxI_n hq_]] at hl
            exact ih_24 (i_ + 1) (by omega) (by omega) _ _ _ hR hS (lv_sub hl [2, 3, 4, 0] rfl)
          · skip
            have hq_ : (mxI (fun m => (tcZ z a b c_ d).1 (oM 1 m) 4) i_).1 = (-1) ∨ (mxI (fun m => (tcZ z a b c_ d).1 (oM 1 m) 4) i_).2 < (fun m => (tcZ z a b c_ d).1 (oM 1 m) 4) i_ := Or.inr (Int32.not_le.mp c_7)
            refine lv_iload hx hcb dX9_topMember_64 (lv_at hl 4 rfl) ?_
            refine lv_istore (lv' := [(5, .int (nI i_)), (8, .int ((fun m => (tcZ z a b c_ d).1 (oM 1 m) 4) i_)), (0, .ref (w.2.2 0)), (6, .int ((mxI (fun m => (tcZ z a b c_ d).1 (oM 1 m) 4) i_).2)), (7, .int (nI i_))]) hx hcb dX9_topMember_66 hl (by decide) rfl (fun ls hl => ?_)
            refine lv_iload hx hcb dX9_topMember_68 (lv_at hl 1 rfl) ?_
            refine lv_istore (lv' := [(6, .int ((fun m => (tcZ z a b c_ d).1 (oM 1 m) 4) i_)), (5, .int (nI i_)), (8, .int ((fun m => (tcZ z a b c_ d).1 (oM 1 m) 4) i_)), (0, .ref (w.2.2 0)), (7, .int (nI i_))]) hx hcb dX9_topMember_70 hl (by decide) rfl (fun ls hl => ?_)
            refine lv_iinc (v := (nI (i_ + 1))) (lv' := [(7, .int (nI (i_ + 1))), (6, .int ((fun m => (tcZ z a b c_ d).1 (oM 1 m) 4) i_)), (5, .int (nI i_)), (8, .int ((fun m => (tcZ z a b c_ d).1 (oM 1 m) 4) i_)), (0, .ref (w.2.2 0))]) hx hcb dX9_topMember_72 hl (k := 4) rfl (x_iinc1 _) (by decide) rfl (fun ls hl => ?_)
            refine lv_goto (tgt := 24) hx hcb dX9_topMember_75 (by decide) ?_
            rw [show (nI i_) = ((mxI (fun m => (tcZ z a b c_ d).1 (oM 1 m) 4) (i_ + 1)).1) from by first | rw [mxI_y hq_] | rw [mxI_n hq_]] at hl
            rw [show ((fun m => (tcZ z a b c_ d).1 (oM 1 m) 4) i_) = ((mxI (fun m => (tcZ z a b c_ d).1 (oM 1 m) 4) (i_ + 1)).2) from by first | rw [mxI_y hq_] | rw [mxI_n hq_]] at hl
            exact ih_24 (i_ + 1) (by omega) (by omega) _ _ _ hR hS (lv_sub hl [4, 2, 1, 0] rfl)
  · skip
    have h_ : ¬ (okR (bN z 0 4) ((zR z a b c_ d).1 1)) := fun q_ => absurd c_4 (by rw [if_pos q_]; decide)
    refine lv_bipush (v := (-2)) hx hcb dX9_topMember_12 (by decide) ?_
    exact hret (-2) (tcY z a b c_ d) _ _ _ _ dX9_topMember_14 rfl hR hS (⟨by rw [if_neg h_], rfl⟩)
def rm_X9_redemptionsNeeded : Room := { frames := 4, cells := 0, slots := 0, locals := 102 }
set_option maxRecDepth 100000 in
set_option maxHeartbeats 4000000 in
theorem c_X9_redemptionsNeeded (l : Launch) (G : xGl) (w : xWd) (K : Nat) (hw : isC K w) (z : xSt) (sz : Nat) (x : Int32) (hB : bOk z 0) (hC : cnB z 0) : xMi l yX9_redemptionsNeeded cX9_redemptionsNeeded 3 (some FieldType.int) rm_X9_redemptionsNeeded G w z sz [.ref (w.2.2 0), .int x] (fun r z1 => (r, z1) = if ¬ x < 0 ∧ x ≤ nI 10000000 then rnL (bN z 0 3) x 60 0 (cpA z 1 0 (bN z 0 3) (bN z 0 4)) else ((-2), z)) := by
  refine x_mi (by decide) (Nat.le_of_ble_eq_true rfl) ?_
  intro p e s mt args below meth c ls Q hsz X hR hS hl hret
  obtain ⟨hx, hcb, hml, hown, hts, hlk, hK, hZ⟩ := X
  have hl : lv_has ls 3 [(0, .ref (w.2.2 0)), (1, .int x)] := hl
  have hb3_ := hB.2.1
  have hb4_ := hB.2.2.2.1
  have hb5_ := hB.2.2.2.2.2
  refine lv_iload_n hx hcb dX9_redemptionsNeeded_0 rfl (lv_at hl 1 rfl) ?_
  refine x_ci0 rfl rfl (x_runS hx hcb hml hown hts (c_X9_isBudget l G w K hw z _ x) ms_X9_isBudget q_821 hK hZ hR hS rfl hl.1 rfl (Nat.le_of_ble_eq_true rfl) dX9_redemptionsNeeded_1 ⟨by decide, by decide⟩ ⟨by decide, by decide⟩) hS (fun r_1 z_2 H locs hp_3 hR hS => ?_)
  rw [hp_3.2] at hR; rw [hp_3.1]
  refine lv_if_ne (tgt := 10) hx hcb dX9_redemptionsNeeded_4 (by decide) (fun c_4 => ?_) (fun c_4 => ?_)
  · skip
    have h_ : ¬ x < 0 ∧ x ≤ nI 10000000 := Classical.byContradiction (fun q_ => c_4 (if_neg q_))
    refine lv_aload_n hx hcb dX9_redemptionsNeeded_10 rfl (lv_at hl 0 rfl) ?_
    refine x_getR hx hcb hts hown hK xc9 hR (hw.lo (by decide)) (hw.s0 (by decide) rfl) 1 (by decide) rfl q_377 dX9_redemptionsNeeded_11 ?_
    refine lv_aload_n hx hcb dX9_redemptionsNeeded_14 rfl (lv_at hl 0 rfl) ?_
    refine x_getR hx hcb hts hown hK xc9 hR (hw.lo (by decide)) (hw.s0 (by decide) rfl) 0 (by decide) rfl q_376 dX9_redemptionsNeeded_15 ?_
    refine x_cv0 rfl rfl (x_runV hx hcb hml hown hts (c_X0_copyFrom l G w K hw z _ 1 (by omega) 0 (by omega) (bN z 0 3) (bN z 0 4) (by omega) hB.1 hb3_ hB.2.2.1 hb4_ (fun m hm => hC m (by omega))) mv_X0_copyFrom q_651 hK hZ hR hS (hoB hw (by omega)) xc0 (hsB hw) rfl hl.1 rfl (Nat.le_of_ble_eq_true rfl) dX9_redemptionsNeeded_18 ⟨by decide, by decide⟩ ⟨by decide, by decide⟩) hS (fun z_6 H locs hp_7 hR hS => ?_)
    rw [hp_7] at hR
    refine lv_iconst (v := (nI 0)) hx hcb dX9_redemptionsNeeded_21 (by decide) ?_
    refine lv_istore_n (lv' := [(2, .int (nI 0)), (0, .ref (w.2.2 0)), (1, .int x)]) hx hcb dX9_redemptionsNeeded_22 rfl hl (by decide) rfl (fun ls hl => ?_)
    suffices LP_23 : ∀ (nn : Nat) (i_ : Nat) (y_ : xSt) (_ : 60 - i_ < nn) (hi_ : i_ ≤ 60) (hy_ : y_.1 (oB 1) 3 = nI (bN z 0 3)) (hf_ : rnL (bN z 0 3) x 60 0 (cpA z 1 0 (bN z 0 3) (bN z 0 4)) = rnL (bN z 0 3) x (60 - i_) i_ y_) (H : Heap) (locs : List Loc) (ls : Array Slot), Rh G w y_ H → va_S (xA w s.heap.size) s.heap H locs → lv_has ls 3 [(0, .ref (w.2.2 0)), (1, .int x), (2, .int (nI i_))] → W p l e rm_X9_redemptionsNeeded s mt args below meth c H locs 0 0 Q (F0 mt 23 ls []) from LP_23 ((_) + 1) 0 (cpA z 1 0 (bN z 0 3) (bN z 0 4)) (Nat.lt_succ_self _) (by omega) (by rw [cpA_B]; exact hB.1) rfl _ _ _ hR hS (lv_sub hl [1, 2, 0] rfl)
    intro nn
    induction nn with
    | zero => intro i_ y_ hm_ ; exact absurd hm_ (Nat.not_lt_zero _)
    | succ nn ih_23 =>
      intro i_ y_ hm_23 hi_ hy_ hf_ H locs ls hR hS hl
      refine lv_iload_n hx hcb dX9_redemptionsNeeded_23 rfl (lv_at hl 2 rfl) ?_
      refine lv_bipush (v := (nI 60)) hx hcb dX9_redemptionsNeeded_24 (by decide) ?_
      refine lv_icmp_ge (tgt := 84) hx hcb dX9_redemptionsNeeded_26 (by decide) (fun c_8 => ?_) (fun c_8 => ?_)
      · skip
        have c_8 : 60 ≤ i_ := (nI_leI (by omega) (by omega)).mp c_8
        have he0_ : 60 - i_ = 0 := by omega
        refine lv_aload_n hx hcb dX9_redemptionsNeeded_84 rfl (lv_at hl 0 rfl) ?_
        refine x_getR hx hcb hts hown hK xc9 hR (hw.lo (by decide)) (hw.s0 (by decide) rfl) 1 (by decide) rfl q_377 dX9_redemptionsNeeded_85 ?_
        refine x_ci0 rfl rfl (x_runV hx hcb hml hown hts (c_X0_equityOfActive l G w K hw y_ _ 1 (by omega) (bN z 0 3) hy_ hb3_) mv_X0_equityOfActive q_825 hK hZ hR hS (hoB hw (by omega)) xc0 (hsB hw) rfl hl.1 rfl (Nat.le_of_ble_eq_true rfl) dX9_redemptionsNeeded_88 ⟨by decide, by decide⟩ ⟨by decide, by decide⟩) hS (fun r_9 z_10 H locs hp_11 hR hS => ?_)
        rw [hp_11.2] at hR; rw [hp_11.1]
        refine x_top (show (bx_sum (fun m => if y_.1 (oM 1 m) 2 = 0 then bx_sum (y_.1 (oLf 1 m)) 25 else 0) (bN z 0 3)) = (eqA y_ 1 (bN z 0 3)) from rfl) ?_
        refine lv_if_ne (tgt := 99) hx hcb dX9_redemptionsNeeded_91 (by decide) (fun c_12 => ?_) (fun c_12 => ?_)
        · skip
          have hq_ : ¬ eqA y_ 1 (bN z 0 3) = 0 := c_12
          refine lv_iconst (v := (-1)) hx hcb dX9_redemptionsNeeded_99 (by decide) ?_
          exact hret (-1) y_ _ _ _ _ dX9_redemptionsNeeded_100 rfl hR hS (by rw [if_pos h_, hf_, he0_]; show _ = (if eqA y_ 1 (bN z 0 3) = 0 then nI 60 else (-1), y_); first | rw [if_pos hq_] | rw [if_neg hq_])
        · skip
          have hq_ : eqA y_ 1 (bN z 0 3) = 0 := c_12
          refine lv_bipush (v := (nI 60)) hx hcb dX9_redemptionsNeeded_94 (by decide) ?_
          refine lv_goto (tgt := 100) hx hcb dX9_redemptionsNeeded_96 (by decide) ?_
          exact hret (nI 60) y_ _ _ _ _ dX9_redemptionsNeeded_100 rfl hR hS (by rw [if_pos h_, hf_, he0_]; show _ = (if eqA y_ 1 (bN z 0 3) = 0 then nI 60 else (-1), y_); first | rw [if_pos hq_] | rw [if_neg hq_])
      · skip
        have c_8 : ¬ 60 ≤ i_ := fun h_ => c_8 ((nI_leI (by omega) (by omega)).mpr h_)
        refine lv_aload_n hx hcb dX9_redemptionsNeeded_29 rfl (lv_at hl 0 rfl) ?_
        refine x_getR hx hcb hts hown hK xc9 hR (hw.lo (by decide)) (hw.s0 (by decide) rfl) 1 (by decide) rfl q_377 dX9_redemptionsNeeded_30 ?_
        refine x_ci0 rfl rfl (x_runV hx hcb hml hown hts (c_X0_equityOfActive l G w K hw y_ _ 1 (by omega) (bN z 0 3) hy_ hb3_) mv_X0_equityOfActive q_825 hK hZ hR hS (hoB hw (by omega)) xc0 (hsB hw) rfl hl.1 rfl (Nat.le_of_ble_eq_true rfl) dX9_redemptionsNeeded_33 ⟨by decide, by decide⟩ ⟨by decide, by decide⟩) hS (fun r_13 z_14 H locs hp_15 hR hS => ?_)
        rw [hp_15.2] at hR; rw [hp_15.1]
        refine x_top (show (bx_sum (fun m => if y_.1 (oM 1 m) 2 = 0 then bx_sum (y_.1 (oLf 1 m)) 25 else 0) (bN z 0 3)) = (eqA y_ 1 (bN z 0 3)) from rfl) ?_
        refine lv_if_ne (tgt := 41) hx hcb dX9_redemptionsNeeded_36 (by decide) (fun c_16 => ?_) (fun c_16 => ?_)
        · skip
          have hq_ : ¬ eqA y_ 1 (bN z 0 3) = 0 := c_16
          refine lv_aload_n hx hcb dX9_redemptionsNeeded_41 rfl (lv_at hl 0 rfl) ?_
          refine x_getR hx hcb hts hown hK xc9 hR (hw.lo (by decide)) (hw.s0 (by decide) rfl) 5 (by decide) rfl q_381 dX9_redemptionsNeeded_42 ?_
          refine lv_aload_n hx hcb dX9_redemptionsNeeded_45 rfl (lv_at hl 0 rfl) ?_
          refine x_getR hx hcb hts hown hK xc9 hR (hw.lo (by decide)) (hw.s0 (by decide) rfl) 1 (by decide) rfl q_377 dX9_redemptionsNeeded_46 ?_
          refine lv_iload_n hx hcb dX9_redemptionsNeeded_49 rfl (lv_at hl 1 rfl) ?_
          refine x_ci0 rfl rfl (x_runV hx hcb hml hown hts (c_X6_plan l G w K hw y_ _ 1 (by omega) x (bN z 0 3) hy_ hb3_) mv_X6_plan q_764 hK hZ hR hS (hw.lo (by decide)) xc6 (hw.s0 (by decide) rfl) rfl hl.1 rfl (Nat.le_of_ble_eq_true rfl) dX9_redemptionsNeeded_50 ⟨by decide, by decide⟩ ⟨by decide, by decide⟩) hS (fun r_17 z_18 H locs hp_19 hR hS => ?_)
          rw [hp_19.2] at hR; rw [hp_19.1]
          refine lv_pop hx hcb dX9_redemptionsNeeded_53 rfl ?_
          refine lv_aload_n hx hcb dX9_redemptionsNeeded_54 rfl (lv_at hl 0 rfl) ?_
          refine x_getR hx hcb hts hown hK xc9 hR (hw.lo (by decide)) (hw.s0 (by decide) rfl) 5 (by decide) rfl q_381 dX9_redemptionsNeeded_55 ?_
          refine lv_aload_n hx hcb dX9_redemptionsNeeded_58 rfl (lv_at hl 0 rfl) ?_
          refine x_getR hx hcb hts hown hK xc9 hR (hw.lo (by decide)) (hw.s0 (by decide) rfl) 1 (by decide) rfl q_377 dX9_redemptionsNeeded_59 ?_
          refine x_cv0 rfl rfl (x_runV hx hcb hml hown hts (c_X6_carryOut l G w K hw (plZ y_ 1 (bN z 0 3) x) _ 1 (by omega) (plN y_ 1 (bN z 0 3)) (plM y_ 1 (bN z 0 3)) (plY y_ 1 (bN z 0 3)) plZ_n (plN_le hb3_) (fun i hi => plZ_L hb3_ hi)) mv_X6_carryOut q_829 hK hZ hR hS (hw.lo (by decide)) xc6 (hw.s0 (by decide) rfl) rfl hl.1 rfl (Nat.le_of_ble_eq_true rfl) dX9_redemptionsNeeded_62 ⟨by decide, by decide⟩ ⟨by decide, by decide⟩) hS (fun z_21 H locs hp_22 hR hS => ?_)
          rw [hp_22] at hR
          refine lv_aload_n hx hcb dX9_redemptionsNeeded_65 rfl (lv_at hl 0 rfl) ?_
          refine x_getR hx hcb hts hown hK xc9 hR (hw.lo (by decide)) (hw.s0 (by decide) rfl) 1 (by decide) rfl q_377 dX9_redemptionsNeeded_66 ?_
          refine lv_dup hx hcb dX9_redemptionsNeeded_69 rfl ?_
          refine x_getI hx hcb hts hown hK xc0 hR (hoB hw (by omega)) (hsB hw) 5 (by decide) rfl q_280 dX9_redemptionsNeeded_70 ?_
          refine x_top (show ((crO (plZ y_ 1 (bN z 0 3) x) 1 (plM y_ 1 (bN z 0 3)) (plY y_ 1 (bN z 0 3)) (plN y_ 1 (bN z 0 3))).1 (oB 1) 5) = (y_.1 (oB 1) 5) from by rw [show crO (plZ y_ 1 (bN z 0 3) x) 1 (plM y_ 1 (bN z 0 3)) (plY y_ 1 (bN z 0 3)) (plN y_ 1 (bN z 0 3)) = rdm y_ 1 (bN z 0 3) x from rfl, rdm_B hb3_]) ?_
          refine lv_iconst (v := (nI 1)) hx hcb dX9_redemptionsNeeded_73 (by decide) ?_
          refine lv_iadd hx hcb dX9_redemptionsNeeded_74 ?_
          refine x_putI hx hcb hts hown hK xc0 hR hS (hoB hw (by omega)) (hsB hw) 5 (by decide) rfl q_280 rfl (v := ((y_.1 (oB 1) 5) + (nI 1))) rfl rfl dX9_redemptionsNeeded_75 (fun H locs hR hS => ?_)
          refine lv_iinc (v := (nI (i_ + 1))) (lv' := [(2, .int (nI (i_ + 1))), (0, .ref (w.2.2 0)), (1, .int x)]) hx hcb dX9_redemptionsNeeded_78 hl (k := 2) rfl (x_iinc1 _) (by decide) rfl (fun ls hl => ?_)
          refine lv_goto (tgt := 23) hx hcb dX9_redemptionsNeeded_81 (by decide) ?_
          rw [show (u1 (crO (plZ y_ 1 (bN z 0 3) x) 1 (plM y_ 1 (bN z 0 3)) (plY y_ 1 (bN z 0 3)) (plN y_ 1 (bN z 0 3))) (oB 1) 5 ((y_.1 (oB 1) 5) + (nI 1))) = (rnS y_ (bN z 0 3) x) from by unfold rnS rdm; rfl] at hR
          exact ih_23 (i_ + 1) (rnS y_ (bN z 0 3) x) (by omega) (by omega) ((rnS_3 hb3_).trans hy_) (by rw [hf_, rnL_s (k := 60 - (i_ + 1)) (by omega), if_neg hq_]) _ _ _ hR hS (lv_sub hl [1, 2, 0] rfl)
        · skip
          have hq_ : eqA y_ 1 (bN z 0 3) = 0 := c_16
          refine lv_iload_n hx hcb dX9_redemptionsNeeded_39 rfl (lv_at hl 2 rfl) ?_
          exact hret (nI i_) y_ _ _ _ _ dX9_redemptionsNeeded_40 rfl hR hS (by rw [if_pos h_, hf_, rnL_s (k := 60 - (i_ + 1)) (by omega), if_pos hq_])
  · skip
    have h_ : ¬ (¬ x < 0 ∧ x ≤ nI 10000000) := fun q_ => absurd c_4 (by rw [if_pos q_]; decide)
    refine lv_bipush (v := (-2)) hx hcb dX9_redemptionsNeeded_7 (by decide) ?_
    exact hret (-2) z _ _ _ _ dX9_redemptionsNeeded_9 rfl hR hS (by rw [if_neg h_])
def rm_X9_feed : Room := { frames := 1, cells := 0, slots := 0, locals := 22 }
set_option maxRecDepth 100000 in
set_option maxHeartbeats 4000000 in
theorem c_X9_feed (l : Launch) (G : xGl) (w : xWd) (K : Nat) (hw : isC K w) (z : xSt) (sz : Nat) (a : Int32) (b : Int32) (c_ : Int32) (d : Int32) (e_ : Int32) (q : Nat) (hq : z.1 14 1 = nI q) (hq9 : q ≤ 900) : xMi l yX9_feed cX9_feed 6 (some FieldType.int) rm_X9_feed G w z sz [.ref (w.2.2 0), .int a, .int b, .int c_, .int d, .int e_] (fun r z1 => (r, z1) = if q + 20 ≤ 900 then (nI (q + 20), (apd (apd (apd (apd (apd z a (q)) b (q + 4)) c_ (q + 8)) d (q + 12)) e_ (q + 16))) else ((-3), z)) := by
  refine x_mi (by decide) (Nat.le_of_ble_eq_true rfl) ?_
  intro p e s mt args below meth c ls Q hsz X hR hS hl hret
  obtain ⟨hx, hcb, hml, hown, hts, hlk, hK, hZ⟩ := X
  have hl : lv_has ls 6 [(0, .ref (w.2.2 0)), (1, .int a), (2, .int b), (3, .int c_), (4, .int d), (5, .int e_)] := hl
  refine lv_aload_n hx hcb dX9_feed_0 rfl (lv_at hl 0 rfl) ?_
  refine x_getR hx hcb hts hown hK xc9 hR (hw.lo (by decide)) (hw.s0 (by decide) rfl) 6 (by decide) rfl q_382 dX9_feed_1 ?_
  refine x_ci0 rfl rfl (x_runV hx hcb hml hown hts (c_X8_hasRoom l G w K hw z _ q hq hq9) mv_X8_hasRoom q_408 hK hZ hR hS (hw.lo (by decide)) xc8 (hw.s0 (by decide) rfl) rfl hl.1 rfl (Nat.le_of_ble_eq_true rfl) dX9_feed_4 ⟨by decide, by decide⟩ ⟨by decide, by decide⟩) hS (fun r_1 z_2 H locs hp_3 hR hS => ?_)
  rw [hp_3.2] at hR; rw [hp_3.1]
  refine lv_if_ne (tgt := 13) hx hcb dX9_feed_7 (by decide) (fun c_4 => ?_) (fun c_4 => ?_)
  · skip
    have h_ : q + 20 ≤ 900 := Classical.byContradiction (fun q_ => c_4 (if_neg q_))
    refine lv_aload_n hx hcb dX9_feed_13 rfl (lv_at hl 0 rfl) ?_
    refine x_getR hx hcb hts hown hK xc9 hR (hw.lo (by decide)) (hw.s0 (by decide) rfl) 6 (by decide) rfl q_382 dX9_feed_14 ?_
    refine lv_iload_n hx hcb dX9_feed_17 rfl (lv_at hl 1 rfl) ?_
    refine x_cv0 rfl rfl (x_runV hx hcb hml hown hts (c_X8_append l G w K hw z _ a q hq (by omega)) mv_X8_append q_412 hK hZ hR hS (hw.lo (by decide)) xc8 (hw.s0 (by decide) rfl) rfl hl.1 rfl (Nat.le_of_ble_eq_true rfl) dX9_feed_18 ⟨by decide, by decide⟩ ⟨by decide, by decide⟩) hS (fun z_6 H locs hp_7 hR hS => ?_)
    rw [hp_7] at hR
    refine lv_aload_n hx hcb dX9_feed_21 rfl (lv_at hl 0 rfl) ?_
    refine x_getR hx hcb hts hown hK xc9 hR (hw.lo (by decide)) (hw.s0 (by decide) rfl) 6 (by decide) rfl q_382 dX9_feed_22 ?_
    refine lv_iload_n hx hcb dX9_feed_25 rfl (lv_at hl 2 rfl) ?_
    refine x_cv0 rfl rfl (x_runV hx hcb hml hown hts (c_X8_append l G w K hw (apd z a q) _ b (q + 4) rfl (by omega)) mv_X8_append q_412 hK hZ hR hS (hw.lo (by decide)) xc8 (hw.s0 (by decide) rfl) rfl hl.1 rfl (Nat.le_of_ble_eq_true rfl) dX9_feed_26 ⟨by decide, by decide⟩ ⟨by decide, by decide⟩) hS (fun z_9 H locs hp_10 hR hS => ?_)
    rw [hp_10] at hR
    refine lv_aload_n hx hcb dX9_feed_29 rfl (lv_at hl 0 rfl) ?_
    refine x_getR hx hcb hts hown hK xc9 hR (hw.lo (by decide)) (hw.s0 (by decide) rfl) 6 (by decide) rfl q_382 dX9_feed_30 ?_
    refine lv_iload_n hx hcb dX9_feed_33 rfl (lv_at hl 3 rfl) ?_
    refine x_cv0 rfl rfl (x_runV hx hcb hml hown hts (c_X8_append l G w K hw (apd (apd z a q) b (q + 4)) _ c_ (q + 8) rfl (by omega)) mv_X8_append q_412 hK hZ hR hS (hw.lo (by decide)) xc8 (hw.s0 (by decide) rfl) rfl hl.1 rfl (Nat.le_of_ble_eq_true rfl) dX9_feed_34 ⟨by decide, by decide⟩ ⟨by decide, by decide⟩) hS (fun z_12 H locs hp_13 hR hS => ?_)
    rw [hp_13] at hR
    refine lv_aload_n hx hcb dX9_feed_37 rfl (lv_at hl 0 rfl) ?_
    refine x_getR hx hcb hts hown hK xc9 hR (hw.lo (by decide)) (hw.s0 (by decide) rfl) 6 (by decide) rfl q_382 dX9_feed_38 ?_
    refine lv_iload hx hcb dX9_feed_41 (lv_at hl 4 rfl) ?_
    refine x_cv0 rfl rfl (x_runV hx hcb hml hown hts (c_X8_append l G w K hw (apd (apd (apd z a q) b (q + 4)) c_ (q + 8)) _ d (q + 12) rfl (by omega)) mv_X8_append q_412 hK hZ hR hS (hw.lo (by decide)) xc8 (hw.s0 (by decide) rfl) rfl hl.1 rfl (Nat.le_of_ble_eq_true rfl) dX9_feed_43 ⟨by decide, by decide⟩ ⟨by decide, by decide⟩) hS (fun z_15 H locs hp_16 hR hS => ?_)
    rw [hp_16] at hR
    refine lv_aload_n hx hcb dX9_feed_46 rfl (lv_at hl 0 rfl) ?_
    refine x_getR hx hcb hts hown hK xc9 hR (hw.lo (by decide)) (hw.s0 (by decide) rfl) 6 (by decide) rfl q_382 dX9_feed_47 ?_
    refine lv_iload hx hcb dX9_feed_50 (lv_at hl 5 rfl) ?_
    refine x_cv0 rfl rfl (x_runV hx hcb hml hown hts (c_X8_append l G w K hw (apd (apd (apd (apd z a q) b (q + 4)) c_ (q + 8)) d (q + 12)) _ e_ (q + 16) rfl (by omega)) mv_X8_append q_412 hK hZ hR hS (hw.lo (by decide)) xc8 (hw.s0 (by decide) rfl) rfl hl.1 rfl (Nat.le_of_ble_eq_true rfl) dX9_feed_52 ⟨by decide, by decide⟩ ⟨by decide, by decide⟩) hS (fun z_18 H locs hp_19 hR hS => ?_)
    rw [hp_19] at hR
    refine lv_aload_n hx hcb dX9_feed_55 rfl (lv_at hl 0 rfl) ?_
    refine x_getR hx hcb hts hown hK xc9 hR (hw.lo (by decide)) (hw.s0 (by decide) rfl) 6 (by decide) rfl q_382 dX9_feed_56 ?_
    refine x_getN hx hcb hts hown hK xc8 hR (hw.lo (by decide)) (hw.s0 (by decide) rfl) 1 (by decide) rfl (hZ.1.1 _ (List.mem_of_getElem? (i := 2) rfl)) dX9_feed_59 ?_
    refine x_top (show ((apd (apd (apd (apd (apd z a q) b (q + 4)) c_ (q + 8)) d (q + 12)) e_ (q + 16)).1 14 1) = (nI (q + 20)) from rfl) ?_
    exact hret (nI (q + 20)) (apd (apd (apd (apd (apd z a q) b (q + 4)) c_ (q + 8)) d (q + 12)) e_ (q + 16)) _ _ _ _ dX9_feed_62 rfl hR hS (by rw [if_pos h_])
  · skip
    have h_ : ¬ (q + 20 ≤ 900) := fun q_ => absurd c_4 (by rw [if_pos q_]; decide)
    refine lv_bipush (v := (-3)) hx hcb dX9_feed_10 (by decide) ?_
    exact hret (-3) z _ _ _ _ dX9_feed_12 rfl hR hS (by rw [if_neg h_])
def rm_X3_forget : Room := { frames := 0, cells := 0, slots := 0, locals := 0 }
set_option maxRecDepth 100000 in
set_option maxHeartbeats 4000000 in
theorem c_X3_forget (l : Launch) (G : xGl) (w : xWd) (K : Nat) (hw : isC K w) (z : xSt) (sz : Nat)   : xMv l yX3_forget cX3_forget 1 rm_X3_forget G w z sz [.ref (w.2.2 2)] (fun z1 => z1 = u1 z 2 2 0) := by
  refine x_mv (by decide) (Nat.le_of_ble_eq_true rfl) ?_
  intro p e s mt args below meth c ls Q hsz X hR hS hl hret
  obtain ⟨hx, hcb, hml, hown, hts, hlk, hK, hZ⟩ := X
  have hl : lv_has ls 1 [(0, .ref (w.2.2 2))] := hl
  refine lv_aload_n hx hcb dX3_forget_0 rfl (lv_at hl 0 rfl) ?_
  refine lv_iconst (v := (nI 0)) hx hcb dX3_forget_1 (by decide) ?_
  refine x_putI hx hcb hts hown hK xc3 hR hS (hw.lo (by decide)) (hw.s0 (by decide) rfl) 2 (by decide) rfl q_319 rfl (v := 0) rfl rfl dX3_forget_2 (fun H locs hR hS => ?_)
  exact hret (u1 z 2 2 0) _ _ _ _ dX3_forget_5 hR hS rfl
