/-! METHODS THAT THROW: the member or department is none -/
abbrev xIO : String := "java/lang/IndexOutOfBoundsException"
abbrev xNm : List String := ["java/lang/RuntimeException", "java/lang/Exception"]
def xBd : List Cond := [Cond.castable xIO xIO, Cond.declares (⟨"java/lang/RuntimeException", "<init>", "(Ljava/lang/String;)V"⟩ : MethodName), Cond.declares (⟨"java/lang/Exception", "<init>", "(Ljava/lang/String;)V"⟩ : MethodName), Cond.declares (⟨"java/lang/Throwable", "<init>", "(Ljava/lang/String;)V"⟩ : MethodName), Cond.superclass "java/lang/Throwable" "java/lang/Object"]
theorem at_in : ∀ w ∈ (vx_atS RX9 291 xIO xNm).filter goodWord, w ∈ xw := by
  intro w hw
  have h1 := (List.mem_filter.mp hw).2
  have h0 := (List.mem_filter.mp hw).1
  have h3 := (List.mem_filter.mp h0).2
  have h2 := (List.mem_filter.mp h0).1
  clear hw h0
  simp only [Bundle.ownAtoms, Bundle.throwableAtoms, Bundle.throwableSAtoms, Bundle.chainSAtoms, Bundle.passSAtoms, List.mem_append, List.mem_cons, List.not_mem_nil, or_false, or_assoc, xNm] at h2
  rcases h2 with rfl | rfl | rfl | rfl | rfl | rfl | rfl | rfl | rfl | rfl | rfl | rfl | rfl | rfl | rfl | rfl | rfl | rfl | rfl | rfl | rfl | rfl | rfl | rfl | rfl | rfl | rfl | rfl | rfl | rfl | rfl | rfl | rfl | rfl | rfl | rfl | rfl | rfl | rfl | rfl | rfl | rfl | rfl | rfl | rfl | rfl | rfl | rfl | rfl | rfl | rfl | rfl | rfl | rfl | rfl | rfl | rfl
  · exact q_90
  · exact xw_in q_931 rfl
  · exact q_940
  · exact q_942
  · exact q_945
  · exact q_947
  · exact q_932
  · exact q_933
  · exact q_100
  · exact q_101
  · exact q_934
  · exact q_939
  · exact q_943
  · exact q_963
  · exact q_921
  · exact q_964
  · exact q_923
  · exact q_965
  · exact q_925
  · exact q_935
  · exact absurd h3 (by decide)
  · exact q_937
  · exact absurd h3 (by decide)
  · exact q_927
  · exact q_959
  · exact q_960
  · exact q_962
  · exact q_927
  · exact q_950
  · exact q_951
  · exact q_952
  · exact q_953
  · exact absurd h1 (by decide)
  · exact q_953
  · exact q_954
  · exact q_955
  · exact q_956
  · exact absurd h1 (by decide)
  · exact q_956
  · exact q_957
  · exact q_958
  · exact q_959
  · exact absurd h1 (by decide)
  · exact q_949
  · exact q_910
  · exact absurd h1 (by decide)
  · exact q_918
  · exact q_919
  · exact q_920
  · exact q_922
  · exact q_924
  · exact q_926
  · exact absurd h3 (by decide)
  · exact absurd h3 (by decide)
  · exact q_930
  · exact q_929
  · exact q_928
theorem at_bd : ∀ w ∈ (vx_atS RX9 291 xIO xNm).filter (fun w => !goodWord w), w ∈ xBd := by
  intro w hw
  have h1 := (List.mem_filter.mp hw).2
  have h0 := (List.mem_filter.mp hw).1
  have h3 := (List.mem_filter.mp h0).2
  have h2 := (List.mem_filter.mp h0).1
  clear hw h0
  simp only [Bundle.ownAtoms, Bundle.throwableAtoms, Bundle.throwableSAtoms, Bundle.chainSAtoms, Bundle.passSAtoms, List.mem_append, List.mem_cons, List.not_mem_nil, or_false, or_assoc, xNm] at h2
  rcases h2 with rfl | rfl | rfl | rfl | rfl | rfl | rfl | rfl | rfl | rfl | rfl | rfl | rfl | rfl | rfl | rfl | rfl | rfl | rfl | rfl | rfl | rfl | rfl | rfl | rfl | rfl | rfl | rfl | rfl | rfl | rfl | rfl | rfl | rfl | rfl | rfl | rfl | rfl | rfl | rfl | rfl | rfl | rfl | rfl | rfl | rfl | rfl | rfl | rfl | rfl | rfl | rfl | rfl | rfl | rfl | rfl | rfl
  · exact absurd h1 (by decide)
  · exact absurd h1 (by decide)
  · exact absurd h1 (by decide)
  · exact absurd h1 (by decide)
  · exact absurd h1 (by decide)
  · exact absurd h1 (by decide)
  · exact absurd h1 (by decide)
  · exact absurd h1 (by decide)
  · exact absurd h1 (by decide)
  · exact absurd h1 (by decide)
  · exact absurd h1 (by decide)
  · exact absurd h1 (by decide)
  · exact absurd h1 (by decide)
  · exact absurd h1 (by decide)
  · exact absurd h1 (by decide)
  · exact absurd h1 (by decide)
  · exact absurd h1 (by decide)
  · exact absurd h1 (by decide)
  · exact absurd h1 (by decide)
  · exact absurd h1 (by decide)
  · exact absurd h3 (by decide)
  · exact absurd h1 (by decide)
  · exact absurd h3 (by decide)
  · exact absurd h1 (by decide)
  · exact absurd h1 (by decide)
  · exact absurd h1 (by decide)
  · exact absurd h1 (by decide)
  · exact absurd h1 (by decide)
  · exact absurd h1 (by decide)
  · exact absurd h1 (by decide)
  · exact absurd h1 (by decide)
  · exact absurd h1 (by decide)
  · exact List.mem_of_getElem? (i := 1) rfl
  · exact absurd h1 (by decide)
  · exact absurd h1 (by decide)
  · exact absurd h1 (by decide)
  · exact absurd h1 (by decide)
  · exact List.mem_of_getElem? (i := 2) rfl
  · exact absurd h1 (by decide)
  · exact absurd h1 (by decide)
  · exact absurd h1 (by decide)
  · exact absurd h1 (by decide)
  · exact List.mem_of_getElem? (i := 3) rfl
  · exact absurd h1 (by decide)
  · exact absurd h1 (by decide)
  · exact List.mem_of_getElem? (i := 0) rfl
  · exact absurd h1 (by decide)
  · exact absurd h1 (by decide)
  · exact absurd h1 (by decide)
  · exact absurd h1 (by decide)
  · exact absurd h1 (by decide)
  · exact absurd h1 (by decide)
  · exact absurd h3 (by decide)
  · exact absurd h3 (by decide)
  · exact absurd h1 (by decide)
  · exact absurd h1 (by decide)
  · exact absurd h1 (by decide)
theorem at_ot : ∀ w ∈ Cond.classLink RX9 287 xIO :: Cond.initialized xIO :: vx_atS RX9 291 xIO xNm, vx_ot w = true := List.all_eq_true.mp (by decide +kernel)
theorem x_bd {A : Nat → Prop} {s : State} {H : Heap} {args : Array Value} (hZ : xZ A s H) : ∀ w ∈ xBd, w.before args s = true := by
  intro w hw
  simp only [xBd, List.mem_cons, List.not_mem_nil, or_false] at hw
  rcases hw with rfl | rfl | rfl | rfl | rfl
  · exact va_Nw.use rfl (hZ.1.1 _ (List.mem_of_getElem? (i := 12) rfl))
  · exact va_Nw.use rfl (hZ.1.1 _ (List.mem_of_getElem? (i := 13) rfl))
  · exact va_Nw.use rfl (hZ.1.1 _ (List.mem_of_getElem? (i := 14) rfl))
  · exact va_Nw.use rfl (hZ.1.1 _ (List.mem_of_getElem? (i := 15) rfl))
  · exact va_Nw.use rfl (hZ.1.1 _ (List.mem_of_getElem? (i := 16) rfl))
def xXC (G : xGl) (w : xWd) (z : xSt) (sz : Nat) : String → State → State → Prop := vx_X (fun u : xSt => u = z) (fun E u t => E = xIO ∧ xB G w u t) (xA w sz)
/-- a method that throws, and leaves the world as it was -/
abbrev xX (l : Launch) (y : MethodName) (cc : ByteArray) (maxL : Nat) (ret : Option FieldType) (rm : Room) (G : xGl) (w : xWd) (z : xSt) (sz : Nat) (av : List Value) : Prop := vx_Met l y (xws y cc maxL ret) rm (xP G w z sz av) (va_Qv (fun _ : xSt => False) (xB G w) (xA w sz)) (xXC G w z sz) rm.cells rm.slots (xA w sz)
theorem x_mx {l : Launch} {y : MethodName} {cc : ByteArray} {maxL : Nat} {ret : Option FieldType} {rm : Room} {G : xGl} {w : xWd} {z : xSt} {sz : Nat} {av : List Value} (hy : plainName y.cls = true) (hav : (lg_sl av).length ≤ maxL)
    (body : ∀ (p : Program) (e : Env) (s : State) (m : MethodId) (args : Array Value) (below : List Frame) (meth : Method) (c : Code) (ls : Array Slot), sz = s.heap.size → xCx p s m args c meth cc maxL y.cls G w → (∀ x ∈ c.exceptionTable.toList, False) → Rh G w z s.heap → va_S (xA w s.heap.size) s.heap s.heap [] → lv_has ls maxL (lv_args 0 av) →
      W p l e rm s m args below meth c s.heap [] 0 0 (vx_MQ below (va_Qv (fun _ : xSt => False) (xB G w) (xA w s.heap.size)) (xXC G w z s.heap.size) args s rm.cells rm.slots (xA w s.heap.size)) (F0 m 0 ls [])) : xX l y cc maxL ret rm G w z sz av := by
  refine vx_ofW (cc := cc) (maxL := maxL) (ret := ret) hy rfl ?_
  intro p e s m args below meth c s₁ B hml htab hv
  obtain ⟨rfl, hsz, hR, hK, hZ⟩ := hv
  have hts := atoms_spec (ws := xws y cc maxL ret) B.pre
  rw [lg_entry_eq]
  subst hsz
  exact body p e s m _ below meth c _ rfl ⟨B.exec, B.bytes, hml, findClass_of_methodNamed B.named, fun w h => hts w (List.mem_cons_of_mem _ h), B.notSynchronized, hK, hZ⟩ htab hR va_S.rf (lv_entry av hav)
section XX
variable {p : Program} {l : Launch} {e : Env} {R : Room} {s : State} {m : MethodId} {args : Array Value} {below : List Frame} {meth : Method} {c : Code} {H : Heap} {locs : List Loc} {cells slots mc ms : Nat} {Qc : Array Value → State → Outcome → State → Prop}
variable {cc bytes : ByteArray} {pc : Nat} {ls : Array Slot} {rest st0 : List Value} {G : xGl} {w : xWd} {z : xSt} {own C : String} {y : MethodName} {maxL nL n index : Nat} {ret : Option FieldType} {rm : Room}
/-- a call that throws, not caught here -/
theorem x_thr {As : List Value} {o ci N : Nat} {T : u_T} {ty0 : Nat → FieldType} {ps : List (Option Nat)}
    (hx : p.tables.exec = Jvm.exec) (hb : c.code = cc) (hml : c.maxLocals = nL) (hown : s.vm.findClass own = some m.cls) (hts : ∀ w ∈ xw, w.before args s = true) (htab : ∀ x ∈ c.exceptionTable.toList, False) (hlk : meth.locks = false)
    (hM : xX l y bytes maxL ret rm G w z H.size (.ref (w.2.2 o) :: As)) (hmv : xMV y C bytes maxL ret n) (hq : Cond.methodLink own index y ∈ xw)
    (hK : va_K G.1 vwCl (xtys G) s) (hZ : xZ (xA w s.heap.size) s s.heap) (hR : Rh G w z H) (hS : va_S (xA w s.heap.size) s.heap H locs) (ho : o < w.1) (hc : xCls ci C T N ty0) (hsh : w.2.1 o = .inl (ci, ps))
    (hn : As.length = n) (hl : ls.size = nL) (hst : st0 = As.reverse ++ .ref (w.2.2 o) :: rest) (hW : (rest.map fun v => v.category).sum ≤ 8) (hdg : decode cc pc = .ok (.invokevirtual index, 3))
    (hroom : rm.frames + 1 ≤ R.frames ∧ 8 + (maxL + 11) + rm.locals ≤ R.locals) (hf : cells + rm.cells ≤ R.cells ∧ slots + rm.slots ≤ R.slots) (hmc : cells + rm.cells ≤ mc) (hms : slots + rm.slots ≤ ms) :
    W p l e R s m args below meth c H locs cells slots (vx_MQ below Qc (xXC G w z s.heap.size) args s mc ms (xA w s.heap.size)) (F0 m pc ls st0) := by
  obtain ⟨h1, h2, h3, h4, h5⟩ := hmv
  have hrun := vx_runV (As := As) (rest := rest) (Ts := xw) (below := below) (meth := meth) (locs := locs) (cells := cells) (slots := slots) (e := e) (R := R) (b := w.2.2 o) (H := H) (g := F0 m pc ls st0) ⟨hx, hb, hml, hown, hts⟩ hM (cwV n hts (xw_c hq (xw_c h1 (xw_c h2 (xw_c h3 (xw_gws h4))))) rfl rfl rfl h5 hroom) ⟨xP_blind, by
      have h0 := hR.at ho
      rw [hsh] at h0
      obtain ⟨q', g0, cell, g1, g2, g3, -⟩ := h0
      exact ⟨cell, g1, by rw [g3]; rfl, by rw [g2]; exact (hK.1 ci _ hc.1).2.1⟩, fun U hU hW => ⟨rfl, by rw [hU], by rw [hU]; exact hR, va_K.moved hW.alike hK, hZ.call hS hU hW⟩⟩ rfl hn hl hst (lv_room hW) hdg hf
  refine vx_callv hrun hS (fun q _ h => xA_sub hS q h) (xA_sub hS) (fun q _ h => xA_sub hS q h) (fun E ce q9 u t H1 locs1 ht _ hp hB _ _ hS1 hce hcv hcl => ?_) (fun u t H1 locs1 _ _ hp => hp.elim)
  exact vx_out (fun x hx => (htab x hx).elim) hlk hce hcv hcl (fun t' ht' _ => ⟨u, hp, ⟨hB.1, by show Rh G w u t'.heap; rw [ht', ← ht]; exact hB.2⟩, hS1.F ht'⟩) hS1.2.2 hmc hms
/-- thrown here -/
theorem x_new {is sa : Nat} {text : String} (hx : p.tables.exec = Jvm.exec) (hb : c.code = cc) (hlt : l.stackTraces = false) (hown : s.vm.findClass RX9 = some m.cls) (hts : ∀ w ∈ xw, w.before args s = true) (htab : ∀ x ∈ c.exceptionTable.toList, False) (hlk : meth.locks = false)
    (hZ : xZ (xA w s.heap.size) s s.heap) (hR : Rh G w z H) (hS : va_S (xA w s.heap.size) s.heap H locs) (hstr : vk_R RX9 is text sa s) (hsize : ls.size = c.maxLocals)
    (d0 : decode cc pc = .ok (.new 287, 3)) (d3 : decode cc (pc + 3) = .ok (.dup, 1)) (d4 : decode cc (pc + 4) = .ok (.ldc_w is, 3)) (d7 : decode cc (pc + 7) = .ok (.invokespecial 291, 3)) (d10 : decode cc (pc + 10) = .ok (.athrow, 1))
    (hRf : 5 < R.frames) (hRl : (rest.map fun v => v.category).sum + 82 ≤ R.locals) (hRc : cells + 1 ≤ R.cells) (hRs : slots + 6 ≤ R.slots) (hmc : cells + 1 ≤ mc) (hms : slots + 6 ≤ ms) :
    W p l e R s m args below meth c H locs cells slots (vx_MQ below Qc (xXC G w z s.heap.size) args s mc ms (xA w s.heap.size)) (F0 m pc ls rest) := by
  refine vx_throwSW (A := xA w s.heap.size) (names := xNm) hx hb hlt hown (by decide) (by decide) (hts _ q_909) (hts _ q_93) hstr (vx_hat (fun w hw => hts w (at_in w hw)) at_bd (x_bd hZ)) at_ot hZ.2.2.2.2.2.1 hZ.2.2.2.2.2.2 hS hsize d0 d3 d4 d7 d10 (fun x hx => (htab x hx).elim) hRf hRl hRc hRs hlk (fun t _ hsz hq => ⟨z, rfl, ⟨rfl, ?_⟩, ?_⟩) hS.2.2 hmc hms
  · refine ⟨fun o ho => ?_, hR.2⟩
    have h0 := hR.1 o ho
    exact h0.kept (hq _ h0.lt)
  · refine ⟨Nat.le_trans hS.1 hsz, fun q h1 h2 => ?_⟩
    rw [hq q (Nat.lt_of_lt_of_le h1 hS.1)]; exact hS.2.1 q h1 h2
end XX
def rx_X9_checkMember : Room := { frames := 6, cells := 1, slots := 6, locals := 82 }
set_option maxRecDepth 100000 in
set_option maxHeartbeats 4000000 in
theorem t_X9_checkMember (l : Launch) (hlt : l.stackTraces = false) (G : xGl) (w : xWd) (K : Nat) (hw : isC K w) (z : xSt) (sz : Nat) (x : Int32) (hB : bOk z 0) (hno : ¬ inR x (bN z 0 3)) : xX l yX9_checkMember cX9_checkMember 2 none rx_X9_checkMember G w z sz [.ref (w.2.2 0), .int x] := by
  refine x_mx (by decide) (Nat.le_of_ble_eq_true rfl) ?_
  intro p e s mt args below meth c ls hsz X htab hR hS hl
  obtain ⟨hx, hcb, hml, hown, hts, hlk, hK, hZ⟩ := X
  have hl : lv_has ls 2 [(0, .ref (w.2.2 0)), (1, .int x)] := hl
  refine lv_aload_n hx hcb dX9_checkMember_0 rfl (lv_at hl 0 rfl) ?_
  refine lv_iload_n hx hcb dX9_checkMember_1 rfl (lv_at hl 1 rfl) ?_
  refine x_ci0 rfl rfl (x_runV hx hcb hml hown hts (c_X9_isMember l G w K hw z _ x hB) mv_X9_isMember q_837 hK hZ hR hS (hw.lo (by decide)) xc9 (hw.s0 (by decide) rfl) rfl hl.1 rfl (Nat.le_of_ble_eq_true rfl) dX9_checkMember_2 ⟨by decide, by decide⟩ ⟨by decide, by decide⟩) hS (fun r_1 z_2 H locs hp_3 hR hS => ?_)
  rw [hp_3.2] at hR; rw [hp_3.1]
  refine lv_if_ne (tgt := 19) hx hcb dX9_checkMember_5 (by decide) (fun c_1 => absurd (if_neg hno) c_1) (fun c_1 => ?_)
  obtain ⟨as_, hv_, hs_⟩ := xS_of hZ (q := (RX9, 289, "no such member")) (List.mem_of_getElem? (i := 19) rfl)
  exact x_new hx hcb hlt hown hts htab hlk hZ hR hS hv_ (hl.1.trans hml.symm) dX9_checkMember_8 dX9_checkMember_11 dX9_checkMember_12 dX9_checkMember_15 dX9_checkMember_18 (by decide) (by decide) (by decide) (by decide) (by decide) (by decide)
def rx_X9_checkDepartment : Room := { frames := 6, cells := 1, slots := 6, locals := 82 }
set_option maxRecDepth 100000 in
set_option maxHeartbeats 4000000 in
theorem t_X9_checkDepartment (l : Launch) (hlt : l.stackTraces = false) (G : xGl) (w : xWd) (K : Nat) (hw : isC K w) (z : xSt) (sz : Nat) (x : Int32) (hB : bOk z 0) (hno : ¬ inR x (bN z 0 4)) : xX l yX9_checkDepartment cX9_checkDepartment 2 none rx_X9_checkDepartment G w z sz [.ref (w.2.2 0), .int x] := by
  refine x_mx (by decide) (Nat.le_of_ble_eq_true rfl) ?_
  intro p e s mt args below meth c ls hsz X htab hR hS hl
  obtain ⟨hx, hcb, hml, hown, hts, hlk, hK, hZ⟩ := X
  have hl : lv_has ls 2 [(0, .ref (w.2.2 0)), (1, .int x)] := hl
  refine lv_aload_n hx hcb dX9_checkDepartment_0 rfl (lv_at hl 0 rfl) ?_
  refine lv_iload_n hx hcb dX9_checkDepartment_1 rfl (lv_at hl 1 rfl) ?_
  refine x_ci0 rfl rfl (x_runV hx hcb hml hown hts (c_X9_isDepartment l G w K hw z _ x hB) mv_X9_isDepartment q_841 hK hZ hR hS (hw.lo (by decide)) xc9 (hw.s0 (by decide) rfl) rfl hl.1 rfl (Nat.le_of_ble_eq_true rfl) dX9_checkDepartment_2 ⟨by decide, by decide⟩ ⟨by decide, by decide⟩) hS (fun r_1 z_2 H locs hp_3 hR hS => ?_)
  rw [hp_3.2] at hR; rw [hp_3.1]
  refine lv_if_ne (tgt := 19) hx hcb dX9_checkDepartment_5 (by decide) (fun c_1 => absurd (if_neg hno) c_1) (fun c_1 => ?_)
  obtain ⟨as_, hv_, hs_⟩ := xS_of hZ (q := (RX9, 294, "no such department")) (List.mem_of_getElem? (i := 20) rfl)
  exact x_new hx hcb hlt hown hts htab hlk hZ hR hS hv_ (hl.1.trans hml.symm) dX9_checkDepartment_8 dX9_checkDepartment_11 dX9_checkDepartment_12 dX9_checkDepartment_15 dX9_checkDepartment_18 (by decide) (by decide) (by decide) (by decide) (by decide) (by decide)
def rx_X9_memberAt : Room := { frames := 7, cells := 1, slots := 6, locals := 103 }
set_option maxRecDepth 100000 in
set_option maxHeartbeats 4000000 in
theorem t_X9_memberAt (l : Launch) (hlt : l.stackTraces = false) (G : xGl) (w : xWd) (K : Nat) (hw : isC K w) (z : xSt) (sz : Nat) (x : Int32) (hB : bOk z 0) (hno : ¬ inR x (bN z 0 3)) : xX l yX9_memberAt cX9_memberAt 2 (some (FieldType.object "PatronageBooks$Member")) rx_X9_memberAt G w z sz [.ref (w.2.2 0), .int x] := by
  refine x_mx (by decide) (Nat.le_of_ble_eq_true rfl) ?_
  intro p e s mt args below meth c ls hsz X htab hR hS hl
  obtain ⟨hx, hcb, hml, hown, hts, hlk, hK, hZ⟩ := X
  have hl : lv_has ls 2 [(0, .ref (w.2.2 0)), (1, .int x)] := hl
  refine lv_aload_n hx hcb dX9_memberAt_0 rfl (lv_at hl 0 rfl) ?_
  refine lv_iload_n hx hcb dX9_memberAt_1 rfl (lv_at hl 1 rfl) ?_
  exact x_thr hx hcb hml hown hts htab hlk (t_X9_checkMember l hlt G w K hw z _ x hB hno) mv_X9_checkMember q_905 hK hZ hR hS (hw.lo (by decide)) xc9 (hw.s0 (by decide) rfl) rfl hl.1 rfl (Nat.le_of_ble_eq_true rfl) dX9_memberAt_2 ⟨by decide, by decide⟩ ⟨by decide, by decide⟩ (by decide) (by decide)
def rx_X9_consents : Room := { frames := 8, cells := 1, slots := 6, locals := 124 }
set_option maxRecDepth 100000 in
set_option maxHeartbeats 4000000 in
theorem t_X9_consents (l : Launch) (hlt : l.stackTraces = false) (G : xGl) (w : xWd) (K : Nat) (hw : isC K w) (z : xSt) (sz : Nat) (x : Int32) (hB : bOk z 0) (hno : ¬ inR x (bN z 0 3)) : xX l yX9_consents cX9_consents 2 (some FieldType.boolean) rx_X9_consents G w z sz [.ref (w.2.2 0), .int x] := by
  refine x_mx (by decide) (Nat.le_of_ble_eq_true rfl) ?_
  intro p e s mt args below meth c ls hsz X htab hR hS hl
  obtain ⟨hx, hcb, hml, hown, hts, hlk, hK, hZ⟩ := X
  have hl : lv_has ls 2 [(0, .ref (w.2.2 0)), (1, .int x)] := hl
  refine lv_aload_n hx hcb dX9_consents_0 rfl (lv_at hl 0 rfl) ?_
  refine lv_iload_n hx hcb dX9_consents_1 rfl (lv_at hl 1 rfl) ?_
  exact x_thr hx hcb hml hown hts htab hlk (t_X9_memberAt l hlt G w K hw z _ x hB hno) mv_X9_memberAt q_901 hK hZ hR hS (hw.lo (by decide)) xc9 (hw.s0 (by decide) rfl) rfl hl.1 rfl (Nat.le_of_ble_eq_true rfl) dX9_consents_2 ⟨by decide, by decide⟩ ⟨by decide, by decide⟩ (by decide) (by decide)
def rx_X9_stateOf : Room := { frames := 8, cells := 1, slots := 6, locals := 124 }
set_option maxRecDepth 100000 in
set_option maxHeartbeats 4000000 in
theorem t_X9_stateOf (l : Launch) (hlt : l.stackTraces = false) (G : xGl) (w : xWd) (K : Nat) (hw : isC K w) (z : xSt) (sz : Nat) (x : Int32) (hB : bOk z 0) (hno : ¬ inR x (bN z 0 3)) : xX l yX9_stateOf cX9_stateOf 2 (some FieldType.int) rx_X9_stateOf G w z sz [.ref (w.2.2 0), .int x] := by
  refine x_mx (by decide) (Nat.le_of_ble_eq_true rfl) ?_
  intro p e s mt args below meth c ls hsz X htab hR hS hl
  obtain ⟨hx, hcb, hml, hown, hts, hlk, hK, hZ⟩ := X
  have hl : lv_has ls 2 [(0, .ref (w.2.2 0)), (1, .int x)] := hl
  refine lv_aload_n hx hcb dX9_stateOf_0 rfl (lv_at hl 0 rfl) ?_
  refine lv_iload_n hx hcb dX9_stateOf_1 rfl (lv_at hl 1 rfl) ?_
  exact x_thr hx hcb hml hown hts htab hlk (t_X9_memberAt l hlt G w K hw z _ x hB hno) mv_X9_memberAt q_901 hK hZ hR hS (hw.lo (by decide)) xc9 (hw.s0 (by decide) rfl) rfl hl.1 rfl (Nat.le_of_ble_eq_true rfl) dX9_stateOf_2 ⟨by decide, by decide⟩ ⟨by decide, by decide⟩ (by decide) (by decide)
def rx_X9_patronage : Room := { frames := 8, cells := 1, slots := 6, locals := 124 }
set_option maxRecDepth 100000 in
set_option maxHeartbeats 4000000 in
theorem t_X9_patronage (l : Launch) (hlt : l.stackTraces = false) (G : xGl) (w : xWd) (K : Nat) (hw : isC K w) (z : xSt) (sz : Nat) (x : Int32) (y : Int32) (hB : bOk z 0) (hno : ¬ inR x (bN z 0 3)) : xX l yX9_patronage cX9_patronage 4 (some FieldType.int) rx_X9_patronage G w z sz [.ref (w.2.2 0), .int x, .int y] := by
  refine x_mx (by decide) (Nat.le_of_ble_eq_true rfl) ?_
  intro p e s mt args below meth c ls hsz X htab hR hS hl
  obtain ⟨hx, hcb, hml, hown, hts, hlk, hK, hZ⟩ := X
  have hl : lv_has ls 4 [(0, .ref (w.2.2 0)), (1, .int x), (2, .int y)] := hl
  refine lv_aload_n hx hcb dX9_patronage_0 rfl (lv_at hl 0 rfl) ?_
  refine lv_iload_n hx hcb dX9_patronage_1 rfl (lv_at hl 1 rfl) ?_
  exact x_thr hx hcb hml hown hts htab hlk (t_X9_memberAt l hlt G w K hw z _ x hB hno) mv_X9_memberAt q_901 hK hZ hR hS (hw.lo (by decide)) xc9 (hw.s0 (by decide) rfl) rfl hl.1 rfl (Nat.le_of_ble_eq_true rfl) dX9_patronage_2 ⟨by decide, by decide⟩ ⟨by decide, by decide⟩ (by decide) (by decide)
def rx_X9_certificate : Room := { frames := 8, cells := 1, slots := 6, locals := 124 }
set_option maxRecDepth 100000 in
set_option maxHeartbeats 4000000 in
theorem t_X9_certificate (l : Launch) (hlt : l.stackTraces = false) (G : xGl) (w : xWd) (K : Nat) (hw : isC K w) (z : xSt) (sz : Nat) (x : Int32) (y : Int32) (hB : bOk z 0) (hno : ¬ inR x (bN z 0 3)) : xX l yX9_certificate cX9_certificate 4 (some FieldType.int) rx_X9_certificate G w z sz [.ref (w.2.2 0), .int x, .int y] := by
  refine x_mx (by decide) (Nat.le_of_ble_eq_true rfl) ?_
  intro p e s mt args below meth c ls hsz X htab hR hS hl
  obtain ⟨hx, hcb, hml, hown, hts, hlk, hK, hZ⟩ := X
  have hl : lv_has ls 4 [(0, .ref (w.2.2 0)), (1, .int x), (2, .int y)] := hl
  refine lv_aload_n hx hcb dX9_certificate_0 rfl (lv_at hl 0 rfl) ?_
  refine lv_iload_n hx hcb dX9_certificate_1 rfl (lv_at hl 1 rfl) ?_
  exact x_thr hx hcb hml hown hts htab hlk (t_X9_memberAt l hlt G w K hw z _ x hB hno) mv_X9_memberAt q_901 hK hZ hR hS (hw.lo (by decide)) xc9 (hw.s0 (by decide) rfl) rfl hl.1 rfl (Nat.le_of_ble_eq_true rfl) dX9_certificate_2 ⟨by decide, by decide⟩ ⟨by decide, by decide⟩ (by decide) (by decide)
def rx_X9_kindOf : Room := { frames := 8, cells := 1, slots := 6, locals := 124 }
set_option maxRecDepth 100000 in
set_option maxHeartbeats 4000000 in
theorem t_X9_kindOf (l : Launch) (hlt : l.stackTraces = false) (G : xGl) (w : xWd) (K : Nat) (hw : isC K w) (z : xSt) (sz : Nat) (x : Int32) (y : Int32) (hB : bOk z 0) (hno : ¬ inR x (bN z 0 3)) : xX l yX9_kindOf cX9_kindOf 4 (some FieldType.int) rx_X9_kindOf G w z sz [.ref (w.2.2 0), .int x, .int y] := by
  refine x_mx (by decide) (Nat.le_of_ble_eq_true rfl) ?_
  intro p e s mt args below meth c ls hsz X htab hR hS hl
  obtain ⟨hx, hcb, hml, hown, hts, hlk, hK, hZ⟩ := X
  have hl : lv_has ls 4 [(0, .ref (w.2.2 0)), (1, .int x), (2, .int y)] := hl
  refine lv_aload_n hx hcb dX9_kindOf_0 rfl (lv_at hl 0 rfl) ?_
  refine lv_iload_n hx hcb dX9_kindOf_1 rfl (lv_at hl 1 rfl) ?_
  exact x_thr hx hcb hml hown hts htab hlk (t_X9_memberAt l hlt G w K hw z _ x hB hno) mv_X9_memberAt q_901 hK hZ hR hS (hw.lo (by decide)) xc9 (hw.s0 (by decide) rfl) rfl hl.1 rfl (Nat.le_of_ble_eq_true rfl) dX9_kindOf_2 ⟨by decide, by decide⟩ ⟨by decide, by decide⟩ (by decide) (by decide)
def rx_X9_equityOf : Room := { frames := 8, cells := 1, slots := 6, locals := 124 }
set_option maxRecDepth 100000 in
set_option maxHeartbeats 4000000 in
theorem t_X9_equityOf (l : Launch) (hlt : l.stackTraces = false) (G : xGl) (w : xWd) (K : Nat) (hw : isC K w) (z : xSt) (sz : Nat) (x : Int32) (hB : bOk z 0) (hno : ¬ inR x (bN z 0 3)) : xX l yX9_equityOf cX9_equityOf 2 (some FieldType.int) rx_X9_equityOf G w z sz [.ref (w.2.2 0), .int x] := by
  refine x_mx (by decide) (Nat.le_of_ble_eq_true rfl) ?_
  intro p e s mt args below meth c ls hsz X htab hR hS hl
  obtain ⟨hx, hcb, hml, hown, hts, hlk, hK, hZ⟩ := X
  have hl : lv_has ls 2 [(0, .ref (w.2.2 0)), (1, .int x)] := hl
  refine lv_aload_n hx hcb dX9_equityOf_0 rfl (lv_at hl 0 rfl) ?_
  refine lv_iload_n hx hcb dX9_equityOf_1 rfl (lv_at hl 1 rfl) ?_
  exact x_thr hx hcb hml hown hts htab hlk (t_X9_memberAt l hlt G w K hw z _ x hB hno) mv_X9_memberAt q_901 hK hZ hR hS (hw.lo (by decide)) xc9 (hw.s0 (by decide) rfl) rfl hl.1 rfl (Nat.le_of_ble_eq_true rfl) dX9_equityOf_2 ⟨by decide, by decide⟩ ⟨by decide, by decide⟩ (by decide) (by decide)
def rx_X9_equityIn : Room := { frames := 8, cells := 1, slots := 6, locals := 124 }
set_option maxRecDepth 100000 in
set_option maxHeartbeats 4000000 in
theorem t_X9_equityIn (l : Launch) (hlt : l.stackTraces = false) (G : xGl) (w : xWd) (K : Nat) (hw : isC K w) (z : xSt) (sz : Nat) (x : Int32) (y : Int32) (hB : bOk z 0) (hno : ¬ inR x (bN z 0 3)) : xX l yX9_equityIn cX9_equityIn 4 (some FieldType.int) rx_X9_equityIn G w z sz [.ref (w.2.2 0), .int x, .int y] := by
  refine x_mx (by decide) (Nat.le_of_ble_eq_true rfl) ?_
  intro p e s mt args below meth c ls hsz X htab hR hS hl
  obtain ⟨hx, hcb, hml, hown, hts, hlk, hK, hZ⟩ := X
  have hl : lv_has ls 4 [(0, .ref (w.2.2 0)), (1, .int x), (2, .int y)] := hl
  refine lv_aload_n hx hcb dX9_equityIn_0 rfl (lv_at hl 0 rfl) ?_
  refine lv_iload_n hx hcb dX9_equityIn_1 rfl (lv_at hl 1 rfl) ?_
  exact x_thr hx hcb hml hown hts htab hlk (t_X9_memberAt l hlt G w K hw z _ x hB hno) mv_X9_memberAt q_901 hK hZ hR hS (hw.lo (by decide)) xc9 (hw.s0 (by decide) rfl) rfl hl.1 rfl (Nat.le_of_ble_eq_true rfl) dX9_equityIn_2 ⟨by decide, by decide⟩ ⟨by decide, by decide⟩ (by decide) (by decide)
def rx_X9_paidTo : Room := { frames := 8, cells := 1, slots := 6, locals := 124 }
set_option maxRecDepth 100000 in
set_option maxHeartbeats 4000000 in
theorem t_X9_paidTo (l : Launch) (hlt : l.stackTraces = false) (G : xGl) (w : xWd) (K : Nat) (hw : isC K w) (z : xSt) (sz : Nat) (x : Int32) (y : Int32) (hB : bOk z 0) (hno : ¬ inR x (bN z 0 3)) : xX l yX9_paidTo cX9_paidTo 4 (some FieldType.int) rx_X9_paidTo G w z sz [.ref (w.2.2 0), .int x, .int y] := by
  refine x_mx (by decide) (Nat.le_of_ble_eq_true rfl) ?_
  intro p e s mt args below meth c ls hsz X htab hR hS hl
  obtain ⟨hx, hcb, hml, hown, hts, hlk, hK, hZ⟩ := X
  have hl : lv_has ls 4 [(0, .ref (w.2.2 0)), (1, .int x), (2, .int y)] := hl
  refine lv_aload_n hx hcb dX9_paidTo_0 rfl (lv_at hl 0 rfl) ?_
  refine lv_iload_n hx hcb dX9_paidTo_1 rfl (lv_at hl 1 rfl) ?_
  exact x_thr hx hcb hml hown hts htab hlk (t_X9_memberAt l hlt G w K hw z _ x hB hno) mv_X9_memberAt q_901 hK hZ hR hS (hw.lo (by decide)) xc9 (hw.s0 (by decide) rfl) rfl hl.1 rfl (Nat.le_of_ble_eq_true rfl) dX9_paidTo_2 ⟨by decide, by decide⟩ ⟨by decide, by decide⟩ (by decide) (by decide)
def rx_X9_lastAllocation : Room := { frames := 8, cells := 1, slots := 6, locals := 124 }
set_option maxRecDepth 100000 in
set_option maxHeartbeats 4000000 in
theorem t_X9_lastAllocation (l : Launch) (hlt : l.stackTraces = false) (G : xGl) (w : xWd) (K : Nat) (hw : isC K w) (z : xSt) (sz : Nat) (x : Int32) (hB : bOk z 0) (hno : ¬ inR x (bN z 0 3)) : xX l yX9_lastAllocation cX9_lastAllocation 2 (some FieldType.int) rx_X9_lastAllocation G w z sz [.ref (w.2.2 0), .int x] := by
  refine x_mx (by decide) (Nat.le_of_ble_eq_true rfl) ?_
  intro p e s mt args below meth c ls hsz X htab hR hS hl
  obtain ⟨hx, hcb, hml, hown, hts, hlk, hK, hZ⟩ := X
  have hl : lv_has ls 2 [(0, .ref (w.2.2 0)), (1, .int x)] := hl
  refine lv_aload_n hx hcb dX9_lastAllocation_0 rfl (lv_at hl 0 rfl) ?_
  refine lv_iload_n hx hcb dX9_lastAllocation_1 rfl (lv_at hl 1 rfl) ?_
  exact x_thr hx hcb hml hown hts htab hlk (t_X9_memberAt l hlt G w K hw z _ x hB hno) mv_X9_memberAt q_901 hK hZ hR hS (hw.lo (by decide)) xc9 (hw.s0 (by decide) rfl) rfl hl.1 rfl (Nat.le_of_ble_eq_true rfl) dX9_lastAllocation_2 ⟨by decide, by decide⟩ ⟨by decide, by decide⟩ (by decide) (by decide)
def rx_X9_lastRecapture : Room := { frames := 8, cells := 1, slots := 6, locals := 124 }
set_option maxRecDepth 100000 in
set_option maxHeartbeats 4000000 in
theorem t_X9_lastRecapture (l : Launch) (hlt : l.stackTraces = false) (G : xGl) (w : xWd) (K : Nat) (hw : isC K w) (z : xSt) (sz : Nat) (x : Int32) (hB : bOk z 0) (hno : ¬ inR x (bN z 0 3)) : xX l yX9_lastRecapture cX9_lastRecapture 2 (some FieldType.int) rx_X9_lastRecapture G w z sz [.ref (w.2.2 0), .int x] := by
  refine x_mx (by decide) (Nat.le_of_ble_eq_true rfl) ?_
  intro p e s mt args below meth c ls hsz X htab hR hS hl
  obtain ⟨hx, hcb, hml, hown, hts, hlk, hK, hZ⟩ := X
  have hl : lv_has ls 2 [(0, .ref (w.2.2 0)), (1, .int x)] := hl
  refine lv_aload_n hx hcb dX9_lastRecapture_0 rfl (lv_at hl 0 rfl) ?_
  refine lv_iload_n hx hcb dX9_lastRecapture_1 rfl (lv_at hl 1 rfl) ?_
  exact x_thr hx hcb hml hown hts htab hlk (t_X9_memberAt l hlt G w K hw z _ x hB hno) mv_X9_memberAt q_901 hK hZ hR hS (hw.lo (by decide)) xc9 (hw.s0 (by decide) rfl) rfl hl.1 rfl (Nat.le_of_ble_eq_true rfl) dX9_lastRecapture_2 ⟨by decide, by decide⟩ ⟨by decide, by decide⟩ (by decide) (by decide)
def rx_X9_meanAge : Room := { frames := 8, cells := 1, slots := 6, locals := 124 }
set_option maxRecDepth 100000 in
set_option maxHeartbeats 4000000 in
theorem t_X9_meanAge (l : Launch) (hlt : l.stackTraces = false) (G : xGl) (w : xWd) (K : Nat) (hw : isC K w) (z : xSt) (sz : Nat) (x : Int32) (hB : bOk z 0) (hno : ¬ inR x (bN z 0 3)) : xX l yX9_meanAge cX9_meanAge 4 (some FieldType.double) rx_X9_meanAge G w z sz [.ref (w.2.2 0), .int x] := by
  refine x_mx (by decide) (Nat.le_of_ble_eq_true rfl) ?_
  intro p e s mt args below meth c ls hsz X htab hR hS hl
  obtain ⟨hx, hcb, hml, hown, hts, hlk, hK, hZ⟩ := X
  have hl : lv_has ls 4 [(0, .ref (w.2.2 0)), (1, .int x)] := hl
  refine lv_aload_n hx hcb dX9_meanAge_0 rfl (lv_at hl 0 rfl) ?_
  refine lv_iload_n hx hcb dX9_meanAge_1 rfl (lv_at hl 1 rfl) ?_
  exact x_thr hx hcb hml hown hts htab hlk (t_X9_memberAt l hlt G w K hw z _ x hB hno) mv_X9_memberAt q_901 hK hZ hR hS (hw.lo (by decide)) xc9 (hw.s0 (by decide) rfl) rfl hl.1 rfl (Nat.le_of_ble_eq_true rfl) dX9_meanAge_2 ⟨by decide, by decide⟩ ⟨by decide, by decide⟩ (by decide) (by decide)
def rx_X9_oldestYear : Room := { frames := 8, cells := 1, slots := 6, locals := 124 }
set_option maxRecDepth 100000 in
set_option maxHeartbeats 4000000 in
theorem t_X9_oldestYear (l : Launch) (hlt : l.stackTraces = false) (G : xGl) (w : xWd) (K : Nat) (hw : isC K w) (z : xSt) (sz : Nat) (x : Int32) (hB : bOk z 0) (hno : ¬ inR x (bN z 0 3)) : xX l yX9_oldestYear cX9_oldestYear 2 (some FieldType.int) rx_X9_oldestYear G w z sz [.ref (w.2.2 0), .int x] := by
  refine x_mx (by decide) (Nat.le_of_ble_eq_true rfl) ?_
  intro p e s mt args below meth c ls hsz X htab hR hS hl
  obtain ⟨hx, hcb, hml, hown, hts, hlk, hK, hZ⟩ := X
  have hl : lv_has ls 2 [(0, .ref (w.2.2 0)), (1, .int x)] := hl
  refine lv_aload_n hx hcb dX9_oldestYear_0 rfl (lv_at hl 0 rfl) ?_
  refine lv_iload_n hx hcb dX9_oldestYear_1 rfl (lv_at hl 1 rfl) ?_
  exact x_thr hx hcb hml hown hts htab hlk (t_X9_memberAt l hlt G w K hw z _ x hB hno) mv_X9_memberAt q_901 hK hZ hR hS (hw.lo (by decide)) xc9 (hw.s0 (by decide) rfl) rfl hl.1 rfl (Nat.le_of_ble_eq_true rfl) dX9_oldestYear_2 ⟨by decide, by decide⟩ ⟨by decide, by decide⟩ (by decide) (by decide)
def rx_X9_isUniform : Room := { frames := 8, cells := 1, slots := 6, locals := 124 }
set_option maxRecDepth 100000 in
set_option maxHeartbeats 4000000 in
theorem t_X9_isUniform (l : Launch) (hlt : l.stackTraces = false) (G : xGl) (w : xWd) (K : Nat) (hw : isC K w) (z : xSt) (sz : Nat) (x : Int32) (hB : bOk z 0) (hno : ¬ inR x (bN z 0 3)) : xX l yX9_isUniform cX9_isUniform 3 (some FieldType.boolean) rx_X9_isUniform G w z sz [.ref (w.2.2 0), .int x] := by
  refine x_mx (by decide) (Nat.le_of_ble_eq_true rfl) ?_
  intro p e s mt args below meth c ls hsz X htab hR hS hl
  obtain ⟨hx, hcb, hml, hown, hts, hlk, hK, hZ⟩ := X
  have hl : lv_has ls 3 [(0, .ref (w.2.2 0)), (1, .int x)] := hl
  refine lv_aload_n hx hcb dX9_isUniform_0 rfl (lv_at hl 0 rfl) ?_
  refine lv_iload_n hx hcb dX9_isUniform_1 rfl (lv_at hl 1 rfl) ?_
  exact x_thr hx hcb hml hown hts htab hlk (t_X9_memberAt l hlt G w K hw z _ x hB hno) mv_X9_memberAt q_901 hK hZ hR hS (hw.lo (by decide)) xc9 (hw.s0 (by decide) rfl) rfl hl.1 rfl (Nat.le_of_ble_eq_true rfl) dX9_isUniform_2 ⟨by decide, by decide⟩ ⟨by decide, by decide⟩ (by decide) (by decide)
def rx_X9_installmentsLeft : Room := { frames := 8, cells := 1, slots := 6, locals := 124 }
set_option maxRecDepth 100000 in
set_option maxHeartbeats 4000000 in
theorem t_X9_installmentsLeft (l : Launch) (hlt : l.stackTraces = false) (G : xGl) (w : xWd) (K : Nat) (hw : isC K w) (z : xSt) (sz : Nat) (x : Int32) (hB : bOk z 0) (hno : ¬ inR x (bN z 0 3)) : xX l yX9_installmentsLeft cX9_installmentsLeft 2 (some FieldType.int) rx_X9_installmentsLeft G w z sz [.ref (w.2.2 0), .int x] := by
  refine x_mx (by decide) (Nat.le_of_ble_eq_true rfl) ?_
  intro p e s mt args below meth c ls hsz X htab hR hS hl
  obtain ⟨hx, hcb, hml, hown, hts, hlk, hK, hZ⟩ := X
  have hl : lv_has ls 2 [(0, .ref (w.2.2 0)), (1, .int x)] := hl
  refine lv_aload_n hx hcb dX9_installmentsLeft_0 rfl (lv_at hl 0 rfl) ?_
  refine lv_iload_n hx hcb dX9_installmentsLeft_1 rfl (lv_at hl 1 rfl) ?_
  exact x_thr hx hcb hml hown hts htab hlk (t_X9_memberAt l hlt G w K hw z _ x hB hno) mv_X9_memberAt q_901 hK hZ hR hS (hw.lo (by decide)) xc9 (hw.s0 (by decide) rfl) rfl hl.1 rfl (Nat.le_of_ble_eq_true rfl) dX9_installmentsLeft_2 ⟨by decide, by decide⟩ ⟨by decide, by decide⟩ (by decide) (by decide)
def rx_X9_installment : Room := { frames := 8, cells := 1, slots := 6, locals := 124 }
set_option maxRecDepth 100000 in
set_option maxHeartbeats 4000000 in
theorem t_X9_installment (l : Launch) (hlt : l.stackTraces = false) (G : xGl) (w : xWd) (K : Nat) (hw : isC K w) (z : xSt) (sz : Nat) (x : Int32) (y : Int32) (hB : bOk z 0) (hno : ¬ inR x (bN z 0 3)) : xX l yX9_installment cX9_installment 3 (some FieldType.int) rx_X9_installment G w z sz [.ref (w.2.2 0), .int x, .int y] := by
  refine x_mx (by decide) (Nat.le_of_ble_eq_true rfl) ?_
  intro p e s mt args below meth c ls hsz X htab hR hS hl
  obtain ⟨hx, hcb, hml, hown, hts, hlk, hK, hZ⟩ := X
  have hl : lv_has ls 3 [(0, .ref (w.2.2 0)), (1, .int x), (2, .int y)] := hl
  refine lv_aload_n hx hcb dX9_installment_0 rfl (lv_at hl 0 rfl) ?_
  refine lv_iload_n hx hcb dX9_installment_1 rfl (lv_at hl 1 rfl) ?_
  exact x_thr hx hcb hml hown hts htab hlk (t_X9_memberAt l hlt G w K hw z _ x hB hno) mv_X9_memberAt q_901 hK hZ hR hS (hw.lo (by decide)) xc9 (hw.s0 (by decide) rfl) rfl hl.1 rfl (Nat.le_of_ble_eq_true rfl) dX9_installment_2 ⟨by decide, by decide⟩ ⟨by decide, by decide⟩ (by decide) (by decide)
def rx_X9_yearsUntil : Room := { frames := 8, cells := 1, slots := 6, locals := 124 }
set_option maxRecDepth 100000 in
set_option maxHeartbeats 4000000 in
theorem t_X9_yearsUntil (l : Launch) (hlt : l.stackTraces = false) (G : xGl) (w : xWd) (K : Nat) (hw : isC K w) (z : xSt) (sz : Nat) (x : Int32) (y : Int32) (hB : bOk z 0) (hno : ¬ inR x (bN z 0 3)) : xX l yX9_yearsUntil cX9_yearsUntil 4 (some FieldType.int) rx_X9_yearsUntil G w z sz [.ref (w.2.2 0), .int x, .int y] := by
  refine x_mx (by decide) (Nat.le_of_ble_eq_true rfl) ?_
  intro p e s mt args below meth c ls hsz X htab hR hS hl
  obtain ⟨hx, hcb, hml, hown, hts, hlk, hK, hZ⟩ := X
  have hl : lv_has ls 4 [(0, .ref (w.2.2 0)), (1, .int x), (2, .int y)] := hl
  refine lv_aload_n hx hcb dX9_yearsUntil_0 rfl (lv_at hl 0 rfl) ?_
  refine lv_iload_n hx hcb dX9_yearsUntil_1 rfl (lv_at hl 1 rfl) ?_
  exact x_thr hx hcb hml hown hts htab hlk (t_X9_memberAt l hlt G w K hw z _ x hB hno) mv_X9_memberAt q_901 hK hZ hR hS (hw.lo (by decide)) xc9 (hw.s0 (by decide) rfl) rfl hl.1 rfl (Nat.le_of_ble_eq_true rfl) dX9_yearsUntil_2 ⟨by decide, by decide⟩ ⟨by decide, by decide⟩ (by decide) (by decide)
def rx_X9_partOf : Room := { frames := 8, cells := 1, slots := 6, locals := 124 }
set_option maxRecDepth 100000 in
set_option maxHeartbeats 4000000 in
theorem t_X9_partOf (l : Launch) (hlt : l.stackTraces = false) (G : xGl) (w : xWd) (K : Nat) (hw : isC K w) (z : xSt) (sz : Nat) (x : Int32) (hB : bOk z 0) (hno : ¬ inR x (bN z 0 3)) : xX l yX9_partOf cX9_partOf 4 (some FieldType.double) rx_X9_partOf G w z sz [.ref (w.2.2 0), .int x] := by
  refine x_mx (by decide) (Nat.le_of_ble_eq_true rfl) ?_
  intro p e s mt args below meth c ls hsz X htab hR hS hl
  obtain ⟨hx, hcb, hml, hown, hts, hlk, hK, hZ⟩ := X
  have hl : lv_has ls 4 [(0, .ref (w.2.2 0)), (1, .int x)] := hl
  refine lv_aload_n hx hcb dX9_partOf_0 rfl (lv_at hl 0 rfl) ?_
  refine lv_iload_n hx hcb dX9_partOf_1 rfl (lv_at hl 1 rfl) ?_
  exact x_thr hx hcb hml hown hts htab hlk (t_X9_memberAt l hlt G w K hw z _ x hB hno) mv_X9_memberAt q_901 hK hZ hR hS (hw.lo (by decide)) xc9 (hw.s0 (by decide) rfl) rfl hl.1 rfl (Nat.le_of_ble_eq_true rfl) dX9_partOf_2 ⟨by decide, by decide⟩ ⟨by decide, by decide⟩ (by decide) (by decide)
def rx_X9_wouldGet : Room := { frames := 7, cells := 1, slots := 6, locals := 103 }
set_option maxRecDepth 100000 in
set_option maxHeartbeats 4000000 in
theorem t_X9_wouldGet (l : Launch) (hlt : l.stackTraces = false) (G : xGl) (w : xWd) (K : Nat) (hw : isC K w) (z : xSt) (sz : Nat) (x : Int32) (a : Int32) (b : Int32) (c_ : Int32) (d : Int32) (hB : bOk z 0) (hno : ¬ inR x (bN z 0 3)) : xX l yX9_wouldGet cX9_wouldGet 6 (some FieldType.int) rx_X9_wouldGet G w z sz [.ref (w.2.2 0), .int x, .int a, .int b, .int c_, .int d] := by
  refine x_mx (by decide) (Nat.le_of_ble_eq_true rfl) ?_
  intro p e s mt args below meth c ls hsz X htab hR hS hl
  obtain ⟨hx, hcb, hml, hown, hts, hlk, hK, hZ⟩ := X
  have hl : lv_has ls 6 [(0, .ref (w.2.2 0)), (1, .int x), (2, .int a), (3, .int b), (4, .int c_), (5, .int d)] := hl
  refine lv_aload_n hx hcb dX9_wouldGet_0 rfl (lv_at hl 0 rfl) ?_
  refine lv_iload_n hx hcb dX9_wouldGet_1 rfl (lv_at hl 1 rfl) ?_
  exact x_thr hx hcb hml hown hts htab hlk (t_X9_checkMember l hlt G w K hw z _ x hB hno) mv_X9_checkMember q_905 hK hZ hR hS (hw.lo (by decide)) xc9 (hw.s0 (by decide) rfl) rfl hl.1 rfl (Nat.le_of_ble_eq_true rfl) dX9_wouldGet_2 ⟨by decide, by decide⟩ ⟨by decide, by decide⟩ (by decide) (by decide)
def rx_X9_wouldRedeem : Room := { frames := 7, cells := 1, slots := 6, locals := 103 }
set_option maxRecDepth 100000 in
set_option maxHeartbeats 4000000 in
theorem t_X9_wouldRedeem (l : Launch) (hlt : l.stackTraces = false) (G : xGl) (w : xWd) (K : Nat) (hw : isC K w) (z : xSt) (sz : Nat) (x : Int32) (a : Int32) (hB : bOk z 0) (hno : ¬ inR x (bN z 0 3)) : xX l yX9_wouldRedeem cX9_wouldRedeem 3 (some FieldType.int) rx_X9_wouldRedeem G w z sz [.ref (w.2.2 0), .int x, .int a] := by
  refine x_mx (by decide) (Nat.le_of_ble_eq_true rfl) ?_
  intro p e s mt args below meth c ls hsz X htab hR hS hl
  obtain ⟨hx, hcb, hml, hown, hts, hlk, hK, hZ⟩ := X
  have hl : lv_has ls 3 [(0, .ref (w.2.2 0)), (1, .int x), (2, .int a)] := hl
  refine lv_aload_n hx hcb dX9_wouldRedeem_0 rfl (lv_at hl 0 rfl) ?_
  refine lv_iload_n hx hcb dX9_wouldRedeem_1 rfl (lv_at hl 1 rfl) ?_
  exact x_thr hx hcb hml hown hts htab hlk (t_X9_checkMember l hlt G w K hw z _ x hB hno) mv_X9_checkMember q_905 hK hZ hR hS (hw.lo (by decide)) xc9 (hw.s0 (by decide) rfl) rfl hl.1 rfl (Nat.le_of_ble_eq_true rfl) dX9_wouldRedeem_2 ⟨by decide, by decide⟩ ⟨by decide, by decide⟩ (by decide) (by decide)
def rx_X9_totalPatronage : Room := { frames := 7, cells := 1, slots := 6, locals := 103 }
set_option maxRecDepth 100000 in
set_option maxHeartbeats 4000000 in
theorem t_X9_totalPatronage (l : Launch) (hlt : l.stackTraces = false) (G : xGl) (w : xWd) (K : Nat) (hw : isC K w) (z : xSt) (sz : Nat) (x : Int32) (hB : bOk z 0) (hno : ¬ inR x (bN z 0 4)) : xX l yX9_totalPatronage cX9_totalPatronage 2 (some FieldType.int) rx_X9_totalPatronage G w z sz [.ref (w.2.2 0), .int x] := by
  refine x_mx (by decide) (Nat.le_of_ble_eq_true rfl) ?_
  intro p e s mt args below meth c ls hsz X htab hR hS hl
  obtain ⟨hx, hcb, hml, hown, hts, hlk, hK, hZ⟩ := X
  have hl : lv_has ls 2 [(0, .ref (w.2.2 0)), (1, .int x)] := hl
  refine lv_aload_n hx hcb dX9_totalPatronage_0 rfl (lv_at hl 0 rfl) ?_
  refine lv_iload_n hx hcb dX9_totalPatronage_1 rfl (lv_at hl 1 rfl) ?_
  exact x_thr hx hcb hml hown hts htab hlk (t_X9_checkDepartment l hlt G w K hw z _ x hB hno) mv_X9_checkDepartment q_988 hK hZ hR hS (hw.lo (by decide)) xc9 (hw.s0 (by decide) rfl) rfl hl.1 rfl (Nat.le_of_ble_eq_true rfl) dX9_totalPatronage_2 ⟨by decide, by decide⟩ ⟨by decide, by decide⟩ (by decide) (by decide)
def rx_X9_rateOf : Room := { frames := 7, cells := 1, slots := 6, locals := 103 }
set_option maxRecDepth 100000 in
set_option maxHeartbeats 4000000 in
theorem t_X9_rateOf (l : Launch) (hlt : l.stackTraces = false) (G : xGl) (w : xWd) (K : Nat) (hw : isC K w) (z : xSt) (sz : Nat) (x : Int32) (hB : bOk z 0) (hno : ¬ inR x (bN z 0 4)) : xX l yX9_rateOf cX9_rateOf 2 (some FieldType.float) rx_X9_rateOf G w z sz [.ref (w.2.2 0), .int x] := by
  refine x_mx (by decide) (Nat.le_of_ble_eq_true rfl) ?_
  intro p e s mt args below meth c ls hsz X htab hR hS hl
  obtain ⟨hx, hcb, hml, hown, hts, hlk, hK, hZ⟩ := X
  have hl : lv_has ls 2 [(0, .ref (w.2.2 0)), (1, .int x)] := hl
  refine lv_aload_n hx hcb dX9_rateOf_0 rfl (lv_at hl 0 rfl) ?_
  refine lv_iload_n hx hcb dX9_rateOf_1 rfl (lv_at hl 1 rfl) ?_
  exact x_thr hx hcb hml hown hts htab hlk (t_X9_checkDepartment l hlt G w K hw z _ x hB hno) mv_X9_checkDepartment q_988 hK hZ hR hS (hw.lo (by decide)) xc9 (hw.s0 (by decide) rfl) rfl hl.1 rfl (Nat.le_of_ble_eq_true rfl) dX9_rateOf_2 ⟨by decide, by decide⟩ ⟨by decide, by decide⟩ (by decide) (by decide)
def rx_X9_ratePoints : Room := { frames := 7, cells := 1, slots := 6, locals := 103 }
set_option maxRecDepth 100000 in
set_option maxHeartbeats 4000000 in
theorem t_X9_ratePoints (l : Launch) (hlt : l.stackTraces = false) (G : xGl) (w : xWd) (K : Nat) (hw : isC K w) (z : xSt) (sz : Nat) (x : Int32) (hB : bOk z 0) (hno : ¬ inR x (bN z 0 4)) : xX l yX9_ratePoints cX9_ratePoints 2 (some FieldType.int) rx_X9_ratePoints G w z sz [.ref (w.2.2 0), .int x] := by
  refine x_mx (by decide) (Nat.le_of_ble_eq_true rfl) ?_
  intro p e s mt args below meth c ls hsz X htab hR hS hl
  obtain ⟨hx, hcb, hml, hown, hts, hlk, hK, hZ⟩ := X
  have hl : lv_has ls 2 [(0, .ref (w.2.2 0)), (1, .int x)] := hl
  refine lv_aload_n hx hcb dX9_ratePoints_0 rfl (lv_at hl 0 rfl) ?_
  refine lv_iload_n hx hcb dX9_ratePoints_1 rfl (lv_at hl 1 rfl) ?_
  exact x_thr hx hcb hml hown hts htab hlk (t_X9_checkDepartment l hlt G w K hw z _ x hB hno) mv_X9_checkDepartment q_988 hK hZ hR hS (hw.lo (by decide)) xc9 (hw.s0 (by decide) rfl) rfl hl.1 rfl (Nat.le_of_ble_eq_true rfl) dX9_ratePoints_2 ⟨by decide, by decide⟩ ⟨by decide, by decide⟩ (by decide) (by decide)
def rx2_X9_patronage : Room := { frames := 7, cells := 1, slots := 6, locals := 103 }
set_option maxRecDepth 100000 in
set_option maxHeartbeats 4000000 in
theorem t2_X9_patronage (l : Launch) (hlt : l.stackTraces = false) (G : xGl) (w : xWd) (K : Nat) (hw : isC K w) (z : xSt) (sz : Nat) (mi : Nat) (x : Int32) (hB : bOk z 0) (hmi : mi < bN z 0 3) (hno : ¬ inR x (bN z 0 4)) : xX l yX9_patronage cX9_patronage 4 (some FieldType.int) rx2_X9_patronage G w z sz [.ref (w.2.2 0), .int (nI mi), .int x] := by
  refine x_mx (by decide) (Nat.le_of_ble_eq_true rfl) ?_
  intro p e s mt args below meth c ls hsz X htab hR hS hl
  obtain ⟨hx, hcb, hml, hown, hts, hlk, hK, hZ⟩ := X
  have hl : lv_has ls 4 [(0, .ref (w.2.2 0)), (1, .int (nI mi)), (2, .int x)] := hl
  refine lv_aload_n hx hcb dX9_patronage_0 rfl (lv_at hl 0 rfl) ?_
  refine lv_iload_n hx hcb dX9_patronage_1 rfl (lv_at hl 1 rfl) ?_
  have hb3_ := hB.2.1
  have hm8_ : mi < 8 := by omega
  refine x_cr0 rfl rfl (x_runV hx hcb hml hown hts (c_X9_memberAt l G w K hw z _ mi hB hmi) mv_X9_memberAt q_901 hK hZ hR hS (hw.lo (by decide)) xc9 (hw.s0 (by decide) rfl) rfl hl.1 rfl (Nat.le_of_ble_eq_true rfl) dX9_patronage_2 ⟨by decide, by decide⟩ ⟨by decide, by decide⟩) hS (fun z_2 H locs hp_3 hR hS => ?_)
  rw [hp_3] at hR
  refine lv_astore_n (lv' := [(3, .ref (w.2.2 (oM 0 mi))), (0, .ref (w.2.2 0)), (1, .int (nI mi)), (2, .int x)]) hx hcb dX9_patronage_5 rfl hl (by decide) rfl (fun ls hl => ?_)
  refine lv_aload_n hx hcb dX9_patronage_6 rfl (lv_at hl 1 rfl) ?_
  refine lv_iload_n hx hcb dX9_patronage_7 rfl (lv_at hl 3 rfl) ?_
  exact x_thr hx hcb hml hown hts htab hlk (t_X9_checkDepartment l hlt G w K hw z _ x hB hno) mv_X9_checkDepartment q_988 hK hZ hR hS (hw.lo (by decide)) xc9 (hw.s0 (by decide) rfl) rfl hl.1 rfl (Nat.le_of_ble_eq_true rfl) dX9_patronage_8 ⟨by decide, by decide⟩ ⟨by decide, by decide⟩ (by decide) (by decide)
