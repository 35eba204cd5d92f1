/-! METHODS THAT ARE HANDED A STRING CONSTANT, or what it holds -/
def xMvd (E : (Nat → Prop) → State → Heap → Prop) : Prop := ∀ {A B : Nat → Prop} {s U : State} {H H1 : Heap}, s.WarmedH U.vm → (∀ q, B q → A q) → (∀ a : Nat, a < H.size → ¬ A a → H1[a]? = H[a]?) → E A s H → E B U H1
def xPE (E : (Nat → Prop) → State → Heap → Prop) (G : xGl) (w : xWd) (z : xSt) (sz : Nat) (av : List Value) : Array Value → State → Prop := va_Pc av (fun U => U.heap.size = sz ∧ Rh G w z U.heap ∧ va_K G.1 vwCl (xtys G) U ∧ xZ (xA w sz) U U.heap ∧ E (xA w sz) U U.heap)
theorem xPE_blind {E : (Nat → Prop) → State → Heap → Prop} (hE : xMvd E) {G : xGl} {w : xWd} {z : xSt} {sz : Nat} {av : List Value} : FrameBlind (xPE E G w z sz av) := fun a U g mk q => ⟨q.1, q.2.1, q.2.2.1, va_K.moved (u := U) (U := U.calling g mk a) (Vm.Alike.refl U.vm) q.2.2.2.1, q.2.2.2.2.1.blind, hE (U := U.calling g mk a) (State.WarmedH.refl U) (fun _ h => h) (fun _ _ _ => rfl) q.2.2.2.2.2⟩
abbrev xMiE (E : (Nat → Prop) → State → Heap → Prop) (l : Launch) (y : MethodName) (cc : ByteArray) (maxL : Nat) (ret : Option FieldType) (rm : Room) (G : xGl) (w : xWd) (z : xSt) (sz : Nat) (av : List Value) (post : Int32 → xSt → Prop) : Prop := Met l y (xws y cc maxL ret) rm (xPE E G w z sz av) (va_Qi post (xB G w) (xA w sz)) rm.cells rm.slots (xA w sz)
theorem x_metE {E : (Nat → Prop) → State → Heap → Prop} {l : Launch} {y : MethodName} {cc : ByteArray} {maxL : Nat} {ret : Option FieldType} {rm : Room} {G : xGl} {w : xWd} {z : xSt} {sz : Nat} {av : List Value} {Qc : Array Value → State → Outcome → State → Prop} {mc ms : Nat} {free : Addr → Prop} (hy : plainName y.cls = true) (hav : (lg_sl av).length ≤ maxL)
    (body : ∀ (p : Program) (e : Env) (s : State) (m : MethodId) (below : List Frame) (meth : Method) (c : Code) (ls : Array Slot), sz = s.heap.size → p.tables.exec = Jvm.exec → c.code = cc → meth.sig.returnType = ret → c.maxLocals = maxL → s.vm.findClass y.cls = some m.cls → (∀ w ∈ xw, w.before av.toArray s = true) → meth.locks = false → va_K G.1 vwCl (xtys G) s → xZ (xA w s.heap.size) s s.heap → E (xA w s.heap.size) s s.heap → Rh G w z s.heap → va_S (xA w s.heap.size) s.heap s.heap [] → lv_has ls maxL (lv_args 0 av) →
      W p l e rm s m av.toArray below meth c s.heap [] 0 0 (MQ below Qc av.toArray s mc ms free) (F0 m 0 ls [])) : Met l y (xws y cc maxL ret) rm (xPE E G w z sz av) Qc mc ms free := by
  refine Met.ofW (cc := cc) (maxL := maxL) (ret := ret) hy rfl ?_
  intro p e s m args below meth c s₁ B hml hv
  obtain ⟨rfl, hsz, hR, hK, hZ, hE⟩ := hv
  have hts := atoms_spec (ws := xws y cc maxL ret) B.pre
  rw [lg_entry_eq]
  exact body p e s m below meth c _ hsz.symm B.exec B.bytes B.returns hml (findClass_of_methodNamed B.named) (fun w h => hts w (List.mem_cons_of_mem _ h)) B.notSynchronized hK (hsz ▸ hZ) (hsz ▸ hE) hR va_S.rf (lv_entry av hav)
theorem x_miE {E : (Nat → Prop) → State → Heap → Prop} {l : Launch} {y : MethodName} {cc : ByteArray} {maxL : Nat} {ty : FieldType} {rm : Room} {G : xGl} {w : xWd} {z : xSt} {sz : Nat} {av : List Value} {post : Int32 → xSt → Prop} (hy : plainName y.cls = true) (hav : (lg_sl av).length ≤ maxL)
    (body : ∀ (p : Program) (e : Env) (s : State) (m : MethodId) (args : Array Value) (below : List Frame) (meth : Method) (c : Code) (ls : Array Slot) (Q : State → Prop), sz = s.heap.size → xCx p s m args c meth cc maxL y.cls G w → E (xA w s.heap.size) s s.heap → Rh G w z s.heap → va_S (xA w s.heap.size) s.heap s.heap [] → lv_has ls maxL (lv_args 0 av) →
      (∀ (v : Int32) (z1 : xSt) (H : Heap) (locs : List Loc) (pc : Nat) (ls : Array Slot), decode cc pc = .ok (.ireturn, 1) → narrow ty (.int v) = .int v → Rh G w z1 H → va_S (xA w s.heap.size) s.heap H locs → post v z1 → W p l e rm s m args below meth c H locs rm.cells rm.slots Q (F0 m pc ls [.int v])) →
      W p l e rm s m args below meth c s.heap [] 0 0 Q (F0 m 0 ls [])) : xMiE E l y cc maxL (some ty) rm G w z sz av post := by
  refine x_metE hy hav ?_
  intro p e s m below meth c ls hsz hx hb hr hml hown hts hlocks hK hZ hE hR hS hl
  subst hsz
  exact body p e s m _ below meth c ls _ rfl ⟨hx, hb, hml, hown, hts, hlocks, hK, hZ⟩ hE hR hS hl (fun v z1 H locs pc ls hd hn hR hS hp => x_iret hx hb hr hlocks hn hR hS hp hd)
section XE
variable {p : Program} {l : Launch} {e : Env} {R : Room} {s : State} {m : MethodId} {args : Array Value} {below : List Frame} {meth : Method} {c : Code} {H : Heap} {locs : List Loc} {cells slots : Nat} {Q : State → Prop}
variable {cc bytes : ByteArray} {pc : Nat} {ls : Array Slot} {rest st0 : List Value} {G : xGl} {w : xWd} {z : xSt} {own C : String} {y : MethodName} {maxL nL n index : Nat} {ret : Option FieldType} {rm : Room} {E : (Nat → Prop) → State → Heap → Prop}
theorem xE_call (hE : xMvd E) {U : State} (h : E (xA w s.heap.size) s s.heap) (hS : va_S (xA w s.heap.size) s.heap H locs) (hU : U.heap = H) (hW : s.WarmedH U.vm) : E (xA w H.size) U U.heap := by
  rw [hU]
  exact hE hW (xA_sub hS) hS.2.1 h
/-- a call on an object of the world, with something handed over -/
theorem x_runVE {Qc : Array Value → State → Outcome → State → Prop} {free : Addr → Prop} {As : List Value} {o ci N : Nat} {T : u_T} {ty0 : Nat → FieldType} {ps : List (Option Nat)}
    (hE : xMvd E) (hEs : E (xA w s.heap.size) s s.heap) (hx : p.tables.exec = Jvm.exec) (hb : c.code = cc) (hml : c.maxLocals = nL) (hown : s.vm.findClass own = some m.cls) (hts : ∀ w ∈ xw, w.before args s = true)
    (hM : Met l y (xws y bytes maxL ret) rm (xPE E G w z H.size (.ref (w.2.2 o) :: As)) Qc rm.cells rm.slots free) (hmv : xMV y C bytes maxL ret n) (hq : Cond.methodLink own index y ∈ xw)
    (hK : va_K G.1 vwCl (xtys G) s) (hZ : xZ (xA w s.heap.size) s s.heap) (hR : Rh G w z H) (hS : va_S (xA w s.heap.size) s.heap H locs) (ho : o < w.1) (hc : xCls ci C T N ty0) (hsh : w.2.1 o = .inl (ci, ps))
    (hn : As.length = n) (hl : ls.size = nL) (hst : st0 = As.reverse ++ .ref (w.2.2 o) :: rest) (hW : (rest.map fun v => v.category).sum ≤ 8) (hdg : decode cc pc = .ok (.invokevirtual index, 3))
    (hroom : rm.frames + 1 ≤ R.frames ∧ 8 + (maxL + 11) + rm.locals ≤ R.locals) (hf : cells + rm.cells ≤ R.cells ∧ slots + rm.slots ≤ R.slots) :
    va_Run p l e R s m args below meth c H locs cells slots rm.cells rm.slots (F0 m pc ls st0) rest (Qc (Value.ref (w.2.2 o) :: As).toArray) free := by
  obtain ⟨h1, h2, h3, h4, h5⟩ := hmv
  refine va_runV (As := As) (rest := rest) (Ts := xw) ⟨hx, hb, hml, hown, hts⟩ hM (cwV n hts (xw_c hq (xw_c h1 (xw_c h2 (xw_c h3 (xw_gws h4))))) rfl rfl rfl h5 hroom) ⟨xPE_blind hE, ?_, fun U hU hW => ⟨rfl, by rw [hU], by rw [hU]; exact hR, va_K.moved hW.alike hK, hZ.call hS hU hW, xE_call hE hEs hS hU hW⟩⟩ rfl hn hl hst (lv_room hW) hdg hf
  have h0 := hR.at ho
  rw [hsh] at h0
  obtain ⟨q', g0, cell, g1, g2, g3, -⟩ := h0
  exact ⟨cell, g1, by rw [g3]; rfl, by rw [g2]; exact (hK.1 ci _ hc.1).2.1⟩
/-- a call on a string -/
theorem x_runVS {Qc : Array Value → State → Outcome → State → Prop} {free : Addr → Prop} {As : List Value} {a : Nat}
    (hE : xMvd E) (hEs : E (xA w s.heap.size) s s.heap) (hx : p.tables.exec = Jvm.exec) (hb : c.code = cc) (hml : c.maxLocals = nL) (hown : s.vm.findClass own = some m.cls) (hts : ∀ w ∈ xw, w.before args s = true)
    (hM : Met l y (xws y bytes maxL ret) rm (xPE E G w z H.size (.ref a :: As)) Qc rm.cells rm.slots free) (hmv : xMV y RJ0 bytes maxL ret n) (hq : Cond.methodLink own index y ∈ xw)
    (hK : va_K G.1 vwCl (xtys G) s) (hZ : xZ (xA w s.heap.size) s s.heap) (hR : Rh G w z H) (hS : va_S (xA w s.heap.size) s.heap H locs) (hO : va_O "java/lang/String" a (xA w s.heap.size) s s.heap)
    (hn : As.length = n) (hl : ls.size = nL) (hst : st0 = As.reverse ++ .ref a :: rest) (hW : (rest.map fun v => v.category).sum ≤ 8) (hdg : decode cc pc = .ok (.invokevirtual index, 3))
    (hroom : rm.frames + 1 ≤ R.frames ∧ 8 + (maxL + 11) + rm.locals ≤ R.locals) (hf : cells + rm.cells ≤ R.cells ∧ slots + rm.slots ≤ R.slots) :
    va_Run p l e R s m args below meth c H locs cells slots rm.cells rm.slots (F0 m pc ls st0) rest (Qc (Value.ref a :: As).toArray) free := by
  obtain ⟨h1, h2, h3, h4, h5⟩ := hmv
  refine va_runV (As := As) (rest := rest) (Ts := xw) ⟨hx, hb, hml, hown, hts⟩ hM (cwV n hts (xw_c hq (xw_c h1 (xw_c h2 (xw_c h3 (xw_gws h4))))) rfl rfl rfl h5 hroom) ⟨xPE_blind hE, ?_, fun U hU hW => ⟨rfl, by rw [hU], by rw [hU]; exact hR, va_K.moved hW.alike hK, hZ.call hS hU hW, xE_call hE hEs hS hU hW⟩⟩ rfl hn hl hst (lv_room hW) hdg hf
  obtain ⟨cell, g1, g2, g3, -⟩ := hO.kept hS.2.1
  exact ⟨cell, g1, g2, g3⟩
theorem x_runSE {Qc : Array Value → State → Outcome → State → Prop} {free : Addr → Prop} {As : List Value}
    (hE : xMvd E) (hEs : E (xA w s.heap.size) s s.heap) (hx : p.tables.exec = Jvm.exec) (hb : c.code = cc) (hml : c.maxLocals = nL) (hown : s.vm.findClass own = some m.cls) (hts : ∀ w ∈ xw, w.before args s = true)
    (hM : Met l y (xws y bytes maxL ret) rm (xPE E G w z H.size As) Qc rm.cells rm.slots free) (hmv : xMS y bytes maxL ret n) (hq : Cond.methodLink own index y ∈ xw)
    (hK : va_K G.1 vwCl (xtys G) s) (hZ : xZ (xA w s.heap.size) s s.heap) (hR : Rh G w z H) (hS : va_S (xA w s.heap.size) s.heap H locs)
    (hn : As.length = n) (hl : ls.size = nL) (hst : st0 = As.reverse ++ rest) (hW : (rest.map fun v => v.category).sum ≤ 8) (hdg : decode cc pc = .ok (.invokestatic index, 3))
    (hroom : rm.frames + 1 ≤ R.frames ∧ 8 + (maxL + 11) + rm.locals ≤ R.locals) (hf : cells + rm.cells ≤ R.cells ∧ slots + rm.slots ≤ R.slots) :
    va_Run p l e R s m args below meth c H locs cells slots rm.cells rm.slots (F0 m pc ls st0) rest (Qc As.toArray) free := by
  obtain ⟨h1, h2, h4, h5⟩ := hmv
  exact va_runS (As := As) (rest := rest) (Ts := xw) ⟨hx, hb, hml, hown, hts⟩ hM (va_cwS n hts (xw_c hq (xw_c h1 (xw_c h2 (xw_gws h4)))) rfl rfl rfl h5 hroom) ⟨xPE_blind hE, fun U hU hW => ⟨rfl, by rw [hU], by rw [hU]; exact hR, va_K.moved hW.alike hK, hZ.call hS hU hW, xE_call hE hEs hS hU hW⟩⟩ rfl hn hl hst (lv_room hW) hdg hf
end XE
/-- a string: where its text lies -/
def slen (tx : String) : Nat := tx.toList.length
def sch (tx : String) (j : Nat) : Int32 := nI ((tx.toList.getD j ' ').toNat)
def isS (tx : String) (a : Nat) (A : Nat → Prop) (U : State) (H : Heap) : Prop := ∃ v : Nat, va_O "java/lang/String" a A U H ∧ va_OF "java/lang/String" "coder" "B" (.int 0) a A U H ∧ va_OF "java/lang/String" "value" "[B" (.ref v) a A U H ∧ va_T .byte v (slen tx) (fun j => .int (sch tx j)) A U H
theorem isS_mv {tx : String} {a : Nat} : xMvd (isS tx a) := by
  intro A B s U H H1 hW hAB hq h
  obtain ⟨v, h1, h2, h3, h4⟩ := h
  exact ⟨v, ((h1.moved hW.alike).kept hq).narrow hAB, ((h2.moved hW.alike).kept hq).narrow hAB, ((h3.moved hW.alike).kept hq).narrow hAB, ((h4.moved hW.alike).kept hq).narrow hAB⟩
def isV (tx : String) (v : Nat) (A : Nat → Prop) (U : State) (H : Heap) : Prop := va_T .byte v (slen tx) (fun j => .int (sch tx j)) A U H
theorem isV_mv {tx : String} {v : Nat} : xMvd (isV tx v) := fun hW hAB hq h => ((va_T.moved hW.alike h).kept hq).narrow hAB
theorem xS_of {q : String × Nat × String} {A : Nat → Prop} {s : State} (hZ : xZ A s s.heap) (hq : q ∈ xSs) : ∃ a : Nat, vk_R q.1 q.2.1 q.2.2 a s ∧ isS q.2.2 a A s s.heap := by
  obtain ⟨a, v, h0, h1, h2, h3, h4⟩ := hZ.2.2.1 q hq
  exact ⟨a, h0, v, h1, h2, h3, h4⟩
/-- the texts of the program: short, of small letters and blanks -/
def txOk (tx : String) : Prop := slen tx < 128 ∧ ∀ j, j < slen tx → ∃ k, k < 128 ∧ sch tx j = nI k
def rm_J0_coder_7d493 : Room := { frames := 0, cells := 0, slots := 0, locals := 0 }
set_option maxRecDepth 100000 in
set_option maxHeartbeats 4000000 in
theorem c_J0_coder (l : Launch) (G : xGl) (w : xWd) (z : xSt) (sz : Nat) (tx : String) (a : Nat) : xMiE (isS tx a) l yJ0_coder_7d493 cJ0_coder_7d493 1 (some .byte) rm_J0_coder_7d493 G w z sz [.ref a] (fun r z1 => r = 0 ∧ z1 = z) := by
  refine x_miE (by decide) (Nat.le_of_ble_eq_true rfl) ?_
  intro p e s mt args below meth c ls Q hsz X hE hR hS hl hret
  obtain ⟨hx, hcb, hml, hown, hts, hlk, hK, hZ⟩ := X
  have hl : lv_has ls 1 [(0, .ref a)] := hl
  obtain ⟨v, hO, hC, hV, hT⟩ := hE
  refine va_gets hx hcb hZ.2.2.2.1 hS hown (hts _ q_459) (fun _ h_ => h_) dJ0_coder_7d493_0 ?_
  refine lv_if_eq (tgt := 13) hx hcb dJ0_coder_7d493_3 (by decide) (fun c_1 => absurd c_1 (by decide)) (fun c_1 => ?_)
  refine lv_aload_n hx hcb dJ0_coder_7d493_6 rfl (lv_at hl 0 rfl) ?_
  refine vk_getf hx hcb hC hS hown (hts _ q_1696) (fun _ h_ => h_) dJ0_coder_7d493_7 ?_
  refine lv_goto (tgt := 14) hx hcb dJ0_coder_7d493_10 (by decide) ?_
  exact hret 0 z _ _ _ _ dJ0_coder_7d493_14 rfl hR hS ⟨rfl, rfl⟩
def rm_J0_isLatin1_aae02 : Room := { frames := 0, cells := 0, slots := 0, locals := 0 }
set_option maxRecDepth 100000 in
set_option maxHeartbeats 4000000 in
theorem c_J0_isLatin1 (l : Launch) (G : xGl) (w : xWd) (z : xSt) (sz : Nat) (tx : String) (a : Nat) : xMiE (isS tx a) l yJ0_isLatin1_aae02 cJ0_isLatin1_aae02 1 (some .boolean) rm_J0_isLatin1_aae02 G w z sz [.ref a] (fun r z1 => r = 1 ∧ z1 = z) := by
  refine x_miE (by decide) (Nat.le_of_ble_eq_true rfl) ?_
  intro p e s mt args below meth c ls Q hsz X hE hR hS hl hret
  obtain ⟨hx, hcb, hml, hown, hts, hlk, hK, hZ⟩ := X
  have hl : lv_has ls 1 [(0, .ref a)] := hl
  obtain ⟨v, hO, hC, hV, hT⟩ := hE
  refine va_gets hx hcb hZ.2.2.2.1 hS hown (hts _ q_459) (fun _ h_ => h_) dJ0_isLatin1_aae02_0 ?_
  refine lv_if_eq (tgt := 17) hx hcb dJ0_isLatin1_aae02_3 (by decide) (fun c_1 => absurd c_1 (by decide)) (fun c_1 => ?_)
  refine lv_aload_n hx hcb dJ0_isLatin1_aae02_6 rfl (lv_at hl 0 rfl) ?_
  refine vk_getf hx hcb hC hS hown (hts _ q_1696) (fun _ h_ => h_) dJ0_isLatin1_aae02_7 ?_
  refine lv_if_ne (tgt := 17) hx hcb dJ0_isLatin1_aae02_10 (by decide) (fun c_1 => absurd rfl c_1) (fun c_1 => ?_)
  refine lv_iconst (v := 1) hx hcb dJ0_isLatin1_aae02_13 (by decide) ?_
  refine lv_goto (tgt := 18) hx hcb dJ0_isLatin1_aae02_14 (by decide) ?_
  exact hret 1 z _ _ _ _ dJ0_isLatin1_aae02_18 rfl hR hS ⟨rfl, rfl⟩
def rm_J0_length_8abf5 : Room := { frames := 1, cells := 0, slots := 0, locals := 20 }
set_option maxRecDepth 100000 in
set_option maxHeartbeats 4000000 in
theorem c_J0_length_8abf5 (l : Launch) (G : xGl) (w : xWd) (z : xSt) (sz : Nat) (tx : String) (a : Nat) : xMiE (isS tx a) l yJ0_length_8abf5 cJ0_length_8abf5 1 (some .int) rm_J0_length_8abf5 G w z sz [.ref a] (fun r z1 => r = nI (slen tx) ∧ z1 = z) := by
  refine x_miE (by decide) (Nat.le_of_ble_eq_true rfl) ?_
  intro p e s mt args below meth c ls Q hsz X hE hR hS hl hret
  obtain ⟨hx, hcb, hml, hown, hts, hlk, hK, hZ⟩ := X
  have hl : lv_has ls 1 [(0, .ref a)] := hl
  have hE0 := hE
  obtain ⟨v, hO, hC, hV, hT⟩ := hE
  refine lv_aload_n hx hcb dJ0_length_8abf5_0 rfl (lv_at hl 0 rfl) ?_
  refine vk_getf hx hcb hV hS hown (hts _ q_1695) (fun _ h_ => h_) dJ0_length_8abf5_1 ?_
  refine va_tlen hx hcb hT hS (v := nI (slen tx)) rfl dJ0_length_8abf5_4 ?_
  refine lv_aload_n hx hcb dJ0_length_8abf5_5 rfl (lv_at hl 0 rfl) ?_
  refine x_ci0 rfl rfl (x_runVS isS_mv hE0 hx hcb hml hown hts (c_J0_coder l G w z _ tx a) mv_J0_coder_7d493 q_455 hK hZ hR hS hO rfl hl.1 rfl (Nat.le_of_ble_eq_true rfl) dJ0_length_8abf5_6 ⟨by decide, by decide⟩ ⟨by decide, by decide⟩) hS (fun r z1 H locs hp hR hS => ?_)
  rw [hp.2] at hR; rw [hp.1]
  refine lv_ishr hx hcb dJ0_length_8abf5_9 ?_
  exact hret _ z _ _ _ _ dJ0_length_8abf5_10 rfl hR hS ⟨sb_shr0 _, rfl⟩
def rm_J3_checkIndex_8e157 : Room := { frames := 0, cells := 0, slots := 0, locals := 0 }
set_option maxRecDepth 100000 in
set_option maxHeartbeats 4000000 in
theorem c_J3_checkIndex (l : Launch) (G : xGl) (w : xWd) (z : xSt) (sz : Nat) (k n : Nat) (fv : Option Nat) (hk : k < n) (hn : n < 2147483648) : xMi l yJ3_checkIndex_8e157 cJ3_checkIndex_8e157 3 (some .int) rm_J3_checkIndex_8e157 G w z sz [.int (nI k), .int (nI n), va_rf fv] (fun r z1 => r = nI k ∧ z1 = z) := by
  have hav : (lg_sl [.int (nI k), .int (nI n), va_rf fv]).length ≤ 3 := by cases fv <;> exact Nat.le_of_ble_eq_true rfl
  refine x_mi (by decide) hav ?_
  intro p e s mt args below meth c ls Q hsz X hR hS hl hret
  obtain ⟨hx, hcb, hml, hown, hts, hlk, hK, hZ⟩ := X
  have hl : lv_has ls 3 [(0, .int (nI k)), (1, .int (nI n)), (2, va_rf fv)] := hl
  refine lv_iload_n hx hcb dJ3_checkIndex_8e157_0 rfl (lv_at hl 0 rfl) ?_
  refine lv_if_lt (tgt := 9) hx hcb dJ3_checkIndex_8e157_1 (by decide) (fun c_1 => absurd c_1 (nI_pos (by omega))) (fun c_1 => ?_)
  refine lv_iload_n hx hcb dJ3_checkIndex_8e157_4 rfl (lv_at hl 0 rfl) ?_
  refine lv_iload_n hx hcb dJ3_checkIndex_8e157_5 rfl (lv_at hl 1 rfl) ?_
  refine lv_icmp_lt (tgt := 16) hx hcb dJ3_checkIndex_8e157_6 (by decide) (fun c_2 => ?_) (fun c_2 => absurd ((nI_ltI (by omega) (by omega)).mpr hk) c_2)
  refine lv_iload_n hx hcb dJ3_checkIndex_8e157_16 rfl (lv_at hl 0 rfl) ?_
  exact hret (nI k) z _ _ _ _ dJ3_checkIndex_8e157_17 rfl hR hS ⟨rfl, rfl⟩
def rm_J0_checkIndex_df160 : Room := { frames := 1, cells := 0, slots := 0, locals := 22 }
set_option maxRecDepth 100000 in
set_option maxHeartbeats 4000000 in
theorem c_J0_checkIndex (l : Launch) (G : xGl) (w : xWd) (z : xSt) (sz : Nat) (k n : Nat) (hk : k < n) (hn : n < 2147483648) : xMv l yJ0_checkIndex_df160 cJ0_checkIndex_df160 2 rm_J0_checkIndex_df160 G w z sz [.int (nI k), .int (nI n)] (fun z1 => z1 = z) := by
  refine x_mv (by decide) (Nat.le_of_ble_eq_true rfl) ?_
  intro p e s mt args below meth c ls Q hsz X hR hS hl hret
  obtain ⟨hx, hcb, hml, hown, hts, hlk, hK, hZ⟩ := X
  have hl : lv_has ls 2 [(0, .int (nI k)), (1, .int (nI n))] := hl
  have hF : ∃ fv : Option Nat, va_Z RJ3 "SIOOBE_FORMATTER" "Ljava/util/function/BiFunction;" (va_rf fv) (xA w s.heap.size) s s.heap := by
    rcases hZ.2.2.2.2.1 with h | ⟨t, h⟩
    · exact ⟨none, h⟩
    · exact ⟨some t, h⟩
  obtain ⟨fv, hF⟩ := hF
  refine lv_iload_n hx hcb dJ0_checkIndex_df160_0 rfl (lv_at hl 0 rfl) ?_
  refine lv_iload_n hx hcb dJ0_checkIndex_df160_1 rfl (lv_at hl 1 rfl) ?_
  refine va_gets hx hcb hF hS hown (hts _ q_475) (fun _ h_ => h_) dJ0_checkIndex_df160_2 ?_
  refine x_ci0 rfl rfl (x_runS hx hcb hml hown hts (c_J3_checkIndex l G w z _ k n fv hk hn) ms_J3_checkIndex_8e157 q_477 hK hZ hR hS rfl hl.1 rfl (Nat.le_of_ble_eq_true rfl) dJ0_checkIndex_df160_5 ⟨by decide, by decide⟩ ⟨by decide, by decide⟩) hS (fun r z1 H locs hp hR hS => ?_)
  rw [hp.2] at hR
  refine lv_pop hx hcb dJ0_checkIndex_df160_8 rfl ?_
  exact hret z _ _ _ _ dJ0_checkIndex_df160_9 hR hS rfl
def rm_J1_charAt_3b067 : Room := { frames := 2, cells := 0, slots := 0, locals := 43 }
theorem chr_ok {k : Nat} (hk : k < 128) : ((nI k &&& nI 255).toUInt32 % 65536).toInt32 = nI k := by
  have h : ∀ j : Fin 128, ((nI j.val &&& nI 255).toUInt32 % 65536).toInt32 = nI j.val := by decide +kernel
  exact h ⟨k, hk⟩
set_option maxRecDepth 100000 in
set_option maxHeartbeats 4000000 in
theorem c_J1_charAt (l : Launch) (G : xGl) (w : xWd) (z : xSt) (sz : Nat) (tx : String) (v k : Nat) (hk : k < slen tx) (ht : txOk tx) : xMiE (isV tx v) l yJ1_charAt_3b067 cJ1_charAt_3b067 2 (some .char) rm_J1_charAt_3b067 G w z sz [.ref v, .int (nI k)] (fun r z1 => r = sch tx k ∧ z1 = z) := by
  refine x_miE (by decide) (Nat.le_of_ble_eq_true rfl) ?_
  intro p e s mt args below meth c ls Q hsz X hT hR hS hl hret
  obtain ⟨hx, hcb, hml, hown, hts, hlk, hK, hZ⟩ := X
  have hl : lv_has ls 2 [(0, .ref v), (1, .int (nI k))] := hl
  have hT : va_T .byte v (slen tx) (fun j => .int (sch tx j)) (xA w s.heap.size) s s.heap := hT
  have hn := ht.1
  obtain ⟨q, hq, eq⟩ := ht.2 k hk
  refine lv_iload_n hx hcb dJ1_charAt_3b067_0 rfl (lv_at hl 1 rfl) ?_
  refine lv_aload_n hx hcb dJ1_charAt_3b067_1 rfl (lv_at hl 0 rfl) ?_
  refine va_tlen hx hcb hT hS (v := nI (slen tx)) rfl dJ1_charAt_3b067_2 ?_
  refine x_cv0 rfl rfl (x_runS hx hcb hml hown hts (c_J0_checkIndex l G w z _ k (slen tx) hk (by omega)) ms_J0_checkIndex_df160 q_472 hK hZ hR hS rfl hl.1 rfl (Nat.le_of_ble_eq_true rfl) dJ1_charAt_3b067_3 ⟨by decide, by decide⟩ ⟨by decide, by decide⟩) hS (fun z1 H locs hp hR hS => ?_)
  rw [hp] at hR
  refine lv_aload_n hx hcb dJ1_charAt_3b067_6 rfl (lv_at hl 0 rfl) ?_
  refine lv_iload_n hx hcb dJ1_charAt_3b067_7 rfl (lv_at hl 1 rfl) ?_
  refine va_tb hx hcb hT hS (vp_in_nI hk (by omega)) (v := .int (sch tx k)) (by rw [nI_clamp (by omega)]) dJ1_charAt_3b067_8 ?_
  refine lv_sipush (v := nI 255) hx hcb dJ1_charAt_3b067_9 (by decide) ?_
  refine lv_iand hx hcb dJ1_charAt_3b067_12 ?_
  refine lv_i2c (v := sch tx k) hx hcb dJ1_charAt_3b067_13 (by rw [eq]; exact chr_ok hq) ?_
  exact hret _ z _ _ _ _ dJ1_charAt_3b067_14 (by rw [eq]; exact (pk_charN (by omega)).1) hR hS ⟨rfl, rfl⟩
def rm_J0_charAt_5068e : Room := { frames := 3, cells := 0, slots := 0, locals := 64 }
set_option maxRecDepth 100000 in
set_option maxHeartbeats 4000000 in
theorem c_J0_charAt_5068e (l : Launch) (G : xGl) (w : xWd) (z : xSt) (sz : Nat) (tx : String) (a k : Nat) (hk : k < slen tx) (ht : txOk tx) : xMiE (isS tx a) l yJ0_charAt_5068e cJ0_charAt_5068e 2 (some .char) rm_J0_charAt_5068e G w z sz [.ref a, .int (nI k)] (fun r z1 => r = sch tx k ∧ z1 = z) := by
  refine x_miE (by decide) (Nat.le_of_ble_eq_true rfl) ?_
  intro p e s mt args below meth c ls Q hsz X hE hR hS hl hret
  obtain ⟨hx, hcb, hml, hown, hts, hlk, hK, hZ⟩ := X
  have hl : lv_has ls 2 [(0, .ref a), (1, .int (nI k))] := hl
  have hE0 := hE
  obtain ⟨v, hO, hC, hV, hT⟩ := hE
  have hT0 : isV tx v (xA w s.heap.size) s s.heap := hT
  refine lv_aload_n hx hcb dJ0_charAt_5068e_0 rfl (lv_at hl 0 rfl) ?_
  refine x_ci0 rfl rfl (x_runVS isS_mv hE0 hx hcb hml hown hts (c_J0_isLatin1 l G w z _ tx a) mv_J0_isLatin1_aae02 q_465 hK hZ hR hS hO rfl hl.1 rfl (Nat.le_of_ble_eq_true rfl) dJ0_charAt_5068e_1 ⟨by decide, by decide⟩ ⟨by decide, by decide⟩) hS (fun r z1 H locs hp hR hS => ?_)
  rw [hp.2] at hR; rw [hp.1]
  refine lv_if_eq (tgt := 16) hx hcb dJ0_charAt_5068e_4 (by decide) (fun c_1 => absurd c_1 (by decide)) (fun c_1 => ?_)
  refine lv_aload_n hx hcb dJ0_charAt_5068e_7 rfl (lv_at hl 0 rfl) ?_
  refine vk_getf hx hcb hV hS hown (hts _ q_1695) (fun _ h_ => h_) dJ0_charAt_5068e_8 ?_
  refine lv_iload_n hx hcb dJ0_charAt_5068e_11 rfl (lv_at hl 1 rfl) ?_
  refine x_ci0 rfl rfl (x_runSE isV_mv hT0 hx hcb hml hown hts (c_J1_charAt l G w z _ tx v k hk ht) ms_J1_charAt_3b067 q_469 hK hZ hR hS rfl hl.1 rfl (Nat.le_of_ble_eq_true rfl) dJ0_charAt_5068e_12 ⟨by decide, by decide⟩ ⟨by decide, by decide⟩) hS (fun r z1 H locs hp hR hS => ?_)
  rw [hp.2] at hR; rw [hp.1]
  obtain ⟨q, hq, eq⟩ := ht.2 k hk
  exact hret _ z _ _ _ _ dJ0_charAt_5068e_15 (by rw [eq]; exact (pk_charN (by omega)).1) hR hS ⟨rfl, rfl⟩
theorem tx_of {tx : String} (h : tx.toList.length < 128) (h2 : tx.toList.all (fun c => decide (c.toNat < 128)) = true) : txOk tx := by
  refine ⟨h, fun j hj => ⟨(tx.toList.getD j ' ').toNat, ?_, rfl⟩⟩
  have h3 : tx.toList.getD j ' ' ∈ tx.toList := by
    have hj' : j < tx.toList.length := hj
    rw [List.getD_eq_getElem?_getD, List.getElem?_eq_getElem hj']
    exact List.getElem_mem hj'
  exact of_decide_eq_true (List.all_eq_true.mp h2 _ h3)
