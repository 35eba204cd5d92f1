section XC
variable {p : Program} {l : Launch} {e : Env} {R : Room} {s : State} {m : MethodId} {args : Array Value} {below : List Frame} {meth : Method} {c : Code} {H : Heap} {locs : List Loc} {cells slots : Nat} {Q : State → Prop}
variable {cc bytes : ByteArray} {pc : Nat} {ls : Array Slot} {rest st0 : List Value} {H0 : Heap} {G : xGl} {w : xWd} {z : xSt} {own C : String} {y : MethodName} {maxL nL n index : Nat} {ret : Option FieldType} {rm : Room}
theorem x_runV {Qc : Array Value → State → Outcome → State → Prop} {free : Addr → Prop} {As : List Value} {o ci N : Nat} {T : u_T} {ty0 : Nat → FieldType} {ps : List (Option Nat)}
    (hx : p.tables.exec = Jvm.exec) (hb : c.code = cc) (hml : c.maxLocals = nL) (hown : s.vm.findClass own = some m.cls) (hts : ∀ w ∈ xw, w.before args s = true)
    (hM : Met l y (xws y bytes maxL ret) rm (xP G w z H.size (.ref (w.2.2 o) :: As)) Qc rm.cells rm.slots free) (hmv : xMV y C bytes maxL ret n) (hq : Cond.methodLink own index y ∈ xw)
    (hK : va_K G.1 vwCl (xtys G) s) (hZ : xZ (xA w s.heap.size) s s.heap) (hR : Rh G w z H) (hS : va_S (xA w s.heap.size) s.heap H locs) (ho : o < w.1) (hc : xCls ci C T N ty0) (hsh : w.2.1 o = .inl (ci, ps))
    (hn : As.length = n) (hl : ls.size = nL) (hst : st0 = As.reverse ++ .ref (w.2.2 o) :: rest) (hW : (rest.map fun v => v.category).sum ≤ 8) (hdg : decode cc pc = .ok (.invokevirtual index, 3))
    (hroom : rm.frames + 1 ≤ R.frames ∧ 8 + (maxL + 11) + rm.locals ≤ R.locals) (hf : cells + rm.cells ≤ R.cells ∧ slots + rm.slots ≤ R.slots) :
    va_Run p l e R s m args below meth c H locs cells slots rm.cells rm.slots (F0 m pc ls st0) rest (Qc (Value.ref (w.2.2 o) :: As).toArray) free := by
  obtain ⟨h1, h2, h3, h4, h5⟩ := hmv
  refine va_runV (As := As) (rest := rest) (Ts := xw) ⟨hx, hb, hml, hown, hts⟩ hM (cwV n hts (xw_c hq (xw_c h1 (xw_c h2 (xw_c h3 (xw_gws h4))))) rfl rfl rfl h5 hroom) ⟨xP_blind, ?_, fun U hU hW => ⟨rfl, by rw [hU], by rw [hU]; exact hR, va_K.moved hW.alike hK, hZ.call hS hU hW⟩⟩ rfl hn hl hst (lv_room hW) hdg hf
  have h0 := hR.at ho
  rw [hsh] at h0
  obtain ⟨q', g0, cell, g1, g2, g3, -⟩ := h0
  exact ⟨cell, g1, by rw [g3]; rfl, by rw [g2]; exact (hK.1 ci _ hc.1).2.1⟩
theorem x_runS {Qc : Array Value → State → Outcome → State → Prop} {free : Addr → Prop} {As : List Value}
    (hx : p.tables.exec = Jvm.exec) (hb : c.code = cc) (hml : c.maxLocals = nL) (hown : s.vm.findClass own = some m.cls) (hts : ∀ w ∈ xw, w.before args s = true)
    (hM : Met l y (xws y bytes maxL ret) rm (xP G w z H.size As) Qc rm.cells rm.slots free) (hmv : xMS y bytes maxL ret n) (hq : Cond.methodLink own index y ∈ xw)
    (hK : va_K G.1 vwCl (xtys G) s) (hZ : xZ (xA w s.heap.size) s s.heap) (hR : Rh G w z H) (hS : va_S (xA w s.heap.size) s.heap H locs)
    (hn : As.length = n) (hl : ls.size = nL) (hst : st0 = As.reverse ++ rest) (hW : (rest.map fun v => v.category).sum ≤ 8) (hdg : decode cc pc = .ok (.invokestatic index, 3))
    (hroom : rm.frames + 1 ≤ R.frames ∧ 8 + (maxL + 11) + rm.locals ≤ R.locals) (hf : cells + rm.cells ≤ R.cells ∧ slots + rm.slots ≤ R.slots) :
    va_Run p l e R s m args below meth c H locs cells slots rm.cells rm.slots (F0 m pc ls st0) rest (Qc As.toArray) free := by
  obtain ⟨h1, h2, h4, h5⟩ := hmv
  exact va_runS (As := As) (rest := rest) (Ts := xw) ⟨hx, hb, hml, hown, hts⟩ hM (va_cwS n hts (xw_c hq (xw_c h1 (xw_c h2 (xw_gws h4)))) rfl rfl rfl h5 hroom) ⟨xP_blind, fun U hU hW => ⟨rfl, by rw [hU], by rw [hU]; exact hR, va_K.moved hW.alike hK, hZ.call hS hU hW⟩⟩ rfl hn hl hst (lv_room hW) hdg hf
variable {mc ms : Nat} {a : Array Value}
theorem x_ci {post : Int32 → xSt → Prop} (hr : va_Run p l e R s m args below meth c H locs cells slots mc ms (F0 m pc ls st0) rest (va_Qi post (xB G w) (xA w H.size) a) (xA w H.size)) (hS : va_S (xA w H0.size) H0 H locs)
    (kk : ∀ (r : Int32) (z1 : xSt) (H1 : Heap) (locs1 : List Loc), post r z1 → Rh G w z1 H1 → va_S (xA w H0.size) H0 H1 locs1 → W p l e R s m args below meth c H1 locs1 (cells + mc) (slots + ms) Q (F0 m (pc + 3) ls (.int r :: rest))) : W p l e R s m args below meth c H locs cells slots Q (F0 m pc ls st0) :=
  va_calli hr hS (fun q _ h => xA_sub hS q h) (xA_sub hS) (fun r u t H1 locs1 ht _ hp hB _ _ hS1 => kk r u H1 locs1 hp (ht ▸ hB) hS1)
theorem x_cl {post : Int64 → xSt → Prop} (hr : va_Run p l e R s m args below meth c H locs cells slots mc ms (F0 m pc ls st0) rest (va_Ql post (xB G w) (xA w H.size) a) (xA w H.size)) (hS : va_S (xA w H0.size) H0 H locs)
    (kk : ∀ (r : Int64) (z1 : xSt) (H1 : Heap) (locs1 : List Loc), post r z1 → Rh G w z1 H1 → va_S (xA w H0.size) H0 H1 locs1 → W p l e R s m args below meth c H1 locs1 (cells + mc) (slots + ms) Q (F0 m (pc + 3) ls (.long r :: rest))) : W p l e R s m args below meth c H locs cells slots Q (F0 m pc ls st0) :=
  va_calll hr hS (fun q _ h => xA_sub hS q h) (xA_sub hS) (fun r u t H1 locs1 ht _ hp hB _ _ hS1 => kk r u H1 locs1 hp (ht ▸ hB) hS1)
theorem x_cv {post : xSt → Prop} (hr : va_Run p l e R s m args below meth c H locs cells slots mc ms (F0 m pc ls st0) rest (va_Qv post (xB G w) (xA w H.size) a) (xA w H.size)) (hS : va_S (xA w H0.size) H0 H locs)
    (kk : ∀ (z1 : xSt) (H1 : Heap) (locs1 : List Loc), post z1 → Rh G w z1 H1 → va_S (xA w H0.size) H0 H1 locs1 → W p l e R s m args below meth c H1 locs1 (cells + mc) (slots + ms) Q (F0 m (pc + 3) ls rest)) : W p l e R s m args below meth c H locs cells slots Q (F0 m pc ls st0) :=
  va_callv hr hS (fun q _ h => xA_sub hS q h) (xA_sub hS) (fun u t H1 locs1 ht _ hp hB _ _ hS1 => kk u H1 locs1 hp (ht ▸ hB) hS1)
theorem x_iret {post : Int32 → xSt → Prop} {v : Int32} {ty : FieldType} (hexec : p.tables.exec = Jvm.exec) (hb : c.code = cc) (hr : meth.sig.returnType = some ty) (hlocks : meth.locks = false) (hn : narrow ty (.int v) = .int v) (hR : Rh G w z H) (hS : va_S (xA w s.heap.size) s.heap H locs) (hp : post v z) (hdg : decode cc pc = .ok (.ireturn, 1)) :
    W p l e R s m args below meth c H locs cells slots (MQ below (va_Qi post (xB G w) (xA w s.heap.size)) args s cells slots (xA w s.heap.size)) (F0 m pc ls [.int v]) :=
  W.zret hexec hb hr hn (fun t ht hW => ⟨⟨v, z, rfl, hp, by show Rh G w z t.heap; rw [ht]; exact hR⟩, hS.F ht⟩) hS.2.2 hdg hlocks
theorem x_lret {post : Int64 → xSt → Prop} {v : Int64} (hexec : p.tables.exec = Jvm.exec) (hb : c.code = cc) (hr : meth.sig.returnType = some .long) (hlocks : meth.locks = false) (hR : Rh G w z H) (hS : va_S (xA w s.heap.size) s.heap H locs) (hp : post v z) (hdg : decode cc pc = .ok (.lreturn, 1)) :
    W p l e R s m args below meth c H locs cells slots (MQ below (va_Ql post (xB G w) (xA w s.heap.size)) args s cells slots (xA w s.heap.size)) (F0 m pc ls [.long v]) :=
  W.lret hexec hb hr (fun t ht hW => ⟨⟨v, z, rfl, hp, by show Rh G w z t.heap; rw [ht]; exact hR⟩, hS.F ht⟩) hS.2.2 hdg hlocks
theorem x_vret {post : xSt → Prop} (hexec : p.tables.exec = Jvm.exec) (hb : c.code = cc) (hr : meth.sig.returnType = none) (hlocks : meth.locks = false) (hR : Rh G w z H) (hS : va_S (xA w s.heap.size) s.heap H locs) (hp : post z) (hdg : decode cc pc = .ok (.return_, 1)) :
    W p l e R s m args below meth c H locs cells slots (MQ below (va_Qv post (xB G w) (xA w s.heap.size)) args s cells slots (xA w s.heap.size)) (F0 m pc ls []) :=
  W.vret hexec hb hr (fun t ht hW => ⟨⟨z, rfl, hp, by show Rh G w z t.heap; rw [ht]; exact hR⟩, hS.F ht⟩) hS.2.2 hdg hlocks
/-- arrays -/
theorem xtys_at (G : xGl) : (xtys G)[0]? = some (G.2 0, .int) := rfl
theorem x_iald (hexec : p.tables.exec = Jvm.exec) (hb : c.code = cc) (hK : va_K G.1 vwCl (xtys G) s) (hR : Rh G w z H) {o k N : Nat} (ho : o < w.1) (hsh : w.2.1 o = .inr (.inl (0, N))) (hk : k < N) (hN : N < 2147483648) (hdg : decode cc pc = .ok (.iaload, 1))
    (kk : W p l e R s m args below meth c H locs cells slots Q (F0 m (pc + 1) ls (.int (z.1 o k) :: rest))) : W p l e R s m args below meth c H locs cells slots Q (F0 m pc ls (.int (nI k) :: .ref (w.2.2 o) :: rest)) := by
  have hP := hR.one ho (e := .inl (G.2 0, N, .inl (z.1 o))) (by rw [hsh]; rfl)
  refine va_iald (D := G.1) hexec hb hK hP 0 0 rfl rfl (vp_in_nI hk hN) hdg ?_
  rw [nI_clamp (Nat.lt_trans hk hN)]
  exact kk
theorem x_bald (hexec : p.tables.exec = Jvm.exec) (hb : c.code = cc) (hK : va_K G.1 vwCl (xtys G) s) (hR : Rh G w z H) {o k N : Nat} (ho : o < w.1) (hsh : w.2.1 o = .inr (.inl (1, N))) (hk : k < N) (hN : N < 2147483648) (hdg : decode cc pc = .ok (.baload, 1))
    (kk : W p l e R s m args below meth c H locs cells slots Q (F0 m (pc + 1) ls (.int (z.1 o k) :: rest))) : W p l e R s m args below meth c H locs cells slots Q (F0 m pc ls (.int (nI k) :: .ref (w.2.2 o) :: rest)) := by
  have hP := hR.one ho (e := .inl (G.2 1, N, .inl (z.1 o))) (by rw [hsh]; rfl)
  refine va_bald (D := G.1) hexec hb hK hP 0 1 rfl rfl (vp_in_nI hk hN) hdg ?_
  rw [nI_clamp (Nat.lt_trans hk hN)]
  exact kk
theorem x_zald (hexec : p.tables.exec = Jvm.exec) (hb : c.code = cc) (hK : va_K G.1 vwCl (xtys G) s) (hR : Rh G w z H) {o k N : Nat} (ho : o < w.1) (hsh : w.2.1 o = .inr (.inl (2, N))) (hk : k < N) (hN : N < 2147483648) (hdg : decode cc pc = .ok (.baload, 1))
    (kk : W p l e R s m args below meth c H locs cells slots Q (F0 m (pc + 1) ls (.int (z.1 o k) :: rest))) : W p l e R s m args below meth c H locs cells slots Q (F0 m pc ls (.int (nI k) :: .ref (w.2.2 o) :: rest)) := by
  have hP := hR.one ho (e := .inl (G.2 2, N, .inl (z.1 o))) (by rw [hsh]; rfl)
  refine va_zald (D := G.1) hexec hb hK hP 0 2 rfl rfl (vp_in_nI hk hN) hdg ?_
  rw [nI_clamp (Nat.lt_trans hk hN)]
  exact kk
theorem x_lald (hexec : p.tables.exec = Jvm.exec) (hb : c.code = cc) (hK : va_K G.1 vwCl (xtys G) s) (hR : Rh G w z H) {o k N : Nat} (ho : o < w.1) (hsh : w.2.1 o = .inr (.inl (3, N))) (hk : k < N) (hN : N < 2147483648) (hdg : decode cc pc = .ok (.laload, 1))
    (kk : W p l e R s m args below meth c H locs cells slots Q (F0 m (pc + 1) ls (.long (z.2 o k) :: rest))) : W p l e R s m args below meth c H locs cells slots Q (F0 m pc ls (.int (nI k) :: .ref (w.2.2 o) :: rest)) := by
  have hP := hR.one ho (e := .inl (G.2 3, N, .inr (.inl (z.2 o)))) (by rw [hsh]; rfl)
  refine va_lald (D := G.1) hexec hb hK hP 0 3 rfl rfl (vp_in_nI hk hN) hdg ?_
  rw [nI_clamp (Nat.lt_trans hk hN)]
  exact kk
theorem x_alen (hexec : p.tables.exec = Jvm.exec) (hb : c.code = cc) (hK : va_K G.1 vwCl (xtys G) s) (hR : Rh G w z H) {o N : Nat} (ho : o < w.1) (hsh : w.2.1 o = .inr (.inl (0, N))) (hdg : decode cc pc = .ok (.arraylength, 1))
    (kk : W p l e R s m args below meth c H locs cells slots Q (F0 m (pc + 1) ls (.int (nI N) :: rest))) : W p l e R s m args below meth c H locs cells slots Q (F0 m pc ls (.ref (w.2.2 o) :: rest)) := by
  have hP := hR.one ho (e := .inl (G.2 0, N, .inl (z.1 o))) (by rw [hsh]; rfl)
  exact va_alen (D := G.1) hexec hb hK hP 0 0 rfl rfl rfl hdg kk
theorem x_aald (hexec : p.tables.exec = Jvm.exec) (hb : c.code = cc) (hK : va_K G.1 vwCl (xtys G) s) (hR : Rh G w z H) {o k t o2 : Nat} {qs : List (Option Nat)} {E : String} (ho : o < w.1) (hsh : w.2.1 o = .inr (.inr (t, qs))) (ht : (xtys G)[t]? = some (G.2 t, .object E)) (hk : qs[k]? = some (some o2)) (hN : qs.length < 2147483648) (hdg : decode cc pc = .ok (.aaload, 1))
    (kk : W p l e R s m args below meth c H locs cells slots Q (F0 m (pc + 1) ls (.ref (w.2.2 o2) :: rest))) : W p l e R s m args below meth c H locs cells slots Q (F0 m pc ls (.int (nI k) :: .ref (w.2.2 o) :: rest)) := by
  have hP := hR.one ho (e := .inl (G.2 t, qs.length, .inr (.inr (.inr (.inr (fun j => ((qs[j]?).join).map w.2.2)))))) (by rw [hsh]; rfl)
  have hk2 : k < qs.length := (List.getElem?_eq_some_iff.mp hk).1
  refine va_aldq (D := G.1) hexec hb hK hP 0 t rfl ht (vp_in_nI hk2 hN) hdg ?_
  rw [nI_clamp (Nat.lt_trans hk2 hN)]
  show W p l e R s m args below meth c H locs cells slots Q (F0 m (pc + 1) ls (va_rf (((qs[k]?).join).map w.2.2) :: rest))
  rw [hk]
  exact kk
theorem x_iast (hexec : p.tables.exec = Jvm.exec) (hb : c.code = cc) (hK : va_K G.1 vwCl (xtys G) s) (hR : Rh G w z H) (hS : va_S (xA w H0.size) H0 H locs) {o k N : Nat} (ho : o < w.1) (hsh : w.2.1 o = .inr (.inl (0, N))) (hk : k < N) (hN : N < 2147483648) {v : Int32} (hdg : decode cc pc = .ok (.iastore, 1))
    (kk : ∀ (H1 : Heap) (locs1 : List Loc), Rh G w (u1 z o k v) H1 → va_S (xA w H0.size) H0 H1 locs1 → W p l e R s m args below meth c H1 locs1 cells slots Q (F0 m (pc + 1) ls rest)) : W p l e R s m args below meth c H locs cells slots Q (F0 m pc ls (.int v :: .int (nI k) :: .ref (w.2.2 o) :: rest)) := by
  have hat := hR.at ho
  rw [hsh] at hat
  have hcl := nI_clamp (Nat.lt_trans hk hN)
  refine W.iast hexec hb (show H[w.2.2 o]? = some (vp_cell (G.2 0) (N, .inl (z.1 o))) from hat) ((hK.2 0 _ rfl).1 N (fun j => .int (z.1 o j))) (fun q => by cases q) (by show ¬ (nI k < 0 ∨ (arrV _ _ _).slots.size ≤ _); rw [arrV_size]; exact vp_in_nI hk hN) rfl rfl hdg fun H1 e1 z1 oq => ?_
  refine kk H1 _ (hR.set1 ho (f := va_up (z.1 o) k v) ?_ oq) (hS.put z1 oq (xA_S ho))
  rw [hsh]
  show H1[w.2.2 o]? = some (vp_cell (G.2 0) (N, .inl (va_up (z.1 o) k v)))
  rw [e1, hcl, vp_cell_i, vp_cell_i, arrV_store]
  congr 2
  funext q
  by_cases hq : q = k
  · subst hq; simp [updV, va_up]
  · simp [updV, va_up, hq]
theorem x_last (hexec : p.tables.exec = Jvm.exec) (hb : c.code = cc) (hK : va_K G.1 vwCl (xtys G) s) (hR : Rh G w z H) (hS : va_S (xA w H0.size) H0 H locs) {o k N : Nat} (ho : o < w.1) (hsh : w.2.1 o = .inr (.inl (3, N))) (hk : k < N) (hN : N < 2147483648) {v : Int64} (hdg : decode cc pc = .ok (.lastore, 1))
    (kk : ∀ (H1 : Heap) (locs1 : List Loc), Rh G w (u2 z o k v) H1 → va_S (xA w H0.size) H0 H1 locs1 → W p l e R s m args below meth c H1 locs1 cells slots Q (F0 m (pc + 1) ls rest)) : W p l e R s m args below meth c H locs cells slots Q (F0 m pc ls (.long v :: .int (nI k) :: .ref (w.2.2 o) :: rest)) := by
  have hat := hR.at ho
  rw [hsh] at hat
  have hcl := nI_clamp (Nat.lt_trans hk hN)
  refine W.last hexec hb (show H[w.2.2 o]? = some (vp_cell (G.2 3) (N, .inr (.inl (z.2 o)))) from hat) ((hK.2 3 _ rfl).1 N (fun j => .long (z.2 o j))) (fun q => by cases q) (by show ¬ (nI k < 0 ∨ (arrV _ _ _).slots.size ≤ _); rw [arrV_size]; exact vp_in_nI hk hN) rfl rfl hdg fun H1 e1 z1 oq => ?_
  refine kk H1 _ (hR.set2 ho (g := va_up (z.2 o) k v) ?_ oq) (hS.put z1 oq (xA_S ho))
  rw [hsh]
  show H1[w.2.2 o]? = some (vp_cell (G.2 3) (N, .inr (.inl (va_up (z.2 o) k v))))
  rw [e1, hcl, vp_cell_l, vp_cell_l, arrV_store]
  congr 2
  funext q
  by_cases hq : q = k
  · subst hq; simp [updV, va_up]
  · simp [updV, va_up, hq]
end XC
/-- the start of a method's walk -/
theorem x_met {l : Launch} {y : MethodName} {cc : ByteArray} {maxL : Nat} {ret : Option FieldType} {rm : Room} {G : xGl} {w : xWd} {z : xSt} {sz : Nat} {av : List Value} {Qc : Array Value → State → Outcome → State → Prop} {mc ms : Nat} {free : Addr → Prop} (hy : plainName y.cls = true) (hav : (lg_sl av).length ≤ maxL)
    (body : ∀ (p : Program) (e : Env) (s : State) (m : MethodId) (below : List Frame) (meth : Method) (c : Code) (ls : Array Slot), sz = s.heap.size → p.tables.exec = Jvm.exec → c.code = cc → meth.sig.returnType = ret → c.maxLocals = maxL → s.vm.findClass y.cls = some m.cls → (∀ w ∈ xw, w.before av.toArray s = true) → meth.locks = false → meth.name = y.name → va_K G.1 vwCl (xtys G) s → xZ (xA w s.heap.size) s s.heap → Rh G w z s.heap → va_S (xA w s.heap.size) s.heap s.heap [] → lv_has ls maxL (lv_args 0 av) →
      W p l e rm s m av.toArray below meth c s.heap [] 0 0 (MQ below Qc av.toArray s mc ms free) (F0 m 0 ls [])) : Met l y (xws y cc maxL ret) rm (xP G w z sz av) Qc mc ms free := by
  refine Met.ofW (cc := cc) (maxL := maxL) (ret := ret) hy rfl ?_
  intro p e s m args below meth c s₁ B hml hv
  obtain ⟨rfl, hsz, hR, hK, hZ⟩ := hv
  have hts := atoms_spec (ws := xws y cc maxL ret) B.pre
  rw [lg_entry_eq]
  exact body p e s m below meth c _ hsz.symm B.exec B.bytes B.returns hml (findClass_of_methodNamed B.named) (fun w h => hts w (List.mem_cons_of_mem _ h)) B.notSynchronized (name_of_methodNamed B.named B.method).1 hK (hsz ▸ hZ) hR va_S.rf (lv_entry av hav)
