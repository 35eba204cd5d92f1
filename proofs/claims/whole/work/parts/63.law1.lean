/-! THE LAW'S HELPERS: a call that may throw, its answer in a cell -/
abbrev xAw (w : xWd) (ou sz : Nat) : Nat → Prop := fun q => xA w sz q ∨ q = ou
abbrev xtyD (G : xGl) (cD : ClassId) : List (ClassId × FieldType) := xtys G ++ [(cD, .double)]
theorem xtyD_0 {G : xGl} {cD : ClassId} {U : State} (h : va_K G.1 vwCl (xtyD G cD) U) : va_K G.1 vwCl (xtys G) U := h.sub [0, 1, 2, 3, 4, 5, 6] rfl
theorem Rh.kept {G : xGl} {w : xWd} {z : xSt} {H H1 : Heap} (h : Rh G w z H) (hk : ∀ o, o < w.1 → H1[w.2.2 o]? = H[w.2.2 o]?) : Rh G w z H1 := ⟨fun o ho => (h.1 o ho).kept (hk o ho), h.2⟩
def xPw (G : xGl) (cD : ClassId) (w : xWd) (z : xSt) (e0 : va_E) (ou sz : Nat) (av : List Value) : Array Value → State → Prop := va_Pc av (fun U => U.heap.size = sz ∧ Rh G w z U.heap ∧ va_P G.1 vwCl [(ou, e0)] U.heap ∧ (∀ o, o < w.1 → w.2.2 o ≠ ou) ∧ va_K G.1 vwCl (xtyD G cD) U ∧ xZ (xAw w ou sz) U U.heap)
theorem xPw_blind {G : xGl} {cD : ClassId} {w : xWd} {z : xSt} {e0 : va_E} {ou sz : Nat} {av : List Value} : FrameBlind (xPw G cD w z e0 ou sz av) := fun a U g mk q => ⟨q.1, q.2.1, q.2.2.1, q.2.2.2.1, q.2.2.2.2.1, va_K.moved (u := U) (U := U.calling g mk a) (Vm.Alike.refl U.vm) q.2.2.2.2.2.1, q.2.2.2.2.2.2.blind⟩
abbrev xBw (G : xGl) (w : xWd) (ou : Nat) : (xSt × va_E) → State → Prop := fun u t => Rh G w u.1 t.heap ∧ va_P G.1 vwCl [(ou, u.2)] t.heap
abbrev xMw (l : Launch) (y : MethodName) (cc : ByteArray) (maxL : Nat) (hh : List (Nat × Nat × Nat × Nat)) (rm : Room) (G : xGl) (cD : ClassId) (w : xWd) (z : xSt) (e0 : va_E) (ou sz : Nat) (av : List Value) (post : Int32 → xSt × va_E → Prop) : Prop := vx_Met l y (Cond.codeWith y cc maxL (some .int) hh :: xw) rm (xPw G cD w z e0 ou sz av) (va_Qi post (xBw G w ou) (xAw w ou sz)) (fun _ _ _ => False) rm.cells rm.slots (xAw w ou sz)
theorem x_mw {l : Launch} {y : MethodName} {cc : ByteArray} {maxL : Nat} {hh : List (Nat × Nat × Nat × Nat)} {rm : Room} {G : xGl} {cD : ClassId} {w : xWd} {z : xSt} {e0 : va_E} {ou sz : Nat} {av : List Value} {post : Int32 → xSt × va_E → Prop} (hy : plainName y.cls = true) (hav : (lg_sl av).length ≤ maxL)
    (body : ∀ (p : Program) (e : Env) (s : State) (m : MethodId) (args : Array Value) (below : List Frame) (meth : Method) (c : Code) (ls : Array Slot) (Q : State → Prop), sz = s.heap.size → (p.tables.exec = Jvm.exec ∧ c.code = cc ∧ c.maxLocals = maxL ∧ s.vm.findClass y.cls = some m.cls ∧ (∀ w ∈ xw, w.before args s = true) ∧ va_K G.1 vwCl (xtyD G cD) s ∧ xZ (xAw w ou s.heap.size) s s.heap) → c.exceptionTable.toList = tableOf hh → Rh G w z s.heap → va_P G.1 vwCl [(ou, e0)] s.heap → (∀ o, o < w.1 → w.2.2 o ≠ ou) → va_S (xAw w ou s.heap.size) s.heap s.heap [] → lv_has ls maxL (lv_args 0 av) →
      (∀ (v : Int32) (z1 : xSt) (e1 : va_E) (H : Heap) (locs : List Loc) (pc : Nat) (ls : Array Slot), decode cc pc = .ok (.ireturn, 1) → Rh G w z1 H → va_P G.1 vwCl [(ou, e1)] H → va_S (xAw w ou s.heap.size) s.heap H locs → post v (z1, e1) → W p l e rm s m args below meth c H locs rm.cells rm.slots Q (F0 m pc ls [.int v])) →
      W p l e rm s m args below meth c s.heap [] 0 0 Q (F0 m 0 ls [])) : xMw l y cc maxL hh rm G cD w z e0 ou sz av post := by
  refine vx_ofWH (cc := cc) (maxL := maxL) (ret := some .int) (hh := hh) hy rfl ?_
  intro p e s m args below meth c s₁ B hml hv
  obtain ⟨rfl, hsz, hR, hP, hap, hK, hZ⟩ := hv
  have hts := atoms_spec (ws := Cond.codeWith y cc maxL (some .int) hh :: xw) B.pre
  have hlocks := B.notSynchronized
  rw [lg_entry_eq]
  subst hsz
  refine body p e s m _ below meth c _ _ rfl ⟨B.exec, B.bytes, hml, findClass_of_methodNamed B.named, fun w h => hts w (List.mem_cons_of_mem _ h), hK, hZ⟩ (vx_table (x := y) B (hts _ List.mem_cons_self)) hR hP hap va_S.rf (lv_entry av hav) ?_
  intro v z1 e1 H locs pc ls hd hR hP hS hp
  exact vx_ret (W.zret B.exec B.bytes B.returns rfl (fun t ht hW => ⟨⟨v, (z1, e1), rfl, hp, by show Rh G w z1 t.heap; rw [ht]; exact hR, by show va_P G.1 vwCl [(ou, e1)] t.heap; rw [ht]; exact hP⟩, hS.F ht⟩) hS.2.2 hd hlocks)
section LW
variable {p : Program} {l : Launch} {e : Env} {R : Room} {s : State} {m : MethodId} {args : Array Value} {below : List Frame} {meth : Method} {c : Code} {H : Heap} {locs : List Loc} {cells slots : Nat} {Q : State → Prop}
variable {cc bytes : ByteArray} {pc : Nat} {ls : Array Slot} {rest st0 : List Value} {H0 : Heap} {G : xGl} {w : xWd} {z : xSt} {own C : String} {y : MethodName} {maxL nL n index : Nat} {ret : Option FieldType} {rm : Room} {A : Nat → Prop}
theorem l_runV {Qc : Array Value → State → Outcome → State → Prop} {free : Addr → Prop} {As : List Value} {o ci N : Nat} {T : u_T} {ty0 : Nat → FieldType} {ps : List (Option Nat)}
    (hx : p.tables.exec = Jvm.exec) (hb : c.code = cc) (hml : c.maxLocals = nL) (hown : s.vm.findClass own = some m.cls) (hts : ∀ w ∈ xw, w.before args s = true)
    (hM : Met l y (xws y bytes maxL ret) rm (xP G w z H.size (.ref (w.2.2 o) :: As)) Qc rm.cells rm.slots free) (hmv : xMV y C bytes maxL ret n) (hq : Cond.methodLink own index y ∈ xw)
    (hK : va_K G.1 vwCl (xtys G) s) (hZ : xZ A s s.heap) (hR : Rh G w z H) (hS : va_S A s.heap H locs) (hsub : ∀ q, xA w H.size q → A q) (ho : o < w.1) (hc : xCls ci C T N ty0) (hsh : w.2.1 o = .inl (ci, ps))
    (hn : As.length = n) (hl : ls.size = nL) (hst : st0 = As.reverse ++ .ref (w.2.2 o) :: rest) (hW : (rest.map fun v => v.category).sum ≤ 8) (hdg : decode cc pc = .ok (.invokevirtual index, 3))
    (hroom : rm.frames + 1 ≤ R.frames ∧ 8 + (maxL + 11) + rm.locals ≤ R.locals) (hf : cells + rm.cells ≤ R.cells ∧ slots + rm.slots ≤ R.slots) :
    va_Run p l e R s m args below meth c H locs cells slots rm.cells rm.slots (F0 m pc ls st0) rest (Qc (Value.ref (w.2.2 o) :: As).toArray) free := by
  obtain ⟨h1, h2, h3, h4, h5⟩ := hmv
  refine va_runV (As := As) (rest := rest) (Ts := xw) ⟨hx, hb, hml, hown, hts⟩ hM (cwV n hts (xw_c hq (xw_c h1 (xw_c h2 (xw_c h3 (xw_gws h4))))) rfl rfl rfl h5 hroom) ⟨xP_blind, ?_, fun U hU hW => ⟨rfl, by rw [hU], by rw [hU]; exact hR, va_K.moved hW.alike hK, by rw [hU]; exact hZ.mv hW hsub hS.2.1⟩⟩ rfl hn hl hst (lv_room hW) hdg hf
  have h0 := hR.at ho
  rw [hsh] at h0
  obtain ⟨q', g0, cell, g1, g2, g3, -⟩ := h0
  exact ⟨cell, g1, by rw [g3]; rfl, by rw [g2]; exact (hK.1 ci _ hc.1).2.1⟩
variable {mc ms : Nat} {a : Array Value}
theorem l_ci {post : Int32 → xSt → Prop} (hr : va_Run p l e R s m args below meth c H locs cells slots mc ms (F0 m pc ls st0) rest (va_Qi post (xB G w) (xA w H.size) a) (xA w H.size)) (hS : va_S A H0 H locs) (hsub : ∀ q, xA w H.size q → A q)
    (kk : ∀ (r : Int32) (z1 : xSt) (H1 : Heap) (locs1 : List Loc), post r z1 → Rh G w z1 H1 → (∀ q : Nat, q < H.size → ¬ xA w H.size q → H1[q]? = H[q]?) → va_S A H0 H1 locs1 → W p l e R s m args below meth c H1 locs1 (cells + mc) (slots + ms) Q (F0 m (pc + 3) ls (.int r :: rest))) : W p l e R s m args below meth c H locs cells slots Q (F0 m pc ls st0) :=
  va_calli hr hS (fun q _ h => hsub q h) hsub (fun r u t H1 locs1 ht _ hp hB _ hk hS1 => kk r u H1 locs1 hp (ht ▸ hB) hk hS1)
theorem l_cf {post : UInt32 → xSt → Prop} (hr : va_Run p l e R s m args below meth c H locs cells slots mc ms (F0 m pc ls st0) rest (va_Qf post (xB G w) (xA w H.size) a) (xA w H.size)) (hS : va_S A H0 H locs) (hsub : ∀ q, xA w H.size q → A q)
    (kk : ∀ (r : UInt32) (z1 : xSt) (H1 : Heap) (locs1 : List Loc), post r z1 → Rh G w z1 H1 → (∀ q : Nat, q < H.size → ¬ xA w H.size q → H1[q]? = H[q]?) → va_S A H0 H1 locs1 → W p l e R s m args below meth c H1 locs1 (cells + mc) (slots + ms) Q (F0 m (pc + 3) ls (.float r :: rest))) : W p l e R s m args below meth c H locs cells slots Q (F0 m pc ls st0) :=
  va_callf hr hS (fun q _ h => hsub q h) hsub (fun r u t H1 locs1 ht _ hp hB _ hk hS1 => kk r u H1 locs1 hp (ht ▸ hB) hk hS1)
theorem l_cd {post : UInt64 → xSt → Prop} (hr : va_Run p l e R s m args below meth c H locs cells slots mc ms (F0 m pc ls st0) rest (va_Qd post (xB G w) (xA w H.size) a) (xA w H.size)) (hS : va_S A H0 H locs) (hsub : ∀ q, xA w H.size q → A q)
    (kk : ∀ (r : UInt64) (z1 : xSt) (H1 : Heap) (locs1 : List Loc), post r z1 → Rh G w z1 H1 → (∀ q : Nat, q < H.size → ¬ xA w H.size q → H1[q]? = H[q]?) → va_S A H0 H1 locs1 → W p l e R s m args below meth c H1 locs1 (cells + mc) (slots + ms) Q (F0 m (pc + 3) ls (.double r :: rest))) : W p l e R s m args below meth c H locs cells slots Q (F0 m pc ls st0) :=
  va_calld hr hS (fun q _ h => hsub q h) hsub (fun r u t H1 locs1 ht _ hp hB _ hk hS1 => kk r u H1 locs1 hp (ht ▸ hB) hk hS1)
theorem l_cgi {post : Int32 → xWd × xSt → Prop} (hr : va_Run p l e R s m args below meth c H locs cells slots mc ms (F0 m pc ls st0) rest (va_Qi post (xBg G) (xA w H.size) a) (xA w H.size)) (hS : va_S A H0 H locs) (hsub : ∀ q, xA w H.size q → A q)
    (kk : ∀ (r : Int32) (w2 : xWd) (z1 : xSt) (H1 : Heap) (locs1 : List Loc), post r (w2, z1) → Rh G w2 z1 H1 → (∀ q : Nat, q < H.size → ¬ xA w H.size q → H1[q]? = H[q]?) → va_S A H0 H1 locs1 → W p l e R s m args below meth c H1 locs1 (cells + mc) (slots + ms) Q (F0 m (pc + 3) ls (.int r :: rest))) : W p l e R s m args below meth c H locs cells slots Q (F0 m pc ls st0) :=
  va_calli hr hS (fun q _ h => hsub q h) hsub (fun r u t H1 locs1 ht _ hp hB _ hk hS1 => kk r u.1 u.2 H1 locs1 hp (ht ▸ hB) hk hS1)
/-- a call that throws, caught here -/
theorem l_cx {As : List Value} {o ci N : Nat} {T : u_T} {ty0 : Nat → FieldType} {ps : List (Option Nat)} {x : ExceptionTableEntry}
    (hx : p.tables.exec = Jvm.exec) (hb : c.code = cc) (hml : c.maxLocals = nL) (hown : s.vm.findClass own = some m.cls) (hts : ∀ w ∈ xw, w.before args s = true) (htab : c.exceptionTable.toList = [x]) (hcov : covers x pc = true) (h0 : x.catchType ≠ 0) (hlink : Cond.classLink own x.catchType xIO ∈ xw)
    (hM : xX l y bytes maxL ret rm G w z H.size (.ref (w.2.2 o) :: As)) (hmv : xMV y C bytes maxL ret n) (hq : Cond.methodLink own index y ∈ xw)
    (hK : va_K G.1 vwCl (xtys G) s) (hZ : xZ A s s.heap) (hR : Rh G w z H) (hS : va_S A s.heap H locs) (hsub : ∀ q, xA w H.size q → A q) (ho : o < w.1) (hc : xCls ci C T N ty0) (hsh : w.2.1 o = .inl (ci, ps))
    (hn : As.length = n) (hl : ls.size = nL) (hst : st0 = As.reverse ++ .ref (w.2.2 o) :: rest) (hW : (rest.map fun v => v.category).sum ≤ 8) (hdg : decode cc pc = .ok (.invokevirtual index, 3))
    (hroom : rm.frames + 1 ≤ R.frames ∧ 8 + (maxL + 11) + rm.locals ≤ R.locals) (hf : cells + rm.cells ≤ R.cells ∧ slots + rm.slots ≤ R.slots)
    (kk : ∀ (q9 : Nat) (H1 : Heap) (locs1 : List Loc), Rh G w z H1 → (∀ q : Nat, q < H.size → ¬ xA w H.size q → H1[q]? = H[q]?) → va_S A s.heap H1 locs1 → W p l e R s m args below meth c H1 locs1 (cells + rm.cells) (slots + rm.slots) Q (F0 m x.handlerPc ls [.ref q9])) : W p l e R s m args below meth c H locs cells slots Q (F0 m pc ls st0) := by
  obtain ⟨h1, h2, h3, h4, h5⟩ := hmv
  have hrun := vx_runV (As := As) (rest := rest) (Ts := xw) (below := below) (meth := meth) (locs := locs) (cells := cells) (slots := slots) (e := e) (R := R) (b := w.2.2 o) (H := H) (g := F0 m pc ls st0) ⟨hx, hb, hml, hown, hts⟩ hM (cwV n hts (xw_c hq (xw_c h1 (xw_c h2 (xw_c h3 (xw_gws h4))))) rfl rfl rfl h5 hroom) ⟨xP_blind, by
      have h0 := hR.at ho
      rw [hsh] at h0
      obtain ⟨q', g0, cell, g1, g2, g3, -⟩ := h0
      exact ⟨cell, g1, by rw [g3]; rfl, by rw [g2]; exact (hK.1 ci _ hc.1).2.1⟩, fun U hU hW => ⟨rfl, by rw [hU], by rw [hU]; exact hR, va_K.moved hW.alike hK, by rw [hU]; exact hZ.mv hW hsub hS.2.1⟩⟩ rfl hn hl hst (lv_room hW) hdg hf
  refine vx_callv hrun hS (fun q _ h => hsub q h) hsub (fun q _ h => hsub q h) (fun E ce q9 u t H1 locs1 ht _ hp hB _ hk hS1 hce hcv hcl => ?_) (fun u t H1 locs1 _ _ hp => hp.elim)
  obtain ⟨hE, hB⟩ := hB
  rw [hE] at hcl
  have hp : u = z := hp
  rw [hp] at hB
  exact vx_catch hown [] x [] htab (fun _ h => absurd h List.not_mem_nil) hcov h0 (hts _ hlink) (va_Nw.use rfl (hZ.1.1 _ (List.mem_of_getElem? (i := 12) rfl))) hce hcv hcl (kk q9 H1 locs1 (ht ▸ hB) hk hS1)
/-- the cell beside the world is kept by a call over the world -/
theorem ou_kept {e0 : va_E} {ou : Nat} {H1 : Heap} (hP : va_P G.1 vwCl [(ou, e0)] H) (hap : ∀ o, o < w.1 → w.2.2 o ≠ ou) (hk : ∀ q : Nat, q < H.size → ¬ xA w H.size q → H1[q]? = H[q]?) : va_P G.1 vwCl [(ou, e0)] H1 := by
  intro k q hq
  have h0 := hP k q hq
  have hj := (List.getElem?_eq_some_iff.mp hq).1
  simp only [List.length_cons, List.length_nil] at hj
  have k0 : k = 0 := by omega
  rw [k0] at hq
  have e1 : q = (ou, e0) := (Option.some.inj hq).symm
  have hlt := h0.lt
  rw [e1] at h0 hlt ⊢
  refine h0.kept (hk ou hlt (fun h => ?_))
  rcases h with ⟨o, ho, h⟩ | h
  · exact hap o ho h.symm
  · exact absurd hlt (Nat.not_lt.mpr h)
theorem sub_w {ou sz : Nat} {H : Heap} (hs : sz ≤ H.size) : ∀ q, xA w H.size q → xAw w ou sz q := fun q h => Or.inl (h.elim Or.inl (fun h => Or.inr (Nat.le_trans hs h)))
theorem l_last {ou : Nat} {cD : ClassId} {f : Nat → Int64} {x : Int64} (hx : p.tables.exec = Jvm.exec) (hb : c.code = cc) (hK : va_K G.1 vwCl (xtyD G cD) s) (hR : Rh G w z H) (hP : va_P G.1 vwCl [(ou, .inl (G.2 3, 1, .inr (.inl f)))] H) (hap : ∀ o, o < w.1 → w.2.2 o ≠ ou) {sz : Nat} (hS : va_S (xAw w ou sz) H0 H locs) (hdg : decode cc pc = .ok (.lastore, 1))
    (kk : ∀ (H1 : Heap) (locs1 : List Loc), Rh G w z H1 → va_P G.1 vwCl [(ou, .inl (G.2 3, 1, .inr (.inl (va_up f 0 x))))] H1 → va_S (xAw w ou sz) H0 H1 locs1 → W p l e R s m args below meth c H1 locs1 cells slots Q (F0 m (pc + 1) ls rest)) : W p l e R s m args below meth c H locs cells slots Q (F0 m pc ls (.long x :: .int (nI 0) :: .ref ou :: rest)) := by
  have h1 : va_D (xAw w ou sz) [(ou, (.inl (G.2 3, 1, .inr (.inl f)) : va_E))] := by
    refine ⟨fun i j p1 p2 hi hj _ => ?_, fun k q hq => ?_⟩
    · have h1 := (List.getElem?_eq_some_iff.mp hi).1
      have h2 := (List.getElem?_eq_some_iff.mp hj).1
      simp only [List.length_cons, List.length_nil] at h1 h2
      omega
    · have h1 := (List.getElem?_eq_some_iff.mp hq).1
      simp only [List.length_cons, List.length_nil] at h1
      have k0 : k = 0 := by omega
      rw [k0] at hq
      rw [← Option.some.inj hq]
      exact Or.inr rfl
  have hD : va_D (xAw w ou sz) (xwl G w z ++ [(ou, (.inl (G.2 3, 1, .inr (.inl f)) : va_E))]) := va_D.app ⟨(hR.D sz).1, fun k q h => Or.inl ((hR.D sz).2 k q h)⟩ h1 (fun i j p1 p2 hi hj h => by
    obtain ⟨ho, e1⟩ := xwl_of hi
    have h2 := (List.getElem?_eq_some_iff.mp hj).1
    simp only [List.length_cons, List.length_nil] at h2
    have j0 : j = 0 := by omega
    rw [j0] at hj
    rw [← Option.some.inj hj, e1] at h
    exact hap i ho h)
  refine va_last (D := G.1) (cl := vwCl) (tys := xtyD G cD) (cA := G.2 3) (n := 1) (f := f) (i := nI 0) (x := x) hx hb hK (hR.P.app hP) hD hS (xwl G w z).length 3 (by simp) rfl (vp_in_nI (by decide) (by decide)) hdg (fun H1 locs1 hP1 _ hS1 => ?_)
  have e1 : (xwl G w z ++ [(ou, (.inl (G.2 3, 1, .inr (.inl f)) : va_E))]).set (xwl G w z).length (ou, .inl (G.2 3, 1, .inr (.inl (va_up f (nI 0).toNatClampNeg x)))) = xwl G w z ++ [(ou, .inl (G.2 3, 1, .inr (.inl (va_up f 0 x))))] := by
    rw [List.set_append_right _ _ (Nat.le_refl _), Nat.sub_self]; rfl
  have hP1 : va_P G.1 vwCl (xwl G w z ++ [(ou, .inl (G.2 3, 1, .inr (.inl (va_up f 0 x))))]) H1 := by rw [← e1]; exact hP1
  refine kk H1 locs1 (Rh.ofP (fun k q hq => hP1 k q ?_) hR.2) (hP1.sub [(xwl G w z).length] (by simp)) hS1
  rw [List.getElem?_append_left (List.getElem?_eq_some_iff.mp hq).1]; exact hq
end LW
