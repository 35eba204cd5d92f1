/-! CONSTRUCTORS: an object under construction and what it makes; the cells as a list -/
theorem rA_one {U : State} {a b : ClassId} {ty : FieldType} (h : va_RA U a ty) (g : va_RA U b ty) : a = b := by
  cases ty with
  | object C =>
    obtain ⟨_, _, _, _, _, h⟩ := h
    obtain ⟨_, _, _, _, _, g⟩ := g
    exact Option.some.inj (h.symm.trans g)
  | _ => exact Option.some.inj (h.symm.trans g)
abbrev xAn (a : Nat) (e0 : va_E) (sz : Nat) : Nat → Prop := va_A [(a, e0)] sz
theorem vD1 {a : Nat} {e0 : va_E} {sz : Nat} : va_D (xAn a e0 sz) [(a, e0)] := by
  refine ⟨fun i j p q hi hj _ => ?_, fun k q hk => Or.inl ⟨k, q.2, hk⟩⟩
  have h1 := (List.getElem?_eq_some_iff.mp hi).1
  have h2 := (List.getElem?_eq_some_iff.mp hj).1
  simp only [List.length_cons, List.length_nil] at h1 h2
  omega
def xPn (G : xGl) (a : Nat) (e0 : va_E) (sz : Nat) (av : List Value) : Array Value → State → Prop := va_Pc av (fun U => U.heap.size = sz ∧ va_P G.1 vwCl [(a, e0)] U.heap ∧ va_K G.1 vwCl (xtys G) U ∧ xZ (xAn a e0 sz) U U.heap)
theorem xPn_blind {G : xGl} {b : Nat} {e0 : va_E} {sz : Nat} {av : List Value} : FrameBlind (xPn G b e0 sz av) := fun a U g mk q => ⟨q.1, q.2.1, q.2.2.1, va_K.moved (u := U) (U := U.calling g mk a) (Vm.Alike.refl U.vm) q.2.2.2.1, q.2.2.2.2.blind⟩
abbrev xBn (G : xGl) (A : Nat → Prop) : va_W → State → Prop := fun ws t => va_P G.1 vwCl ws t.heap ∧ va_D A ws
abbrev xMn (l : Launch) (y : MethodName) (cc : ByteArray) (maxL : Nat) (rm : Room) (G : xGl) (a : Nat) (e0 : va_E) (sz : Nat) (av : List Value) (post : va_W → Prop) : Prop := Met l y (xws y cc maxL none) rm (xPn G a e0 sz av) (va_Qv post (xBn G (xAn a e0 sz)) (xAn a e0 sz)) rm.cells rm.slots (xAn a e0 sz)
abbrev xCn (p : Program) (s : State) (m : MethodId) (args : Array Value) (c : Code) (meth : Method) (cc : ByteArray) (maxL : Nat) (own : String) (G : xGl) (A : Nat → Prop) : Prop := p.tables.exec = Jvm.exec ∧ c.code = cc ∧ c.maxLocals = maxL ∧ s.vm.findClass own = some m.cls ∧ (∀ w ∈ xw, w.before args s = true) ∧ meth.locks = false ∧ va_K G.1 vwCl (xtys G) s ∧ xZ A s s.heap
theorem x_mn {l : Launch} {y : MethodName} {cc : ByteArray} {maxL : Nat} {rm : Room} {G : xGl} {a : Nat} {e0 : va_E} {sz : Nat} {av : List Value} {post : va_W → Prop} (hy : plainName y.cls = true) (hin : y.name = "<init>") (hav : (lg_sl av).length ≤ maxL)
    (body : ∀ (p : Program) (e : Env) (s : State) (m : MethodId) (args : Array Value) (below : List Frame) (meth : Method) (c : Code) (ls : Array Slot) (Q : State → Prop) (A : Nat → Prop), A = xAn a e0 s.heap.size → sz = s.heap.size → xCn p s m args c meth cc maxL y.cls G A → meth.name = "<init>" → (∀ q, s.heap.size ≤ q → A q) → va_P G.1 vwCl [(a, e0)] s.heap → va_D A [(a, e0)] → va_S A s.heap s.heap [] → lv_has ls maxL (lv_args 0 av) →
      (∀ (ws : va_W) (H : Heap) (locs : List Loc) (pc : Nat) (ls : Array Slot), decode cc pc = .ok (.return_, 1) → va_P G.1 vwCl ws H → va_D A ws → va_S A s.heap H locs → post ws → W p l e rm s m args below meth c H locs rm.cells rm.slots Q (F0 m pc ls [])) →
      W p l e rm s m args below meth c s.heap [] 0 0 Q (F0 m 0 ls [])) : xMn l y cc maxL rm G a e0 sz av post := by
  refine Met.ofW (cc := cc) (maxL := maxL) (ret := none) hy rfl ?_
  intro p e s m args below meth c s₁ B hml hv
  obtain ⟨rfl, hsz, hP, hK, hZ⟩ := hv
  have hts := atoms_spec (ws := xws y cc maxL none) B.pre
  have hlocks := B.notSynchronized
  subst hsz
  rw [lg_entry_eq]
  refine body p e s m _ below meth c _ _ _ rfl rfl ⟨B.exec, B.bytes, hml, findClass_of_methodNamed B.named, fun w h => hts w (List.mem_cons_of_mem _ h), hlocks, hK, hZ⟩ ((name_of_methodNamed B.named B.method).1.trans hin) (fun q h => Or.inr h) hP vD1 va_S.rf (lv_entry av hav) ?_
  intro ws H locs pc ls hd hP hD hS hp
  exact W.vret B.exec B.bytes B.returns (fun t ht hW => ⟨⟨ws, rfl, hp, by rw [ht]; exact hP, hD⟩, hS.F ht⟩) hS.2.2 hd hlocks
section YC
variable {p : Program} {l : Launch} {e : Env} {R : Room} {s : State} {m : MethodId} {args : Array Value} {below : List Frame} {meth : Method} {c : Code} {H : Heap} {locs : List Loc} {cells slots : Nat} {Q : State → Prop}
variable {cc bytes : ByteArray} {pc : Nat} {ls : Array Slot} {rest st0 : List Value} {H0 : Heap} {G : xGl} {own C : String} {y : MethodName} {maxL nL n index : Nat} {rm : Room} {ws : va_W} {A : Nat → Prop}
theorem y_obj (hx : p.tables.exec = Jvm.exec) (hb : c.code = cc) (hml : c.maxLocals = nL) (hown : s.vm.findClass own = some m.cls) (hts : ∀ w ∈ xw, w.before args s = true) (hl : ls.size = nL) (hq : Cond.methodLink own index objectInit ∈ xw) {a : Nat} (hdg : decode cc pc = .ok (.invokespecial index, 3)) (hf : 1 ≤ R.frames) (hlo : (rest.map fun v => v.category).sum + 12 ≤ R.locals)
    (k : W p l e R s m args below meth c H locs cells slots Q (F0 m (pc + 3) ls rest)) : W p l e R s m args below meth c H locs cells slots Q (F0 m pc ls (.ref a :: rest)) := by
  refine W.objInit hx hb hown (hts _ hq) (hts _ q_100) (hts _ q_101) rfl (by rw [hml]; exact hl) rfl hdg hf (by show 2 * 0 + _ + 12 ≤ _; omega) ?_
  exact k
theorem y_newa (hx : p.tables.exec = Jvm.exec) (hb : c.code = cc) (hts : ∀ w ∈ xw, w.before args s = true) {atype : ArrayType} {ty : FieldType} {t N : Nat} {a0 : vp_A} (hq : Cond.arrayClass (newarray.typeOf atype) ∈ xw) (hty : newarray.typeOf atype = ty) (ht : (xtys G)[t]? = some (G.2 t, ty)) (ha : ∀ cA : ClassId, vp_cell cA a0 = arrV cA N (fun _ => defaultValue ty)) (hN : N < 100000) (hbytes : N * componentBytes ty ≤ 536870912)
    (hK : va_K G.1 vwCl (xtys G) s) (hP : va_P G.1 vwCl ws H) (hD : va_D A ws) (hS : va_S A H0 H locs) (hA : ∀ q, H0.size ≤ q → A q) (hcells : cells + 1 ≤ R.cells) (hslots : slots + N ≤ R.slots) (hdg : decode cc pc = .ok (.newarray atype, 2))
    (kk : ∀ (q : Nat) (H1 : Heap), va_P G.1 vwCl (ws ++ [(q, .inl (G.2 t, a0))]) H1 → va_D A (ws ++ [(q, .inl (G.2 t, a0))]) → va_S A H0 H1 locs → W p l e R s m args below meth c H1 locs (cells + 1) (slots + N) Q (F0 m (pc + 2) ls (.ref q :: rest))) : W p l e R s m args below meth c H locs cells slots Q (F0 m pc ls (.int (nI N) :: rest)) := by
  refine va_newa hx hb (hts _ hq) hty hK hP hD hS hA ha (nI_pos (by omega)) (nI_clamp (by omega)) hbytes hcells hslots hdg (fun q cA H1 hK1 hP1 hD1 hS1 => ?_)
  have e1 : cA = G.2 t := rA_one (hK1.2 (xtys G).length (cA, ty) (by simp)).2 (hK.2 t _ ht).2
  rw [e1] at hP1 hD1
  exact kk q H1 hP1 hD1 hS1
theorem y_newq (hx : p.tables.exec = Jvm.exec) (hb : c.code = cc) (hts : ∀ w ∈ xw, w.before args s = true) (hown : s.vm.findClass own = some m.cls) {t N : Nat} (hq : Cond.classLink own index C ∈ xw) (hover : va_AO C s) (ht : (xtys G)[t]? = some (G.2 t, .object C)) (hN : N < 100000)
    (hK : va_K G.1 vwCl (xtys G) s) (hP : va_P G.1 vwCl ws H) (hD : va_D A ws) (hS : va_S A H0 H locs) (hA : ∀ q, H0.size ≤ q → A q) (hcells : cells + 1 ≤ R.cells) (hslots : slots + N ≤ R.slots) (hdg : decode cc pc = .ok (.anewarray index, 3))
    (kk : ∀ (q : Nat) (H1 : Heap), va_P G.1 vwCl (ws ++ [(q, .inl (G.2 t, N, .inr (.inr (.inr (.inr (fun _ => none))))))]) H1 → va_D A (ws ++ [(q, .inl (G.2 t, N, .inr (.inr (.inr (.inr (fun _ => none))))))]) → va_S A H0 H1 locs → W p l e R s m args below meth c H1 locs (cells + 1) (slots + N) Q (F0 m (pc + 3) ls (.ref q :: rest))) : W p l e R s m args below meth c H locs cells slots Q (F0 m pc ls (.int (nI N) :: rest)) := by
  refine va_newq hx hb hown (hts _ hq) hover hK hP hD hS hA (nI_pos (by omega)) (nI_clamp (by omega)) (by omega) hcells hslots hdg (fun q cA H1 hK1 hP1 hD1 hS1 => ?_)
  have e1 : cA = G.2 t := rA_one (hK1.2 (xtys G).length (cA, .object C) (by simp)).2 (hK.2 t _ ht).2
  rw [e1] at hP1 hD1
  exact kk q H1 hP1 hD1 hS1
theorem y_new (hx : p.tables.exec = Jvm.exec) (hb : c.code = cc) (hts : ∀ w ∈ xw, w.before args s = true) (hown : s.vm.findClass own = some m.cls) {ci N : Nat} {T : u_T} {ty0 : Nat → FieldType} (hc : xCls ci C T N ty0) (hq : Cond.classLink own index C ∈ xw) (hq2 : Cond.instantiable C N ∈ xw) (hq3 : Cond.initialized C ∈ xw) {fs : List Value} (hfs : ∀ j, j < N → defaultValue (ty0 j) = vp_V fs j)
    (hK : va_K G.1 vwCl (xtys G) s) (hP : va_P G.1 vwCl ws H) (hD : va_D A ws) (hS : va_S A H0 H locs) (hA : ∀ q, H0.size ≤ q → A q) (hcells : cells + 1 ≤ R.cells) (hslots : slots + N ≤ R.slots) (hdg : decode cc pc = .ok (.new index, 3))
    (kk : ∀ (q : Nat) (H1 : Heap), va_P G.1 vwCl (ws ++ [(q, .inr (ci, fs))]) H1 → va_D A (ws ++ [(q, .inr (ci, fs))]) → va_S A H0 H1 locs → W p l e R s m args below meth c H1 locs (cells + 1) (slots + N) Q (F0 m (pc + 3) ls (.ref q :: rest))) : W p l e R s m args below meth c H locs cells slots Q (F0 m pc ls rest) := by
  obtain ⟨h1, h2, h3, h4⟩ := hc
  exact va_new hx hb hts h2 ty0 h3 hown (hts _ hq) (hts _ hq2) (hts _ hq3) hK hP hD hS hA h1 hfs hcells hslots hdg kk
theorem y_putF (hx : p.tables.exec = Jvm.exec) (hb : c.code = cc) (hts : ∀ w ∈ xw, w.before args s = true) (hown : s.vm.findClass own = some m.cls) {ci N : Nat} {T : u_T} {ty0 : Nat → FieldType} (hc : xCls ci C T N ty0) (hin : meth.name = "<init>") (hK : va_K G.1 vwCl (xtys G) s) (hP : va_P G.1 vwCl ws H) (hD : va_D A ws) (hS : va_S A H0 H locs) (q0 : Nat) {a : Nat} {fs : List Value} (he : ws[q0]? = some (a, .inr (ci, fs))) (k : Nat) (hk : k < N) {ref : String} (hq : Cond.fieldLink own index ref (T k).2.1 (T k).2.2.1 ∈ xw) (href : ref = (T k).1) (hfin : (T k).2.2.2 = true) (hdecl : (T k).1 = own) {b : Nat} (hn : narrow (ty0 k) (.ref b) = .ref b) (hfit : fits (ty0 k) (.ref b) = true) (hl : k < fs.length) (hdg : decode cc pc = .ok (.putfield index, 3))
    (kk : ∀ (H1 : Heap) (locs1 : List Loc), va_P G.1 vwCl (ws.set q0 (a, .inr (ci, fs.set k (.ref b)))) H1 → va_D A (ws.set q0 (a, .inr (ci, fs.set k (.ref b)))) → va_S A H0 H1 locs1 → W p l e R s m args below meth c H1 locs1 cells slots Q (F0 m (pc + 3) ls rest)) : W p l e R s m args below meth c H locs cells slots Q (F0 m pc ls (.ref b :: .ref a :: rest)) := by
  obtain ⟨h1, h2, h3, h4⟩ := hc
  exact va_putF (D := G.1) hx hb hts h2 ty0 h3 h4 hown hK hP hD hS q0 he h1 k hk (hts _ hq) (fun x h => by rw [href]; exact h) hfin hin hdecl (h3 k hk) hn hfit hl hdg kk
theorem y_join {A0 : Nat → Prop} {D : va_G} {cl : List vw_C} {ws0 w1 : va_W} {q : Nat} {e0 : va_E} {H H1 : Heap} (hP : va_P D cl (ws0 ++ [(q, e0)]) H) (hD : va_D A0 (ws0 ++ [(q, e0)])) (hk : ∀ x : Nat, x < H.size → ¬ xAn q e0 H.size x → H1[x]? = H[x]?) (hF : ∀ x, xAn q e0 H.size x → A0 x) (hP1 : va_P D cl w1 H1) (hD1 : va_D (xAn q e0 H.size) w1) : va_P D cl (ws0 ++ w1) H1 ∧ va_D A0 (ws0 ++ w1) := by
  have hL : ∀ (k : Nat) (x : Nat × va_E), ws0[k]? = some x → (ws0 ++ [(q, e0)])[k]? = some x := fun k x hx => by
    rw [List.getElem?_append_left (List.getElem?_eq_some_iff.mp hx).1]; exact hx
  have hE : (ws0 ++ [(q, e0)])[ws0.length]? = some (q, e0) := by simp
  have ap : ∀ (k : Nat) (x : Nat × va_E), ws0[k]? = some x → x.1 < H.size ∧ ¬ xAn q e0 H.size x.1 := by
    intro k x hx
    have h1 := (hP k x (hL k x hx)).lt
    refine ⟨h1, fun h => ?_⟩
    rcases h with ⟨j, e1, h⟩ | h
    · have hj := (List.getElem?_eq_some_iff.mp h).1
      simp only [List.length_cons, List.length_nil] at hj
      have j0 : j = 0 := by omega
      rw [j0] at h
      have e2 : x.1 = q := by
        have := Option.some.inj h
        exact (congrArg Prod.fst this).symm
      have e3 := hD.1 k ws0.length x (q, e0) (hL k x hx) hE e2
      have := (List.getElem?_eq_some_iff.mp hx).1
      omega
    · exact absurd h1 (Nat.not_lt.mpr h)
  refine ⟨va_P.app (fun k x hx => ?_) hP1, va_D.app ⟨fun i j p1 p2 hi hj h => hD.1 i j p1 p2 (hL i p1 hi) (hL j p2 hj) h, fun k x hx => hD.2 k x (hL k x hx)⟩ ⟨hD1.1, fun k x hx => hF _ (hD1.2 k x hx)⟩ (fun i j p1 p2 hi hj h => ?_)⟩
  · obtain ⟨h1, h2⟩ := ap k x hx
    exact (hP k x (hL k x hx)).kept (hk x.1 h1 h2)
  · exact (ap i p1 hi).2 (by rw [h]; exact hD1.2 j p2 hj)
theorem y_free {A0 : Nat → Prop} {ws0 : va_W} {q : Nat} {e0 : va_E} {H0 H : Heap} {locs : List Loc} (hD : va_D A0 (ws0 ++ [(q, e0)])) (hS : va_S A0 H0 H locs) (hA : ∀ q, H0.size ≤ q → A0 q) : ∀ x, xAn q e0 H.size x → A0 x :=
  va_free (wc := [(q, e0)]) hD hS hA [ws0.length] (by simp)
/-- a constructor is called on the last cell of the list -/
theorem y_cI {ws0 : va_W} {q : Nat} {e0 : va_E} {As : List Value} {post : va_W → Prop} (hx : p.tables.exec = Jvm.exec) (hb : c.code = cc) (hml : c.maxLocals = nL) (hown : s.vm.findClass own = some m.cls) (hts : ∀ w ∈ xw, w.before args s = true)
    (hM : xMn l y bytes maxL rm G q e0 H.size (.ref q :: As) post) (hmi : xMI y bytes maxL n) (hq : Cond.methodLink own index y ∈ xw) (hK : va_K G.1 vwCl (xtys G) s) (hZ : xZ A s s.heap) (hP : va_P G.1 vwCl (ws0 ++ [(q, e0)]) H) (hD : va_D A (ws0 ++ [(q, e0)])) (hS : va_S A s.heap H locs) (hA : ∀ q, s.heap.size ≤ q → A q)
    (hn : As.length = n) (hl : ls.size = nL) (hst : st0 = As.reverse ++ .ref q :: rest) (hW : (rest.map fun v => v.category).sum ≤ 8) (hdg : decode cc pc = .ok (.invokespecial index, 3)) (hroom : rm.frames + 1 ≤ R.frames ∧ 8 + (maxL + 11) + rm.locals ≤ R.locals) (hf : cells + rm.cells ≤ R.cells ∧ slots + rm.slots ≤ R.slots)
    (kk : ∀ (w1 : va_W) (H1 : Heap) (locs1 : List Loc), post w1 → va_P G.1 vwCl (ws0 ++ w1) H1 → va_D A (ws0 ++ w1) → va_S A s.heap H1 locs1 → W p l e R s m args below meth c H1 locs1 (cells + rm.cells) (slots + rm.slots) Q (F0 m (pc + 3) ls rest)) : W p l e R s m args below meth c H locs cells slots Q (F0 m pc ls st0) := by
  obtain ⟨g1, g2, g3, g4, g5⟩ := hmi
  have hF := y_free hD hS hA
  have hP0 : va_P G.1 vwCl [(q, e0)] H := hP.sub [ws0.length] (by simp)
  refine va_callv (va_runI (As := As) (rest := rest) ⟨hx, hb, hml, hown, hts⟩ hM (cwI n hts (xw_gws g3) rfl rfl rfl (hts _ g2) (hts _ hq) (hts _ g1) g4 g5 hroom) ⟨xPn_blind, fun U hU hW => ⟨rfl, by rw [hU], by rw [hU]; exact hP0, va_K.moved hW.alike hK, by rw [hU]; exact hZ.mv hW hF hS.2.1⟩⟩ rfl hn hl hst (lv_room hW) hdg hf) hS (fun x _ h => hF x h) hF (fun u t H1 locs1 ht hvm hw hB hz1 hk1 hS1 => ?_)
  obtain ⟨hP1, hD1⟩ := hB
  rw [ht] at hP1
  obtain ⟨hP2, hD2⟩ := y_join hP hD hk1 hF hP1 hD1
  exact kk u H1 locs1 hw hP2 hD2 hS1
theorem y_cIN {host : String} {ws0 : va_W} {q : Nat} {e0 : va_E} {As : List Value} {post : va_W → Prop} (hx : p.tables.exec = Jvm.exec) (hb : c.code = cc) (hml : c.maxLocals = nL) (hown : s.vm.findClass own = some m.cls) (hts : ∀ w ∈ xw, w.before args s = true)
    (hM : xMn l y bytes maxL rm G q e0 H.size (.ref q :: As) post) (hmi : xMI y bytes maxL n) (hq : va_Nw (.methodLinkNest own index y host) s) (hK : va_K G.1 vwCl (xtys G) s) (hZ : xZ A s s.heap) (hP : va_P G.1 vwCl (ws0 ++ [(q, e0)]) H) (hD : va_D A (ws0 ++ [(q, e0)])) (hS : va_S A s.heap H locs) (hA : ∀ q, s.heap.size ≤ q → A q)
    (hn : As.length = n) (hl : ls.size = nL) (hst : st0 = As.reverse ++ .ref q :: rest) (hW : (rest.map fun v => v.category).sum ≤ 8) (hdg : decode cc pc = .ok (.invokespecial index, 3)) (hroom : rm.frames + 1 ≤ R.frames ∧ 8 + (maxL + 11) + rm.locals ≤ R.locals) (hf : cells + rm.cells ≤ R.cells ∧ slots + rm.slots ≤ R.slots)
    (kk : ∀ (w1 : va_W) (H1 : Heap) (locs1 : List Loc), post w1 → va_P G.1 vwCl (ws0 ++ w1) H1 → va_D A (ws0 ++ w1) → va_S A s.heap H1 locs1 → W p l e R s m args below meth c H1 locs1 (cells + rm.cells) (slots + rm.slots) Q (F0 m (pc + 3) ls rest)) : W p l e R s m args below meth c H locs cells slots Q (F0 m pc ls st0) := by
  obtain ⟨g1, g2, g3, g4, g5⟩ := hmi
  have hF := y_free hD hS hA
  have hP0 : va_P G.1 vwCl [(q, e0)] H := hP.sub [ws0.length] (by simp)
  refine va_callv (va_runIN (As := As) (rest := rest) ⟨hx, hb, hml, hown, hts⟩ hM ⟨va_cnB n hts (xw_gws g3) rfl rfl rfl hq (hts _ g2) g5 hroom, g4, hts _ g1⟩ ⟨xPn_blind, fun U hU hW => ⟨rfl, by rw [hU], by rw [hU]; exact hP0, va_K.moved hW.alike hK, by rw [hU]; exact hZ.mv hW hF hS.2.1⟩⟩ rfl hn hl hst (lv_room hW) hdg hf) hS (fun x _ h => hF x h) hF (fun u t H1 locs1 ht hvm hw hB hz1 hk1 hS1 => ?_)
  obtain ⟨hP1, hD1⟩ := hB
  rw [ht] at hP1
  obtain ⟨hP2, hD2⟩ := y_join hP hD hk1 hF hP1 hD1
  exact kk u H1 locs1 hw hP2 hD2 hS1
end YC
/-! CONSTRUCTORS: a member, a department -/
abbrev aI (G : xGl) (n : Nat) : va_E := .inl (G.2 0, n, .inl (fun _ => 0))
abbrev aQ_ (G : xGl) (t n : Nat) (f : Nat → Option Nat) : va_E := .inl (G.2 t, n, .inr (.inr (.inr (.inr f))))
abbrev mF0 : List Value := [.int 0, .int 0, .int 0, .int 0, .int 0, .int 0, .null, .null, .null, .null]
abbrev mF (a b c d : Nat) : List Value := [.int 0, .int 0, .int 0, .int 0, .int 0, .int 0, .ref a, .ref b, .ref c, .ref d]
abbrev dF : List Value := [.int 0, .int 0, .int 0]
def rm_X5_init : Room := { frames := 1, cells := 4, slots := 57, locals := 12 }
set_option maxRecDepth 100000 in
set_option maxHeartbeats 4000000 in
theorem c_X5_init (l : Launch) (G : xGl) (a sz : Nat) : xMn l yX5_init cX5_init 1 rm_X5_init G a (.inr (5, mF0)) sz [.ref a] (fun ws => ∃ q1 q2 q3 q4 : Nat, ws = [(a, .inr (5, mF q1 q2 q3 q4)), (q1, aI G 4), (q2, aI G 25), (q3, aI G 25), (q4, aI G 3)]) := by
  refine x_mn (by decide) rfl (Nat.le_of_ble_eq_true rfl) ?_
  intro p e s m args below meth c ls Q A hAe hsz X hin hA hP hD hS hl hret
  obtain ⟨hx, hcb, hml, hown, hts, hlk, hK, hZ⟩ := X
  have hl : lv_has ls 1 [(0, .ref a)] := hl
  refine lv_aload_n hx hcb dX5_init_0 rfl (lv_at hl 0 rfl) ?_
  refine y_obj hx hcb hml hown hts hl.1 q_176 dX5_init_1 (Nat.le_of_ble_eq_true rfl) (Nat.le_of_ble_eq_true rfl) ?_
  refine lv_aload_n hx hcb dX5_init_4 rfl (lv_at hl 0 rfl) ?_
  refine lv_iconst (v := nI 4) hx hcb dX5_init_5 (by decide) ?_
  refine y_newa (atype := .int) (ty := .int) (t := 0) (N := 4) (a0 := (4, .inl (fun _ => 0))) hx hcb hts q_121 rfl rfl (fun _ => rfl) (by decide) (by decide) hK hP hD hS hA (by decide) (by decide) dX5_init_6 (fun q1 H hP hD hS => ?_)
  refine y_putF hx hcb hts hown xc5 hin hK hP hD hS 0 rfl 6 (by decide) q_195 rfl rfl rfl rfl rfl (Nat.le_of_ble_eq_true rfl) dX5_init_8 (fun H locs hP hD hS => ?_)
  refine lv_aload_n hx hcb dX5_init_11 rfl (lv_at hl 0 rfl) ?_
  refine lv_bipush (v := nI 25) hx hcb dX5_init_12 (by decide) ?_
  refine y_newa (atype := .int) (ty := .int) (t := 0) (N := 25) (a0 := (25, .inl (fun _ => 0))) hx hcb hts q_121 rfl rfl (fun _ => rfl) (by decide) (by decide) hK hP hD hS hA (by decide) (by decide) dX5_init_14 (fun q2 H hP hD hS => ?_)
  refine y_putF hx hcb hts hown xc5 hin hK hP hD hS 0 rfl 7 (by decide) q_200 rfl rfl rfl rfl rfl (Nat.le_of_ble_eq_true rfl) dX5_init_16 (fun H locs hP hD hS => ?_)
  refine lv_aload_n hx hcb dX5_init_19 rfl (lv_at hl 0 rfl) ?_
  refine lv_bipush (v := nI 25) hx hcb dX5_init_20 (by decide) ?_
  refine y_newa (atype := .int) (ty := .int) (t := 0) (N := 25) (a0 := (25, .inl (fun _ => 0))) hx hcb hts q_121 rfl rfl (fun _ => rfl) (by decide) (by decide) hK hP hD hS hA (by decide) (by decide) dX5_init_22 (fun q3 H hP hD hS => ?_)
  refine y_putF hx hcb hts hown xc5 hin hK hP hD hS 0 rfl 8 (by decide) q_204 rfl rfl rfl rfl rfl (Nat.le_of_ble_eq_true rfl) dX5_init_24 (fun H locs hP hD hS => ?_)
  refine lv_aload_n hx hcb dX5_init_27 rfl (lv_at hl 0 rfl) ?_
  refine lv_iconst (v := nI 3) hx hcb dX5_init_28 (by decide) ?_
  refine y_newa (atype := .int) (ty := .int) (t := 0) (N := 3) (a0 := (3, .inl (fun _ => 0))) hx hcb hts q_121 rfl rfl (fun _ => rfl) (by decide) (by decide) hK hP hD hS hA (by decide) (by decide) dX5_init_29 (fun q4 H hP hD hS => ?_)
  refine y_putF hx hcb hts hown xc5 hin hK hP hD hS 0 rfl 9 (by decide) q_206 rfl rfl rfl rfl rfl (Nat.le_of_ble_eq_true rfl) dX5_init_31 (fun H locs hP hD hS => ?_)
  exact hret _ _ _ _ _ dX5_init_34 hP hD hS ⟨q1, q2, q3, q4, rfl⟩
def rm_X2_init : Room := { frames := 1, cells := 0, slots := 0, locals := 12 }
set_option maxRecDepth 100000 in
set_option maxHeartbeats 4000000 in
theorem c_X2_init (l : Launch) (G : xGl) (a sz : Nat) : xMn l yX2_init cX2_init 1 rm_X2_init G a (.inr (2, dF)) sz [.ref a] (fun ws => ws = [(a, .inr (2, dF))]) := by
  refine x_mn (by decide) rfl (Nat.le_of_ble_eq_true rfl) ?_
  intro p e s m args below meth c ls Q A hAe hsz X hin hA hP hD hS hl hret
  obtain ⟨hx, hcb, hml, hown, hts, hlk, hK, hZ⟩ := X
  have hl : lv_has ls 1 [(0, .ref a)] := hl
  refine lv_aload_n hx hcb dX2_init_0 rfl (lv_at hl 0 rfl) ?_
  refine y_obj hx hcb hml hown hts hl.1 q_236 dX2_init_1 (Nat.le_of_ble_eq_true rfl) (Nat.le_of_ble_eq_true rfl) ?_
  exact hret _ _ _ _ _ dX2_init_4 hP hD hS rfl
