/-! HOW A METHOD'S WALK BEGINS AND ENDS -/
abbrev xCx (p : Program) (s : State) (m : MethodId) (args : Array Value) (c : Code) (meth : Method) (cc : ByteArray) (maxL : Nat) (own : String) (G : xGl) (w : xWd) : Prop := p.tables.exec = Jvm.exec ∧ c.code = cc ∧ c.maxLocals = maxL ∧ s.vm.findClass own = some m.cls ∧ (∀ w ∈ xw, w.before args s = true) ∧ meth.locks = false ∧ va_K G.1 vwCl (xtys G) s ∧ xZ (xA w s.heap.size) s s.heap
theorem x_mi {l : Launch} {y : MethodName} {cc : ByteArray} {maxL : Nat} {ty : FieldType} {rm : Room} {G : xGl} {w : xWd} {z : xSt} {sz : Nat} {av : List Value} {post : Int32 → xSt → Prop} (hy : plainName y.cls = true) (hav : (lg_sl av).length ≤ maxL)
    (body : ∀ (p : Program) (e : Env) (s : State) (m : MethodId) (args : Array Value) (below : List Frame) (meth : Method) (c : Code) (ls : Array Slot) (Q : State → Prop), sz = s.heap.size → xCx p s m args c meth cc maxL y.cls G w → Rh G w z s.heap → va_S (xA w s.heap.size) s.heap s.heap [] → lv_has ls maxL (lv_args 0 av) →
      (∀ (v : Int32) (z1 : xSt) (H : Heap) (locs : List Loc) (pc : Nat) (ls : Array Slot), decode cc pc = .ok (.ireturn, 1) → narrow ty (.int v) = .int v → Rh G w z1 H → va_S (xA w s.heap.size) s.heap H locs → post v z1 → W p l e rm s m args below meth c H locs rm.cells rm.slots Q (F0 m pc ls [.int v])) →
      W p l e rm s m args below meth c s.heap [] 0 0 Q (F0 m 0 ls [])) : xMi l y cc maxL (some ty) rm G w z sz av post := by
  refine x_met hy hav ?_
  intro p e s m below meth c ls hsz hx hb hr hml hown hts hlocks _ hK hZ hR hS hl
  subst hsz
  exact body p e s m _ below meth c ls _ rfl ⟨hx, hb, hml, hown, hts, hlocks, hK, hZ⟩ hR hS hl (fun v z1 H locs pc ls hd hn hR hS hp => x_iret hx hb hr hlocks hn hR hS hp hd)
theorem x_ml {l : Launch} {y : MethodName} {cc : ByteArray} {maxL : Nat} {rm : Room} {G : xGl} {w : xWd} {z : xSt} {sz : Nat} {av : List Value} {post : Int64 → xSt → Prop} (hy : plainName y.cls = true) (hav : (lg_sl av).length ≤ maxL)
    (body : ∀ (p : Program) (e : Env) (s : State) (m : MethodId) (args : Array Value) (below : List Frame) (meth : Method) (c : Code) (ls : Array Slot) (Q : State → Prop), sz = s.heap.size → xCx p s m args c meth cc maxL y.cls G w → Rh G w z s.heap → va_S (xA w s.heap.size) s.heap s.heap [] → lv_has ls maxL (lv_args 0 av) →
      (∀ (v : Int64) (z1 : xSt) (H : Heap) (locs : List Loc) (pc : Nat) (ls : Array Slot), decode cc pc = .ok (.lreturn, 1) → Rh G w z1 H → va_S (xA w s.heap.size) s.heap H locs → post v z1 → W p l e rm s m args below meth c H locs rm.cells rm.slots Q (F0 m pc ls [.long v])) →
      W p l e rm s m args below meth c s.heap [] 0 0 Q (F0 m 0 ls [])) : xMl l y cc maxL (some .long) rm G w z sz av post := by
  refine x_met hy hav ?_
  intro p e s m below meth c ls hsz hx hb hr hml hown hts hlocks _ hK hZ hR hS hl
  subst hsz
  exact body p e s m _ below meth c ls _ rfl ⟨hx, hb, hml, hown, hts, hlocks, hK, hZ⟩ hR hS hl (fun v z1 H locs pc ls hd hR hS hp => x_lret hx hb hr hlocks hR hS hp hd)
theorem x_mv {l : Launch} {y : MethodName} {cc : ByteArray} {maxL : Nat} {rm : Room} {G : xGl} {w : xWd} {z : xSt} {sz : Nat} {av : List Value} {post : xSt → Prop} (hy : plainName y.cls = true) (hav : (lg_sl av).length ≤ maxL)
    (body : ∀ (p : Program) (e : Env) (s : State) (m : MethodId) (args : Array Value) (below : List Frame) (meth : Method) (c : Code) (ls : Array Slot) (Q : State → Prop), sz = s.heap.size → xCx p s m args c meth cc maxL y.cls G w → Rh G w z s.heap → va_S (xA w s.heap.size) s.heap s.heap [] → lv_has ls maxL (lv_args 0 av) →
      (∀ (z1 : xSt) (H : Heap) (locs : List Loc) (pc : Nat) (ls : Array Slot), decode cc pc = .ok (.return_, 1) → Rh G w z1 H → va_S (xA w s.heap.size) s.heap H locs → post z1 → W p l e rm s m args below meth c H locs rm.cells rm.slots Q (F0 m pc ls [])) →
      W p l e rm s m args below meth c s.heap [] 0 0 Q (F0 m 0 ls [])) : xMv l y cc maxL rm G w z sz av post := by
  refine x_met hy hav ?_
  intro p e s m below meth c ls hsz hx hb hr hml hown hts hlocks _ hK hZ hR hS hl
  subst hsz
  exact body p e s m _ below meth c ls _ rfl ⟨hx, hb, hml, hown, hts, hlocks, hK, hZ⟩ hR hS hl (fun z1 H locs pc ls hd hR hS hp => x_vret hx hb hr hlocks hR hS hp hd)
section XN
variable {p : Program} {l : Launch} {e : Env} {R : Room} {s : State} {m : MethodId} {args : Array Value} {below : List Frame} {meth : Method} {c : Code} {H : Heap} {locs : List Loc} {cells slots : Nat} {Q : State → Prop}
variable {cc : ByteArray} {pc : Nat} {ls : Array Slot} {rest : List Value}
theorem x_iaddN (hx : p.tables.exec = Jvm.exec) (hb : c.code = cc) {a b : Nat} (hdg : decode cc pc = .ok (.iadd, 1)) (k : W p l e R s m args below meth c H locs cells slots Q (F0 m (pc + 1) ls (.int (nI (a + b)) :: rest))) : W p l e R s m args below meth c H locs cells slots Q (F0 m pc ls (.int (nI b) :: .int (nI a) :: rest)) := by
  refine lv_iadd hx hb hdg ?_
  rw [nI_add]; exact k
theorem x_imulN (hx : p.tables.exec = Jvm.exec) (hb : c.code = cc) {a b : Nat} (hdg : decode cc pc = .ok (.imul, 1)) (k : W p l e R s m args below meth c H locs cells slots Q (F0 m (pc + 1) ls (.int (nI (a * b)) :: rest))) : W p l e R s m args below meth c H locs cells slots Q (F0 m pc ls (.int (nI b) :: .int (nI a) :: rest)) := by
  refine lv_imul hx hb hdg ?_
  rw [pk_mul]; exact k
theorem x_isubN (hx : p.tables.exec = Jvm.exec) (hb : c.code = cc) {a b : Nat} (h : b ≤ a) (hdg : decode cc pc = .ok (.isub, 1)) (k : W p l e R s m args below meth c H locs cells slots Q (F0 m (pc + 1) ls (.int (nI (a - b)) :: rest))) : W p l e R s m args below meth c H locs cells slots Q (F0 m pc ls (.int (nI b) :: .int (nI a) :: rest)) := by
  refine lv_isub hx hb hdg ?_
  rw [pk_sub h]; exact k
theorem x_top {x y : Int32} (h : x = y) (k : W p l e R s m args below meth c H locs cells slots Q (F0 m pc ls (.int y :: rest))) : W p l e R s m args below meth c H locs cells slots Q (F0 m pc ls (.int x :: rest)) := by rw [h]; exact k
theorem x_topl {x y : Int64} (h : x = y) (k : W p l e R s m args below meth c H locs cells slots Q (F0 m pc ls (.long y :: rest))) : W p l e R s m args below meth c H locs cells slots Q (F0 m pc ls (.long x :: rest)) := by rw [h]; exact k
theorem x_iinc1 (a : Nat) : nI a + Int32.ofInt 1 = nI (a + 1) := nI_1 a
end XN
theorem nlt_ge {a b : Nat} (h : ¬ a < b) : b ≤ a := Nat.le_of_not_lt h
section XC0
variable {p : Program} {l : Launch} {e : Env} {R : Room} {s : State} {m : MethodId} {args : Array Value} {below : List Frame} {meth : Method} {c : Code} {H : Heap} {locs : List Loc} {cells slots : Nat} {Q : State → Prop}
variable {pc : Nat} {ls : Array Slot} {rest st0 : List Value} {H0 : Heap} {G : xGl} {w : xWd} {mc ms : Nat} {a : Array Value}
theorem x_ci0 (h1 : mc = 0) (h2 : ms = 0) {post : Int32 → xSt → Prop} (hr : va_Run p l e R s m args below meth c H locs cells slots mc ms (F0 m pc ls st0) rest (va_Qi post (xB G w) (xA w H.size) a) (xA w H.size)) (hS : va_S (xA w H0.size) H0 H locs)
    (kk : ∀ (r : Int32) (z1 : xSt) (H1 : Heap) (locs1 : List Loc), post r z1 → Rh G w z1 H1 → va_S (xA w H0.size) H0 H1 locs1 → W p l e R s m args below meth c H1 locs1 cells slots Q (F0 m (pc + 3) ls (.int r :: rest))) : W p l e R s m args below meth c H locs cells slots Q (F0 m pc ls st0) := by
  subst h1; subst h2; exact x_ci hr hS kk
theorem x_cl0 (h1 : mc = 0) (h2 : ms = 0) {post : Int64 → xSt → Prop} (hr : va_Run p l e R s m args below meth c H locs cells slots mc ms (F0 m pc ls st0) rest (va_Ql post (xB G w) (xA w H.size) a) (xA w H.size)) (hS : va_S (xA w H0.size) H0 H locs)
    (kk : ∀ (r : Int64) (z1 : xSt) (H1 : Heap) (locs1 : List Loc), post r z1 → Rh G w z1 H1 → va_S (xA w H0.size) H0 H1 locs1 → W p l e R s m args below meth c H1 locs1 cells slots Q (F0 m (pc + 3) ls (.long r :: rest))) : W p l e R s m args below meth c H locs cells slots Q (F0 m pc ls st0) := by
  subst h1; subst h2; exact x_cl hr hS kk
theorem x_cv0 (h1 : mc = 0) (h2 : ms = 0) {post : xSt → Prop} (hr : va_Run p l e R s m args below meth c H locs cells slots mc ms (F0 m pc ls st0) rest (va_Qv post (xB G w) (xA w H.size) a) (xA w H.size)) (hS : va_S (xA w H0.size) H0 H locs)
    (kk : ∀ (z1 : xSt) (H1 : Heap) (locs1 : List Loc), post z1 → Rh G w z1 H1 → va_S (xA w H0.size) H0 H1 locs1 → W p l e R s m args below meth c H1 locs1 cells slots Q (F0 m (pc + 3) ls rest)) : W p l e R s m args below meth c H locs cells slots Q (F0 m pc ls st0) := by
  subst h1; subst h2; exact x_cv hr hS kk
end XC0
