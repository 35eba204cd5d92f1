/-! THE LAW'S LOOP: the two objects and the two cells in one heap -/
abbrev lA (s : State) : Nat → Prop := fun q => s.heap.size ≤ q
abbrev lE1 (G : xGl) (f : Nat → Int64) : va_E := .inl (G.2 3, 1, .inr (.inl f))
abbrev lE2 (cD : ClassId) (g : Nat → UInt64) : va_E := .inl (cD, 1, .inr (.inr (.inr (.inl g))))
/-- the component's world w, the reference's v, a cell for a long and one for a double, all made since sz, all apart -/
def lJ (G : xGl) (w v : xWd) (zc zm : xSt) (ou od : Nat) (e1 e2 : va_E) (sz : Nat) (H : Heap) : Prop :=
  (Rh G w zc H ∧ Rh G v zm H ∧ va_P G.1 vwCl [(ou, e1)] H ∧ va_P G.1 vwCl [(od, e2)] H) ∧
  ((∀ o, o < w.1 → sz ≤ w.2.2 o) ∧ (∀ o, o < v.1 → sz ≤ v.2.2 o) ∧ sz ≤ ou ∧ sz ≤ od) ∧
  ((∀ o o', o < w.1 → o' < v.1 → w.2.2 o ≠ v.2.2 o') ∧ (∀ o, o < w.1 → w.2.2 o ≠ ou) ∧ (∀ o, o < w.1 → w.2.2 o ≠ od) ∧ (∀ o, o < v.1 → v.2.2 o ≠ ou) ∧ (∀ o, o < v.1 → v.2.2 o ≠ od) ∧ ou ≠ od)
theorem Rh.lt {G : xGl} {w : xWd} {z : xSt} {H : Heap} (h : Rh G w z H) {o : Nat} (ho : o < w.1) : w.2.2 o < H.size := (h.1 o ho).lt
theorem P1_lt {G : xGl} {ou : Nat} {e0 : va_E} {H : Heap} (h : va_P G.1 vwCl [(ou, e0)] H) : ou < H.size := (h 0 _ rfl).lt
theorem P1_kept {G : xGl} {ou : Nat} {e0 : va_E} {H H1 : Heap} (h : va_P G.1 vwCl [(ou, e0)] H) (hk : H1[ou]? = H[ou]?) : va_P G.1 vwCl [(ou, e0)] H1 := by
  intro k q hq
  have hj := (List.getElem?_eq_some_iff.mp hq).1
  simp only [List.length_cons, List.length_nil] at hj
  have k0 : k = 0 := by omega
  have h0 := h k q hq
  rw [k0] at hq
  have e1 : q = (ou, e0) := (Option.some.inj hq).symm
  rw [e1] at h0 ⊢
  exact h0.kept hk
/-- behind a call over the component's world -/
theorem lJ.comp {G : xGl} {w v w2 : xWd} {zc zm z1 : xSt} {ou od : Nat} {e1 e2 : va_E} {sz : Nat} {H H1 : Heap} (h : lJ G w v zc zm ou od e1 e2 sz H) (hs : sz ≤ H.size) (hX : wX w w2 H.size) (hR : Rh G w2 z1 H1) (hk : ∀ q : Nat, q < H.size → ¬ xA w H.size q → H1[q]? = H[q]?) : lJ G w2 v z1 zm ou od e1 e2 sz H1 := by
  obtain ⟨⟨h1, h2, h3, h4⟩, ⟨h5, h6, h7, h8⟩, h9, h10, h11, h12, h13, h14⟩ := h
  have ad : ∀ o, o < w2.1 → (o < w.1 ∧ w2.2.2 o = w.2.2 o) ∨ H.size ≤ w2.2.2 o := by
    intro o ho
    rcases Nat.lt_or_ge o w.1 with q | q
    · exact Or.inl ⟨q, hX.2.1 o q⟩
    · exact Or.inr (hX.2.2 o q ho)
  have out : ∀ q, q < H.size → (∀ o, o < w.1 → w.2.2 o ≠ q) → H1[q]? = H[q]? := fun q hq hn => hk q hq (fun h => h.elim (fun ⟨o, ho, e⟩ => hn o ho e.symm) (fun h => absurd hq (Nat.not_lt.mpr h)))
  refine ⟨⟨hR, h2.kept (fun o ho => out _ (h2.lt ho) (fun o' ho' => h9 o' o ho' ho)), P1_kept h3 (out _ (P1_lt h3) h10), P1_kept h4 (out _ (P1_lt h4) h11)⟩, ⟨fun o ho => ?_, h6, h7, h8⟩, fun o o' ho ho' => ?_, fun o ho => ?_, fun o ho => ?_, h12, h13, h14⟩
  · rcases ad o ho with ⟨q, e⟩ | q
    · rw [e]; exact h5 o q
    · exact Nat.le_trans hs q
  · rcases ad o ho with ⟨q, e⟩ | q
    · rw [e]; exact h9 o o' q ho'
    · exact fun e => absurd (h2.lt ho') (by rw [← e]; exact Nat.not_lt.mpr q)
  · rcases ad o ho with ⟨q, e⟩ | q
    · rw [e]; exact h10 o q
    · exact fun e => absurd (P1_lt h3) (by rw [← e]; exact Nat.not_lt.mpr q)
  · rcases ad o ho with ⟨q, e⟩ | q
    · rw [e]; exact h11 o q
    · exact fun e => absurd (P1_lt h4) (by rw [← e]; exact Nat.not_lt.mpr q)
/-- behind a call over the reference's world -/
theorem lJ.refe {G : xGl} {w v : xWd} {zc zm z1 : xSt} {ou od : Nat} {e1 e2 : va_E} {sz : Nat} {H H1 : Heap} (h : lJ G w v zc zm ou od e1 e2 sz H) (hR : Rh G v z1 H1) (hk : ∀ q : Nat, q < H.size → ¬ xA v H.size q → H1[q]? = H[q]?) : lJ G w v zc z1 ou od e1 e2 sz H1 := by
  obtain ⟨⟨h1, h2, h3, h4⟩, h5, h9, h10, h11, h12, h13, h14⟩ := h
  have out : ∀ q, q < H.size → (∀ o, o < v.1 → v.2.2 o ≠ q) → H1[q]? = H[q]? := fun q hq hn => hk q hq (fun h => h.elim (fun ⟨o, ho, e⟩ => hn o ho e.symm) (fun h => absurd hq (Nat.not_lt.mpr h)))
  exact ⟨⟨h1.kept (fun o ho => out _ (h1.lt ho) (fun o' ho' e => h9 o o' ho ho' e.symm)), hR, P1_kept h3 (out _ (P1_lt h3) h12), P1_kept h4 (out _ (P1_lt h4) h13)⟩, h5, h9, h10, h11, h12, h13, h14⟩
/-- behind a helper's call with the cell of a long -/
theorem lJ.hlp {G : xGl} {w v : xWd} {zc zm z1 : xSt} {ou od : Nat} {e1 e2 e3 : va_E} {sz : Nat} {H H1 : Heap} (h : lJ G w v zc zm ou od e1 e2 sz H) (hR : Rh G w z1 H1) (hP : va_P G.1 vwCl [(ou, e3)] H1) (hk : ∀ q : Nat, q < H.size → ¬ xAw w ou H.size q → H1[q]? = H[q]?) : lJ G w v z1 zm ou od e3 e2 sz H1 := by
  obtain ⟨⟨h1, h2, h3, h4⟩, h5, h9, h10, h11, h12, h13, h14⟩ := h
  have out : ∀ q, q < H.size → (∀ o, o < w.1 → w.2.2 o ≠ q) → q ≠ ou → H1[q]? = H[q]? := fun q hq hn hn2 => hk q hq (fun h => h.elim (fun h => h.elim (fun ⟨o, ho, e⟩ => hn o ho e.symm) (fun h => absurd hq (Nat.not_lt.mpr h))) hn2)
  exact ⟨⟨hR, h2.kept (fun o ho => out _ (h2.lt ho) (fun o' ho' => h9 o' o ho' ho) (h12 o ho)), hP, P1_kept h4 (out _ (P1_lt h4) h11 (Ne.symm h14))⟩, h5, h9, h10, h11, h12, h13, h14⟩
/-- with the cell of a double -/
theorem lJ.hlpD {G : xGl} {w v : xWd} {zc zm z1 : xSt} {ou od : Nat} {e1 e2 e3 : va_E} {sz : Nat} {H H1 : Heap} (h : lJ G w v zc zm ou od e1 e2 sz H) (hR : Rh G w z1 H1) (hP : va_P G.1 vwCl [(od, e3)] H1) (hk : ∀ q : Nat, q < H.size → ¬ xAw w od H.size q → H1[q]? = H[q]?) : lJ G w v z1 zm ou od e1 e3 sz H1 := by
  obtain ⟨⟨h1, h2, h3, h4⟩, h5, h9, h10, h11, h12, h13, h14⟩ := h
  have out : ∀ q, q < H.size → (∀ o, o < w.1 → w.2.2 o ≠ q) → q ≠ od → H1[q]? = H[q]? := fun q hq hn hn2 => hk q hq (fun h => h.elim (fun h => h.elim (fun ⟨o, ho, e⟩ => hn o ho e.symm) (fun h => absurd hq (Nat.not_lt.mpr h))) hn2)
  exact ⟨⟨hR, h2.kept (fun o ho => out _ (h2.lt ho) (fun o' ho' => h9 o' o ho' ho) (h13 o ho)), P1_kept h3 (out _ (P1_lt h3) h10 h14), hP⟩, h5, h9, h10, h11, h12, h13, h14⟩
theorem vx_run0 {p : Program} {l : Launch} {e : Env} {R : Room} {s : State} {m : MethodId} {args : Array Value} {below : List Frame} {meth : Method} {c : Code} {H : Heap} {locs : List Loc} {cells slots mc ms : Nat} {g : JFrame} {rest : List Value} {Qa : State → Outcome → State → Prop} {free : Addr → Prop} (h : vx_Run p l e R s m args below meth c H locs cells slots mc ms g rest Qa (fun _ _ _ => False) free) : va_Run p l e R s m args below meth c H locs cells slots mc ms g rest Qa free := by
  intro T hT X
  rcases h T hT X with h | ⟨q, st0, t, T', L, E, ce, -, -, -, -, -, h, -⟩
  · exact h
  · exact h.elim
/-- what holds all along the law's body -/
def lC (p : Program) (s : State) (m : MethodId) (args : Array Value) (c : Code) (b L : Nat) (xs : Nat → Int32) (G : xGl) (cD : ClassId) : Prop := p.tables.exec = Jvm.exec ∧ c.code = cL_law ∧ c.maxLocals = 9 ∧ s.vm.findClass RL = some m.cls ∧ (∀ w ∈ xw, w.before args s = true) ∧ va_K G.1 vwCl (xtyD G cD) s ∧ xZ (lA s) s s.heap ∧ va_X b L xs s s.heap ∧ b < s.heap.size
section LL
variable {p : Program} {l : Launch} {e : Env} {R : Room} {s : State} {m : MethodId} {args : Array Value} {below : List Frame} {meth : Method} {c : Code} {H : Heap} {locs : List Loc} {cells slots : Nat} {Q : State → Prop}
variable {bytes : ByteArray} {pc : Nat} {ls : Array Slot} {rest st0 : List Value} {G : xGl} {cD : ClassId} {w v : xWd} {zc zm : xSt} {ou od : Nat} {e1 e2 : va_E} {y : MethodName} {maxL index n : Nat} {ret : Option FieldType} {rm : Room} {b L K : Nat} {xs : Nat → Int32} {As : List Value}
theorem lJ.subw (h : lJ G w v zc zm ou od e1 e2 s.heap.size H) (hS : va_S (lA s) s.heap H locs) : ∀ q, xA w H.size q → lA s q := fun q hq => hq.elim (fun ⟨o, ho, e⟩ => by rw [e]; exact h.2.1.1 o ho) (fun h => Nat.le_trans hS.1 h)
theorem lJ.subv (h : lJ G w v zc zm ou od e1 e2 s.heap.size H) (hS : va_S (lA s) s.heap H locs) : ∀ q, xA v H.size q → lA s q := fun q hq => hq.elim (fun ⟨o, ho, e⟩ => by rw [e]; exact h.2.1.2.1 o ho) (fun h => Nat.le_trans hS.1 h)
/-- a component's method that answers an int -/
theorem j_c {post : Int32 → xSt → Prop} (C : lC p s m args c b L xs G cD) (hI : lJ G w v zc zm ou od e1 e2 s.heap.size H) (hS : va_S (lA s) s.heap H locs) (hw : isC K w) (hM : xMi l y bytes maxL ret rm G w zc H.size (.ref (w.2.2 0) :: As) post) (hmv : xMV y RX9 bytes maxL ret n) (hq : Cond.methodLink RL index y ∈ xw)
    (hn : As.length = n) (hl : ls.size = 9) (hst : st0 = As.reverse ++ .ref (w.2.2 0) :: rest) (hW : (rest.map fun v => v.category).sum ≤ 8) (hdg : decode cL_law pc = .ok (.invokevirtual index, 3)) (hroom : rm.frames + 1 ≤ R.frames ∧ 8 + (maxL + 11) + rm.locals ≤ R.locals) (hf : cells + rm.cells ≤ R.cells ∧ slots + rm.slots ≤ R.slots)
    (kk : ∀ (r : Int32) (z1 : xSt) (H1 : Heap) (locs1 : List Loc), post r z1 → lJ G w v z1 zm ou od e1 e2 s.heap.size H1 → va_S (lA s) s.heap H1 locs1 → W p l e R s m args below meth c H1 locs1 (cells + rm.cells) (slots + rm.slots) Q (F0 m (pc + 3) ls (.int r :: rest))) : W p l e R s m args below meth c H locs cells slots Q (F0 m pc ls st0) := by
  obtain ⟨hx, hcb, hml, hown, hts, hK, hZ, hX, hbl⟩ := C
  exact l_ci (l_runV (w := w) (o := 0) (As := As) (rest := rest) hx hcb hml hown hts hM hmv hq (xtyD_0 hK) hZ hI.1.1 hS (hI.subw hS) (hw.lo (by decide)) xc9 (hw.s0 (by decide) rfl) hn hl hst hW hdg hroom hf) hS (hI.subw hS) (fun r z1 H1 locs1 hp hR hk hS1 => kk r z1 H1 locs1 hp (hI.comp hS.1 wX.r0 hR hk) hS1)
/-- one that may make a kept Books -/
theorem j_g {post : Int32 → xWd × xSt → Prop} (C : lC p s m args c b L xs G cD) (hI : lJ G w v zc zm ou od e1 e2 s.heap.size H) (hS : va_S (lA s) s.heap H locs) (hw : isC K w) (hM : xMgi l y bytes maxL ret rm G w zc H.size (.ref (w.2.2 0) :: As) post) (hpX : ∀ r u, post r u → wX w u.1 H.size) (hmv : xMV y RX9 bytes maxL ret n) (hq : Cond.methodLink RL index y ∈ xw)
    (hn : As.length = n) (hl : ls.size = 9) (hst : st0 = As.reverse ++ .ref (w.2.2 0) :: rest) (hW : (rest.map fun v => v.category).sum ≤ 8) (hdg : decode cL_law pc = .ok (.invokevirtual index, 3)) (hroom : rm.frames + 1 ≤ R.frames ∧ 8 + (maxL + 11) + rm.locals ≤ R.locals) (hf : cells + rm.cells ≤ R.cells ∧ slots + rm.slots ≤ R.slots)
    (kk : ∀ (r : Int32) (w2 : xWd) (z1 : xSt) (H1 : Heap) (locs1 : List Loc), post r (w2, z1) → w2.2.2 0 = w.2.2 0 → lJ G w2 v z1 zm ou od e1 e2 s.heap.size H1 → va_S (lA s) s.heap H1 locs1 → W p l e R s m args below meth c H1 locs1 (cells + rm.cells) (slots + rm.slots) Q (F0 m (pc + 3) ls (.int r :: rest))) : W p l e R s m args below meth c H locs cells slots Q (F0 m pc ls st0) := by
  obtain ⟨hx, hcb, hml, hown, hts, hK, hZ, hX, hbl⟩ := C
  exact l_cgi (l_runV (w := w) (o := 0) (As := As) (rest := rest) hx hcb hml hown hts hM hmv hq (xtyD_0 hK) hZ hI.1.1 hS (hI.subw hS) (hw.lo (by decide)) xc9 (hw.s0 (by decide) rfl) hn hl hst hW hdg hroom hf) hS (hI.subw hS) (fun r w2 z1 H1 locs1 hp hR hk hS1 => kk r w2 z1 H1 locs1 hp ((hpX r (w2, z1) hp).2.1 0 (hw.lo (by decide))) (hI.comp hS.1 (hpX r (w2, z1) hp) hR hk) hS1)
/-- the reference's methods: an int, a float, a double -/
theorem j_m {post : Int32 → xSt → Prop} (C : lC p s m args c b L xs G cD) (hI : lJ G w v zc zm ou od e1 e2 s.heap.size H) (hS : va_S (lA s) s.heap H locs) (hv : isM v) (hM : xMi l y bytes maxL ret rm G v zm H.size (.ref (v.2.2 0) :: As) post) (hmv : xMV y RX10 bytes maxL ret n) (hq : Cond.methodLink RL index y ∈ xw)
    (hn : As.length = n) (hl : ls.size = 9) (hst : st0 = As.reverse ++ .ref (v.2.2 0) :: rest) (hW : (rest.map fun v => v.category).sum ≤ 8) (hdg : decode cL_law pc = .ok (.invokevirtual index, 3)) (hroom : rm.frames + 1 ≤ R.frames ∧ 8 + (maxL + 11) + rm.locals ≤ R.locals) (hf : cells + rm.cells ≤ R.cells ∧ slots + rm.slots ≤ R.slots)
    (kk : ∀ (r : Int32) (z1 : xSt) (H1 : Heap) (locs1 : List Loc), post r z1 → lJ G w v zc z1 ou od e1 e2 s.heap.size H1 → va_S (lA s) s.heap H1 locs1 → W p l e R s m args below meth c H1 locs1 (cells + rm.cells) (slots + rm.slots) Q (F0 m (pc + 3) ls (.int r :: rest))) : W p l e R s m args below meth c H locs cells slots Q (F0 m pc ls st0) := by
  obtain ⟨hx, hcb, hml, hown, hts, hK, hZ, hX, hbl⟩ := C
  exact l_ci (l_runV (w := v) (o := 0) (As := As) (rest := rest) hx hcb hml hown hts hM hmv hq (xtyD_0 hK) hZ hI.1.2.1 hS (hI.subv hS) (hv.lo (by decide)) xc10 (hv.s0 rfl) hn hl hst hW hdg hroom hf) hS (hI.subv hS) (fun r z1 H1 locs1 hp hR hk hS1 => kk r z1 H1 locs1 hp (hI.refe hR hk) hS1)
theorem j_mf {post : UInt32 → xSt → Prop} (C : lC p s m args c b L xs G cD) (hI : lJ G w v zc zm ou od e1 e2 s.heap.size H) (hS : va_S (lA s) s.heap H locs) (hv : isM v) (hM : xMf l y bytes maxL ret rm G v zm H.size (.ref (v.2.2 0) :: As) post) (hmv : xMV y RX10 bytes maxL ret n) (hq : Cond.methodLink RL index y ∈ xw)
    (hn : As.length = n) (hl : ls.size = 9) (hst : st0 = As.reverse ++ .ref (v.2.2 0) :: rest) (hW : (rest.map fun v => v.category).sum ≤ 8) (hdg : decode cL_law pc = .ok (.invokevirtual index, 3)) (hroom : rm.frames + 1 ≤ R.frames ∧ 8 + (maxL + 11) + rm.locals ≤ R.locals) (hf : cells + rm.cells ≤ R.cells ∧ slots + rm.slots ≤ R.slots)
    (kk : ∀ (r : UInt32) (z1 : xSt) (H1 : Heap) (locs1 : List Loc), post r z1 → lJ G w v zc z1 ou od e1 e2 s.heap.size H1 → va_S (lA s) s.heap H1 locs1 → W p l e R s m args below meth c H1 locs1 (cells + rm.cells) (slots + rm.slots) Q (F0 m (pc + 3) ls (.float r :: rest))) : W p l e R s m args below meth c H locs cells slots Q (F0 m pc ls st0) := by
  obtain ⟨hx, hcb, hml, hown, hts, hK, hZ, hX, hbl⟩ := C
  exact l_cf (l_runV (w := v) (o := 0) (As := As) (rest := rest) hx hcb hml hown hts hM hmv hq (xtyD_0 hK) hZ hI.1.2.1 hS (hI.subv hS) (hv.lo (by decide)) xc10 (hv.s0 rfl) hn hl hst hW hdg hroom hf) hS (hI.subv hS) (fun r z1 H1 locs1 hp hR hk hS1 => kk r z1 H1 locs1 hp (hI.refe hR hk) hS1)
theorem j_md {post : UInt64 → xSt → Prop} (C : lC p s m args c b L xs G cD) (hI : lJ G w v zc zm ou od e1 e2 s.heap.size H) (hS : va_S (lA s) s.heap H locs) (hv : isM v) (hM : xMd l y bytes maxL ret rm G v zm H.size (.ref (v.2.2 0) :: As) post) (hmv : xMV y RX10 bytes maxL ret n) (hq : Cond.methodLink RL index y ∈ xw)
    (hn : As.length = n) (hl : ls.size = 9) (hst : st0 = As.reverse ++ .ref (v.2.2 0) :: rest) (hW : (rest.map fun v => v.category).sum ≤ 8) (hdg : decode cL_law pc = .ok (.invokevirtual index, 3)) (hroom : rm.frames + 1 ≤ R.frames ∧ 8 + (maxL + 11) + rm.locals ≤ R.locals) (hf : cells + rm.cells ≤ R.cells ∧ slots + rm.slots ≤ R.slots)
    (kk : ∀ (r : UInt64) (z1 : xSt) (H1 : Heap) (locs1 : List Loc), post r z1 → lJ G w v zc z1 ou od e1 e2 s.heap.size H1 → va_S (lA s) s.heap H1 locs1 → W p l e R s m args below meth c H1 locs1 (cells + rm.cells) (slots + rm.slots) Q (F0 m (pc + 3) ls (.double r :: rest))) : W p l e R s m args below meth c H locs cells slots Q (F0 m pc ls st0) := by
  obtain ⟨hx, hcb, hml, hown, hts, hK, hZ, hX, hbl⟩ := C
  exact l_cd (l_runV (w := v) (o := 0) (As := As) (rest := rest) hx hcb hml hown hts hM hmv hq (xtyD_0 hK) hZ hI.1.2.1 hS (hI.subv hS) (hv.lo (by decide)) xc10 (hv.s0 rfl) hn hl hst hW hdg hroom hf) hS (hI.subv hS) (fun r z1 H1 locs1 hp hR hk hS1 => kk r z1 H1 locs1 hp (hI.refe hR hk) hS1)
/-- what the words say of a helper -/
def xMH (y : MethodName) (bytes : ByteArray) (maxL : Nat) (hh : List (Nat × Nat × Nat × Nat)) (n : Nat) : Prop := Cond.static y ∈ xw ∧ Cond.initialized y.cls ∈ xw ∧ Cond.codeWith y bytes maxL (some .int) hh ∈ xw ∧ (y.cls ≠ "java/lang/invoke/MethodHandle" ∧ y.cls ≠ "java/lang/invoke/VarHandle" ∧ (parseMethodDescriptor y.desc).map (fun d => d.parameters.length) = some n)
theorem j_hr {oc : Nat} {e0 : va_E} {hh : List (Nat × Nat × Nat × Nat)} {post : Int32 → xSt × va_E → Prop} (C : lC p s m args c b L xs G cD) (hR : Rh G w zc H) (hP : va_P G.1 vwCl [(oc, e0)] H) (hap : ∀ o, o < w.1 → w.2.2 o ≠ oc) (hsub : ∀ q, xAw w oc H.size q → lA s q) (hS : va_S (lA s) s.heap H locs) (hM : xMw l y bytes maxL hh rm G cD w zc e0 oc H.size As post) (hmh : xMH y bytes maxL hh n) (hq : Cond.methodLink RL index y ∈ xw)
    (hn : As.length = n) (hl : ls.size = 9) (hst : st0 = As.reverse ++ rest) (hW : (rest.map fun v => v.category).sum ≤ 8) (hdg : decode cL_law pc = .ok (.invokestatic index, 3)) (hroom : rm.frames + 1 ≤ R.frames ∧ 8 + (maxL + 11) + rm.locals ≤ R.locals) (hf : cells + rm.cells ≤ R.cells ∧ slots + rm.slots ≤ R.slots)
    (kk : ∀ (r : Int32) (z1 : xSt) (e3 : va_E) (H1 : Heap) (locs1 : List Loc), post r (z1, e3) → Rh G w z1 H1 → va_P G.1 vwCl [(oc, e3)] H1 → (∀ q : Nat, q < H.size → ¬ xAw w oc H.size q → H1[q]? = H[q]?) → va_S (lA s) s.heap H1 locs1 → W p l e R s m args below meth c H1 locs1 (cells + rm.cells) (slots + rm.slots) Q (F0 m (pc + 3) ls (.int r :: rest))) : W p l e R s m args below meth c H locs cells slots Q (F0 m pc ls st0) := by
  obtain ⟨hx, hcb, hml, hown, hts, hK, hZ, hX, hbl⟩ := C
  obtain ⟨g1, g2, g3, g4⟩ := hmh
  have hG : GoodIn xw (va_wsS RL index y (Cond.codeWith y bytes maxL (some .int) hh :: xw)) := by
    intro w9 h9
    have h9 : w9 ∈ xw := by
      rcases List.mem_append.mp h9 with h | h
      · simp only [List.mem_cons, List.not_mem_nil, or_false] at h
        rcases h with rfl | rfl | rfl
        · exact hq
        · exact g1
        · exact g2
      · rcases List.mem_cons.mp h with rfl | h
        · exact g3
        · exact h
    exact ⟨h9, xw_good h9⟩
  have hrun := vx_runSX (As := As) (rest := rest) (Ts := xw) (below := below) (meth := meth) (locs := locs) (cells := cells) (slots := slots) (e := e) (R := R) (H := H) (g := F0 m pc ls st0) (hh := hh) ⟨hx, hcb, hml, hown, hts⟩ hM (vx_cwSW n hts hG rfl rfl rfl g4 hroom) ⟨xPw_blind, fun U hU hW => ⟨rfl, by rw [hU], by rw [hU]; exact hR, by rw [hU]; exact hP, hap, va_K.moved hW.alike hK, by rw [hU]; exact hZ.mv hW hsub hS.2.1⟩⟩ rfl hn hl hst (lv_room hW) hdg hf
  exact va_calli (vx_run0 hrun) hS (fun q _ h => hsub q h) hsub (fun r u t H1 locs1 ht _ hp hB _ hk hS1 => kk r u.1 u.2 H1 locs1 hp (ht ▸ hB.1) (ht ▸ hB.2) hk hS1)
theorem j_h {hh : List (Nat × Nat × Nat × Nat)} {post : Int32 → xSt × va_E → Prop} (C : lC p s m args c b L xs G cD) (hI : lJ G w v zc zm ou od e1 e2 s.heap.size H) (hS : va_S (lA s) s.heap H locs) (hM : xMw l y bytes maxL hh rm G cD w zc e1 ou H.size As post) (hmh : xMH y bytes maxL hh n) (hq : Cond.methodLink RL index y ∈ xw)
    (hn : As.length = n) (hl : ls.size = 9) (hst : st0 = As.reverse ++ rest) (hW : (rest.map fun v => v.category).sum ≤ 8) (hdg : decode cL_law pc = .ok (.invokestatic index, 3)) (hroom : rm.frames + 1 ≤ R.frames ∧ 8 + (maxL + 11) + rm.locals ≤ R.locals) (hf : cells + rm.cells ≤ R.cells ∧ slots + rm.slots ≤ R.slots)
    (kk : ∀ (r : Int32) (z1 : xSt) (e3 : va_E) (H1 : Heap) (locs1 : List Loc), post r (z1, e3) → lJ G w v z1 zm ou od e3 e2 s.heap.size H1 → va_S (lA s) s.heap H1 locs1 → W p l e R s m args below meth c H1 locs1 (cells + rm.cells) (slots + rm.slots) Q (F0 m (pc + 3) ls (.int r :: rest))) : W p l e R s m args below meth c H locs cells slots Q (F0 m pc ls st0) :=
  j_hr C hI.1.1 hI.1.2.2.1 hI.2.2.2.1 (fun q hq => hq.elim (hI.subw hS q) (fun h => by rw [h]; exact hI.2.1.2.2.1)) hS hM hmh hq hn hl hst hW hdg hroom hf (fun r z1 e3 H1 locs1 hp hR hP hk hS1 => kk r z1 e3 H1 locs1 hp (hI.hlp hR hP hk) hS1)
theorem j_hD {hh : List (Nat × Nat × Nat × Nat)} {post : Int32 → xSt × va_E → Prop} (C : lC p s m args c b L xs G cD) (hI : lJ G w v zc zm ou od e1 e2 s.heap.size H) (hS : va_S (lA s) s.heap H locs) (hM : xMw l y bytes maxL hh rm G cD w zc e2 od H.size As post) (hmh : xMH y bytes maxL hh n) (hq : Cond.methodLink RL index y ∈ xw)
    (hn : As.length = n) (hl : ls.size = 9) (hst : st0 = As.reverse ++ rest) (hW : (rest.map fun v => v.category).sum ≤ 8) (hdg : decode cL_law pc = .ok (.invokestatic index, 3)) (hroom : rm.frames + 1 ≤ R.frames ∧ 8 + (maxL + 11) + rm.locals ≤ R.locals) (hf : cells + rm.cells ≤ R.cells ∧ slots + rm.slots ≤ R.slots)
    (kk : ∀ (r : Int32) (z1 : xSt) (e3 : va_E) (H1 : Heap) (locs1 : List Loc), post r (z1, e3) → lJ G w v z1 zm ou od e1 e3 s.heap.size H1 → va_S (lA s) s.heap H1 locs1 → W p l e R s m args below meth c H1 locs1 (cells + rm.cells) (slots + rm.slots) Q (F0 m (pc + 3) ls (.int r :: rest))) : W p l e R s m args below meth c H locs cells slots Q (F0 m pc ls st0) :=
  j_hr C hI.1.1 hI.1.2.2.2 hI.2.2.2.2.1 (fun q hq => hq.elim (hI.subw hS q) (fun h => by rw [h]; exact hI.2.1.2.2.2)) hS hM hmh hq hn hl hst hW hdg hroom hf (fun r z1 e3 H1 locs1 hp hR hP hk hS1 => kk r z1 e3 H1 locs1 hp (hI.hlpD hR hP hk) hS1)
/-- the law's script read at i + k -/
theorem j_s {i k : Nat} {kz : Int} (C : lC p s m args c b L xs G cD) (hS : va_S (lA s) s.heap H locs) (h0 : ls[0]? = some (.val (.ref b))) (h5 : ls[5]? = some (.val (.int (nI i)))) (hkz : Int32.ofInt kz = nI k) (hi : i + k < L) (hL : L ≤ 3072) (d1 : decode cL_law pc = .ok (.aload_n 0, 1)) (d2 : decode cL_law (pc + 1) = .ok (.iload 5, 2)) (d3 : decode cL_law (pc + 3) = .ok (.iconst kz, 1)) (d4 : decode cL_law (pc + 4) = .ok (.iadd, 1)) (d5 : decode cL_law (pc + 5) = .ok (.iaload, 1))
    (kk : W p l e R s m args below meth c H locs cells slots Q (F0 m (pc + 6) ls (.int (xs (i + k)) :: rest))) : W p l e R s m args below meth c H locs cells slots Q (F0 m pc ls rest) := by
  obtain ⟨hx, hcb, hml, hown, hts, hK, hZ, hX, hbl⟩ := C
  refine lv_aload_n hx hcb d1 rfl h0 ?_
  refine lv_iload hx hcb d2 h5 ?_
  refine lv_iconst (v := nI k) hx hcb d3 hkz ?_
  refine lv_iadd hx hcb d4 ?_
  rw [nI_add]
  refine va_sld hx hcb hX hbl (Nat.not_le.mpr hbl) hS (vp_in_nI hi (by omega)) d5 ?_
  rw [nI_clamp (by omega)]
  exact kk
end LL
