/-- the world as one list of cells -/
def xwl (G : xGl) (w : xWd) (z : xSt) : va_W := (List.range w.1).map (fun o => (w.2.2 o, xent G w.2.2 (z.1 o) (z.2 o) (w.2.1 o)))
theorem xwl_get {G : xGl} {w : xWd} {z : xSt} {o : Nat} (ho : o < w.1) : (xwl G w z)[o]? = some (w.2.2 o, xent G w.2.2 (z.1 o) (z.2 o) (w.2.1 o)) := by
  simp [xwl, ho]
theorem xwl_of {G : xGl} {w : xWd} {z : xSt} {o : Nat} {q : Nat × va_E} (h : (xwl G w z)[o]? = some q) : o < w.1 ∧ q = (w.2.2 o, xent G w.2.2 (z.1 o) (z.2 o) (w.2.1 o)) := by
  have h1 : o < (xwl G w z).length := (List.getElem?_eq_some_iff.mp h).1
  have ho : o < w.1 := by simpa [xwl] using h1
  rw [xwl_get ho] at h
  exact ⟨ho, (Option.some.inj h).symm⟩
theorem Rh.P {G : xGl} {w : xWd} {z : xSt} {H : Heap} (h : Rh G w z H) : va_P G.1 vwCl (xwl G w z) H := by
  intro k q hk
  obtain ⟨ho, rfl⟩ := xwl_of hk
  exact h.1 k ho
theorem Rh.D {G : xGl} {w : xWd} {z : xSt} {H : Heap} (h : Rh G w z H) (sz : Nat) : va_D (xA w sz) (xwl G w z) := by
  refine ⟨fun i j p q hi hj e => ?_, fun k q hk => ?_⟩
  · obtain ⟨h1, rfl⟩ := xwl_of hi
    obtain ⟨h2, rfl⟩ := xwl_of hj
    exact h.2 i j h1 h2 e
  · obtain ⟨h1, rfl⟩ := xwl_of hk
    exact xA_S h1
theorem Rh.ofP {G : xGl} {w : xWd} {z : xSt} {H : Heap} (h : va_P G.1 vwCl (xwl G w z) H) (hi : ∀ o o' : Nat, o < w.1 → o' < w.1 → w.2.2 o = w.2.2 o' → o = o') : Rh G w z H := ⟨fun o ho => h o _ (xwl_get ho), hi⟩
theorem xwl_set {G : xGl} {w : xWd} {z : xSt} {o : Nat} {e : va_E} {f : Nat → Int32} (he : xent G w.2.2 f (z.2 o) (w.2.1 o) = e) : (xwl G w z).set o (w.2.2 o, e) = xwl G w (ur z o f) := by
  apply List.ext_getElem?
  intro i
  rw [List.getElem?_set]
  by_cases hi : i < w.1
  · rw [xwl_get (z := ur z o f) hi]
    by_cases hoi : o = i
    · subst hoi
      have hl : o < (xwl G w z).length := by simpa [xwl] using hi
      rw [if_pos rfl, if_pos hl]
      show some (w.2.2 o, e) = some (w.2.2 o, xent G w.2.2 (va_up z.1 o f o) (z.2 o) (w.2.1 o))
      rw [va_up_self, he]
    · rw [if_neg hoi, xwl_get hi]
      show _ = some (w.2.2 i, xent G w.2.2 (va_up z.1 o f i) (z.2 i) (w.2.1 i))
      rw [va_up_ne _ _ (Ne.symm hoi)]
  · have h1 : (xwl G w z)[i]? = none := by simp [xwl, hi]
    have h2 : (xwl G w (ur z o f))[i]? = none := by simp [xwl, hi]
    by_cases hoi : o = i
    · subst hoi
      have hl : ¬ o < (xwl G w z).length := by simpa [xwl] using hi
      rw [if_pos rfl, if_neg hl, h2]
    · rw [if_neg hoi, h1, h2]
section XB
variable {p : Program} {l : Launch} {e : Env} {R : Room} {s : State} {m : MethodId} {args : Array Value} {below : List Frame} {meth : Method} {c : Code} {H : Heap} {locs : List Loc} {cells slots : Nat} {Q : State → Prop}
variable {cc : ByteArray} {pc nL : Nat} {ls : Array Slot} {rest : List Value} {H0 : Heap} {G : xGl} {w : xWd} {z : xSt} {own : String} {index : Nat}
theorem x_min (hx : p.tables.exec = Jvm.exec) (hb : c.code = cc) (hml : c.maxLocals = nL) (hown : s.vm.findClass own = some m.cls) (hts : ∀ w ∈ xw, w.before args s = true) (hl : ls.size = nL) (hq : Cond.methodLink own index yJ9_min_7cf53 ∈ xw)
    (hframes : 1 ≤ R.frames) (hlocals : (rest.map fun v => v.category).sum + 13 ≤ R.locals) (hc : cells ≤ R.cells) (hs : slots ≤ R.slots) {x y : Int32} (hdg : decode cc pc = .ok (.invokestatic index, 3))
    (kk : W p l e R s m args below meth c H locs cells slots Q (F0 m (pc + 3) ls (.int (if y < x then y else x) :: rest))) : W p l e R s m args below meth c H locs cells slots Q (F0 m pc ls (.int y :: .int x :: rest)) :=
  va_mmin hx hb (hml.trans hl.symm) hown (hts _ hq) (hts _ ms_J9_min_7cf53.1) (hts _ ms_J9_min_7cf53.2.1) (hts _ ms_J9_min_7cf53.2.2.1) hframes hlocals hc hs hdg kk
theorem x_max (hx : p.tables.exec = Jvm.exec) (hb : c.code = cc) (hml : c.maxLocals = nL) (hown : s.vm.findClass own = some m.cls) (hts : ∀ w ∈ xw, w.before args s = true) (hl : ls.size = nL) (hq : Cond.methodLink own index yJ9_max_7cf53 ∈ xw)
    (hframes : 1 ≤ R.frames) (hlocals : (rest.map fun v => v.category).sum + 13 ≤ R.locals) (hc : cells ≤ R.cells) (hs : slots ≤ R.slots) {x y : Int32} (hdg : decode cc pc = .ok (.invokestatic index, 3))
    (kk : W p l e R s m args below meth c H locs cells slots Q (F0 m (pc + 3) ls (.int (if x < y then y else x) :: rest))) : W p l e R s m args below meth c H locs cells slots Q (F0 m pc ls (.int y :: .int x :: rest)) :=
  va_mmax hx hb (hml.trans hl.symm) hown (hts _ hq) (hts _ ms_J9_max_7cf53.1) (hts _ ms_J9_max_7cf53.2.1) (hts _ ms_J9_max_7cf53.2.2.1) hframes hlocals hc hs hdg kk
theorem x_abs (hx : p.tables.exec = Jvm.exec) (hb : c.code = cc) (hml : c.maxLocals = nL) (hown : s.vm.findClass own = some m.cls) (hts : ∀ w ∈ xw, w.before args s = true) (hl : ls.size = nL) (hq : Cond.methodLink own index yJ9_abs_0f7a4 ∈ xw)
    (hframes : 1 ≤ R.frames) (hlocals : (rest.map fun v => v.category).sum + 13 ≤ R.locals) (hc : cells ≤ R.cells) (hs : slots ≤ R.slots) {x : Int32} (hdg : decode cc pc = .ok (.invokestatic index, 3))
    (kk : W p l e R s m args below meth c H locs cells slots Q (F0 m (pc + 3) ls (.int (if 0 ≤ x then x else 0 - x) :: rest))) : W p l e R s m args below meth c H locs cells slots Q (F0 m pc ls (.int x :: rest)) :=
  va_mabs hx hb (hml.trans hl.symm) hown (hts _ hq) (hts _ ms_J9_abs_0f7a4.1) (hts _ ms_J9_abs_0f7a4.2.1) (hts _ ms_J9_abs_0f7a4.2.2.1) hframes hlocals hc hs hdg kk
theorem x_copy (hx : p.tables.exec = Jvm.exec) (hb : c.code = cc) (hml : c.maxLocals = nL) (hown : s.vm.findClass own = some m.cls) (hts : ∀ w ∈ xw, w.before args s = true) (hl : ls.size = nL) (hq : Cond.methodLink own index arraycopyName ∈ xw)
    (hK : va_K G.1 vwCl (xtys G) s) (hR : Rh G w z H) (hS : va_S (xA w H0.size) H0 H locs) {o0 o1 n0 n1 : Nat} (h0 : o0 < w.1) (s0 : w.2.1 o0 = .inr (.inl (0, n0))) (h1 : o1 < w.1) (s1 : w.2.1 o1 = .inr (.inl (0, n1)))
    {sp dp n : Nat} (h4 : sp + n ≤ n0) (h5 : dp + n ≤ n1) (hn0 : n0 < 2147483648) (hn1 : n1 < 2147483648)
    (hframes : 1 ≤ R.frames) (hlocals : (rest.map fun v => v.category).sum + (nativeFrameWords "java/lang/System" "arraycopy" 5 + 11) ≤ R.locals) (hdg : decode cc pc = .ok (.invokestatic index, 3))
    (kk : ∀ (H1 : Heap) (locs1 : List Loc), Rh G w (ur z o1 (va_cpy (z.1 o0) (z.1 o1) sp dp n)) H1 → va_S (xA w H0.size) H0 H1 locs1 → W p l e R s m args below meth c H1 locs1 cells slots Q (F0 m (pc + 3) ls rest)) : W p l e R s m args below meth c H locs cells slots Q (F0 m pc ls (.int (nI n) :: .int (nI dp) :: .ref (w.2.2 o1) :: .int (nI sp) :: .ref (w.2.2 o0) :: rest)) := by
  have c1 : (nI sp).toNatClampNeg = sp := nI_clamp (by omega)
  have c2 : (nI dp).toNatClampNeg = dp := nI_clamp (by omega)
  have c3 : (nI n).toNatClampNeg = n := nI_clamp (by omega)
  refine va_copyi (D := G.1) (cl := vwCl) (ws := xwl G w z) (tys := xtys G) (A := xA w H0.size) (ty := .int) (n0 := n0) (n1 := n1) hx hb (hml.trans hl.symm) hown (hts _ hq) (hts (Cond.native arraycopyName) q_254) (hts (Cond.static arraycopyName) q_253) (hts (Cond.initialized RJ10) q_79) hK hR.P (hR.D _) hS o0 o1 0 0 (c0 := G.2 0) (c1 := G.2 0) (f := z.1 o0) (g := z.1 o1) ?_ ?_ rfl rfl rfl (nI_pos (by omega)) (nI_pos (by omega)) (nI_pos (by omega)) (by rw [c1, c3]; exact h4) (by rw [c2, c3]; exact h5) (fun _ _ => rfl) hframes hlocals hdg (fun H1 locs1 hP _ hS1 => ?_)
  · rw [xwl_get h0, s0]; rfl
  · rw [xwl_get h1, s1]; rfl
  · rw [c1, c2, c3] at hP
    rw [xwl_set (f := va_cpy (z.1 o0) (z.1 o1) sp dp n) (by rw [s1]; rfl)] at hP
    exact kk H1 locs1 (Rh.ofP hP hR.2) hS1
theorem x_bast (hexec : p.tables.exec = Jvm.exec) (hb : c.code = cc) (hK : va_K G.1 vwCl (xtys G) s) (hR : Rh G w z H) (hS : va_S (xA w H0.size) H0 H locs) {o k N : Nat} (ho : o < w.1) (hsh : w.2.1 o = .inr (.inl (1, N))) (hk : k < N) (hN : N < 2147483648) {v : Int32} (hv : vp_nar .byte v = v) (hdg : decode cc pc = .ok (.bastore, 1))
    (kk : ∀ (H1 : Heap) (locs1 : List Loc), Rh G w (u1 z o k v) H1 → va_S (xA w H0.size) H0 H1 locs1 → W p l e R s m args below meth c H1 locs1 cells slots Q (F0 m (pc + 1) ls rest)) : W p l e R s m args below meth c H locs cells slots Q (F0 m pc ls (.int v :: .int (nI k) :: .ref (w.2.2 o) :: rest)) := by
  refine va_bast (D := G.1) (cl := vwCl) (ws := xwl G w z) (tys := xtys G) (A := xA w H0.size) (cA := G.2 1) (n := N) (f := z.1 o) hexec hb hK hR.P (hR.D _) hS o 1 (by rw [xwl_get ho, hsh]; rfl) rfl (vp_in_nI hk hN) hdg (fun H1 locs1 hP _ hS1 => ?_)
  rw [nI_clamp (Nat.lt_trans hk hN), hv, xwl_set (f := va_up (z.1 o) k v) (by rw [hsh]; rfl)] at hP
  exact kk H1 locs1 (Rh.ofP hP hR.2) hS1
theorem x_zast (hexec : p.tables.exec = Jvm.exec) (hb : c.code = cc) (hK : va_K G.1 vwCl (xtys G) s) (hR : Rh G w z H) (hS : va_S (xA w H0.size) H0 H locs) {o k N : Nat} (ho : o < w.1) (hsh : w.2.1 o = .inr (.inl (2, N))) (hk : k < N) (hN : N < 2147483648) {v : Int32} (hv : vp_nar .boolean v = v) (hdg : decode cc pc = .ok (.bastore, 1))
    (kk : ∀ (H1 : Heap) (locs1 : List Loc), Rh G w (u1 z o k v) H1 → va_S (xA w H0.size) H0 H1 locs1 → W p l e R s m args below meth c H1 locs1 cells slots Q (F0 m (pc + 1) ls rest)) : W p l e R s m args below meth c H locs cells slots Q (F0 m pc ls (.int v :: .int (nI k) :: .ref (w.2.2 o) :: rest)) := by
  refine va_zast (D := G.1) (cl := vwCl) (ws := xwl G w z) (tys := xtys G) (A := xA w H0.size) (cA := G.2 2) (n := N) (f := z.1 o) hexec hb hK hR.P (hR.D _) hS o 2 (by rw [xwl_get ho, hsh]; rfl) rfl (vp_in_nI hk hN) hdg (fun H1 locs1 hP _ hS1 => ?_)
  rw [nI_clamp (Nat.lt_trans hk hN), hv, xwl_set (f := va_up (z.1 o) k v) (by rw [hsh]; rfl)] at hP
  exact kk H1 locs1 (Rh.ofP hP hR.2) hS1
end XB
