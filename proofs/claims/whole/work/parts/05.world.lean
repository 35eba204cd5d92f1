/-! THE WORLD: a fixed number of objects by their numbers; each has a shape (its class and which fields are references to which objects, or an array), an address, and its ints and longs in a pure state. -/
abbrev xSt : Type := (Nat → Nat → Int32) × (Nat → Nat → Int64)
abbrev xSh : Type := (Nat × List (Option Nat)) ⊕ ((Nat × Nat) ⊕ (Nat × List (Option Nat)))
/-- number of objects, their shapes, their addresses -/
abbrev xWd : Type := Nat × (Nat → xSh) × (Nat → Nat)
/-- classes and slots; the classes of arrays by a number -/
abbrev xGl : Type := va_G × (Nat → ClassId)
def xty (t : Nat) : FieldType := match t with
  | 0 => .int
  | 1 => .byte
  | 2 => .boolean
  | 3 => .long
  | 4 => .object RX0
  | 5 => .object RX2
  | _ => .object RX5
def xtys (G : xGl) : List (ClassId × FieldType) := [(G.2 0, .int), (G.2 1, .byte), (G.2 2, .boolean), (G.2 3, .long), (G.2 4, .object RX0), (G.2 5, .object RX2), (G.2 6, .object RX5)]
def xfv (ad : Nat → Nat) (f : Nat → Int32) (k : Nat) (p : Option Nat) : Value := match p with
  | none => .int (f k)
  | some q => .ref (ad q)
def xfs (ad : Nat → Nat) (f : Nat → Int32) (ps : List (Option Nat)) : List Value := ps.mapIdx (xfv ad f)
def xarr (t : Nat) (f : Nat → Int32) (g : Nat → Int64) : (Nat → Int32) ⊕ (Nat → Int64) ⊕ (Nat → UInt32) ⊕ (Nat → UInt64) ⊕ (Nat → Option Nat) := if t = 3 then .inr (.inl g) else .inl f
def xent (G : xGl) (ad : Nat → Nat) (f : Nat → Int32) (g : Nat → Int64) (h : xSh) : va_E := match h with
  | .inl (ci, ps) => .inr (ci, xfs ad f ps)
  | .inr (.inl (t, n)) => .inl (G.2 t, n, xarr t f g)
  | .inr (.inr (t, qs)) => .inl (G.2 t, qs.length, .inr (.inr (.inr (.inr (fun j => ((qs[j]?).join).map ad)))))
def Rh (G : xGl) (w : xWd) (z : xSt) (H : Heap) : Prop := (∀ o : Nat, o < w.1 → va_at G.1 vwCl (w.2.2 o, xent G w.2.2 (z.1 o) (z.2 o) (w.2.1 o)) H) ∧ ∀ o o' : Nat, o < w.1 → o' < w.1 → w.2.2 o = w.2.2 o' → o = o'
/-- which cells a method over a world may change -/
def xA (w : xWd) (sz : Nat) : Nat → Prop := fun q => (∃ o : Nat, o < w.1 ∧ q = w.2.2 o) ∨ sz ≤ q
def xCls (ci : Nat) (C : String) (T : u_T) (N : Nat) (ty0 : Nat → FieldType) : Prop := vwCl[ci]? = some (C, T, N) ∧ (∀ w ∈ u_ws C T N, w ∈ xw) ∧ (∀ k, k < N → parseFieldDescriptor (T k).2.2.1 = some (ty0 k)) ∧ ∀ a, a < N → ∀ b, b < N → a ≠ b → (T a).2.1 ≠ (T b).2.1
def u1 (z : xSt) (o k : Nat) (v : Int32) : xSt := (va_up z.1 o (va_up (z.1 o) k v), z.2)
def u2 (z : xSt) (o k : Nat) (v : Int64) : xSt := (z.1, va_up z.2 o (va_up (z.2 o) k v))
def ur (z : xSt) (o : Nat) (r : Nat → Int32) : xSt := (va_up z.1 o r, z.2)
theorem upd_up (f : Nat → Int32) (k : Nat) (v : Int32) : upd f k v = va_up f k v := rfl
theorem updL_up (f : Nat → Int64) (k : Nat) (v : Int64) : vp_updL f k v = va_up f k v := rfl
theorem va_up_id {α : Type} (f : Nat → α) (k : Nat) : va_up f k (f k) = f := by
  funext j
  by_cases h : j = k
  · subst h; exact va_up_self ..
  · exact va_up_ne _ _ h
theorem Rh.at {G : xGl} {w : xWd} {z : xSt} {H : Heap} (h : Rh G w z H) {o : Nat} (ho : o < w.1) : va_at G.1 vwCl (w.2.2 o, xent G w.2.2 (z.1 o) (z.2 o) (w.2.1 o)) H := h.1 o ho
theorem Rh.one {G : xGl} {w : xWd} {z : xSt} {H : Heap} (h : Rh G w z H) {o : Nat} (ho : o < w.1) {e : va_E} (he : xent G w.2.2 (z.1 o) (z.2 o) (w.2.1 o) = e) : va_P G.1 vwCl [(w.2.2 o, e)] H := by
  intro k q hk
  match k, hk with
  | 0, hk => cases hk; rw [← he]; exact h.1 o ho
  | k + 1, hk => simp at hk
theorem Rh.set {G : xGl} {w : xWd} {z : xSt} {H H1 : Heap} (h : Rh G w z H) {o : Nat} (_ho : o < w.1) {f : Nat → Int32} {g : Nat → Int64} (he : va_at G.1 vwCl (w.2.2 o, xent G w.2.2 f g (w.2.1 o)) H1) (oq : ∀ q : Nat, q ≠ w.2.2 o → H1[q]? = H[q]?) : Rh G w (va_up z.1 o f, va_up z.2 o g) H1 := by
  refine ⟨fun o' ho' => ?_, h.2⟩
  by_cases e : o' = o
  · subst e
    show va_at G.1 vwCl (w.2.2 o', xent G w.2.2 (va_up z.1 o' f o') (va_up z.2 o' g o') (w.2.1 o')) H1
    rw [va_up_self, va_up_self]; exact he
  · show va_at G.1 vwCl (w.2.2 o', xent G w.2.2 (va_up z.1 o f o') (va_up z.2 o g o') (w.2.1 o')) H1
    rw [va_up_ne _ _ e, va_up_ne _ _ e]
    exact (h.1 o' ho').kept (oq _ (fun h9 => e (h.2 o' o ho' _ho h9)))
theorem Rh.set1 {G : xGl} {w : xWd} {z : xSt} {H H1 : Heap} (h : Rh G w z H) {o : Nat} (ho : o < w.1) {f : Nat → Int32} (he : va_at G.1 vwCl (w.2.2 o, xent G w.2.2 f (z.2 o) (w.2.1 o)) H1) (oq : ∀ q : Nat, q ≠ w.2.2 o → H1[q]? = H[q]?) : Rh G w (ur z o f) H1 := by
  have h1 := h.set ho (f := f) (g := z.2 o) he oq
  rw [va_up_id] at h1
  exact h1
theorem Rh.set2 {G : xGl} {w : xWd} {z : xSt} {H H1 : Heap} (h : Rh G w z H) {o : Nat} (ho : o < w.1) {g : Nat → Int64} (he : va_at G.1 vwCl (w.2.2 o, xent G w.2.2 (z.1 o) g (w.2.1 o)) H1) (oq : ∀ q : Nat, q ≠ w.2.2 o → H1[q]? = H[q]?) : Rh G w (z.1, va_up z.2 o g) H1 := by
  have h1 := h.set ho (f := z.1 o) (g := g) he oq
  rw [va_up_id] at h1
  exact h1
theorem xfs_get {ad : Nat → Nat} {f : Nat → Int32} {ps : List (Option Nat)} {k : Nat} {p : Option Nat} (h : ps[k]? = some p) : (xfs ad f ps)[k]? = some (xfv ad f k p) := by
  simp [xfs, List.getElem?_mapIdx, h]
theorem xfs_len {ad : Nat → Nat} {f : Nat → Int32} {ps : List (Option Nat)} : (xfs ad f ps).length = ps.length := by simp [xfs]
theorem xfs_set {ad : Nat → Nat} {f : Nat → Int32} {ps : List (Option Nat)} {k : Nat} (h : ps[k]? = some none) (v : Int32) : (xfs ad f ps).set k (.int v) = xfs ad (va_up f k v) ps := by
  apply List.ext_getElem?
  intro i
  rw [List.getElem?_set]
  by_cases e : k = i
  · subst e
    have hl : k < ps.length := (List.getElem?_eq_some_iff.mp h).1
    rw [if_pos rfl, if_pos (by rw [xfs_len]; exact hl), xfs_get h]
    simp [xfv, va_up]
  · rw [if_neg e]
    simp only [xfs, List.getElem?_mapIdx]
    cases hp : ps[i]? with
    | none => rfl
    | some p =>
      cases p with
      | none => simp [xfv, va_up, Ne.symm e]
      | some q => simp [xfv]
theorem xA_S {w : xWd} {sz o : Nat} (ho : o < w.1) : xA w sz (w.2.2 o) := Or.inl ⟨o, ho, rfl⟩
theorem xA_sub {w : xWd} {H0 H : Heap} {locs : List Loc} (hS : va_S (xA w H0.size) H0 H locs) : ∀ q, xA w H.size q → xA w H0.size q := fun q h => h.elim Or.inl (fun h => Or.inr (Nat.le_trans hS.1 h))
section XR
variable {p : Program} {l : Launch} {e : Env} {R : Room} {s : State} {m : MethodId} {args : Array Value} {below : List Frame} {meth : Method} {c : Code} {H : Heap} {locs : List Loc} {cells slots : Nat} {Q : State → Prop}
variable {cc : ByteArray} {pc : Nat} {ls : Array Slot} {rest : List Value} {A : Nat → Prop} {H0 : Heap} {G : xGl} {w : xWd} {z : xSt}
theorem x_getI (hexec : p.tables.exec = Jvm.exec) (hb : c.code = cc) (hts : ∀ w ∈ xw, w.before args s = true) {own : String} (hown : s.vm.findClass own = some m.cls) (hK : va_K G.1 vwCl (xtys G) s) {ci N : Nat} {C : String} {T : u_T} {ty0 : Nat → FieldType} (hc : xCls ci C T N ty0) (hR : Rh G w z H) {o : Nat} (ho : o < w.1) {ps : List (Option Nat)} (hsh : w.2.1 o = .inl (ci, ps)) (k : Nat) (hk : k < N) (hp : ps[k]? = some none) {index : Nat} (hq : Cond.fieldLink own index (T k).1 (T k).2.1 (T k).2.2.1 ∈ xw) (hdg : decode cc pc = .ok (.getfield index, 3))
    (kk : W p l e R s m args below meth c H locs cells slots Q (F0 m (pc + 3) ls (.int (z.1 o k) :: rest))) : W p l e R s m args below meth c H locs cells slots Q (F0 m pc ls (.ref (w.2.2 o) :: rest)) := by
  have hP := hR.one ho (e := .inr (ci, xfs w.2.2 (z.1 o) ps)) (by rw [hsh]; rfl)
  exact va_get (D := G.1) (C := C) (T := T) (N := N) hexec hb hts hc.2.1 hown hK hP 0 rfl hc.1 k hk (hts _ hq) (fun _ h => h) (v := .int (z.1 o k)) (xfs_get hp) hdg kk
theorem x_getR (hexec : p.tables.exec = Jvm.exec) (hb : c.code = cc) (hts : ∀ w ∈ xw, w.before args s = true) {own : String} (hown : s.vm.findClass own = some m.cls) (hK : va_K G.1 vwCl (xtys G) s) {ci N : Nat} {C : String} {T : u_T} {ty0 : Nat → FieldType} (hc : xCls ci C T N ty0) (hR : Rh G w z H) {o : Nat} (ho : o < w.1) {ps : List (Option Nat)} (hsh : w.2.1 o = .inl (ci, ps)) (k : Nat) (hk : k < N) {o2 : Nat} (hp : ps[k]? = some (some o2)) {index : Nat} (hq : Cond.fieldLink own index (T k).1 (T k).2.1 (T k).2.2.1 ∈ xw) (hdg : decode cc pc = .ok (.getfield index, 3))
    (kk : W p l e R s m args below meth c H locs cells slots Q (F0 m (pc + 3) ls (.ref (w.2.2 o2) :: rest))) : W p l e R s m args below meth c H locs cells slots Q (F0 m pc ls (.ref (w.2.2 o) :: rest)) := by
  have hP := hR.one ho (e := .inr (ci, xfs w.2.2 (z.1 o) ps)) (by rw [hsh]; rfl)
  exact va_get (D := G.1) (C := C) (T := T) (N := N) hexec hb hts hc.2.1 hown hK hP 0 rfl hc.1 k hk (hts _ hq) (fun _ h => h) (v := .ref (w.2.2 o2)) (xfs_get hp) hdg kk
theorem x_getN (hexec : p.tables.exec = Jvm.exec) (hb : c.code = cc) (hts : ∀ w ∈ xw, w.before args s = true) {own host : String} (hown : s.vm.findClass own = some m.cls) (hK : va_K G.1 vwCl (xtys G) s) {ci N : Nat} {C : String} {T : u_T} {ty0 : Nat → FieldType} (hc : xCls ci C T N ty0) (hR : Rh G w z H) {o : Nat} (ho : o < w.1) {ps : List (Option Nat)} (hsh : w.2.1 o = .inl (ci, ps)) (k : Nat) (hk : k < N) (hp : ps[k]? = some none) {index : Nat} (hq : va_Nw (Cond.fieldLinkNest own index (T k).1 (T k).2.1 (T k).2.2.1 host) s) (hdg : decode cc pc = .ok (.getfield index, 3))
    (kk : W p l e R s m args below meth c H locs cells slots Q (F0 m (pc + 3) ls (.int (z.1 o k) :: rest))) : W p l e R s m args below meth c H locs cells slots Q (F0 m pc ls (.ref (w.2.2 o) :: rest)) := by
  have hP := hR.one ho (e := .inr (ci, xfs w.2.2 (z.1 o) ps)) (by rw [hsh]; rfl)
  exact va_getN (D := G.1) (C := C) (T := T) (N := N) hexec hb hts hc.2.1 hown hK hP 0 rfl hc.1 k hk (va_Nw.use rfl hq) (fun _ h => h) (v := .int (z.1 o k)) (xfs_get hp) hdg kk
theorem x_putI (hexec : p.tables.exec = Jvm.exec) (hb : c.code = cc) (hts : ∀ w ∈ xw, w.before args s = true) {own : String} (hown : s.vm.findClass own = some m.cls) (hK : va_K G.1 vwCl (xtys G) s) {ci N : Nat} {C : String} {T : u_T} {ty0 : Nat → FieldType} (hc : xCls ci C T N ty0) (hR : Rh G w z H) (hS : va_S (xA w H0.size) H0 H locs) {o : Nat} (ho : o < w.1) {ps : List (Option Nat)} (hsh : w.2.1 o = .inl (ci, ps)) (k : Nat) (hk : k < N) (hp : ps[k]? = some none) {index : Nat} (hq : Cond.fieldLink own index (T k).1 (T k).2.1 (T k).2.2.1 ∈ xw) (hfin : (T k).2.2.2 = false) {v : Int32} (hn : narrow (ty0 k) (.int v) = .int v) (hfit : fits (ty0 k) (.int v) = true) (hdg : decode cc pc = .ok (.putfield index, 3))
    (kk : ∀ (H1 : Heap) (locs1 : List Loc), Rh G w (u1 z o k v) H1 → va_S (xA w H0.size) H0 H1 locs1 → W p l e R s m args below meth c H1 locs1 cells slots Q (F0 m (pc + 3) ls rest)) : W p l e R s m args below meth c H locs cells slots Q (F0 m pc ls (.int v :: .ref (w.2.2 o) :: rest)) := by
  obtain ⟨hc1, hc2, hc3, hc4⟩ := hc
  have hap := va_apart (own := own) hts hc2 ty0 hc3 hc4 hK hc1
  have h0 := hR.at ho
  rw [hsh] at h0
  obtain ⟨r, h1, cell, q1, q2, q3, q4⟩ := h0
  have hr : r = (C, T, N) := Option.some.inj (h1.symm.trans hc1)
  subst hr
  obtain ⟨hSl, hfc, kC, hkC, hkind⟩ := hK.1 ci _ hc1
  obtain ⟨cf, kf, fi, f, hi, hsl⟩ := hSl k hk
  have hlay := hts _ (hc2 _ (u_in_lay hk))
  unfold u_lay at hlay
  rw [if_neg (by rw [hfin]; decide)] at hlay
  have hst := (u_facts hfc hkC (u_lays hts hc2 hk) hi).1
  have h6 := u_store hfc hkC hkind hlay hi (hc3 k hk) hn hfit
  refine W.putK hexec hb (f := f) ⟨hown, hts _ hq, ⟨_, _, _, hi⟩, hst⟩ (by rw [q2]; exact h6) q1 q3 (by rw [hsl]; exact k2_hasslot (q4 k hk)) rfl rfl hdg fun H' e1 e2 e3 => ?_
  rw [hsl] at e1 ⊢
  have hlen : k < (xfs w.2.2 (z.1 o) ps).length := by rw [xfs_len]; exact (List.getElem?_eq_some_iff.mp hp).1
  refine kk H' _ (hR.set1 ho (f := va_up (z.1 o) k v) ?_ e3) (hS.put e2 e3 (xA_S ho))
  rw [hsh]
  refine ⟨_, hc1, t_OB.to (V := updV (vp_V (xfs w.2.2 (z.1 o) ps)) k (.int v)) ⟨_, e1, q2, q3, t_set q4 hap hk _⟩ (fun j _ => ?_)⟩
  rw [vp_updV_set hlen, xfs_set hp]
theorem x_putN (hexec : p.tables.exec = Jvm.exec) (hb : c.code = cc) (hts : ∀ w ∈ xw, w.before args s = true) {own host : String} (hown : s.vm.findClass own = some m.cls) (hK : va_K G.1 vwCl (xtys G) s) {ci N : Nat} {C : String} {T : u_T} {ty0 : Nat → FieldType} (hc : xCls ci C T N ty0) (hR : Rh G w z H) (hS : va_S (xA w H0.size) H0 H locs) {o : Nat} (ho : o < w.1) {ps : List (Option Nat)} (hsh : w.2.1 o = .inl (ci, ps)) (k : Nat) (hk : k < N) (hp : ps[k]? = some none) {index : Nat} (hq : va_Nw (Cond.fieldLinkNest own index (T k).1 (T k).2.1 (T k).2.2.1 host) s) (hfin : (T k).2.2.2 = false) {v : Int32} (hn : narrow (ty0 k) (.int v) = .int v) (hfit : fits (ty0 k) (.int v) = true) (hdg : decode cc pc = .ok (.putfield index, 3))
    (kk : ∀ (H1 : Heap) (locs1 : List Loc), Rh G w (u1 z o k v) H1 → va_S (xA w H0.size) H0 H1 locs1 → W p l e R s m args below meth c H1 locs1 cells slots Q (F0 m (pc + 3) ls rest)) : W p l e R s m args below meth c H locs cells slots Q (F0 m pc ls (.int v :: .ref (w.2.2 o) :: rest)) := by
  obtain ⟨hc1, hc2, hc3, hc4⟩ := hc
  have hap := va_apart (own := own) hts hc2 ty0 hc3 hc4 hK hc1
  have h0 := hR.at ho
  rw [hsh] at h0
  obtain ⟨r, h1, cell, q1, q2, q3, q4⟩ := h0
  have hr : r = (C, T, N) := Option.some.inj (h1.symm.trans hc1)
  subst hr
  obtain ⟨hSl, hfc, kC, hkC, hkind⟩ := hK.1 ci _ hc1
  obtain ⟨cf, kf, fi, f, hi, hsl⟩ := hSl k hk
  have hlay := hts _ (hc2 _ (u_in_lay hk))
  unfold u_lay at hlay
  rw [if_neg (by rw [hfin]; decide)] at hlay
  have hst := (u_facts hfc hkC (u_lays hts hc2 hk) hi).1
  have h6 := u_store hfc hkC hkind hlay hi (hc3 k hk) hn hfit
  refine va_WputK hexec hb (f := f) hown (va_Nw.use rfl hq) hi hst (by rw [q2]; exact h6) q1 q3 (by rw [hsl]; exact k2_hasslot (q4 k hk)) rfl rfl hdg fun H' e1 e2 e3 => ?_
  rw [hsl] at e1 ⊢
  have hlen : k < (xfs w.2.2 (z.1 o) ps).length := by rw [xfs_len]; exact (List.getElem?_eq_some_iff.mp hp).1
  refine kk H' _ (hR.set1 ho (f := va_up (z.1 o) k v) ?_ e3) (hS.put e2 e3 (xA_S ho))
  rw [hsh]
  refine ⟨_, hc1, t_OB.to (V := updV (vp_V (xfs w.2.2 (z.1 o) ps)) k (.int v)) ⟨_, e1, q2, q3, t_set q4 hap hk _⟩ (fun j _ => ?_)⟩
  rw [vp_updV_set hlen, xfs_set hp]
end XR
