/-! METHODS OVER A WORLD THAT GROWS -/
/-- one world goes over into another: the old addresses stay, the new ones are new -/
def wX (w w2 : xWd) (sz : Nat) : Prop := w.1 ≤ w2.1 ∧ (∀ o, o < w.1 → w2.2.2 o = w.2.2 o) ∧ ∀ o, w.1 ≤ o → o < w2.1 → sz ≤ w2.2.2 o
theorem wX.r0 {w : xWd} {sz : Nat} : wX w w sz := ⟨Nat.le_refl _, fun _ _ => rfl, fun o h1 h2 => absurd h2 (Nat.not_lt.mpr h1)⟩
theorem wX.A {w w2 : xWd} {sz : Nat} (h : wX w w2 sz) : xA w2 sz = xA w sz := by
  funext q
  apply propext
  constructor
  · intro g
    rcases g with ⟨o, ho, e⟩ | g
    · by_cases hl : o < w.1
      · exact Or.inl ⟨o, hl, by rw [e, h.2.1 o hl]⟩
      · exact Or.inr (by rw [e]; exact h.2.2 o (Nat.le_of_not_lt hl) ho)
    · exact Or.inr g
  · intro g
    rcases g with ⟨o, ho, e⟩ | g
    · exact Or.inl ⟨o, Nat.lt_of_lt_of_le ho h.1, by rw [e, h.2.1 o ho]⟩
    · exact Or.inr g
theorem wX.mo {w w2 : xWd} {sz sz2 : Nat} (h : wX w w2 sz) (hs : sz2 ≤ sz) : wX w w2 sz2 := ⟨h.1, h.2.1, fun o h1 h2 => Nat.le_trans hs (h.2.2 o h1 h2)⟩
theorem grow_X {G : xGl} {K : Nat} {w : xWd} {z : xSt} {H : Heap} {ad : Nat → Nat} {sz : Nat} (hw : isC K w) (hR : Rh G (gW K w ad) z H) (hA : ∀ r, r < 48 → xA w sz (ad r)) : wX w (gW K w ad) sz := by
  have hn : w.1 = 19 + 48 * (2 + K) := hw.1
  refine ⟨by show w.1 ≤ 19 + 48 * (2 + (K + 1)); omega, fun o ho => if_pos ho, fun o h1 h2 => ?_⟩
  have h2 : o < 19 + 48 * (2 + (K + 1)) := h2
  have e1 : gwA w ad o = ad (o - w.1) := if_neg (Nat.not_lt.mpr h1)
  show sz ≤ gwA w ad o
  rw [e1]
  rcases hA (o - w.1) (by omega) with ⟨q, hq, e⟩ | g
  · have e2 : gwA w ad q = w.2.2 q := if_pos hq
    have e3 := hR.2 o q h2 (by show q < 19 + 48 * (2 + (K + 1)); omega) (by show gwA w ad o = gwA w ad q; rw [e1, e2, e])
    omega
  · exact g
abbrev xBg (G : xGl) : (xWd × xSt) → State → Prop := fun u t => Rh G u.1 u.2 t.heap
abbrev xMgv (l : Launch) (y : MethodName) (cc : ByteArray) (maxL : Nat) (rm : Room) (G : xGl) (w : xWd) (z : xSt) (sz : Nat) (av : List Value) (post : xWd × xSt → Prop) : Prop := Met l y (xws y cc maxL none) rm (xP G w z sz av) (va_Qv post (xBg G) (xA w sz)) rm.cells rm.slots (xA w sz)
abbrev xMgi (l : Launch) (y : MethodName) (cc : ByteArray) (maxL : Nat) (ret : Option FieldType) (rm : Room) (G : xGl) (w : xWd) (z : xSt) (sz : Nat) (av : List Value) (post : Int32 → xWd × xSt → Prop) : Prop := Met l y (xws y cc maxL ret) rm (xP G w z sz av) (va_Qi post (xBg G) (xA w sz)) rm.cells rm.slots (xA w sz)
theorem x_mgv {l : Launch} {y : MethodName} {cc : ByteArray} {maxL : Nat} {rm : Room} {G : xGl} {w : xWd} {z : xSt} {sz : Nat} {av : List Value} {post : xWd × xSt → Prop} (hy : plainName y.cls = true) (hav : (lg_sl av).length ≤ maxL)
    (body : ∀ (p : Program) (e : Env) (s : State) (m : MethodId) (args : Array Value) (below : List Frame) (meth : Method) (c : Code) (ls : Array Slot) (Q : State → Prop), sz = s.heap.size → xCx p s m args c meth cc maxL y.cls G w → Rh G w z s.heap → va_S (xA w s.heap.size) s.heap s.heap [] → lv_has ls maxL (lv_args 0 av) →
      (∀ (w2 : xWd) (z1 : xSt) (H : Heap) (locs : List Loc) (pc : Nat) (ls : Array Slot), decode cc pc = .ok (.return_, 1) → Rh G w2 z1 H → va_S (xA w s.heap.size) s.heap H locs → post (w2, z1) → W p l e rm s m args below meth c H locs rm.cells rm.slots Q (F0 m pc ls [])) →
      W p l e rm s m args below meth c s.heap [] 0 0 Q (F0 m 0 ls [])) : xMgv l y cc maxL rm G w z sz av post := by
  refine x_met hy hav ?_
  intro p e s m below meth c ls hsz hx hb hr hml hown hts hlocks _ hK hZ hR hS hl
  subst hsz
  exact body p e s m _ below meth c ls _ rfl ⟨hx, hb, hml, hown, hts, hlocks, hK, hZ⟩ hR hS hl (fun w2 z1 H locs pc ls hd hR hS hp => W.vret hx hb hr (fun t ht hW => ⟨⟨(w2, z1), rfl, hp, by show Rh G w2 z1 t.heap; rw [ht]; exact hR⟩, hS.F ht⟩) hS.2.2 hd hlocks)
theorem x_mgi {l : Launch} {y : MethodName} {cc : ByteArray} {maxL : Nat} {ty : FieldType} {rm : Room} {G : xGl} {w : xWd} {z : xSt} {sz : Nat} {av : List Value} {post : Int32 → xWd × xSt → Prop} (hy : plainName y.cls = true) (hav : (lg_sl av).length ≤ maxL)
    (body : ∀ (p : Program) (e : Env) (s : State) (m : MethodId) (args : Array Value) (below : List Frame) (meth : Method) (c : Code) (ls : Array Slot) (Q : State → Prop), sz = s.heap.size → xCx p s m args c meth cc maxL y.cls G w → Rh G w z s.heap → va_S (xA w s.heap.size) s.heap s.heap [] → lv_has ls maxL (lv_args 0 av) →
      (∀ (v : Int32) (w2 : xWd) (z1 : xSt) (H : Heap) (locs : List Loc) (pc : Nat) (ls : Array Slot), decode cc pc = .ok (.ireturn, 1) → narrow ty (.int v) = .int v → Rh G w2 z1 H → va_S (xA w s.heap.size) s.heap H locs → post v (w2, z1) → W p l e rm s m args below meth c H locs rm.cells rm.slots Q (F0 m pc ls [.int v])) →
      W p l e rm s m args below meth c s.heap [] 0 0 Q (F0 m 0 ls [])) : xMgi l y cc maxL (some ty) rm G w z sz av post := by
  refine x_met hy hav ?_
  intro p e s m below meth c ls hsz hx hb hr hml hown hts hlocks _ hK hZ hR hS hl
  subst hsz
  exact body p e s m _ below meth c ls _ rfl ⟨hx, hb, hml, hown, hts, hlocks, hK, hZ⟩ hR hS hl (fun v w2 z1 H locs pc ls hd hn hR hS hp => W.zret hx hb hr hn (fun t ht hW => ⟨⟨v, (w2, z1), rfl, hp, by show Rh G w2 z1 t.heap; rw [ht]; exact hR⟩, hS.F ht⟩) hS.2.2 hd hlocks)
theorem x_cgv {p : Program} {l : Launch} {e : Env} {R : Room} {s : State} {m : MethodId} {args : Array Value} {below : List Frame} {meth : Method} {c : Code} {H : Heap} {locs : List Loc} {cells slots : Nat} {Q : State → Prop} {pc : Nat} {ls : Array Slot} {rest st0 : List Value} {H0 : Heap} {G : xGl} {w : xWd} {mc ms : Nat} {a : Array Value} {post : xWd × xSt → Prop} (hr : va_Run p l e R s m args below meth c H locs cells slots mc ms (F0 m pc ls st0) rest (va_Qv post (xBg G) (xA w H.size) a) (xA w H.size)) (hS : va_S (xA w H0.size) H0 H locs)
    (kk : ∀ (w2 : xWd) (z1 : xSt) (H1 : Heap) (locs1 : List Loc), post (w2, z1) → Rh G w2 z1 H1 → va_S (xA w H0.size) H0 H1 locs1 → W p l e R s m args below meth c H1 locs1 (cells + mc) (slots + ms) Q (F0 m (pc + 3) ls rest)) : W p l e R s m args below meth c H locs cells slots Q (F0 m pc ls st0) :=
  va_callv hr hS (fun q _ h => xA_sub hS q h) (xA_sub hS) (fun u t H1 locs1 ht _ hp hB _ _ hS1 => kk u.1 u.2 H1 locs1 hp (ht ▸ hB) hS1)
theorem x_aaldN {p : Program} {l : Launch} {e : Env} {R : Room} {s : State} {m : MethodId} {args : Array Value} {below : List Frame} {meth : Method} {c : Code} {H : Heap} {locs : List Loc} {cells slots : Nat} {Q : State → Prop} {cc : ByteArray} {pc : Nat} {ls : Array Slot} {rest : List Value} {G : xGl} {w : xWd} {z : xSt} (hexec : p.tables.exec = Jvm.exec) (hb : c.code = cc) (hK : va_K G.1 vwCl (xtys G) s) (hR : Rh G w z H) {o k t : Nat} {qs : List (Option Nat)} {E : String} (ho : o < w.1) (hsh : w.2.1 o = .inr (.inr (t, qs))) (ht : (xtys G)[t]? = some (G.2 t, .object E)) (hk : qs[k]? = some none) (hN : qs.length < 2147483648) (hdg : decode cc pc = .ok (.aaload, 1))
    (kk : W p l e R s m args below meth c H locs cells slots Q (F0 m (pc + 1) ls (.null :: rest))) : W p l e R s m args below meth c H locs cells slots Q (F0 m pc ls (.int (nI k) :: .ref (w.2.2 o) :: rest)) := by
  have hP := hR.one ho (e := .inl (G.2 t, qs.length, .inr (.inr (.inr (.inr (fun j => ((qs[j]?).join).map w.2.2)))))) (by rw [hsh]; rfl)
  have hk2 : k < qs.length := (List.getElem?_eq_some_iff.mp hk).1
  refine va_aldq (D := G.1) hexec hb hK hP 0 t rfl ht (vp_in_nI hk2 hN) hdg ?_
  rw [nI_clamp (Nat.lt_trans hk2 hN)]
  show W p l e R s m args below meth c H locs cells slots Q (F0 m (pc + 1) ls (va_rf (((qs[k]?).join).map w.2.2) :: rest))
  rw [hk]
  exact kk
theorem kepts_y {K j : Nat} (h : j < K) (h2 : j < 10) : (kepts K)[j]? = some (some (oB (2 + j))) := by rw [kepts_get, if_pos h2, if_pos h]
theorem kepts_n {K j : Nat} (h : ¬ j < K) (h2 : j < 10) : (kepts K)[j]? = some none := by rw [kepts_get, if_pos h2, if_neg h]
theorem bF0_ok : ∀ j, j < 9 → defaultValue (tyX0 j) = vp_V bF0 j := by
  intro j hj
  exact match j, hj with
    | 0, _ => rfl
    | 1, _ => rfl
    | 2, _ => rfl
    | 3, _ => rfl
    | 4, _ => rfl
    | 5, _ => rfl
    | 6, _ => rfl
    | 7, _ => rfl
    | 8, _ => rfl
theorem nI_m10 {i : Nat} (h : i < 20) : nI i - nI i / nI 10 * nI 10 = nI (i % 10) := by
  have : ∀ j : Fin 20, nI j.1 - nI j.1 / nI 10 * nI 10 = nI (j.1 % 10) := by decide
  exact this ⟨i, h⟩
/-! history -/
def kf (f c : Nat) : Nat := if c = 10 then (f + 1) % 10 else f
def kc (c : Nat) : Nat := if c = 10 then 9 else c
def kix (f c : Nat) : Nat := (kf f c + kc c) % 10
def kz0 (z : xSt) (f c : Nat) : xSt := if c = 10 then u1 (u1 z 2 1 (nI ((f + 1) % 10))) 2 2 (nI 9) else z
theorem kz0_1 {z : xSt} {f c : Nat} (h : z.1 2 1 = nI f) : (kz0 z f c).1 2 1 = nI (kf f c) := by
  unfold kz0 kf
  split
  · rw [u1_sne _ _ _ (by decide), u1_at, va_up_self]
  · exact h
theorem kz0_2 {z : xSt} {f c : Nat} (h : z.1 2 2 = nI c) : (kz0 z f c).1 2 2 = nI (kc c) := by
  unfold kz0 kc
  split
  · rw [u1_at, va_up_self]
  · exact h
theorem kz0_o {z : xSt} {f c o : Nat} (h : o ≠ 2) : (kz0 z f c).1 o = z.1 o := by
  unfold kz0
  split
  · rw [u1_ne _ h, u1_ne _ h]
  · rfl
def kzE (K : Nat) (z : xSt) (f c : Nat) : xSt := if kix f c < K then kz0 z f c else exB (kz0 z f c) (2 + K)
theorem exB_lo {z : xSt} {b o : Nat} (h : o < 19 + 48 * b) : (exB z b).1 o = z.1 o := if_neg (by omega)
theorem kzE_o {K : Nat} {z : xSt} {f c o : Nat} (h : o ≠ 2) (h2 : o < 19 + 48 * (2 + K)) : (kzE K z f c).1 o = z.1 o := by
  unfold kzE
  split
  · exact kz0_o h
  · rw [exB_lo h2, kz0_o h]
theorem kzE_2 {K : Nat} {z : xSt} {f c : Nat} : (kzE K z f c).1 2 = (kz0 z f c).1 2 := by
  unfold kzE
  split
  · rfl
  · exact exB_lo (by omega)
def keZ (K : Nat) (z : xSt) (f c b mc dc : Nat) : xSt := u1 (cpA (kzE K z f c) (2 + kix f c) b mc dc) 2 2 (nI (kc c + 1))
def keK (K f c : Nat) : Nat := if kix f c < K then K else K + 1
def rm_X3_keep : Room := { frames := 3, cells := 48, slots := 574, locals := 90 }
set_option maxRecDepth 100000 in
set_option maxHeartbeats 4000000 in
theorem c_X3_keep (l : Launch) (G : xGl) (w : xWd) (K : Nat) (hw : isC K w) (z : xSt) (sz : Nat) (bx : Nat) (hbx : bx < 2 + K) (f cq mc dc : Nat) (hf : z.1 2 1 = nI f) (hc : z.1 2 2 = nI cq) (hf10 : f < 10) (hc10 : cq ≤ 10) (hix : kix f cq ≤ K) (hb2 : bx < 2) (hmc : z.1 (oB bx) 3 = nI mc) (hmc8 : mc ≤ 8) (hdc : z.1 (oB bx) 4 = nI dc) (hdc4 : dc ≤ 4) (hcn : ∀ m, m < mc → z.1 (oM bx m) 1 = 0 ∨ z.1 (oM bx m) 1 = 1) : xMgv l yX3_keep cX3_keep 3 rm_X3_keep G w z sz [.ref (w.2.2 2), .ref (w.2.2 (oB bx))] (fun u => isC (keK K f cq) u.1 ∧ wX w u.1 sz ∧ u.2 = keZ K z f cq bx mc dc) := by
  refine x_mgv (by decide) (Nat.le_of_ble_eq_true rfl) ?_
  intro p e s mt args below meth c ls Q hsz X hR hS hl hret
  obtain ⟨hx, hcb, hml, hown, hts, hlk, hK, hZ⟩ := X
  have hl : lv_has ls 3 [(0, .ref (w.2.2 2)), (1, .ref (w.2.2 (oB bx)))] := hl
  have hK10_ := hw.2.2
  have hi10_ : kix f cq < 10 := Nat.mod_lt _ (by decide)
  refine lv_aload_n hx hcb dX3_keep_0 rfl (lv_at hl 0 rfl) ?_
  refine x_getI hx hcb hts hown hK xc3 hR (hw.lo (by decide)) (hw.s0 (by decide) rfl) 2 (by decide) rfl q_319 dX3_keep_1 ?_
  refine x_top (show (z.1 2 2) = (nI cq) from hc) ?_
  refine lv_bipush (v := (nI 10)) hx hcb dX3_keep_4 (by decide) ?_
  refine lv_icmp_ne (tgt := 32) hx hcb dX3_keep_6 (by decide) (fun c_1 => ?_) (fun c_1 => ?_)
  · skip
    have c_1 : ¬ cq = 10 := fun h_ => c_1 ((nI_eq (by omega) (by omega)).mpr h_)
    have hc_ : ¬ cq = 10 := c_1
    rw [show z = kz0 z f cq from by unfold kz0; first | (rw [if_pos hc_]; done) | (rw [if_pos hc_]; rfl) | (rw [if_neg hc_]; done)] at hR
    refine lv_aload_n hx hcb dX3_keep_32 rfl (lv_at hl 0 rfl) ?_
    refine x_getI hx hcb hts hown hK xc3 hR (hw.lo (by decide)) (hw.s0 (by decide) rfl) 1 (by decide) rfl q_318 dX3_keep_33 ?_
    refine x_top (show ((kz0 z f cq).1 2 1) = (nI (kf f cq)) from kz0_1 hf) ?_
    refine lv_aload_n hx hcb dX3_keep_36 rfl (lv_at hl 0 rfl) ?_
    refine x_getI hx hcb hts hown hK xc3 hR (hw.lo (by decide)) (hw.s0 (by decide) rfl) 2 (by decide) rfl q_319 dX3_keep_37 ?_
    refine x_top (show ((kz0 z f cq).1 2 2) = (nI (kc cq)) from kz0_2 hc) ?_
    refine x_iaddN hx hcb dX3_keep_40 ?_
    refine lv_bipush (v := (nI 10)) hx hcb dX3_keep_41 (by decide) ?_
    refine lv_irem hx hcb dX3_keep_43 (by decide) ?_
    refine x_top (show ((nI ((kf f cq) + (kc cq))) - (nI ((kf f cq) + (kc cq))) / (nI 10) * (nI 10)) = (nI (kix f cq)) from nI_m10 (by unfold kf kc; split <;> omega)) ?_
    refine lv_istore_n (lv' := [(2, .int (nI (kix f cq))), (0, .ref (w.2.2 2)), (1, .ref (w.2.2 (oB bx)))]) hx hcb dX3_keep_44 rfl hl (by decide) rfl (fun ls hl => ?_)
    refine lv_aload_n hx hcb dX3_keep_45 rfl (lv_at hl 1 rfl) ?_
    refine x_getR hx hcb hts hown hK xc3 hR (hw.lo (by decide)) (hw.s0 (by decide) rfl) 0 (by decide) rfl q_317 dX3_keep_46 ?_
    refine lv_iload_n hx hcb dX3_keep_49 rfl (lv_at hl 0 rfl) ?_
    by_cases hik : kix f cq < K
    · skip
      refine W.widen (k := 48) (n := 574) (by decide) (by decide) ?_
      refine x_aald hx hcb hK hR (hw.lo (by decide)) (hw.s0 (by decide) rfl) rfl (kepts_y (by omega) hi10_) (by rw [kepts_len]; decide) dX3_keep_50 ?_
      refine lv_ifnonnull (tgt := 67) hx hcb dX3_keep_51 (by decide) ?_
      rw [show kz0 z f cq = kzE K z f cq from (if_pos hik).symm] at hR
      refine lv_aload_n hx hcb dX3_keep_67 rfl (lv_at hl 1 rfl) ?_
      refine x_getR hx hcb hts hown hK xc3 hR (hw.lo (by decide)) (hw.s0 (by decide) rfl) 0 (by decide) rfl q_317 dX3_keep_68 ?_
      refine lv_iload_n hx hcb dX3_keep_71 rfl (lv_at hl 0 rfl) ?_
      refine x_aald hx hcb hK hR (hw.lo (by decide)) (hw.s0 (by decide) rfl) rfl (kepts_y (by omega) hi10_) (by rw [kepts_len]; decide) dX3_keep_72 ?_
      refine lv_aload_n hx hcb dX3_keep_73 rfl (lv_at hl 2 rfl) ?_
      refine x_cv0 rfl rfl (x_runV hx hcb hml hown hts (c_X0_copyFrom l G w K hw (kzE K z f cq) _ (2 + kix f cq) (by omega) bx hbx mc dc (by omega) (by rw [kzE_o (by (try simp only [oB, oM]); omega) (by (try simp only [oB, oM]); omega)]; exact hmc) hmc8 (by rw [kzE_o (by (try simp only [oB, oM]); omega) (by (try simp only [oB, oM]); omega)]; exact hdc) hdc4 (fun m hm => by rw [kzE_o (by (try simp only [oB, oM]); omega) (by (try simp only [oB, oM]); omega)]; exact hcn m hm)) mv_X0_copyFrom q_851 hK hZ hR hS (hoB hw (by omega)) xc0 (hsB hw) rfl hl.1 rfl (Nat.le_of_ble_eq_true rfl) dX3_keep_74 ⟨by decide, by decide⟩ ⟨by decide, by decide⟩) hS (fun z_3 H locs hp_4 hR hS => ?_)
      rw [hp_4] at hR
      refine lv_aload_n hx hcb dX3_keep_77 rfl (lv_at hl 1 rfl) ?_
      refine lv_dup hx hcb dX3_keep_78 rfl ?_
      refine x_getI hx hcb hts hown hK xc3 hR (hw.lo (by decide)) (hw.s0 (by decide) rfl) 2 (by decide) rfl q_319 dX3_keep_79 ?_
      refine x_top (show ((cpA (kzE K z f cq) (2 + kix f cq) bx mc dc).1 2 2) = (nI (kc cq)) from by rw [cpA_out (by (try simp only [oB, oM]); omega), kzE_2]; exact kz0_2 hc) ?_
      refine lv_iconst (v := (nI 1)) hx hcb dX3_keep_82 (by decide) ?_
      refine x_iaddN hx hcb dX3_keep_83 ?_
      refine x_putI hx hcb hts hown hK xc3 hR hS (hw.lo (by decide)) (hw.s0 (by decide) rfl) 2 (by decide) rfl q_319 rfl (v := (nI ((kc cq) + 1))) rfl rfl dX3_keep_84 (fun H locs hR hS => ?_)
      exact hret w _ _ _ _ _ dX3_keep_87 hR hS ⟨by unfold keK; rw [if_pos hik]; exact hw, wX.r0, rfl⟩
    · skip
      have hIK : kix f cq = K := by omega
      refine x_aaldN hx hcb hK hR (hw.lo (by decide)) (hw.s0 (by decide) rfl) rfl (kepts_n hik hi10_) (by rw [kepts_len]; decide) dX3_keep_50 ?_
      refine lv_ifnonnullN hx hcb dX3_keep_51 ?_
      refine lv_aload_n hx hcb dX3_keep_54 rfl (lv_at hl 1 rfl) ?_
      refine x_getR hx hcb hts hown hK xc3 hR (hw.lo (by decide)) (hw.s0 (by decide) rfl) 0 (by decide) rfl q_317 dX3_keep_55 ?_
      refine lv_iload_n hx hcb dX3_keep_58 rfl (lv_at hl 0 rfl) ?_
      refine y_new (fs := bF0) hx hcb hts hown xc0 q_315 q_163 q_76 bF0_ok hK hR.P (hR.D _) hS (fun q h => Or.inr h) (by decide) (by decide) dX3_keep_59 (fun q H hP hD hS => ?_)
      refine lv_dup hx hcb dX3_keep_62 rfl ?_
      refine y_cI (ws0 := xwl G w (kz0 z f cq)) (As := []) (rest := [.ref q, .int (nI (kix f cq)), .ref (w.2.2 3)]) hx hcb hml hown hts (c_X0_init l G q H.size) mi_X0_init q_850 hK hZ hP hD hS (fun q h => Or.inr h) rfl hl.1 rfl (Nat.le_of_ble_eq_true rfl) dX3_keep_63 ⟨by decide, by decide⟩ ⟨by decide, by decide⟩ (fun w1 H locs hw1 hP hD hS => ?_)
      obtain ⟨ad, ha0, hw1⟩ := hw1
      subst hw1
      have hlen_ : (xwl G w (kz0 z f cq)).length = w.1 := by simp [xwl]
      refine va_astq (D := G.1) (cl := vwCl) (tys := xtys G) (r := (RX0, TX0, 9)) (n := 10) (f := fun j => (((kepts K)[j]?).join).map w.2.2) (cA := G.2 4) (vs := xfs ad (zbI.1 0) [some 1, some 2, some 3, none, none, none, none, none, none]) hx hcb hK hP hD hS 3 4 w.1 0 (by rw [List.getElem?_append_left (by rw [hlen_]; exact hw.lo (by decide)), xwl_get (hw.lo (by decide)), hw.s0 (o := 3) (by decide) rfl]; show some (_, Sum.inl (G.2 4, (kepts K).length, _)) = _; rw [kepts_len]) rfl (by rw [List.getElem?_append_right (by rw [hlen_]; exact Nat.le_refl _), hlen_, Nat.sub_self, xwl_get (w := bW ad) (show 0 < 48 by decide), ← ha0]; rfl) rfl (vp_in_nI hi10_ (by decide)) dX3_keep_66 (fun H locs hP hD hS => ?_)
      rw [nI_clamp (show kix f cq < 2 ^ 31 by omega), hIK, ← ha0] at hP hD
      obtain ⟨hR, hAd⟩ := grow hw (by omega) hP hD
      obtain ⟨w2, hw2, hX, hR⟩ : ∃ w2 : xWd, isC (K + 1) w2 ∧ wX w w2 s.heap.size ∧ Rh G w2 (exB (kz0 z f cq) (2 + K)) H := ⟨gW K w ad, gW_C (by omega), grow_X hw hR hAd, hR⟩
      rw [show exB (kz0 z f cq) (2 + K) = kzE K z f cq from (if_neg hik).symm] at hR
      rw [← hX.A] at hS
      have hZ2 : xZ (xA w2 s.heap.size) s s.heap := by rw [hX.A]; exact hZ
      rw [← hX.2.1 2 (hw.lo (by decide)), ← hX.2.1 (oB bx) (hoB hw hbx)] at hl
      have hbx2 : bx < 2 + (K + 1) := by omega
      refine lv_aload_n hx hcb dX3_keep_67 rfl (lv_at hl 1 rfl) ?_
      refine x_getR hx hcb hts hown hK xc3 hR (hw2.lo (by decide)) (hw2.s0 (by decide) rfl) 0 (by decide) rfl q_317 dX3_keep_68 ?_
      refine lv_iload_n hx hcb dX3_keep_71 rfl (lv_at hl 0 rfl) ?_
      refine x_aald hx hcb hK hR (hw2.lo (by decide)) (hw2.s0 (by decide) rfl) rfl (kepts_y (by omega) hi10_) (by rw [kepts_len]; decide) dX3_keep_72 ?_
      refine lv_aload_n hx hcb dX3_keep_73 rfl (lv_at hl 2 rfl) ?_
      refine x_cv0 rfl rfl (x_runV hx hcb hml hown hts (c_X0_copyFrom l G w2 (K + 1) hw2 (kzE K z f cq) _ (2 + kix f cq) (by omega) bx hbx2 mc dc (by omega) (by rw [kzE_o (by (try simp only [oB, oM]); omega) (by (try simp only [oB, oM]); omega)]; exact hmc) hmc8 (by rw [kzE_o (by (try simp only [oB, oM]); omega) (by (try simp only [oB, oM]); omega)]; exact hdc) hdc4 (fun m hm => by rw [kzE_o (by (try simp only [oB, oM]); omega) (by (try simp only [oB, oM]); omega)]; exact hcn m hm)) mv_X0_copyFrom q_851 hK hZ2 hR hS (hoB hw2 (by omega)) xc0 (hsB hw2) rfl hl.1 rfl (Nat.le_of_ble_eq_true rfl) dX3_keep_74 ⟨by decide, by decide⟩ ⟨by decide, by decide⟩) hS (fun z_6 H locs hp_7 hR hS => ?_)
      rw [hp_7] at hR
      refine lv_aload_n hx hcb dX3_keep_77 rfl (lv_at hl 1 rfl) ?_
      refine lv_dup hx hcb dX3_keep_78 rfl ?_
      refine x_getI hx hcb hts hown hK xc3 hR (hw2.lo (by decide)) (hw2.s0 (by decide) rfl) 2 (by decide) rfl q_319 dX3_keep_79 ?_
      refine x_top (show ((cpA (kzE K z f cq) (2 + kix f cq) bx mc dc).1 2 2) = (nI (kc cq)) from by rw [cpA_out (by (try simp only [oB, oM]); omega), kzE_2]; exact kz0_2 hc) ?_
      refine lv_iconst (v := (nI 1)) hx hcb dX3_keep_82 (by decide) ?_
      refine x_iaddN hx hcb dX3_keep_83 ?_
      refine x_putI hx hcb hts hown hK xc3 hR hS (hw2.lo (by decide)) (hw2.s0 (by decide) rfl) 2 (by decide) rfl q_319 rfl (v := (nI ((kc cq) + 1))) rfl rfl dX3_keep_84 (fun H locs hR hS => ?_)
      exact hret w2 _ _ _ _ _ dX3_keep_87 hR (by rw [← hX.A]; exact hS) ⟨by unfold keK; rw [if_neg hik]; exact hw2, by rw [hsz]; exact hX, rfl⟩
  · skip
    have c_1 : cq = 10 := (nI_eq (by omega) (by omega)).mp c_1
    have hc_ : cq = 10 := c_1
    refine lv_aload_n hx hcb dX3_keep_9 rfl (lv_at hl 0 rfl) ?_
    refine lv_aload_n hx hcb dX3_keep_10 rfl (lv_at hl 0 rfl) ?_
    refine x_getI hx hcb hts hown hK xc3 hR (hw.lo (by decide)) (hw.s0 (by decide) rfl) 1 (by decide) rfl q_318 dX3_keep_11 ?_
    refine x_top (show (z.1 2 1) = (nI f) from hf) ?_
    refine lv_iconst (v := (nI 1)) hx hcb dX3_keep_14 (by decide) ?_
    refine x_iaddN hx hcb dX3_keep_15 ?_
    refine lv_bipush (v := (nI 10)) hx hcb dX3_keep_16 (by decide) ?_
    refine lv_irem hx hcb dX3_keep_18 (by decide) ?_
    refine x_top (show ((nI (f + 1)) - (nI (f + 1)) / (nI 10) * (nI 10)) = (nI ((f + 1) % 10)) from nI_m10 (by omega)) ?_
    refine x_putI hx hcb hts hown hK xc3 hR hS (hw.lo (by decide)) (hw.s0 (by decide) rfl) 1 (by decide) rfl q_318 rfl (v := (nI ((f + 1) % 10))) rfl rfl dX3_keep_19 (fun H locs hR hS => ?_)
    refine lv_aload_n hx hcb dX3_keep_22 rfl (lv_at hl 0 rfl) ?_
    refine lv_dup hx hcb dX3_keep_23 rfl ?_
    refine x_getI hx hcb hts hown hK xc3 hR (hw.lo (by decide)) (hw.s0 (by decide) rfl) 2 (by decide) rfl q_319 dX3_keep_24 ?_
    refine x_top (show ((u1 z 2 1 (nI ((f + 1) % 10))).1 2 2) = (nI 10) from hc.trans (congrArg nI hc_)) ?_
    refine lv_iconst (v := (nI 1)) hx hcb dX3_keep_27 (by decide) ?_
    refine x_isubN hx hcb (by omega) dX3_keep_28 ?_
    refine x_putI hx hcb hts hown hK xc3 hR hS (hw.lo (by decide)) (hw.s0 (by decide) rfl) 2 (by decide) rfl q_319 rfl (v := (nI (10 - 1))) rfl rfl dX3_keep_29 (fun H locs hR hS => ?_)
    rw [show u1 (u1 z 2 1 (nI ((f + 1) % 10))) 2 2 (nI (10 - 1)) = kz0 z f cq from by unfold kz0; first | (rw [if_pos hc_]; done) | (rw [if_pos hc_]; rfl) | (rw [if_neg hc_]; done)] at hR
    refine lv_aload_n hx hcb dX3_keep_32 rfl (lv_at hl 0 rfl) ?_
    refine x_getI hx hcb hts hown hK xc3 hR (hw.lo (by decide)) (hw.s0 (by decide) rfl) 1 (by decide) rfl q_318 dX3_keep_33 ?_
    refine x_top (show ((kz0 z f cq).1 2 1) = (nI (kf f cq)) from kz0_1 hf) ?_
    refine lv_aload_n hx hcb dX3_keep_36 rfl (lv_at hl 0 rfl) ?_
    refine x_getI hx hcb hts hown hK xc3 hR (hw.lo (by decide)) (hw.s0 (by decide) rfl) 2 (by decide) rfl q_319 dX3_keep_37 ?_
    refine x_top (show ((kz0 z f cq).1 2 2) = (nI (kc cq)) from kz0_2 hc) ?_
    refine x_iaddN hx hcb dX3_keep_40 ?_
    refine lv_bipush (v := (nI 10)) hx hcb dX3_keep_41 (by decide) ?_
    refine lv_irem hx hcb dX3_keep_43 (by decide) ?_
    refine x_top (show ((nI ((kf f cq) + (kc cq))) - (nI ((kf f cq) + (kc cq))) / (nI 10) * (nI 10)) = (nI (kix f cq)) from nI_m10 (by unfold kf kc; split <;> omega)) ?_
    refine lv_istore_n (lv' := [(2, .int (nI (kix f cq))), (0, .ref (w.2.2 2)), (1, .ref (w.2.2 (oB bx)))]) hx hcb dX3_keep_44 rfl hl (by decide) rfl (fun ls hl => ?_)
    refine lv_aload_n hx hcb dX3_keep_45 rfl (lv_at hl 1 rfl) ?_
    refine x_getR hx hcb hts hown hK xc3 hR (hw.lo (by decide)) (hw.s0 (by decide) rfl) 0 (by decide) rfl q_317 dX3_keep_46 ?_
    refine lv_iload_n hx hcb dX3_keep_49 rfl (lv_at hl 0 rfl) ?_
    by_cases hik : kix f cq < K
    · skip
      refine W.widen (k := 48) (n := 574) (by decide) (by decide) ?_
      refine x_aald hx hcb hK hR (hw.lo (by decide)) (hw.s0 (by decide) rfl) rfl (kepts_y (by omega) hi10_) (by rw [kepts_len]; decide) dX3_keep_50 ?_
      refine lv_ifnonnull (tgt := 67) hx hcb dX3_keep_51 (by decide) ?_
      rw [show kz0 z f cq = kzE K z f cq from (if_pos hik).symm] at hR
      refine lv_aload_n hx hcb dX3_keep_67 rfl (lv_at hl 1 rfl) ?_
      refine x_getR hx hcb hts hown hK xc3 hR (hw.lo (by decide)) (hw.s0 (by decide) rfl) 0 (by decide) rfl q_317 dX3_keep_68 ?_
      refine lv_iload_n hx hcb dX3_keep_71 rfl (lv_at hl 0 rfl) ?_
      refine x_aald hx hcb hK hR (hw.lo (by decide)) (hw.s0 (by decide) rfl) rfl (kepts_y (by omega) hi10_) (by rw [kepts_len]; decide) dX3_keep_72 ?_
      refine lv_aload_n hx hcb dX3_keep_73 rfl (lv_at hl 2 rfl) ?_
      refine x_cv0 rfl rfl (x_runV hx hcb hml hown hts (c_X0_copyFrom l G w K hw (kzE K z f cq) _ (2 + kix f cq) (by omega) bx hbx mc dc (by omega) (by rw [kzE_o (by (try simp only [oB, oM]); omega) (by (try simp only [oB, oM]); omega)]; exact hmc) hmc8 (by rw [kzE_o (by (try simp only [oB, oM]); omega) (by (try simp only [oB, oM]); omega)]; exact hdc) hdc4 (fun m hm => by rw [kzE_o (by (try simp only [oB, oM]); omega) (by (try simp only [oB, oM]); omega)]; exact hcn m hm)) mv_X0_copyFrom q_851 hK hZ hR hS (hoB hw (by omega)) xc0 (hsB hw) rfl hl.1 rfl (Nat.le_of_ble_eq_true rfl) dX3_keep_74 ⟨by decide, by decide⟩ ⟨by decide, by decide⟩) hS (fun z_9 H locs hp_10 hR hS => ?_)
      rw [hp_10] at hR
      refine lv_aload_n hx hcb dX3_keep_77 rfl (lv_at hl 1 rfl) ?_
      refine lv_dup hx hcb dX3_keep_78 rfl ?_
      refine x_getI hx hcb hts hown hK xc3 hR (hw.lo (by decide)) (hw.s0 (by decide) rfl) 2 (by decide) rfl q_319 dX3_keep_79 ?_
      refine x_top (show ((cpA (kzE K z f cq) (2 + kix f cq) bx mc dc).1 2 2) = (nI (kc cq)) from by rw [cpA_out (by (try simp only [oB, oM]); omega), kzE_2]; exact kz0_2 hc) ?_
      refine lv_iconst (v := (nI 1)) hx hcb dX3_keep_82 (by decide) ?_
      refine x_iaddN hx hcb dX3_keep_83 ?_
      refine x_putI hx hcb hts hown hK xc3 hR hS (hw.lo (by decide)) (hw.s0 (by decide) rfl) 2 (by decide) rfl q_319 rfl (v := (nI ((kc cq) + 1))) rfl rfl dX3_keep_84 (fun H locs hR hS => ?_)
      exact hret w _ _ _ _ _ dX3_keep_87 hR hS ⟨by unfold keK; rw [if_pos hik]; exact hw, wX.r0, rfl⟩
    · skip
      have hIK : kix f cq = K := by omega
      refine x_aaldN hx hcb hK hR (hw.lo (by decide)) (hw.s0 (by decide) rfl) rfl (kepts_n hik hi10_) (by rw [kepts_len]; decide) dX3_keep_50 ?_
      refine lv_ifnonnullN hx hcb dX3_keep_51 ?_
      refine lv_aload_n hx hcb dX3_keep_54 rfl (lv_at hl 1 rfl) ?_
      refine x_getR hx hcb hts hown hK xc3 hR (hw.lo (by decide)) (hw.s0 (by decide) rfl) 0 (by decide) rfl q_317 dX3_keep_55 ?_
      refine lv_iload_n hx hcb dX3_keep_58 rfl (lv_at hl 0 rfl) ?_
      refine y_new (fs := bF0) hx hcb hts hown xc0 q_315 q_163 q_76 bF0_ok hK hR.P (hR.D _) hS (fun q h => Or.inr h) (by decide) (by decide) dX3_keep_59 (fun q H hP hD hS => ?_)
      refine lv_dup hx hcb dX3_keep_62 rfl ?_
      refine y_cI (ws0 := xwl G w (kz0 z f cq)) (As := []) (rest := [.ref q, .int (nI (kix f cq)), .ref (w.2.2 3)]) hx hcb hml hown hts (c_X0_init l G q H.size) mi_X0_init q_850 hK hZ hP hD hS (fun q h => Or.inr h) rfl hl.1 rfl (Nat.le_of_ble_eq_true rfl) dX3_keep_63 ⟨by decide, by decide⟩ ⟨by decide, by decide⟩ (fun w1 H locs hw1 hP hD hS => ?_)
      obtain ⟨ad, ha0, hw1⟩ := hw1
      subst hw1
      have hlen_ : (xwl G w (kz0 z f cq)).length = w.1 := by simp [xwl]
      refine va_astq (D := G.1) (cl := vwCl) (tys := xtys G) (r := (RX0, TX0, 9)) (n := 10) (f := fun j => (((kepts K)[j]?).join).map w.2.2) (cA := G.2 4) (vs := xfs ad (zbI.1 0) [some 1, some 2, some 3, none, none, none, none, none, none]) hx hcb hK hP hD hS 3 4 w.1 0 (by rw [List.getElem?_append_left (by rw [hlen_]; exact hw.lo (by decide)), xwl_get (hw.lo (by decide)), hw.s0 (o := 3) (by decide) rfl]; show some (_, Sum.inl (G.2 4, (kepts K).length, _)) = _; rw [kepts_len]) rfl (by rw [List.getElem?_append_right (by rw [hlen_]; exact Nat.le_refl _), hlen_, Nat.sub_self, xwl_get (w := bW ad) (show 0 < 48 by decide), ← ha0]; rfl) rfl (vp_in_nI hi10_ (by decide)) dX3_keep_66 (fun H locs hP hD hS => ?_)
      rw [nI_clamp (show kix f cq < 2 ^ 31 by omega), hIK, ← ha0] at hP hD
      obtain ⟨hR, hAd⟩ := grow hw (by omega) hP hD
      obtain ⟨w2, hw2, hX, hR⟩ : ∃ w2 : xWd, isC (K + 1) w2 ∧ wX w w2 s.heap.size ∧ Rh G w2 (exB (kz0 z f cq) (2 + K)) H := ⟨gW K w ad, gW_C (by omega), grow_X hw hR hAd, hR⟩
      rw [show exB (kz0 z f cq) (2 + K) = kzE K z f cq from (if_neg hik).symm] at hR
      rw [← hX.A] at hS
      have hZ2 : xZ (xA w2 s.heap.size) s s.heap := by rw [hX.A]; exact hZ
      rw [← hX.2.1 2 (hw.lo (by decide)), ← hX.2.1 (oB bx) (hoB hw hbx)] at hl
      have hbx2 : bx < 2 + (K + 1) := by omega
      refine lv_aload_n hx hcb dX3_keep_67 rfl (lv_at hl 1 rfl) ?_
      refine x_getR hx hcb hts hown hK xc3 hR (hw2.lo (by decide)) (hw2.s0 (by decide) rfl) 0 (by decide) rfl q_317 dX3_keep_68 ?_
      refine lv_iload_n hx hcb dX3_keep_71 rfl (lv_at hl 0 rfl) ?_
      refine x_aald hx hcb hK hR (hw2.lo (by decide)) (hw2.s0 (by decide) rfl) rfl (kepts_y (by omega) hi10_) (by rw [kepts_len]; decide) dX3_keep_72 ?_
      refine lv_aload_n hx hcb dX3_keep_73 rfl (lv_at hl 2 rfl) ?_
      refine x_cv0 rfl rfl (x_runV hx hcb hml hown hts (c_X0_copyFrom l G w2 (K + 1) hw2 (kzE K z f cq) _ (2 + kix f cq) (by omega) bx hbx2 mc dc (by omega) (by rw [kzE_o (by (try simp only [oB, oM]); omega) (by (try simp only [oB, oM]); omega)]; exact hmc) hmc8 (by rw [kzE_o (by (try simp only [oB, oM]); omega) (by (try simp only [oB, oM]); omega)]; exact hdc) hdc4 (fun m hm => by rw [kzE_o (by (try simp only [oB, oM]); omega) (by (try simp only [oB, oM]); omega)]; exact hcn m hm)) mv_X0_copyFrom q_851 hK hZ2 hR hS (hoB hw2 (by omega)) xc0 (hsB hw2) rfl hl.1 rfl (Nat.le_of_ble_eq_true rfl) dX3_keep_74 ⟨by decide, by decide⟩ ⟨by decide, by decide⟩) hS (fun z_12 H locs hp_13 hR hS => ?_)
      rw [hp_13] at hR
      refine lv_aload_n hx hcb dX3_keep_77 rfl (lv_at hl 1 rfl) ?_
      refine lv_dup hx hcb dX3_keep_78 rfl ?_
      refine x_getI hx hcb hts hown hK xc3 hR (hw2.lo (by decide)) (hw2.s0 (by decide) rfl) 2 (by decide) rfl q_319 dX3_keep_79 ?_
      refine x_top (show ((cpA (kzE K z f cq) (2 + kix f cq) bx mc dc).1 2 2) = (nI (kc cq)) from by rw [cpA_out (by (try simp only [oB, oM]); omega), kzE_2]; exact kz0_2 hc) ?_
      refine lv_iconst (v := (nI 1)) hx hcb dX3_keep_82 (by decide) ?_
      refine x_iaddN hx hcb dX3_keep_83 ?_
      refine x_putI hx hcb hts hown hK xc3 hR hS (hw2.lo (by decide)) (hw2.s0 (by decide) rfl) 2 (by decide) rfl q_319 rfl (v := (nI ((kc cq) + 1))) rfl rfl dX3_keep_84 (fun H locs hR hS => ?_)
      exact hret w2 _ _ _ _ _ dX3_keep_87 hR (by rw [← hX.A]; exact hS) ⟨by unfold keK; rw [if_neg hik]; exact hw2, by rw [hsz]; exact hX, rfl⟩
