/-! CONSTRUCTORS: the rest -/
theorem y_putI {p : Program} {l : Launch} {e : Env} {R : Room} {s : State} {m : MethodId} {args : Array Value} {below : List Frame} {meth : Method} {c : Code} {H : Heap} {locs : List Loc} {cells slots : Nat} {Q : State → Prop} {cc : ByteArray} {pc : Nat} {ls : Array Slot} {rest : List Value} {H0 : Heap} {G : xGl} {own C : String} {index : Nat} {ws : va_W} {A : Nat → Prop} (hx : p.tables.exec = Jvm.exec) (hb : c.code = cc) (hts : ∀ w ∈ xw, w.before args s = true) (hown : s.vm.findClass own = some m.cls) {ci N : Nat} {T : u_T} {ty0 : Nat → FieldType} (hc : xCls ci C T N ty0) (hK : va_K G.1 vwCl (xtys G) s) (hP : va_P G.1 vwCl ws H) (hD : va_D A ws) (hS : va_S A H0 H locs) (q0 : Nat) {a : Nat} {fs : List Value} (he : ws[q0]? = some (a, .inr (ci, fs))) (k : Nat) (hk : k < N) {ref : String} (hq : Cond.fieldLink own index ref (T k).2.1 (T k).2.2.1 ∈ xw) (href : ref = (T k).1) (hfin : (T k).2.2.2 = false) {v : Int32} (hn : narrow (ty0 k) (.int v) = .int v) (hfit : fits (ty0 k) (.int v) = true) (hl : k < fs.length) (hdg : decode cc pc = .ok (.putfield index, 3))
    (kk : ∀ (H1 : Heap) (locs1 : List Loc), va_P G.1 vwCl (ws.set q0 (a, .inr (ci, fs.set k (.int v)))) H1 → va_D A (ws.set q0 (a, .inr (ci, fs.set k (.int v)))) → va_S A H0 H1 locs1 → W p l e R s m args below meth c H1 locs1 cells slots Q (F0 m (pc + 3) ls rest)) : W p l e R s m args below meth c H locs cells slots Q (F0 m pc ls (.int v :: .ref a :: rest)) := by
  obtain ⟨h1, h2, h3, h4⟩ := hc
  exact va_put (D := G.1) hx hb hts h2 ty0 h3 h4 hown hK hP hD hS q0 he h1 k hk (hts _ hq) (fun x h => by rw [href]; exact h) hfin (h3 k hk) hn hfit hl hdg kk
theorem dfX7_ok : ∀ j, j < 4 → defaultValue (tyX7 j) = vp_V [.null, .null, .null, .int 0] j := by
  intro j hj
  exact match j, hj with
    | 0, _ => rfl
    | 1, _ => rfl
    | 2, _ => rfl
    | 3, _ => rfl
theorem dfX1_ok : ∀ j, j < 1 → defaultValue (tyX1 j) = vp_V [.null] j := by
  intro j hj
  exact match j, hj with
    | 0, _ => rfl
theorem dfX8_ok : ∀ j, j < 6 → defaultValue (tyX8 j) = vp_V [.null, .int 0, .int 0, .int 0, .int 0, .int 0] j := by
  intro j hj
  exact match j, hj with
    | 0, _ => rfl
    | 1, _ => rfl
    | 2, _ => rfl
    | 3, _ => rfl
    | 4, _ => rfl
    | 5, _ => rfl
theorem dfX0_ok : ∀ j, j < 9 → defaultValue (tyX0 j) = vp_V [.null, .null, .null, .int 0, .int 0, .int 0, .int 0, .int 0, .int 0] j := by
  intro j hj
  exact match j, hj with
    | 0, _ => rfl
    | 1, _ => rfl
    | 2, _ => rfl
    | 3, _ => rfl
    | 4, _ => rfl
    | 5, _ => rfl
    | 6, _ => rfl
    | 7, _ => rfl
    | 8, _ => rfl
theorem dfX3_ok : ∀ j, j < 3 → defaultValue (tyX3 j) = vp_V [.null, .int 0, .int 0] j := by
  intro j hj
  exact match j, hj with
    | 0, _ => rfl
    | 1, _ => rfl
    | 2, _ => rfl
theorem dfX6_ok : ∀ j, j < 6 → defaultValue (tyX6 j) = vp_V [.null, .null, .null, .null, .null, .int 0] j := by
  intro j hj
  exact match j, hj with
    | 0, _ => rfl
    | 1, _ => rfl
    | 2, _ => rfl
    | 3, _ => rfl
    | 4, _ => rfl
    | 5, _ => rfl
theorem dfX4_ok : ∀ j, j < 5 → defaultValue (tyX4 j) = vp_V [.null, .null, .null, .null, .null] j := by
  intro j hj
  exact match j, hj with
    | 0, _ => rfl
    | 1, _ => rfl
    | 2, _ => rfl
    | 3, _ => rfl
    | 4, _ => rfl
def rm_X3_init : Room := { frames := 1, cells := 1, slots := 10, locals := 12 }
set_option maxRecDepth 100000 in
set_option maxHeartbeats 4000000 in
theorem c_X3_init (l : Launch) (G : xGl) (a sz : Nat) : xMn l yX3_init cX3_init 1 rm_X3_init G a (.inr (3, [.null, .int 0, .int 0])) sz [.ref a] (fun ws => ∃ q1 : Nat, ws = [(a, .inr (3, [.ref q1, .int 0, .int 0])), (q1, aQ_ G 4 10 (fun _ => none))]) := by
  refine x_mn (by decide) rfl (Nat.le_of_ble_eq_true rfl) ?_
  intro p e s m args below meth c ls Q A hAe hsz X hin hA hP hD hS hl hret
  obtain ⟨hx, hcb, hml, hown, hts, hlk, hK, hZ⟩ := X
  have hl : lv_has ls 1 [(0, .ref a)] := hl
  refine lv_aload_n hx hcb dX3_init_0 rfl (lv_at hl 0 rfl) ?_
  refine y_obj hx hcb hml hown hts hl.1 q_314 dX3_init_1 (Nat.le_of_ble_eq_true rfl) (Nat.le_of_ble_eq_true rfl) ?_
  refine lv_aload_n hx hcb dX3_init_4 rfl (lv_at hl 0 rfl) ?_
  refine lv_bipush (v := nI 10) hx hcb dX3_init_5 (by decide) ?_
  refine y_newq (t := 4) (N := 10) hx hcb hts hown q_315 hZ.1.2.2.2 rfl (by decide) hK hP hD hS hA (by decide) (by decide) dX3_init_7 (fun q1 H hP hD hS => ?_)
  have hP : va_P G.1 vwCl ([(a, .inr (3, [.null, .int 0, .int 0])), (q1, aQ_ G 4 10 (fun _ => none))]) H := hP
  have hD : va_D A ([(a, .inr (3, [.null, .int 0, .int 0])), (q1, aQ_ G 4 10 (fun _ => none))]) := hD
  refine y_putF hx hcb hts hown xc3 hin hK hP hD hS 0 rfl 0 (by decide) q_317 rfl rfl rfl rfl rfl (Nat.le_of_ble_eq_true rfl) dX3_init_10 (fun H locs hP hD hS => ?_)
  have hP : va_P G.1 vwCl ([(a, .inr (3, [.ref q1, .int 0, .int 0])), (q1, aQ_ G 4 10 (fun _ => none))]) H := hP
  have hD : va_D A ([(a, .inr (3, [.ref q1, .int 0, .int 0])), (q1, aQ_ G 4 10 (fun _ => none))]) := hD
  exact hret _ _ _ _ _ dX3_init_13 hP hD hS ⟨q1, rfl⟩
def rm_X7_init : Room := { frames := 1, cells := 3, slots := 600, locals := 12 }
set_option maxRecDepth 100000 in
set_option maxHeartbeats 4000000 in
theorem c_X7_init (l : Launch) (G : xGl) (a sz : Nat) : xMn l yX7_init cX7_init 1 rm_X7_init G a (.inr (7, [.null, .null, .null, .int 0])) sz [.ref a] (fun ws => ∃ q1 q2 q3 : Nat, ws = [(a, .inr (7, [.ref q1, .ref q2, .ref q3, .int 0])), (q1, .inl (G.2 0, 200, .inl (fun _ => 0))), (q2, .inl (G.2 0, 200, .inl (fun _ => 0))), (q3, .inl (G.2 3, 200, .inr (.inl (fun _ => 0))))]) := by
  refine x_mn (by decide) rfl (Nat.le_of_ble_eq_true rfl) ?_
  intro p e s m args below meth c ls Q A hAe hsz X hin hA hP hD hS hl hret
  obtain ⟨hx, hcb, hml, hown, hts, hlk, hK, hZ⟩ := X
  have hl : lv_has ls 1 [(0, .ref a)] := hl
  refine lv_aload_n hx hcb dX7_init_0 rfl (lv_at hl 0 rfl) ?_
  refine y_obj hx hcb hml hown hts hl.1 q_107 dX7_init_1 (Nat.le_of_ble_eq_true rfl) (Nat.le_of_ble_eq_true rfl) ?_
  refine lv_aload_n hx hcb dX7_init_4 rfl (lv_at hl 0 rfl) ?_
  refine lv_sipush (v := nI 200) hx hcb dX7_init_5 (by decide) ?_
  refine y_newa (atype := .int) (ty := .int) (t := 0) (N := 200) (a0 := (200, .inl (fun _ => 0))) hx hcb hts q_121 rfl rfl (fun _ => rfl) (by decide) (by decide) hK hP hD hS hA (by decide) (by decide) dX7_init_8 (fun q1 H hP hD hS => ?_)
  have hP : va_P G.1 vwCl ([(a, .inr (7, [.null, .null, .null, .int 0])), (q1, .inl (G.2 0, 200, .inl (fun _ => 0)))]) H := hP
  have hD : va_D A ([(a, .inr (7, [.null, .null, .null, .int 0])), (q1, .inl (G.2 0, 200, .inl (fun _ => 0)))]) := hD
  refine y_putF hx hcb hts hown xc7 hin hK hP hD hS 0 rfl 0 (by decide) q_108 rfl rfl rfl rfl rfl (Nat.le_of_ble_eq_true rfl) dX7_init_10 (fun H locs hP hD hS => ?_)
  have hP : va_P G.1 vwCl ([(a, .inr (7, [.ref q1, .null, .null, .int 0])), (q1, .inl (G.2 0, 200, .inl (fun _ => 0)))]) H := hP
  have hD : va_D A ([(a, .inr (7, [.ref q1, .null, .null, .int 0])), (q1, .inl (G.2 0, 200, .inl (fun _ => 0)))]) := hD
  refine lv_aload_n hx hcb dX7_init_13 rfl (lv_at hl 0 rfl) ?_
  refine lv_sipush (v := nI 200) hx hcb dX7_init_14 (by decide) ?_
  refine y_newa (atype := .int) (ty := .int) (t := 0) (N := 200) (a0 := (200, .inl (fun _ => 0))) hx hcb hts q_121 rfl rfl (fun _ => rfl) (by decide) (by decide) hK hP hD hS hA (by decide) (by decide) dX7_init_17 (fun q2 H hP hD hS => ?_)
  have hP : va_P G.1 vwCl ([(a, .inr (7, [.ref q1, .null, .null, .int 0])), (q1, .inl (G.2 0, 200, .inl (fun _ => 0))), (q2, .inl (G.2 0, 200, .inl (fun _ => 0)))]) H := hP
  have hD : va_D A ([(a, .inr (7, [.ref q1, .null, .null, .int 0])), (q1, .inl (G.2 0, 200, .inl (fun _ => 0))), (q2, .inl (G.2 0, 200, .inl (fun _ => 0)))]) := hD
  refine y_putF hx hcb hts hown xc7 hin hK hP hD hS 0 rfl 1 (by decide) q_109 rfl rfl rfl rfl rfl (Nat.le_of_ble_eq_true rfl) dX7_init_19 (fun H locs hP hD hS => ?_)
  have hP : va_P G.1 vwCl ([(a, .inr (7, [.ref q1, .ref q2, .null, .int 0])), (q1, .inl (G.2 0, 200, .inl (fun _ => 0))), (q2, .inl (G.2 0, 200, .inl (fun _ => 0)))]) H := hP
  have hD : va_D A ([(a, .inr (7, [.ref q1, .ref q2, .null, .int 0])), (q1, .inl (G.2 0, 200, .inl (fun _ => 0))), (q2, .inl (G.2 0, 200, .inl (fun _ => 0)))]) := hD
  refine lv_aload_n hx hcb dX7_init_22 rfl (lv_at hl 0 rfl) ?_
  refine lv_sipush (v := nI 200) hx hcb dX7_init_23 (by decide) ?_
  refine y_newa (atype := .long) (ty := .long) (t := 3) (N := 200) (a0 := (200, .inr (.inl (fun _ => 0)))) hx hcb hts q_122 rfl rfl (fun _ => rfl) (by decide) (by decide) hK hP hD hS hA (by decide) (by decide) dX7_init_26 (fun q3 H hP hD hS => ?_)
  have hP : va_P G.1 vwCl ([(a, .inr (7, [.ref q1, .ref q2, .null, .int 0])), (q1, .inl (G.2 0, 200, .inl (fun _ => 0))), (q2, .inl (G.2 0, 200, .inl (fun _ => 0))), (q3, .inl (G.2 3, 200, .inr (.inl (fun _ => 0))))]) H := hP
  have hD : va_D A ([(a, .inr (7, [.ref q1, .ref q2, .null, .int 0])), (q1, .inl (G.2 0, 200, .inl (fun _ => 0))), (q2, .inl (G.2 0, 200, .inl (fun _ => 0))), (q3, .inl (G.2 3, 200, .inr (.inl (fun _ => 0))))]) := hD
  refine y_putF hx hcb hts hown xc7 hin hK hP hD hS 0 rfl 2 (by decide) q_110 rfl rfl rfl rfl rfl (Nat.le_of_ble_eq_true rfl) dX7_init_28 (fun H locs hP hD hS => ?_)
  have hP : va_P G.1 vwCl ([(a, .inr (7, [.ref q1, .ref q2, .ref q3, .int 0])), (q1, .inl (G.2 0, 200, .inl (fun _ => 0))), (q2, .inl (G.2 0, 200, .inl (fun _ => 0))), (q3, .inl (G.2 3, 200, .inr (.inl (fun _ => 0))))]) H := hP
  have hD : va_D A ([(a, .inr (7, [.ref q1, .ref q2, .ref q3, .int 0])), (q1, .inl (G.2 0, 200, .inl (fun _ => 0))), (q2, .inl (G.2 0, 200, .inl (fun _ => 0))), (q3, .inl (G.2 3, 200, .inr (.inl (fun _ => 0))))]) := hD
  exact hret _ _ _ _ _ dX7_init_31 hP hD hS ⟨q1, q2, q3, rfl⟩
def rm_X1_init : Room := { frames := 1, cells := 0, slots := 0, locals := 12 }
set_option maxRecDepth 100000 in
set_option maxHeartbeats 4000000 in
theorem c_X1_init (l : Launch) (G : xGl) (a b sz : Nat) : xMn l yX1_init cX1_init 2 rm_X1_init G a (.inr (1, [.null])) sz [.ref a, .ref b] (fun ws => ws = [(a, .inr (1, [.ref b]))]) := by
  refine x_mn (by decide) rfl (Nat.le_of_ble_eq_true rfl) ?_
  intro p e s m args below meth c ls Q A hAe hsz X hin hA hP hD hS hl hret
  obtain ⟨hx, hcb, hml, hown, hts, hlk, hK, hZ⟩ := X
  have hl : lv_has ls 2 [(0, .ref a), (1, .ref b)] := hl
  refine lv_aload_n hx hcb dX1_init_0 rfl (lv_at hl 0 rfl) ?_
  refine y_obj hx hcb hml hown hts hl.1 q_128 dX1_init_1 (Nat.le_of_ble_eq_true rfl) (Nat.le_of_ble_eq_true rfl) ?_
  refine lv_aload_n hx hcb dX1_init_4 rfl (lv_at hl 0 rfl) ?_
  refine lv_aload_n hx hcb dX1_init_5 rfl (lv_at hl 1 rfl) ?_
  refine y_putF hx hcb hts hown xc1 hin hK hP hD hS 0 rfl 0 (by decide) q_129 rfl rfl rfl rfl rfl (Nat.le_of_ble_eq_true rfl) dX1_init_6 (fun H locs hP hD hS => ?_)
  have hP : va_P G.1 vwCl ([(a, .inr (1, [.ref b]))]) H := hP
  have hD : va_D A ([(a, .inr (1, [.ref b]))]) := hD
  exact hret _ _ _ _ _ dX1_init_9 hP hD hS rfl
def rm_X6_init : Room := { frames := 1, cells := 4, slots := 800, locals := 12 }
set_option maxRecDepth 100000 in
set_option maxHeartbeats 4000000 in
theorem c_X6_init (l : Launch) (G : xGl) (a b sz : Nat) : xMn l yX6_init cX6_init 2 rm_X6_init G a (.inr (6, [.null, .null, .null, .null, .null, .int 0])) sz [.ref a, .ref b] (fun ws => ∃ q1 q2 q3 q4 : Nat, ws = [(a, .inr (6, [.ref b, .ref q1, .ref q2, .ref q3, .ref q4, .int 0])), (q1, .inl (G.2 0, 200, .inl (fun _ => 0))), (q2, .inl (G.2 0, 200, .inl (fun _ => 0))), (q3, .inl (G.2 0, 200, .inl (fun _ => 0))), (q4, .inl (G.2 0, 200, .inl (fun _ => 0)))]) := by
  refine x_mn (by decide) rfl (Nat.le_of_ble_eq_true rfl) ?_
  intro p e s m args below meth c ls Q A hAe hsz X hin hA hP hD hS hl hret
  obtain ⟨hx, hcb, hml, hown, hts, hlk, hK, hZ⟩ := X
  have hl : lv_has ls 2 [(0, .ref a), (1, .ref b)] := hl
  refine lv_aload_n hx hcb dX6_init_0 rfl (lv_at hl 0 rfl) ?_
  refine y_obj hx hcb hml hown hts hl.1 q_333 dX6_init_1 (Nat.le_of_ble_eq_true rfl) (Nat.le_of_ble_eq_true rfl) ?_
  refine lv_aload_n hx hcb dX6_init_4 rfl (lv_at hl 0 rfl) ?_
  refine lv_sipush (v := nI 200) hx hcb dX6_init_5 (by decide) ?_
  refine y_newa (atype := .int) (ty := .int) (t := 0) (N := 200) (a0 := (200, .inl (fun _ => 0))) hx hcb hts q_121 rfl rfl (fun _ => rfl) (by decide) (by decide) hK hP hD hS hA (by decide) (by decide) dX6_init_8 (fun q1 H hP hD hS => ?_)
  have hP : va_P G.1 vwCl ([(a, .inr (6, [.null, .null, .null, .null, .null, .int 0])), (q1, .inl (G.2 0, 200, .inl (fun _ => 0)))]) H := hP
  have hD : va_D A ([(a, .inr (6, [.null, .null, .null, .null, .null, .int 0])), (q1, .inl (G.2 0, 200, .inl (fun _ => 0)))]) := hD
  refine y_putF hx hcb hts hown xc6 hin hK hP hD hS 0 rfl 1 (by decide) q_335 rfl rfl rfl rfl rfl (Nat.le_of_ble_eq_true rfl) dX6_init_10 (fun H locs hP hD hS => ?_)
  have hP : va_P G.1 vwCl ([(a, .inr (6, [.null, .ref q1, .null, .null, .null, .int 0])), (q1, .inl (G.2 0, 200, .inl (fun _ => 0)))]) H := hP
  have hD : va_D A ([(a, .inr (6, [.null, .ref q1, .null, .null, .null, .int 0])), (q1, .inl (G.2 0, 200, .inl (fun _ => 0)))]) := hD
  refine lv_aload_n hx hcb dX6_init_13 rfl (lv_at hl 0 rfl) ?_
  refine lv_sipush (v := nI 200) hx hcb dX6_init_14 (by decide) ?_
  refine y_newa (atype := .int) (ty := .int) (t := 0) (N := 200) (a0 := (200, .inl (fun _ => 0))) hx hcb hts q_121 rfl rfl (fun _ => rfl) (by decide) (by decide) hK hP hD hS hA (by decide) (by decide) dX6_init_17 (fun q2 H hP hD hS => ?_)
  have hP : va_P G.1 vwCl ([(a, .inr (6, [.null, .ref q1, .null, .null, .null, .int 0])), (q1, .inl (G.2 0, 200, .inl (fun _ => 0))), (q2, .inl (G.2 0, 200, .inl (fun _ => 0)))]) H := hP
  have hD : va_D A ([(a, .inr (6, [.null, .ref q1, .null, .null, .null, .int 0])), (q1, .inl (G.2 0, 200, .inl (fun _ => 0))), (q2, .inl (G.2 0, 200, .inl (fun _ => 0)))]) := hD
  refine y_putF hx hcb hts hown xc6 hin hK hP hD hS 0 rfl 2 (by decide) q_336 rfl rfl rfl rfl rfl (Nat.le_of_ble_eq_true rfl) dX6_init_19 (fun H locs hP hD hS => ?_)
  have hP : va_P G.1 vwCl ([(a, .inr (6, [.null, .ref q1, .ref q2, .null, .null, .int 0])), (q1, .inl (G.2 0, 200, .inl (fun _ => 0))), (q2, .inl (G.2 0, 200, .inl (fun _ => 0)))]) H := hP
  have hD : va_D A ([(a, .inr (6, [.null, .ref q1, .ref q2, .null, .null, .int 0])), (q1, .inl (G.2 0, 200, .inl (fun _ => 0))), (q2, .inl (G.2 0, 200, .inl (fun _ => 0)))]) := hD
  refine lv_aload_n hx hcb dX6_init_22 rfl (lv_at hl 0 rfl) ?_
  refine lv_sipush (v := nI 200) hx hcb dX6_init_23 (by decide) ?_
  refine y_newa (atype := .int) (ty := .int) (t := 0) (N := 200) (a0 := (200, .inl (fun _ => 0))) hx hcb hts q_121 rfl rfl (fun _ => rfl) (by decide) (by decide) hK hP hD hS hA (by decide) (by decide) dX6_init_26 (fun q3 H hP hD hS => ?_)
  have hP : va_P G.1 vwCl ([(a, .inr (6, [.null, .ref q1, .ref q2, .null, .null, .int 0])), (q1, .inl (G.2 0, 200, .inl (fun _ => 0))), (q2, .inl (G.2 0, 200, .inl (fun _ => 0))), (q3, .inl (G.2 0, 200, .inl (fun _ => 0)))]) H := hP
  have hD : va_D A ([(a, .inr (6, [.null, .ref q1, .ref q2, .null, .null, .int 0])), (q1, .inl (G.2 0, 200, .inl (fun _ => 0))), (q2, .inl (G.2 0, 200, .inl (fun _ => 0))), (q3, .inl (G.2 0, 200, .inl (fun _ => 0)))]) := hD
  refine y_putF hx hcb hts hown xc6 hin hK hP hD hS 0 rfl 3 (by decide) q_337 rfl rfl rfl rfl rfl (Nat.le_of_ble_eq_true rfl) dX6_init_28 (fun H locs hP hD hS => ?_)
  have hP : va_P G.1 vwCl ([(a, .inr (6, [.null, .ref q1, .ref q2, .ref q3, .null, .int 0])), (q1, .inl (G.2 0, 200, .inl (fun _ => 0))), (q2, .inl (G.2 0, 200, .inl (fun _ => 0))), (q3, .inl (G.2 0, 200, .inl (fun _ => 0)))]) H := hP
  have hD : va_D A ([(a, .inr (6, [.null, .ref q1, .ref q2, .ref q3, .null, .int 0])), (q1, .inl (G.2 0, 200, .inl (fun _ => 0))), (q2, .inl (G.2 0, 200, .inl (fun _ => 0))), (q3, .inl (G.2 0, 200, .inl (fun _ => 0)))]) := hD
  refine lv_aload_n hx hcb dX6_init_31 rfl (lv_at hl 0 rfl) ?_
  refine lv_sipush (v := nI 200) hx hcb dX6_init_32 (by decide) ?_
  refine y_newa (atype := .int) (ty := .int) (t := 0) (N := 200) (a0 := (200, .inl (fun _ => 0))) hx hcb hts q_121 rfl rfl (fun _ => rfl) (by decide) (by decide) hK hP hD hS hA (by decide) (by decide) dX6_init_35 (fun q4 H hP hD hS => ?_)
  have hP : va_P G.1 vwCl ([(a, .inr (6, [.null, .ref q1, .ref q2, .ref q3, .null, .int 0])), (q1, .inl (G.2 0, 200, .inl (fun _ => 0))), (q2, .inl (G.2 0, 200, .inl (fun _ => 0))), (q3, .inl (G.2 0, 200, .inl (fun _ => 0))), (q4, .inl (G.2 0, 200, .inl (fun _ => 0)))]) H := hP
  have hD : va_D A ([(a, .inr (6, [.null, .ref q1, .ref q2, .ref q3, .null, .int 0])), (q1, .inl (G.2 0, 200, .inl (fun _ => 0))), (q2, .inl (G.2 0, 200, .inl (fun _ => 0))), (q3, .inl (G.2 0, 200, .inl (fun _ => 0))), (q4, .inl (G.2 0, 200, .inl (fun _ => 0)))]) := hD
  refine y_putF hx hcb hts hown xc6 hin hK hP hD hS 0 rfl 4 (by decide) q_338 rfl rfl rfl rfl rfl (Nat.le_of_ble_eq_true rfl) dX6_init_37 (fun H locs hP hD hS => ?_)
  have hP : va_P G.1 vwCl ([(a, .inr (6, [.null, .ref q1, .ref q2, .ref q3, .ref q4, .int 0])), (q1, .inl (G.2 0, 200, .inl (fun _ => 0))), (q2, .inl (G.2 0, 200, .inl (fun _ => 0))), (q3, .inl (G.2 0, 200, .inl (fun _ => 0))), (q4, .inl (G.2 0, 200, .inl (fun _ => 0)))]) H := hP
  have hD : va_D A ([(a, .inr (6, [.null, .ref q1, .ref q2, .ref q3, .ref q4, .int 0])), (q1, .inl (G.2 0, 200, .inl (fun _ => 0))), (q2, .inl (G.2 0, 200, .inl (fun _ => 0))), (q3, .inl (G.2 0, 200, .inl (fun _ => 0))), (q4, .inl (G.2 0, 200, .inl (fun _ => 0)))]) := hD
  refine lv_aload_n hx hcb dX6_init_40 rfl (lv_at hl 0 rfl) ?_
  refine lv_aload_n hx hcb dX6_init_41 rfl (lv_at hl 1 rfl) ?_
  refine y_putF hx hcb hts hown xc6 hin hK hP hD hS 0 rfl 0 (by decide) q_334 rfl rfl rfl rfl rfl (Nat.le_of_ble_eq_true rfl) dX6_init_42 (fun H locs hP hD hS => ?_)
  have hP : va_P G.1 vwCl ([(a, .inr (6, [.ref b, .ref q1, .ref q2, .ref q3, .ref q4, .int 0])), (q1, .inl (G.2 0, 200, .inl (fun _ => 0))), (q2, .inl (G.2 0, 200, .inl (fun _ => 0))), (q3, .inl (G.2 0, 200, .inl (fun _ => 0))), (q4, .inl (G.2 0, 200, .inl (fun _ => 0)))]) H := hP
  have hD : va_D A ([(a, .inr (6, [.ref b, .ref q1, .ref q2, .ref q3, .ref q4, .int 0])), (q1, .inl (G.2 0, 200, .inl (fun _ => 0))), (q2, .inl (G.2 0, 200, .inl (fun _ => 0))), (q3, .inl (G.2 0, 200, .inl (fun _ => 0))), (q4, .inl (G.2 0, 200, .inl (fun _ => 0)))]) := hD
  exact hret _ _ _ _ _ dX6_init_45 hP hD hS ⟨q1, q2, q3, q4, rfl⟩
def rm_X8_init : Room := { frames := 1, cells := 1, slots := 900, locals := 12 }
set_option maxRecDepth 100000 in
set_option maxHeartbeats 4000000 in
theorem c_X8_init (l : Launch) (G : xGl) (a sz : Nat) : xMn l yX8_init cX8_init 1 rm_X8_init G a (.inr (8, [.null, .int 0, .int 0, .int 0, .int 0, .int 0])) sz [.ref a] (fun ws => ∃ q1 : Nat, ws = [(a, .inr (8, [.ref q1, .int 0, .int 0, .int 0, .int 0, .int 0])), (q1, .inl (G.2 1, 900, .inl (fun _ => 0)))]) := by
  refine x_mn (by decide) rfl (Nat.le_of_ble_eq_true rfl) ?_
  intro p e s m args below meth c ls Q A hAe hsz X hin hA hP hD hS hl hret
  obtain ⟨hx, hcb, hml, hown, hts, hlk, hK, hZ⟩ := X
  have hl : lv_has ls 1 [(0, .ref a)] := hl
  refine lv_aload_n hx hcb dX8_init_0 rfl (lv_at hl 0 rfl) ?_
  refine y_obj hx hcb hml hown hts hl.1 q_138 dX8_init_1 (Nat.le_of_ble_eq_true rfl) (Nat.le_of_ble_eq_true rfl) ?_
  refine lv_aload_n hx hcb dX8_init_4 rfl (lv_at hl 0 rfl) ?_
  refine lv_sipush (v := nI 900) hx hcb dX8_init_5 (by decide) ?_
  refine y_newa (atype := .byte) (ty := .byte) (t := 1) (N := 900) (a0 := (900, .inl (fun _ => 0))) hx hcb hts q_161 rfl rfl (fun _ => rfl) (by decide) (by decide) hK hP hD hS hA (by decide) (by decide) dX8_init_8 (fun q1 H hP hD hS => ?_)
  have hP : va_P G.1 vwCl ([(a, .inr (8, [.null, .int 0, .int 0, .int 0, .int 0, .int 0])), (q1, .inl (G.2 1, 900, .inl (fun _ => 0)))]) H := hP
  have hD : va_D A ([(a, .inr (8, [.null, .int 0, .int 0, .int 0, .int 0, .int 0])), (q1, .inl (G.2 1, 900, .inl (fun _ => 0)))]) := hD
  refine y_putF hx hcb hts hown xc8 hin hK hP hD hS 0 rfl 0 (by decide) q_139 rfl rfl rfl rfl rfl (Nat.le_of_ble_eq_true rfl) dX8_init_10 (fun H locs hP hD hS => ?_)
  have hP : va_P G.1 vwCl ([(a, .inr (8, [.ref q1, .int 0, .int 0, .int 0, .int 0, .int 0])), (q1, .inl (G.2 1, 900, .inl (fun _ => 0)))]) H := hP
  have hD : va_D A ([(a, .inr (8, [.ref q1, .int 0, .int 0, .int 0, .int 0, .int 0])), (q1, .inl (G.2 1, 900, .inl (fun _ => 0)))]) := hD
  exact hret _ _ _ _ _ dX8_init_13 hP hD hS ⟨q1, rfl⟩
def rm_X4_init : Room := { frames := 1, cells := 2, slots := 9, locals := 12 }
set_option maxRecDepth 100000 in
set_option maxHeartbeats 4000000 in
theorem c_X4_init (l : Launch) (G : xGl) (a b1 b2 b3 sz : Nat) : xMn l yX4_init cX4_init 4 rm_X4_init G a (.inr (4, [.null, .null, .null, .null, .null])) sz [.ref a, .ref b1, .ref b2, .ref b3] (fun ws => ∃ q1 q2 : Nat, ws = [(a, .inr (4, [.ref b1, .ref b2, .ref b3, .ref q1, .ref q2])), (q1, .inl (G.2 0, 4, .inl (fun _ => 0))), (q2, .inl (G.2 2, 5, .inl (fun _ => 0)))]) := by
  refine x_mn (by decide) rfl (Nat.le_of_ble_eq_true rfl) ?_
  intro p e s m args below meth c ls Q A hAe hsz X hin hA hP hD hS hl hret
  obtain ⟨hx, hcb, hml, hown, hts, hlk, hK, hZ⟩ := X
  have hl : lv_has ls 4 [(0, .ref a), (1, .ref b1), (2, .ref b2), (3, .ref b3)] := hl
  refine lv_aload_n hx hcb dX4_init_0 rfl (lv_at hl 0 rfl) ?_
  refine y_obj hx hcb hml hown hts hl.1 q_358 dX4_init_1 (Nat.le_of_ble_eq_true rfl) (Nat.le_of_ble_eq_true rfl) ?_
  refine lv_aload_n hx hcb dX4_init_4 rfl (lv_at hl 0 rfl) ?_
  refine lv_iconst (v := nI 4) hx hcb dX4_init_5 (by decide) ?_
  refine y_newa (atype := .int) (ty := .int) (t := 0) (N := 4) (a0 := (4, .inl (fun _ => 0))) hx hcb hts q_121 rfl rfl (fun _ => rfl) (by decide) (by decide) hK hP hD hS hA (by decide) (by decide) dX4_init_6 (fun q1 H hP hD hS => ?_)
  have hP : va_P G.1 vwCl ([(a, .inr (4, [.null, .null, .null, .null, .null])), (q1, .inl (G.2 0, 4, .inl (fun _ => 0)))]) H := hP
  have hD : va_D A ([(a, .inr (4, [.null, .null, .null, .null, .null])), (q1, .inl (G.2 0, 4, .inl (fun _ => 0)))]) := hD
  refine y_putF hx hcb hts hown xc4 hin hK hP hD hS 0 rfl 3 (by decide) q_362 rfl rfl rfl rfl rfl (Nat.le_of_ble_eq_true rfl) dX4_init_8 (fun H locs hP hD hS => ?_)
  have hP : va_P G.1 vwCl ([(a, .inr (4, [.null, .null, .null, .ref q1, .null])), (q1, .inl (G.2 0, 4, .inl (fun _ => 0)))]) H := hP
  have hD : va_D A ([(a, .inr (4, [.null, .null, .null, .ref q1, .null])), (q1, .inl (G.2 0, 4, .inl (fun _ => 0)))]) := hD
  refine lv_aload_n hx hcb dX4_init_11 rfl (lv_at hl 0 rfl) ?_
  refine lv_iconst (v := nI 5) hx hcb dX4_init_12 (by decide) ?_
  refine y_newa (atype := .boolean) (ty := .boolean) (t := 2) (N := 5) (a0 := (5, .inl (fun _ => 0))) hx hcb hts q_375 rfl rfl (fun _ => rfl) (by decide) (by decide) hK hP hD hS hA (by decide) (by decide) dX4_init_13 (fun q2 H hP hD hS => ?_)
  have hP : va_P G.1 vwCl ([(a, .inr (4, [.null, .null, .null, .ref q1, .null])), (q1, .inl (G.2 0, 4, .inl (fun _ => 0))), (q2, .inl (G.2 2, 5, .inl (fun _ => 0)))]) H := hP
  have hD : va_D A ([(a, .inr (4, [.null, .null, .null, .ref q1, .null])), (q1, .inl (G.2 0, 4, .inl (fun _ => 0))), (q2, .inl (G.2 2, 5, .inl (fun _ => 0)))]) := hD
  refine y_putF hx hcb hts hown xc4 hin hK hP hD hS 0 rfl 4 (by decide) q_363 rfl rfl rfl rfl rfl (Nat.le_of_ble_eq_true rfl) dX4_init_15 (fun H locs hP hD hS => ?_)
  have hP : va_P G.1 vwCl ([(a, .inr (4, [.null, .null, .null, .ref q1, .ref q2])), (q1, .inl (G.2 0, 4, .inl (fun _ => 0))), (q2, .inl (G.2 2, 5, .inl (fun _ => 0)))]) H := hP
  have hD : va_D A ([(a, .inr (4, [.null, .null, .null, .ref q1, .ref q2])), (q1, .inl (G.2 0, 4, .inl (fun _ => 0))), (q2, .inl (G.2 2, 5, .inl (fun _ => 0)))]) := hD
  refine lv_aload_n hx hcb dX4_init_18 rfl (lv_at hl 0 rfl) ?_
  refine lv_aload_n hx hcb dX4_init_19 rfl (lv_at hl 1 rfl) ?_
  refine y_putF hx hcb hts hown xc4 hin hK hP hD hS 0 rfl 0 (by decide) q_359 rfl rfl rfl rfl rfl (Nat.le_of_ble_eq_true rfl) dX4_init_20 (fun H locs hP hD hS => ?_)
  have hP : va_P G.1 vwCl ([(a, .inr (4, [.ref b1, .null, .null, .ref q1, .ref q2])), (q1, .inl (G.2 0, 4, .inl (fun _ => 0))), (q2, .inl (G.2 2, 5, .inl (fun _ => 0)))]) H := hP
  have hD : va_D A ([(a, .inr (4, [.ref b1, .null, .null, .ref q1, .ref q2])), (q1, .inl (G.2 0, 4, .inl (fun _ => 0))), (q2, .inl (G.2 2, 5, .inl (fun _ => 0)))]) := hD
  refine lv_aload_n hx hcb dX4_init_23 rfl (lv_at hl 0 rfl) ?_
  refine lv_aload_n hx hcb dX4_init_24 rfl (lv_at hl 2 rfl) ?_
  refine y_putF hx hcb hts hown xc4 hin hK hP hD hS 0 rfl 1 (by decide) q_360 rfl rfl rfl rfl rfl (Nat.le_of_ble_eq_true rfl) dX4_init_25 (fun H locs hP hD hS => ?_)
  have hP : va_P G.1 vwCl ([(a, .inr (4, [.ref b1, .ref b2, .null, .ref q1, .ref q2])), (q1, .inl (G.2 0, 4, .inl (fun _ => 0))), (q2, .inl (G.2 2, 5, .inl (fun _ => 0)))]) H := hP
  have hD : va_D A ([(a, .inr (4, [.ref b1, .ref b2, .null, .ref q1, .ref q2])), (q1, .inl (G.2 0, 4, .inl (fun _ => 0))), (q2, .inl (G.2 2, 5, .inl (fun _ => 0)))]) := hD
  refine lv_aload_n hx hcb dX4_init_28 rfl (lv_at hl 0 rfl) ?_
  refine lv_aload_n hx hcb dX4_init_29 rfl (lv_at hl 3 rfl) ?_
  refine y_putF hx hcb hts hown xc4 hin hK hP hD hS 0 rfl 2 (by decide) q_361 rfl rfl rfl rfl rfl (Nat.le_of_ble_eq_true rfl) dX4_init_30 (fun H locs hP hD hS => ?_)
  have hP : va_P G.1 vwCl ([(a, .inr (4, [.ref b1, .ref b2, .ref b3, .ref q1, .ref q2])), (q1, .inl (G.2 0, 4, .inl (fun _ => 0))), (q2, .inl (G.2 2, 5, .inl (fun _ => 0)))]) H := hP
  have hD : va_D A ([(a, .inr (4, [.ref b1, .ref b2, .ref b3, .ref q1, .ref q2])), (q1, .inl (G.2 0, 4, .inl (fun _ => 0))), (q2, .inl (G.2 2, 5, .inl (fun _ => 0)))]) := hD
  exact hret _ _ _ _ _ dX4_init_33 hP hD hS ⟨q1, q2, rfl⟩
