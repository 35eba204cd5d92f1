/-! CONSTRUCTORS: books -/
theorem y_get {p : Program} {l : Launch} {e : Env} {R : Room} {s : State} {m : MethodId} {args : Array Value} {below : List Frame} {meth : Method} {c : Code} {H : Heap} {locs : List Loc} {cells slots : Nat} {Q : State → Prop} {cc : ByteArray} {pc : Nat} {ls : Array Slot} {rest : List Value} {G : xGl} {own C : String} {index : Nat} {ws : va_W} (hx : p.tables.exec = Jvm.exec) (hb : c.code = cc) (hts : ∀ w ∈ xw, w.before args s = true) (hown : s.vm.findClass own = some m.cls) {ci N : Nat} {T : u_T} {ty0 : Nat → FieldType} (hc : xCls ci C T N ty0) (hK : va_K G.1 vwCl (xtys G) s) (hP : va_P G.1 vwCl ws H) (q0 : Nat) {a : Nat} {fs : List Value} (he : ws[q0]? = some (a, .inr (ci, fs))) (k : Nat) (hk : k < N) {ref : String} (hq : Cond.fieldLink own index ref (T k).2.1 (T k).2.2.1 ∈ xw) (href : ref = (T k).1) {v : Value} (hv : fs[k]? = some v) (hdg : decode cc pc = .ok (.getfield index, 3))
    (kk : W p l e R s m args below meth c H locs cells slots Q (F0 m (pc + 3) ls (v :: rest))) : W p l e R s m args below meth c H locs cells slots Q (F0 m pc ls (.ref a :: rest)) :=
  va_get (D := G.1) (C := C) (T := T) (N := N) hx hb hts hc.2.1 hown hK hP q0 he hc.1 k hk (hts _ hq) (fun x h => by rw [href]; exact h) hv hdg kk
theorem mF0_ok : ∀ j, j < 10 → defaultValue (tyX5 j) = vp_V mF0 j := by
  intro j hj
  exact match j, hj with
    | 0, _ => rfl
    | 1, _ => rfl
    | 2, _ => rfl
    | 3, _ => rfl
    | 4, _ => rfl
    | 5, _ => rfl
    | 6, _ => rfl
    | 7, _ => rfl
    | 8, _ => rfl
    | 9, _ => rfl
theorem dF_ok : ∀ j, j < 3 → defaultValue (tyX2 j) = vp_V dF j := by
  intro j hj
  exact match j, hj with
    | 0, _ => rfl
    | 1, _ => rfl
    | 2, _ => rfl
abbrev bF0 : List Value := [.null, .null, .null, .int 0, .int 0, .int 0, .int 0, .int 0, .int 0]
abbrev bF (x y z : Nat) : List Value := [.ref x, .ref y, .ref z, .int 0, .int 0, .int 0, .int 0, .int 0, .int 0]
abbrev mE (G : xGl) (q q1 q2 q3 q4 : Nat) : va_W := [(q, .inr (5, mF q1 q2 q3 q4)), (q1, aI G 4), (q2, aI G 25), (q3, aI G 25), (q4, aI G 3)]
def mLs (G : xGl) (ad : Nat → Nat) : Nat → va_W
  | 0 => []
  | k + 1 => mLs G ad k ++ mE G (ad (5 * k)) (ad (5 * k + 1)) (ad (5 * k + 2)) (ad (5 * k + 3)) (ad (5 * k + 4))
def dLs (bd : Nat → Nat) : Nat → va_W
  | 0 => []
  | k + 1 => dLs bd k ++ [(bd k, .inr (2, dF))]
def msF (ad : Nat → Nat) (k : Nat) : Nat → Option Nat := fun j => if j < k then some (ad (5 * j)) else none
def dsF (bd : Nat → Nat) (k : Nat) : Nat → Option Nat := fun j => if j < k then some (bd j) else none
abbrev wL (G : xGl) (a x y z : Nat) (f g : Nat → Option Nat) (L : va_W) : va_W := (a, .inr (0, bF x y z)) :: (x, aQ_ G 6 8 f) :: (y, aQ_ G 5 4 g) :: (z, aI G 5) :: L
def adN (ad : Nat → Nat) (k q q1 q2 q3 q4 : Nat) : Nat → Nat := fun j => if j < 5 * k then ad j else if j = 5 * k then q else if j = 5 * k + 1 then q1 else if j = 5 * k + 2 then q2 else if j = 5 * k + 3 then q3 else q4
theorem mLs_ext {G : xGl} {ad bd : Nat → Nat} : ∀ {k : Nat}, (∀ j, j < 5 * k → ad j = bd j) → mLs G ad k = mLs G bd k
  | 0, _ => rfl
  | k + 1, h => by
    unfold mLs
    rw [mLs_ext (fun j hj => h j (by omega)), h (5 * k) (by omega), h (5 * k + 1) (by omega), h (5 * k + 2) (by omega), h (5 * k + 3) (by omega), h (5 * k + 4) (by omega)]
theorem mLs_1 (G : xGl) (ad : Nat → Nat) (k : Nat) : mLs G ad (k + 1) = mLs G ad k ++ mE G (ad (5 * k)) (ad (5 * k + 1)) (ad (5 * k + 2)) (ad (5 * k + 3)) (ad (5 * k + 4)) := rfl
theorem mLs_s {G : xGl} {ad : Nat → Nat} {k q q1 q2 q3 q4 : Nat} : mLs G (adN ad k q q1 q2 q3 q4) (k + 1) = mLs G ad k ++ mE G q q1 q2 q3 q4 := by
  have e0 : adN ad k q q1 q2 q3 q4 (5 * k) = q := by unfold adN; rw [if_neg (by omega), if_pos rfl]
  have e1 : adN ad k q q1 q2 q3 q4 (5 * k + 1) = q1 := by unfold adN; rw [if_neg (by omega), if_neg (by omega), if_pos rfl]
  have e2 : adN ad k q q1 q2 q3 q4 (5 * k + 2) = q2 := by unfold adN; rw [if_neg (by omega), if_neg (by omega), if_neg (by omega), if_pos rfl]
  have e3 : adN ad k q q1 q2 q3 q4 (5 * k + 3) = q3 := by unfold adN; rw [if_neg (by omega), if_neg (by omega), if_neg (by omega), if_neg (by omega), if_pos rfl]
  have e4 : adN ad k q q1 q2 q3 q4 (5 * k + 4) = q4 := by unfold adN; rw [if_neg (by omega), if_neg (by omega), if_neg (by omega), if_neg (by omega), if_neg (by omega)]
  rw [mLs_1, e0, e1, e2, e3, e4, mLs_ext (ad := adN ad k q q1 q2 q3 q4) (bd := ad) (fun j hj => if_pos hj)]
theorem msF_s {ad : Nat → Nat} {k q q1 q2 q3 q4 : Nat} : msF (adN ad k q q1 q2 q3 q4) (k + 1) = va_up (msF ad k) k (some q) := by
  funext j
  by_cases h : j = k
  · rw [h, va_up_self]
    unfold msF adN
    rw [if_pos (by omega), if_neg (by omega), if_pos rfl]
  · rw [va_up_ne _ _ h]
    unfold msF
    by_cases h2 : j < k
    · rw [if_pos (by omega), if_pos h2]
      unfold adN
      rw [if_pos (by omega)]
    · rw [if_neg (by omega), if_neg h2]
theorem dLs_ext {ad bd : Nat → Nat} : ∀ {k : Nat}, (∀ j, j < k → ad j = bd j) → dLs ad k = dLs bd k
  | 0, _ => rfl
  | k + 1, h => by
    unfold dLs
    rw [dLs_ext (fun j hj => h j (by omega)), h k (by omega)]
theorem dLs_1 (bd : Nat → Nat) (k : Nat) : dLs bd (k + 1) = dLs bd k ++ [(bd k, .inr (2, dF))] := rfl
theorem dLs_s {bd : Nat → Nat} {k q : Nat} : dLs (va_up bd k q) (k + 1) = dLs bd k ++ [(q, .inr (2, dF))] := by
  rw [dLs_1, va_up_self, dLs_ext (ad := va_up bd k q) (bd := bd) (fun j hj => va_up_ne _ _ (by omega))]
theorem dsF_s {bd : Nat → Nat} {k q : Nat} : dsF (va_up bd k q) (k + 1) = va_up (dsF bd k) k (some q) := by
  funext j
  by_cases h : j = k
  · rw [h, va_up_self]
    unfold dsF
    rw [if_pos (by omega), va_up_self]
  · rw [va_up_ne _ _ h]
    unfold dsF
    by_cases h2 : j < k
    · rw [if_pos (by omega), if_pos h2, va_up_ne _ _ h]
    · rw [if_neg (by omega), if_neg h2]
/-- the shapes of books, by their own numbers -/
def shBk (r : Nat) : xSh :=
  if r = 0 then .inl (0, [some 1, some 2, some 3, none, none, none, none, none, none])
  else if r = 1 then .inr (.inr (6, [some 8, some 13, some 18, some 23, some 28, some 33, some 38, some 43]))
  else if r = 2 then .inr (.inr (5, [some 4, some 5, some 6, some 7]))
  else if r = 3 then xai 5
  else if r < 8 then .inl (2, [none, none, none])
  else if (r - 8) % 5 = 0 then .inl (5, [none, none, none, none, none, none, some (r + 1), some (r + 2), some (r + 3), some (r + 4)])
  else if (r - 8) % 5 = 1 then xai 4
  else if (r - 8) % 5 = 2 then xai 25
  else if (r - 8) % 5 = 3 then xai 25
  else xai 3
def z00 : xSt := (fun _ _ => 0, fun _ _ => 0)
def ad4 (a x y z : Nat) (ad bd : Nat → Nat) : Nat → Nat := fun r => if r = 0 then a else if r = 1 then x else if r = 2 then y else if r = 3 then z else if r < 8 then bd (r - 4) else ad (r - 8)
theorem msF_8 {a x y z : Nat} {ad bd : Nat → Nat} : msF ad 8 = fun j => (([some 8, some 13, some 18, some 23, some 28, some 33, some 38, some 43][j]?).join).map (ad4 a x y z ad bd) := by
  funext j
  exact match j with
  | 0 => rfl
  | 1 => rfl
  | 2 => rfl
  | 3 => rfl
  | 4 => rfl
  | 5 => rfl
  | 6 => rfl
  | 7 => rfl
  | j + 8 => if_neg (by omega)
theorem dsF_4 {a x y z : Nat} {ad bd : Nat → Nat} : dsF bd 4 = fun j => (([some 4, some 5, some 6, some 7][j]?).join).map (ad4 a x y z ad bd) := by
  funext j
  exact match j with
  | 0 => rfl
  | 1 => rfl
  | 2 => rfl
  | 3 => rfl
  | j + 4 => if_neg (by omega)
abbrev bW (ad : Nat → Nat) : xWd := (48, shBk, ad)
set_option maxRecDepth 100000 in
set_option maxHeartbeats 4000000 in
theorem books_R {G : xGl} {A : Nat → Prop} {a x y z : Nat} {ad bd : Nat → Nat} {H : Heap} (hP : va_P G.1 vwCl (wL G a x y z (msF ad 8) (dsF bd 4) (mLs G ad 8 ++ dLs bd 4)) H) (hD : va_D A (wL G a x y z (msF ad 8) (dsF bd 4) (mLs G ad 8 ++ dLs bd 4))) : Rh G (bW (ad4 a x y z ad bd)) z00 H ∧ ∀ r, r < 48 → A (ad4 a x y z ad bd r) := by
  rw [msF_8 (a := a) (x := x) (y := y) (z := z) (bd := bd), dsF_4 (a := a) (x := x) (y := y) (z := z) (ad := ad)] at hP hD
  have hP1 := hP.sub (ws' := xwl G (bW (ad4 a x y z ad bd)) z00) [0, 1, 2, 3, 44, 45, 46, 47, 4, 5, 6, 7, 8, 9, 10, 11, 12, 13, 14, 15, 16, 17, 18, 19, 20, 21, 22, 23, 24, 25, 26, 27, 28, 29, 30, 31, 32, 33, 34, 35, 36, 37, 38, 39, 40, 41, 42, 43] rfl
  have hD1 := hD.sub (ws' := xwl G (bW (ad4 a x y z ad bd)) z00) [0, 1, 2, 3, 44, 45, 46, 47, 4, 5, 6, 7, 8, 9, 10, 11, 12, 13, 14, 15, 16, 17, 18, 19, 20, 21, 22, 23, 24, 25, 26, 27, 28, 29, 30, 31, 32, 33, 34, 35, 36, 37, 38, 39, 40, 41, 42, 43] (by decide) rfl
  refine ⟨Rh.ofP hP1 (fun o o2 h1 h2 h3 => ?_), fun r hr => ?_⟩
  · exact hD1.1 o o2 _ _ (xwl_get h1) (xwl_get h2) h3
  · exact hD1.2 r _ (xwl_get (w := bW (ad4 a x y z ad bd)) hr)
def rm_X0_init : Room := { frames := 2, cells := 47, slots := 565, locals := 60 }
def zbI : xSt := ur z00 3 (va_cpy xIni (fun _ => 0) 0 0 5)
set_option maxRecDepth 100000 in
set_option maxHeartbeats 4000000 in
theorem c_X0_init (l : Launch) (G : xGl) (a sz : Nat) : xMn l yX0_init cX0_init 2 rm_X0_init G a (.inr (0, bF0)) sz [.ref a] (fun ws => ∃ ad : Nat → Nat, ad 0 = a ∧ ws = xwl G (bW ad) zbI) := by
  refine x_mn (by decide) rfl (Nat.le_of_ble_eq_true rfl) ?_
  intro p e s m args below meth c ls Q A hAe hsz X hin hA hP hD hS hl hret
  obtain ⟨hx, hcb, hml, hown, hts, hlk, hK, hZ⟩ := X
  have hl : lv_has ls 2 [(0, .ref a)] := hl
  refine lv_aload_n hx hcb dX0_init_0 rfl (lv_at hl 0 rfl) ?_
  refine y_obj hx hcb hml hown hts hl.1 q_167 dX0_init_1 (Nat.le_of_ble_eq_true rfl) (Nat.le_of_ble_eq_true rfl) ?_
  refine lv_aload_n hx hcb dX0_init_4 rfl (lv_at hl 0 rfl) ?_
  refine lv_bipush (v := nI 8) hx hcb dX0_init_5 (by decide) ?_
  refine y_newq (t := 6) (N := 8) hx hcb hts hown q_168 hZ.1.2.1 rfl (by decide) hK hP hD hS hA (by decide) (by decide) dX0_init_7 (fun x H hP hD hS => ?_)
  refine y_putF hx hcb hts hown xc0 hin hK hP hD hS 0 rfl 0 (by decide) q_255 rfl rfl rfl rfl rfl (Nat.le_of_ble_eq_true rfl) dX0_init_10 (fun H locs hP hD hS => ?_)
  refine lv_aload_n hx hcb dX0_init_13 rfl (lv_at hl 0 rfl) ?_
  refine lv_iconst (v := nI 4) hx hcb dX0_init_14 (by decide) ?_
  refine y_newq (t := 5) (N := 4) hx hcb hts hown q_170 hZ.1.2.2.1 rfl (by decide) hK hP hD hS hA (by decide) (by decide) dX0_init_15 (fun y H hP hD hS => ?_)
  refine y_putF hx hcb hts hown xc0 hin hK hP hD hS 0 rfl 1 (by decide) q_260 rfl rfl rfl rfl rfl (Nat.le_of_ble_eq_true rfl) dX0_init_18 (fun H locs hP hD hS => ?_)
  refine lv_aload_n hx hcb dX0_init_21 rfl (lv_at hl 0 rfl) ?_
  refine lv_iconst (v := nI 5) hx hcb dX0_init_22 (by decide) ?_
  refine y_newa (atype := .int) (ty := .int) (t := 0) (N := 5) (a0 := (5, .inl (fun _ => 0))) hx hcb hts q_121 rfl rfl (fun _ => rfl) (by decide) (by decide) hK hP hD hS hA (by decide) (by decide) dX0_init_23 (fun z H hP hD hS => ?_)
  refine y_putF hx hcb hts hown xc0 hin hK hP hD hS 0 rfl 2 (by decide) q_263 rfl rfl rfl rfl rfl (Nat.le_of_ble_eq_true rfl) dX0_init_25 (fun H locs hP hD hS => ?_)
  refine lv_iconst (v := nI 0) hx hcb dX0_init_28 (by decide) ?_
  refine lv_istore_n (lv' := [(1, .int (nI 0)), (0, .ref a)]) hx hcb dX0_init_29 rfl hl (by decide) rfl (fun ls hl => ?_)
  have hP : va_P G.1 vwCl (wL G a x y z (msF (fun _ => 0) 0) (fun _ => none) (mLs G (fun _ => 0) 0)) H := hP
  have hD : va_D A (wL G a x y z (msF (fun _ => 0) 0) (fun _ => none) (mLs G (fun _ => 0) 0)) := hD
  suffices LP : ∀ (nn k : Nat) (ad : Nat → Nat) (H : Heap) (locs : List Loc) (ls : Array Slot), 8 - k < nn → k ≤ 8 → va_P G.1 vwCl (wL G a x y z (msF ad k) (fun _ => none) (mLs G ad k)) H → va_D A (wL G a x y z (msF ad k) (fun _ => none) (mLs G ad k)) → va_S A s.heap H locs → lv_has ls 2 [(1, .int (nI k)), (0, .ref a)] → W p l e rm_X0_init s m args below meth c H locs (3 + 5 * k) (17 + 67 * k) Q (F0 m 30 ls []) from LP 9 0 (fun _ => 0) _ _ _ (by decide) (by decide) hP hD hS hl
  intro nn
  induction nn with
  | zero => intro k ad H locs ls h; exact absurd h (Nat.not_lt_zero _)
  | succ nn ih =>
  intro k ad H locs ls hm hk hP hD hS hl
  refine lv_iload_n hx hcb dX0_init_30 rfl (lv_at hl 0 rfl) ?_
  refine lv_bipush (v := nI 8) hx hcb dX0_init_31 (by decide) ?_
  refine lv_icmp_ge (tgt := 55) hx hcb dX0_init_33 (by decide) (fun c1 => ?_) (fun c1 => ?_)
  · have c1 : 8 ≤ k := (nI_leI (by omega) (by omega)).mp c1
    have k8 : k = 8 := by omega
    rw [k8] at hP hD
    refine W.widen (k := 43) (n := 553) (by omega) (by omega) ?_
    clear ih hm c1 hk
    refine lv_iconst (v := nI 0) hx hcb dX0_init_55 (by decide) ?_
    refine lv_istore_n (lv' := [(1, .int (nI 0)), (0, .ref a)]) hx hcb dX0_init_56 rfl hl (by decide) rfl (fun ls hl => ?_)
    have eL : mLs G ad 8 = mLs G ad 8 ++ dLs (fun _ => 0) 0 := (List.append_nil _).symm
    rw [eL, show (fun _ => none) = dsF (fun _ => 0) 0 from rfl] at hP hD
    suffices LP2 : ∀ (nn k : Nat) (bd : Nat → Nat) (H : Heap) (locs : List Loc) (ls : Array Slot), 4 - k < nn → k ≤ 4 → va_P G.1 vwCl (wL G a x y z (msF ad 8) (dsF bd k) (mLs G ad 8 ++ dLs bd k)) H → va_D A (wL G a x y z (msF ad 8) (dsF bd k) (mLs G ad 8 ++ dLs bd k)) → va_S A s.heap H locs → lv_has ls 2 [(1, .int (nI k)), (0, .ref a)] → W p l e rm_X0_init s m args below meth c H locs (43 + k) (553 + 3 * k) Q (F0 m 57 ls []) from LP2 5 0 (fun _ => 0) _ _ _ (by decide) (by decide) hP hD hS hl
    intro nn
    induction nn with
    | zero => intro k bd H locs ls h; exact absurd h (Nat.not_lt_zero _)
    | succ nn ih =>
    intro k bd H locs ls hm hk hP hD hS hl
    refine lv_iload_n hx hcb dX0_init_57 rfl (lv_at hl 0 rfl) ?_
    refine lv_iconst (v := nI 4) hx hcb dX0_init_58 (by decide) ?_
    refine lv_icmp_ge (tgt := 81) hx hcb dX0_init_59 (by decide) (fun c1 => ?_) (fun c1 => ?_)
    · have c1 : 4 ≤ k := (nI_leI (by omega) (by omega)).mp c1
      have k4 : k = 4 := by omega
      rw [k4] at hP hD
      refine W.widen (k := 47) (n := 565) (by omega) (by omega) ?_
      obtain ⟨hR, hAd⟩ := books_R hP hD
      have ea : ad4 a x y z ad bd 0 = a := rfl
      have eA : A = xA (bW (ad4 a x y z ad bd)) s.heap.size := by
        funext q
        apply propext
        constructor
        · intro h
          rw [hAe] at h
          rcases h with ⟨j, e1, h⟩ | h
          · have hj := (List.getElem?_eq_some_iff.mp h).1
            simp only [List.length_cons, List.length_nil] at hj
            have j0 : j = 0 := by omega
            rw [j0] at h
            exact Or.inl ⟨0, by show 0 < 48; omega, (congrArg Prod.fst (Option.some.inj h)).symm.trans ea.symm⟩
          · exact Or.inr h
        · intro h
          rcases h with ⟨o, ho, h⟩ | h
          · rw [h]; exact hAd o ho
          · exact hA q h
      rw [eA] at hS hZ
      obtain ⟨t0, hz0, ht0⟩ := hZ.2.1.1
      refine x_getsN hx hcb hz0 hS hown (hZ.1.1 _ (List.mem_of_getElem? (i := 7) rfl)) dX0_init_81 ?_
      refine lv_iconst (v := nI 0) hx hcb dX0_init_84 (by decide) ?_
      refine lv_aload_n hx hcb dX0_init_85 rfl (lv_at hl 1 rfl) ?_
      refine y_get hx hcb hts hown xc0 hK hP 0 rfl 2 (by decide) q_263 rfl rfl dX0_init_86 ?_
      refine lv_iconst (v := nI 0) hx hcb dX0_init_89 (by decide) ?_
      refine lv_iconst (v := nI 5) hx hcb dX0_init_90 (by decide) ?_
      refine x_copyT (o1 := 3) (n1 := 5) (n := 5) hx hcb hml hown hts hl.1 q_252 hK hR hS ht0 (by show 3 < 48; omega) rfl (by omega) (by omega) (by decide) (Nat.le_of_ble_eq_true rfl) (Nat.le_of_ble_eq_true rfl) dX0_init_91 (fun H locs hR hS => ?_)
      rw [← eA] at hS
      exact hret _ _ _ _ _ dX0_init_94 hR.P (eA ▸ hR.D s.heap.size) hS ⟨ad4 a x y z ad bd, rfl, rfl⟩
    · have c1 : k < 4 := Nat.not_le.mp (fun h => c1 ((nI_leI (by omega) (by omega)).mpr h))
      refine lv_aload_n hx hcb dX0_init_62 rfl (lv_at hl 1 rfl) ?_
      refine y_get hx hcb hts hown xc0 hK hP 0 rfl 1 (by decide) q_260 rfl rfl dX0_init_63 ?_
      refine lv_iload_n hx hcb dX0_init_66 rfl (lv_at hl 0 rfl) ?_
      refine y_new (fs := dF) hx hcb hts hown xc2 q_170 q_232 q_78 dF_ok hK hP hD hS hA (by show _ ≤ 47; omega) (by show _ ≤ 565; omega) dX0_init_67 (fun q H hP hD hS => ?_)
      refine lv_dup hx hcb dX0_init_70 rfl ?_
      refine y_cIN (host := "PatronageBooks") (ws0 := wL G a x y z (msF ad 8) (dsF bd k) (mLs G ad 8 ++ dLs bd k)) (As := []) (rest := [.ref q, .int (nI k), .ref y]) hx hcb hml hown hts (c_X2_init l G q H.size) mi_X2_init (hZ.1.1 _ (List.mem_of_getElem? (i := 6) rfl)) hK hZ hP hD hS hA rfl hl.1 rfl (Nat.le_of_ble_eq_true rfl) dX0_init_71 ⟨by decide, by decide⟩ ⟨by show _ + 0 ≤ 47; omega, by show _ + 0 ≤ 565; omega⟩ (fun w1 H locs hw hP hD hS => ?_)
      subst hw
      refine va_astq (D := G.1) (cl := vwCl) (tys := xtys G) hx hcb hK hP hD hS 2 5 ((mLs G ad 8 ++ dLs bd k).length + 4) 2 rfl rfl (by show ((mLs G ad 8 ++ dLs bd k) ++ [(q, .inr (2, dF))])[(mLs G ad 8 ++ dLs bd k).length]? = _; rw [List.getElem?_append_right (Nat.le_refl _), Nat.sub_self]; rfl) rfl (vp_in_nI c1 (by decide)) dX0_init_74 (fun H locs hP hD hS => ?_)
      rw [nI_clamp (show k < 2 ^ 31 by omega)] at hP hD
      have eW : (wL G a x y z (msF ad 8) (dsF bd k) (mLs G ad 8 ++ dLs bd k) ++ [((q, Sum.inr (2, dF)) : Nat × va_E)]).set 2 (y, aQ_ G 5 4 (va_up (dsF bd k) k (some q))) = wL G a x y z (msF ad 8) (dsF (va_up bd k q) (k + 1)) (mLs G ad 8 ++ dLs (va_up bd k q) (k + 1)) := by
        rw [dsF_s, dLs_s, ← List.append_assoc]; rfl
      rw [eW] at hP hD
      refine lv_iinc (v := nI (k + 1)) (lv' := [(1, .int (nI (k + 1))), (0, .ref a)]) hx hcb dX0_init_75 hl (k := 0) rfl (x_iinc1 _) (by decide) rfl (fun ls hl => ?_)
      refine lv_goto (tgt := 57) hx hcb dX0_init_78 (by decide) ?_
      refine W.widen (k := 43 + (k + 1)) (n := 553 + 3 * (k + 1)) (by show 43 + k + 1 + 0 ≤ _; omega) (by show 553 + 3 * k + 3 + 0 ≤ _; omega) ?_
      exact ih (k + 1) (va_up bd k q) H locs ls (by omega) (by omega) hP hD hS hl
  · have c1 : k < 8 := Nat.not_le.mp (fun h => c1 ((nI_leI (by omega) (by omega)).mpr h))
    refine lv_aload_n hx hcb dX0_init_36 rfl (lv_at hl 1 rfl) ?_
    refine y_get hx hcb hts hown xc0 hK hP 0 rfl 0 (by decide) q_255 rfl rfl dX0_init_37 ?_
    refine lv_iload_n hx hcb dX0_init_40 rfl (lv_at hl 0 rfl) ?_
    refine y_new (fs := mF0) hx hcb hts hown xc5 q_168 q_172 q_77 mF0_ok hK hP hD hS hA (by show _ ≤ 47; omega) (by show _ ≤ 565; omega) dX0_init_41 (fun q H hP hD hS => ?_)
    refine lv_dup hx hcb dX0_init_44 rfl ?_
    refine y_cIN (host := "PatronageBooks") (ws0 := wL G a x y z (msF ad k) (fun _ => none) (mLs G ad k)) (As := []) (rest := [.ref q, .int (nI k), .ref x]) hx hcb hml hown hts (c_X5_init l G q H.size) mi_X5_init (hZ.1.1 _ (List.mem_of_getElem? (i := 5) rfl)) hK hZ hP hD hS hA rfl hl.1 rfl (Nat.le_of_ble_eq_true rfl) dX0_init_45 ⟨by decide, by decide⟩ ⟨by show _ + 4 ≤ 47; omega, by show _ + 57 ≤ 565; omega⟩ (fun w1 H locs hw hP hD hS => ?_)
    obtain ⟨q1, q2, q3, q4, hw⟩ := hw
    subst hw
    refine va_astq (D := G.1) (cl := vwCl) (tys := xtys G) hx hcb hK hP hD hS 1 6 ((mLs G ad k).length + 4) 5 rfl rfl (by show (mLs G ad k ++ mE G q q1 q2 q3 q4)[(mLs G ad k).length]? = _; rw [List.getElem?_append_right (Nat.le_refl _), Nat.sub_self]; rfl) rfl (vp_in_nI c1 (by decide)) dX0_init_48 (fun H locs hP hD hS => ?_)
    rw [nI_clamp (show k < 2 ^ 31 by omega)] at hP hD
    have eW : (wL G a x y z (msF ad k) (fun _ => none) (mLs G ad k) ++ mE G q q1 q2 q3 q4).set 1 (x, aQ_ G 6 8 (va_up (msF ad k) k (some q))) = wL G a x y z (msF (adN ad k q q1 q2 q3 q4) (k + 1)) (fun _ => none) (mLs G (adN ad k q q1 q2 q3 q4) (k + 1)) := by
      rw [msF_s, mLs_s]; rfl
    rw [eW] at hP hD
    refine lv_iinc (v := nI (k + 1)) (lv' := [(1, .int (nI (k + 1))), (0, .ref a)]) hx hcb dX0_init_49 hl (k := 0) rfl (x_iinc1 _) (by decide) rfl (fun ls hl => ?_)
    refine lv_goto (tgt := 30) hx hcb dX0_init_52 (by decide) ?_
    refine W.widen (k := 3 + 5 * (k + 1)) (n := 17 + 67 * (k + 1)) (by show 3 + 5 * k + 1 + 4 ≤ _; omega) (by show 17 + 67 * k + 10 + 57 ≤ _; omega) ?_
    exact ih (k + 1) (adN ad k q q1 q2 q3 q4) H locs ls (by omega) (by omega) hP hD hS hl
