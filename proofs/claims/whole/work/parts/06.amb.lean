/-! WHAT STANDS AROUND: links to nest mates, arrays over classes, statics and strings that nobody writes -/
def xNb : List Cond := [Cond.methodLinkNest RX9 11 yX7_init "PatronageBooks", Cond.methodLinkNest RX9 19 yX8_init "PatronageBooks", Cond.fieldLinkNest RX9 77 "PatronageBooks$Tokens" "size" "I" "PatronageBooks", Cond.fieldLinkNest RX4 42 "PatronageBooks$Tokens" "kind" "I" "PatronageBooks", Cond.fieldLinkNest RX9 84 "PatronageBooks$Tokens" "start" "I" "PatronageBooks", Cond.methodLinkNest RX0 27 yX5_init "PatronageBooks", Cond.methodLinkNest RX0 28 yX2_init "PatronageBooks", Cond.fieldLinkNest RX0 29 "PatronageBooks" "INITIAL_VALUES" "[I" "PatronageBooks", Cond.methodLinkNest RX9 36 yX3_init "PatronageBooks", Cond.fieldLinkNest RX9 103 "PatronageBooks$History" "count" "I" "PatronageBooks", Cond.fieldLinkNest RX4 147 "PatronageBooks" "LEAST_VALUES" "[I" "PatronageBooks", Cond.fieldLinkNest RX4 150 "PatronageBooks" "GREATEST_VALUES" "[I" "PatronageBooks", Cond.castable "java/lang/IndexOutOfBoundsException" "java/lang/IndexOutOfBoundsException", Cond.declares (⟨"java/lang/RuntimeException", "<init>", "(Ljava/lang/String;)V"⟩ : MethodName), Cond.declares (⟨"java/lang/Exception", "<init>", "(Ljava/lang/String;)V"⟩ : MethodName), Cond.declares (⟨"java/lang/Throwable", "<init>", "(Ljava/lang/String;)V"⟩ : MethodName), Cond.superclass "java/lang/Throwable" "java/lang/Object"]
theorem q_931 : Cond.superclass "java/lang/Throwable" "java/lang/Object" ∈ lw_tbl := tb_4 140 (by decide +kernel)
theorem xNb_tbl : ∀ w ∈ xNb, w ∈ lw_tbl := by
  intro w hw
  simp only [xNb, List.mem_cons, List.not_mem_nil, or_false] at hw
  rcases hw with rfl | rfl | rfl | rfl | rfl | rfl | rfl | rfl | rfl | rfl | rfl | rfl | rfl | rfl | rfl | rfl | rfl
  · exact q_104
  · exact q_135
  · exact q_141
  · exact q_143
  · exact q_145
  · exact q_173
  · exact q_233
  · exact q_250
  · exact q_311
  · exact q_320
  · exact q_647
  · exact q_649
  · exact q_911
  · exact q_913
  · exact q_915
  · exact q_917
  · exact q_931
def xNs (U : State) : Prop := (∀ w ∈ xNb, va_Nw w U) ∧ va_AO RX5 U ∧ va_AO RX2 U ∧ va_AO RX0 U
theorem x_warmU {a b : String} {s U : State} (hW : s.WarmedH U.vm) (hZ : va_Nw (.superclass a b) s) : va_Nw (.superclass a b) U := va_tabs rfl (rfl : (s.setVm U.vm).vm = U.vm) (Cond.before_shiftedFace (args := #[]) (State.Shifted.of_warmed hW) _ rfl hZ)
theorem x_warmC {a b : String} {s U : State} (hW : s.WarmedH U.vm) (hZ : va_Nw (.castable a b) s) : va_Nw (.castable a b) U := va_tabs rfl (rfl : (s.setVm U.vm).vm = U.vm) (Cond.before_shiftedFace (args := #[]) (State.Shifted.of_warmed hW) _ rfl hZ)
theorem xNs.warm {s U : State} (hW : s.WarmedH U.vm) (h : xNs s) : xNs U := by
  refine ⟨fun w hw => ?_, h.2.1.moved hW.alike, h.2.2.1.moved hW.alike, h.2.2.2.moved hW.alike⟩
  have h0 := h.1 w hw
  simp only [xNb, List.mem_cons, List.not_mem_nil, or_false] at hw
  rcases hw with rfl | rfl | rfl | rfl | rfl | rfl | rfl | rfl | rfl | rfl | rfl | rfl | rfl | rfl | rfl | rfl | rfl
  · exact h0.warmM hW
  · exact h0.warmM hW
  · exact h0.warmF hW
  · exact h0.warmF hW
  · exact h0.warmF hW
  · exact h0.warmM hW
  · exact h0.warmM hW
  · exact h0.warmF hW
  · exact h0.warmM hW
  · exact h0.warmF hW
  · exact h0.warmF hW
  · exact h0.warmF hW
  · exact x_warmC hW h0
  · exact h0.warmD hW
  · exact h0.warmD hW
  · exact h0.warmD hW
  · exact x_warmU hW h0
def xIni (j : Nat) : Int32 := [25, 10, 5, 3, 0].getD j 0
def xLea (j : Nat) : Int32 := [20, 0, 1, 0, 0].getD j 0
def xGre (j : Nat) : Int32 := [100, 50, 10, 20, 2].getD j 0
/-- a static array of five ints -/
def xTb (n : String) (f : Nat → Int32) (A : Nat → Prop) (U : State) (H : Heap) : Prop := ∃ t : Nat, va_Z RX9 n "[I" (.ref t) A U H ∧ va_T .int t 5 (fun j => .int (f j)) A U H
/-- a string constant -/
def xS1 (q : String × Nat × String) (A : Nat → Prop) (U : State) (H : Heap) : Prop := ∃ a v : Nat, vk_R q.1 q.2.1 q.2.2 a U ∧ va_O "java/lang/String" a A U H ∧ va_OF "java/lang/String" "coder" "B" (.int 0) a A U H ∧ va_OF "java/lang/String" "value" "[B" (.ref v) a A U H ∧ va_T .byte v q.2.2.toList.length (fun j => .int (nI ((q.2.2.toList.getD j ' ').toNat))) A U H
def xSs : List (String × Nat × String) := [(RX4, 53, "member"), (RX8, 53, "member"), (RX8, 59, "trade"), (RX8, 61, "close"), (RX8, 63, "set"), (RX8, 65, "cash"), (RX8, 67, "years"), (RX8, 69, "keep"), (RX8, 71, "policy"), (RX4, 94, "consent"), (RX4, 62, "section"), (RX4, 67, "trade"), (RX4, 72, "close"), (RX4, 77, "set"), (RX4, 156, "cash"), (RX4, 158, "reserve"), (RX4, 160, "years"), (RX4, 162, "keep"), (RX4, 164, "policy"), (RX9, 289, "no such member"), (RX9, 294, "no such department"), (RX10, 175, "member section trade close set consent cash reserve years keep policy ")]
def xZ (A : Nat → Prop) (U : State) (H : Heap) : Prop :=
  xNs U ∧ (xTb "INITIAL_VALUES" xIni A U H ∧ xTb "LEAST_VALUES" xLea A U H ∧ xTb "GREATEST_VALUES" xGre A U H) ∧ (∀ q ∈ xSs, xS1 q A U H) ∧
  va_Z RJ0 "COMPACT_STRINGS" "Z" (.int 1) A U H ∧ va_Zq RJ3 "SIOOBE_FORMATTER" "Ljava/util/function/BiFunction;" A U H ∧
  vx_Zq Bundle.tN "UNASSIGNED_STACK" Bundle.steD A U H ∧ vx_Zq Bundle.tN "SUPPRESSED_SENTINEL" Bundle.listD A U H
theorem xTb.mv {n : String} {f : Nat → Int32} {A B : Nat → Prop} {s U : State} {H H1 : Heap} (hW : s.WarmedH U.vm) (hAB : ∀ q, B q → A q) (hq : ∀ a : Nat, a < H.size → ¬ A a → H1[a]? = H[a]?) (h : xTb n f A s H) : xTb n f B U H1 := by
  obtain ⟨t, h1, h2⟩ := h
  exact ⟨t, ((h1.moved hW.alike).kept hq).narrow hAB, ((h2.moved hW.alike).kept hq).narrow hAB⟩
theorem xS1.mv {q : String × Nat × String} {A B : Nat → Prop} {s U : State} {H H1 : Heap} (hW : s.WarmedH U.vm) (hAB : ∀ q, B q → A q) (hq : ∀ a : Nat, a < H.size → ¬ A a → H1[a]? = H[a]?) (h : xS1 q A s H) : xS1 q B U H1 := by
  obtain ⟨a, v, h0, h1, h2, h3, h4⟩ := h
  exact ⟨a, v, h0.warm hW, ((h1.moved hW.alike).kept hq).narrow hAB, ((h2.moved hW.alike).kept hq).narrow hAB, ((h3.moved hW.alike).kept hq).narrow hAB, ((h4.moved hW.alike).kept hq).narrow hAB⟩
theorem xZ.mv {A B : Nat → Prop} {s U : State} {H H1 : Heap} (hW : s.WarmedH U.vm) (hAB : ∀ q, B q → A q) (hq : ∀ a : Nat, a < H.size → ¬ A a → H1[a]? = H[a]?) (h : xZ A s H) : xZ B U H1 := by
  obtain ⟨h1, ⟨h2, h3, h4⟩, h5, h6, h7, h8, h9⟩ := h
  exact ⟨h1.warm hW, ⟨h2.mv hW hAB hq, h3.mv hW hAB hq, h4.mv hW hAB hq⟩, fun q hm => (h5 q hm).mv hW hAB hq, ((h6.moved hW.alike).kept hq).narrow hAB, ((h7.moved hW.alike).kept hq).narrow hAB, ((h8.moved hW.alike).kept hq).narrow hAB, ((h9.moved hW.alike).kept hq).narrow hAB⟩
theorem xZ.blind {A : Nat → Prop} {U : State} {g : JFrame} {mk : MethodId} {a : Array Value} (h : xZ A U U.heap) : xZ A (U.calling g mk a) (U.calling g mk a).heap := h.mv (U := U.calling g mk a) (State.WarmedH.refl U) (fun _ h => h) (fun _ _ _ => rfl)
theorem xZ.call {w : xWd} {s U : State} {H : Heap} {locs : List Loc} (h : xZ (xA w s.heap.size) s s.heap) (hS : va_S (xA w s.heap.size) s.heap H locs) (hU : U.heap = H) (hW : s.WarmedH U.vm) : xZ (xA w H.size) U U.heap := by
  rw [hU]
  exact h.mv hW (xA_sub hS) hS.2.1
/-- a method's start: its arguments, the world, the tables, what stands around -/
def xP (G : xGl) (w : xWd) (z : xSt) (sz : Nat) (av : List Value) : Array Value → State → Prop := va_Pc av (fun U => U.heap.size = sz ∧ Rh G w z U.heap ∧ va_K G.1 vwCl (xtys G) U ∧ xZ (xA w sz) U U.heap)
theorem xP_blind {G : xGl} {w : xWd} {z : xSt} {sz : Nat} {av : List Value} : FrameBlind (xP G w z sz av) := fun a U g mk q => ⟨q.1, q.2.1, q.2.2.1, va_K.moved (u := U) (U := U.calling g mk a) (Vm.Alike.refl U.vm) q.2.2.2.1, q.2.2.2.2.blind⟩
abbrev xB (G : xGl) (w : xWd) : xSt → State → Prop := fun u t => Rh G w u t.heap
abbrev xws (y : MethodName) (cc : ByteArray) (maxL : Nat) (ret : Option FieldType) : List Cond := Cond.code y cc maxL ret :: xw
/-- contracts over a world: an int's, a boolean's, a long's, nothing's, an object's -/
abbrev xMi (l : Launch) (y : MethodName) (cc : ByteArray) (maxL : Nat) (ret : Option FieldType) (rm : Room) (G : xGl) (w : xWd) (z : xSt) (sz : Nat) (av : List Value) (post : Int32 → xSt → Prop) : Prop := Met l y (xws y cc maxL ret) rm (xP G w z sz av) (va_Qi post (xB G w) (xA w sz)) rm.cells rm.slots (xA w sz)
abbrev xMl (l : Launch) (y : MethodName) (cc : ByteArray) (maxL : Nat) (ret : Option FieldType) (rm : Room) (G : xGl) (w : xWd) (z : xSt) (sz : Nat) (av : List Value) (post : Int64 → xSt → Prop) : Prop := Met l y (xws y cc maxL ret) rm (xP G w z sz av) (va_Ql post (xB G w) (xA w sz)) rm.cells rm.slots (xA w sz)
abbrev xMv (l : Launch) (y : MethodName) (cc : ByteArray) (maxL : Nat) (rm : Room) (G : xGl) (w : xWd) (z : xSt) (sz : Nat) (av : List Value) (post : xSt → Prop) : Prop := Met l y (xws y cc maxL none) rm (xP G w z sz av) (va_Qv post (xB G w) (xA w sz)) rm.cells rm.slots (xA w sz)
def xMV (y : MethodName) (C : String) (bytes : ByteArray) (maxL : Nat) (ret : Option FieldType) (n : Nat) : Prop := Cond.instanceMethod y ∈ xw ∧ Cond.selects C y y ∈ xw ∧ Cond.initialized C ∈ xw ∧ Cond.code y bytes maxL ret ∈ xw ∧ (y.cls = C ∧ y.cls ≠ "java/lang/invoke/MethodHandle" ∧ y.cls ≠ "java/lang/invoke/VarHandle" ∧ (parseMethodDescriptor y.desc).map (fun d => d.parameters.length) = some n)
def xMS (y : MethodName) (bytes : ByteArray) (maxL : Nat) (ret : Option FieldType) (n : Nat) : Prop := Cond.static y ∈ xw ∧ Cond.initialized y.cls ∈ xw ∧ Cond.code y bytes maxL ret ∈ xw ∧ (y.cls ≠ "java/lang/invoke/MethodHandle" ∧ y.cls ≠ "java/lang/invoke/VarHandle" ∧ (parseMethodDescriptor y.desc).map (fun d => d.parameters.length) = some n)
def xMI (y : MethodName) (bytes : ByteArray) (maxL : Nat) (n : Nat) : Prop := Cond.instanceMethod y ∈ xw ∧ Cond.initialized y.cls ∈ xw ∧ Cond.code y bytes maxL none ∈ xw ∧ y.name = "<init>" ∧ (y.cls ≠ "java/lang/invoke/MethodHandle" ∧ y.cls ≠ "java/lang/invoke/VarHandle" ∧ (parseMethodDescriptor y.desc).map (fun d => d.parameters.length) = some n)
theorem xw_gws {y : MethodName} {bytes : ByteArray} {maxL : Nat} {ret : Option FieldType} (h : Cond.code y bytes maxL ret ∈ xw) : GoodIn xw (xws y bytes maxL ret) := by
  intro w hw
  rcases List.mem_cons.mp hw with rfl | hw
  · exact ⟨h, xw_good h⟩
  · exact ⟨hw, xw_good hw⟩
theorem xw_c {a : Cond} {ws : List Cond} (h : a ∈ xw) (hw : GoodIn xw ws) : GoodIn xw (a :: ws) := by
  intro w h9
  rcases List.mem_cons.mp h9 with rfl | h9
  · exact ⟨h, xw_good h⟩
  · exact hw w h9
