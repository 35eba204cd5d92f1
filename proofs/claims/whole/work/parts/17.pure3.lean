/-! BOOKS: what a copy covers, what can be redeemed -/
abbrev cov (b mc dc o : Nat) : Prop := 19 + 48 * b ≤ o ∧ o < 67 + 48 * b ∧ (o = 19 + 48 * b ∨ o = 22 + 48 * b ∨ (23 + 48 * b ≤ o ∧ o < 23 + 48 * b + dc) ∨ (27 + 48 * b ≤ o ∧ o < 27 + 48 * b + 5 * mc))
/-- books b as books c are: mc members, dc departments -/
def cpA (z : xSt) (b c mc dc : Nat) : xSt := (fun o => if cov b mc dc o then z.1 (o - 48 * b + 48 * c) else z.1 o, z.2)
theorem cpA_in {z : xSt} {b c mc dc o : Nat} (h : cov b mc dc o) : (cpA z b c mc dc).1 o = z.1 (o - 48 * b + 48 * c) := if_pos h
theorem cpA_out {z : xSt} {b c mc dc o : Nat} (h : ¬ cov b mc dc o) : (cpA z b c mc dc).1 o = z.1 o := if_neg h
theorem xz_ext {z z2 : xSt} (h : ∀ o, z.1 o = z2.1 o) (h2 : z.2 = z2.2) : z = z2 := Prod.ext (funext h) h2
theorem ur_1 (z : xSt) (o q : Nat) (f : Nat → Int32) : (ur z o f).1 q = if q = o then f else z.1 q := rfl
theorem cp_0 {z : xSt} {b c : Nat} (hne : c ≠ b) : ur (ur z (oB b) (z.1 (oB c))) (oSt b) ((ur z (oB b) (z.1 (oB c))).1 (oSt c)) = cpA z b c 0 0 := by
  refine xz_ext (fun o => ?_) rfl
  rw [ur_1]
  by_cases h1 : o = oSt b
  · rw [if_pos h1, ur_1, if_neg (by simp only [oSt, oB]; omega), cpA_in (by simp only [oSt] at h1; omega)]
    exact congrArg z.1 (by simp only [oSt] at h1 ⊢; omega)
  · rw [if_neg h1, ur_1]
    by_cases h2 : o = oB b
    · rw [if_pos h2, cpA_in (by simp only [oB] at h2; omega)]
      exact congrArg z.1 (by simp only [oB] at h2 ⊢; omega)
    · rw [if_neg h2, cpA_out (by simp only [oB, oSt] at h1 h2; omega)]
theorem cp_m {z : xSt} {b c i : Nat} (hne : c ≠ b) (hi : i < 8) : cpN (cpA z b c i 0) b i c i = cpA z b c (i + 1) 0 := by
  refine xz_ext (fun o => ?_) rfl
  unfold cpN
  rw [ur_1]
  by_cases h1 : o = oPd b i
  · rw [if_pos h1, cpA_out (by simp only [oPd]; omega), cpA_in (by simp only [oPd] at h1; omega)]
    exact congrArg z.1 (by simp only [oPd] at h1 ⊢; omega)
  rw [if_neg h1, ur_1]
  by_cases h2 : o = oKd b i
  · rw [if_pos h2, cpA_out (by simp only [oKd]; omega), cpA_in (by simp only [oKd] at h2; omega)]
    exact congrArg z.1 (by simp only [oKd] at h2 ⊢; omega)
  rw [if_neg h2, ur_1]
  by_cases h3 : o = oLf b i
  · rw [if_pos h3, cpA_out (by simp only [oLf]; omega), cpA_in (by simp only [oLf] at h3; omega)]
    exact congrArg z.1 (by simp only [oLf] at h3 ⊢; omega)
  rw [if_neg h3, ur_1]
  by_cases h4 : o = oPt b i
  · rw [if_pos h4, cpA_out (by simp only [oPt]; omega), cpA_in (by simp only [oPt] at h4; omega)]
    exact congrArg z.1 (by simp only [oPt] at h4 ⊢; omega)
  rw [if_neg h4, ur_1]
  by_cases h5 : o = oM b i
  · rw [if_pos h5, cpA_out (by simp only [oM]; omega), cpA_in (by simp only [oM] at h5; omega)]
    exact congrArg z.1 (by simp only [oM] at h5 ⊢; omega)
  rw [if_neg h5]
  simp only [oPd, oKd, oLf, oPt, oM] at h1 h2 h3 h4 h5
  by_cases h6 : cov b i 0 o
  · rw [cpA_in h6, cpA_in (by omega)]
  · rw [cpA_out h6, cpA_out (by omega)]
theorem cp_d {z : xSt} {b c mc d : Nat} (hne : c ≠ b) (hd : d < 4) : ur (cpA z b c mc d) (oD b d) ((cpA z b c mc d).1 (oD c d)) = cpA z b c mc (d + 1) := by
  refine xz_ext (fun o => ?_) rfl
  rw [ur_1]
  by_cases h1 : o = oD b d
  · rw [if_pos h1, cpA_out (by simp only [oD]; omega), cpA_in (by simp only [oD] at h1; omega)]
    exact congrArg z.1 (by simp only [oD] at h1 ⊢; omega)
  rw [if_neg h1]
  simp only [oD] at h1
  by_cases h6 : cov b mc d o
  · rw [cpA_in h6, cpA_in (by omega)]
  · rw [cpA_out h6, cpA_out (by omega)]
/-- what a member's certificate of a year can be redeemed: the books b tell year and KEEP -/
abbrev cR (z : xSt) (b c m y : Nat) : Prop := z.1 (oM c m) 2 = 0 ∧ 0 < z.1 (oLf c m) y ∧ z.1 (oSt b) 3 ≤ z.1 (oB b) 5 - nI y
def rdF (z : xSt) (b y m : Nat) : Int32 := if cR z b b m y then z.1 (oLf b m) y else 0
def rTh (z : xSt) (b mc n : Nat) : Int32 := bx_sum (fun y => bx_sum (rdF z b y) mc) n
theorem upB {f : Nat → Int32} {a3 a4 a5 a6 a7 a8 : Int32} {g : Nat → Int32} (h3 : a3 = g 3) (h4 : a4 = g 4) (h5 : a5 = g 5) (h6 : a6 = g 6) (h7 : a7 = g 7) (h8 : a8 = g 8) {k : Nat} (hk : 3 ≤ k ∧ k < 9) : va_up (va_up (va_up (va_up (va_up (va_up f 3 a3) 4 a4) 5 a5) 6 a6) 7 a7) 8 a8 k = g k := by
  match k, hk with
  | 0, h | 1, h | 2, h => exact absurd h.1 (by omega)
  | 3, _ => exact h3
  | 4, _ => exact h4
  | 5, _ => exact h5
  | 6, _ => exact h6
  | 7, _ => exact h7
  | 8, _ => exact h8
  | k + 9, h => exact absurd h.2 (by omega)
section XT
variable {p : Program} {l : Launch} {e : Env} {R : Room} {s : State} {m : MethodId} {args : Array Value} {below : List Frame} {meth : Method} {c : Code} {H : Heap} {locs : List Loc} {cells slots : Nat} {Q : State → Prop}
variable {cc : ByteArray} {pc nL : Nat} {ls : Array Slot} {rest : List Value} {G : xGl} {w : xWd} {z : xSt} {own : String} {index : Nat}
/-- ints copied out of a table that nobody writes -/
theorem x_copyT (hexec : p.tables.exec = Jvm.exec) (hb : c.code = cc) (hml : c.maxLocals = nL) (hown : s.vm.findClass own = some m.cls) (hts : ∀ w ∈ xw, w.before args s = true) (hl0 : ls.size = nL) (hq : Cond.methodLink own index arraycopyName ∈ xw)
    (hK : va_K G.1 vwCl (xtys G) s) (hR : Rh G w z H) (hS : va_S (xA w s.heap.size) s.heap H locs) {b0 n0 o1 n1 : Nat} {f : Nat → Int32} (hX : va_T .int b0 n0 (fun j => .int (f j)) (xA w s.heap.size) s s.heap) (ho1 : o1 < w.1) (s1 : w.2.1 o1 = .inr (.inl (0, n1)))
    {n : Nat} (h4 : n ≤ n0) (h5 : n ≤ n1) (hn0 : n0 < 2147483648)
    (hframes : 1 ≤ R.frames) (hlocals : (rest.map fun v => v.category).sum + (nativeFrameWords "java/lang/System" "arraycopy" 5 + 11) ≤ R.locals) (hdg : decode cc pc = .ok (.invokestatic index, 3))
    (kk : ∀ (H1 : Heap) (locs1 : List Loc), Rh G w (ur z o1 (va_cpy f (z.1 o1) 0 0 n)) H1 → va_S (xA w s.heap.size) s.heap H1 locs1 → W p l e R s m args below meth c H1 locs1 cells slots Q (F0 m (pc + 3) ls rest)) : W p l e R s m args below meth c H locs cells slots Q (F0 m pc ls (.int (nI n) :: .int (nI 0) :: .ref (w.2.2 o1) :: .int (nI 0) :: .ref b0 :: rest)) := by
  have hn : n < 2147483648 := by omega
  have t0 : (nI 0).toInt = 0 := by decide
  have tn : (nI n).toInt = (n : Int) := nI_toInt hn
  have c0 : (nI 0).toNatClampNeg = 0 := by decide
  have cn : (nI n).toNatClampNeg = n := nI_clamp hn
  intro T hT X
  obtain ⟨scr, hs1, hs2, hs3, hs4, -, hs5, hs7⟩ := hX
  have hc0 : H[b0]? = some scr := by rw [hS.2.1 b0 (Array.getElem?_eq_some_iff.mp hs1).1 hs7]; exact hs1
  have hat := hR.at ho1
  rw [s1] at hat
  have hc1 : H[w.2.2 o1]? = some (vp_cell (G.2 0) (n1, .inl (z.1 o1))) := hat
  obtain ⟨hs6, k0, hk0, cm0, hkk0⟩ := hs2
  obtain ⟨-, k1, hk1, cm1, hkk1⟩ := (hK.2 0 _ rfl).1 n1 (fun j => .int (z.1 o1 j))
  obtain ⟨vm', X', step⟩ := X.arraycopy hexec hown (hts _ hq) (hts (Cond.native arraycopyName) q_254) (hts (Cond.static arraycopyName) q_253) (hts (Cond.initialized RJ10) q_79) (src := b0) (dst := w.2.2 o1) (cs := scr) (cd := vp_cell (G.2 0) (n1, .inl (z.1 o1))) (srcPos := nI 0) (destPos := nI 0) (n := nI n) (by rw [hT]; exact hc0) (by rw [hT]; exact hc1)
    hs6 (fun _ h => by cases h) hs3 (fun h => by cases h) hk0 hk1 hkk0 hkk1 (by simp [refKind]) (by decide) (by decide) (nI_pos hn)
    (by rw [t0, tn]; omega)
    (by rw [t0, tn]; show ¬ _ > ((arrV (G.2 0) n1 (fun j => .int (z.1 o1 j))).slots.size : Int); rw [arrV_size]; omega)
    (fun vm₁ _ i hi => by
      rw [cn] at hi
      have e : scr.slots.getD ((nI 0).toNatClampNeg + i) .null = .int (f i) := by
        rw [c0, Nat.zero_add, Array.getD_eq_getD_getElem?, hs5 _ (by omega)]
        rfl
      refine ⟨?_, ?_⟩
      · rw [e]; rfl
      · rw [e]; exact trivial)
    (g := F0 m pc ls (.int (nI n) :: .int (nI 0) :: .ref (w.2.2 o1) :: .int (nI 0) :: .ref b0 :: rest)) rfl (by rw [hml, hl0]) (rest := rest) rfl (by rw [hb]; exact hdg) hframes (by show 2 * 0 + _ + _ ≤ _; omega)
  have e1 : copied scr (vp_cell (G.2 0) (n1, .inl (z.1 o1))) (nI 0) (nI 0) (nI n) = vp_cell (G.2 0) (n1, .inl (va_cpy f (z.1 o1) 0 0 n)) := by
    have h := va_copiedX (n1 := n1) (sp := 0) (dp := 0) (n := n) (fun z => .int z) scr (G.2 0) f (z.1 o1) hs5 (by omega)
    unfold copied
    rw [c0, cn]
    exact h
  rw [e1] at X' step
  have hl : w.2.2 o1 < H.size := (Array.getElem?_eq_some_iff.mp hc1).1
  have hheap : ((T.setVm vm').setCell (w.2.2 o1) (vp_cell (G.2 0) (n1, .inl (va_cpy f (z.1 o1) 0 0 n)))).heap = H.setIfInBounds (w.2.2 o1) (vp_cell (G.2 0) (n1, .inl (va_cpy f (z.1 o1) 0 0 n))) := by rw [← hT]; rfl
  have oq : ∀ q : Nat, q ≠ w.2.2 o1 → (H.setIfInBounds (w.2.2 o1) (vp_cell (G.2 0) (n1, .inl (va_cpy f (z.1 o1) 0 0 n))))[q]? = H[q]? := fun q hq => by simp [Array.getElem?_setIfInBounds, Ne.symm hq]
  obtain ⟨t, a1, b1⟩ := kk _ _ (hR.set1 ho1 (by rw [s1]; exact (show (H.setIfInBounds (w.2.2 o1) _)[w.2.2 o1]? = some _ by simp [Array.getElem?_setIfInBounds, hl]; rfl)) oq) ⟨by simp; exact hS.1, fun q g1 g2 => by
      rw [oq q (fun e => g2 (by rw [e]; exact xA_S ho1))]
      exact hS.2.1 q g1 g2, fun q hq => by
      rcases List.mem_append.mp hq with h | h
      · exact hS.2.2 q h
      · obtain ⟨z, -, hz⟩ := List.mem_map.mp h
        rw [← hz]
        exact xA_S ho1⟩ _ hheap X'
  exact ⟨t, step t a1, b1⟩
theorem x_getsN (hexec : p.tables.exec = Jvm.exec) (hb : c.code = cc) {n own2 host : String} {v : Value} {index : Nat} (hT : va_Z RX9 n "[I" v (xA w s.heap.size) s s.heap) (hS : va_S (xA w s.heap.size) s.heap H locs) (hown : s.vm.findClass own2 = some m.cls) (hq : va_Nw (Cond.fieldLinkNest own2 index RX9 n "[I" host) s) (hdg : decode cc pc = .ok (.getstatic index, 3))
    (kk : W p l e R s m args below meth c H locs cells slots Q (F0 m (pc + 3) ls (v :: rest))) : W p l e R s m args below meth c H locs cells slots Q (F0 m pc ls rest) :=
  va_getsN hexec hb hT hS hown (va_Nw.use rfl hq) (fun _ h => h) hdg kk
end XT
theorem x_ti {p : Program} {l : Launch} {e : Env} {R : Room} {s : State} {m : MethodId} {args : Array Value} {below : List Frame} {meth : Method} {c : Code} {H : Heap} {locs : List Loc} {cells slots : Nat} {Q : State → Prop} {cc : ByteArray} {pc : Nat} {ls : Array Slot} {rest : List Value} {A : Nat → Prop} {t N k : Nat} {f : Nat → Int32} (hexec : p.tables.exec = Jvm.exec) (hb : c.code = cc) (hT : va_T .int t N (fun j => .int (f j)) A s s.heap) (hS : va_S A s.heap H locs) (hk : k < N) (hN : N < 2147483648) (hdg : decode cc pc = .ok (.iaload, 1))
    (kk : W p l e R s m args below meth c H locs cells slots Q (F0 m (pc + 1) ls (.int (f k) :: rest))) : W p l e R s m args below meth c H locs cells slots Q (F0 m pc ls (.int (nI k) :: .ref t :: rest)) := by
  obtain ⟨cell, h1, h2, h3, h4, -, h6, h7⟩ := hT
  have hc := nI_clamp (Nat.lt_trans hk hN)
  refine W.iald (v := .int (f k)) hexec hb (by rw [hS.2.1 t (Array.getElem?_eq_some_iff.mp h1).1 h7]; exact h1) h2 h3 ?_ (by rw [hc]; exact h6 k hk) rfl rfl hdg kk
  rw [hc]
  exact fun h => h.elim (nI_pos (Nat.lt_trans hk hN)) (fun h => by omega)
