/-! TOKENS -/
def kS (x : Int32) : Nat := if nI 97 ≤ x ∧ x ≤ nI 122 then 1 else if nI 48 ≤ x ∧ x ≤ nI 57 then 2 else if x = nI 59 then 3 else if x = nI 45 then 4 else 5
theorem kS_lt (x : Int32) : 1 ≤ kS x ∧ kS x < 6 := by
  unfold kS
  repeat' split
  all_goals omega
def skW (f : Nat → Int32) : Nat → Nat → Nat
  | 0, s => s
  | k + 1, s => if f s = nI 32 ∨ f s = nI 10 then skW f k (s + 1) else s
theorem skW_s {f : Nat → Int32} {n k s : Nat} (h : n = k + 1) : skW f n s = if f s = nI 32 ∨ f s = nI 10 then skW f k (s + 1) else s := by rw [h]; rfl
def rnK (f : Nat → Int32) (d : Nat) : Nat → Nat → Nat
  | 0, e => e
  | k + 1, e => if kS (f e) = d then rnK f d k (e + 1) else e
theorem rnK_s {f : Nat → Int32} {d n k e : Nat} (h : n = k + 1) : rnK f d n e = if kS (f e) = d then rnK f d k (e + 1) else e := by rw [h]; rfl
theorem skW_b (f : Nat → Int32) : ∀ k s, s ≤ skW f k s ∧ skW f k s ≤ s + k
  | 0, s => ⟨Nat.le_refl _, Nat.le_refl _⟩
  | k + 1, s => by
    have h := skW_b f k (s + 1)
    rw [skW_s rfl]
    split <;> omega
theorem rnK_b (f : Nat → Int32) (d : Nat) : ∀ k s, s ≤ rnK f d k s ∧ rnK f d k s ≤ s + k
  | 0, s => ⟨Nat.le_refl _, Nat.le_refl _⟩
  | k + 1, s => by
    have h := rnK_b f d k (s + 1)
    rw [rnK_s rfl]
    split <;> omega
def tN (z : xSt) (k : Nat) : Nat := (z.1 14 k).toNatClampNeg
def TK (z : xSt) (s k e : Int32) : xSt := ur z 14 (va_up (va_up (va_up (z.1 14) 3 k) 4 s) 5 e)
def tPre (z : xSt) : Prop := z.1 14 2 = nI (tN z 2) ∧ z.1 14 5 = nI (tN z 5) ∧ tN z 5 ≤ tN z 2 ∧ tN z 2 ≤ 900
def tOk (z : xSt) : Prop := z.1 14 2 = nI (tN z 2) ∧ z.1 14 3 = nI (tN z 3) ∧ z.1 14 4 = nI (tN z 4) ∧ z.1 14 5 = nI (tN z 5) ∧ tN z 4 ≤ tN z 5 ∧ tN z 5 ≤ tN z 2 ∧ (tN z 2 ≤ 900 ∧ tN z 3 < 6)
theorem tOk.pre {z : xSt} (h : tOk z) : tPre z := ⟨h.1, h.2.2.2.1, h.2.2.2.2.2.1, h.2.2.2.2.2.2.1⟩
theorem tN_kind {z : xSt} (h : tOk z) : tN z 3 < 6 := h.2.2.2.2.2.2.2
theorem up_sw {f : Nat → Int32} {a b : Nat} {x y : Int32} (h : a ≠ b) : va_up (va_up f a x) b y = va_up (va_up f b y) a x := by
  funext j
  unfold va_up
  by_cases ha : j = a
  · rw [if_neg (by omega), if_pos ha, if_pos ha]
  · rw [if_neg ha, if_neg ha]
theorem up_up (f : Nat → Int32) (a : Nat) (x y : Int32) : va_up (va_up f a x) a y = va_up f a y := by
  funext j
  unfold va_up
  by_cases ha : j = a
  · rw [if_pos ha, if_pos ha]
  · rw [if_neg ha, if_neg ha, if_neg ha]
theorem tk_5 (z : xSt) (s k e v : Int32) : u1 (TK z s k e) 14 5 v = TK z s k v := by
  unfold TK; rw [u1_ur, up_up]
theorem tk_4 (z : xSt) (s k e v : Int32) : u1 (TK z s k e) 14 4 v = TK z v k e := by
  unfold TK; rw [u1_ur, up_sw (by omega), up_up]
theorem tk_3 (z : xSt) (s k e v : Int32) : u1 (TK z s k e) 14 3 v = TK z s v e := by
  unfold TK; rw [u1_ur, up_sw (by omega), up_sw (f := va_up _ 3 k) (by omega), up_up]
theorem tk_0 (z : xSt) : z = TK z (z.1 14 4) (z.1 14 3) (z.1 14 5) := by
  unfold TK
  rw [va_up_id, va_up_id, va_up_id, ur_id]
theorem tk_start {z : xSt} {n : Nat} (h : z.1 14 5 = nI n) : u1 z 14 4 (nI n) = TK z (nI n) (z.1 14 3) (nI n) := by
  have h0 := tk_0 z
  rw [h] at h0
  rw [show u1 z 14 4 (nI n) = u1 (TK z (z.1 14 4) (z.1 14 3) (nI n)) 14 4 (nI n) from congrArg (fun q => u1 q 14 4 (nI n)) h0, tk_4]
def nxS (z : xSt) : Nat := skW (z.1 15) (tN z 2 - tN z 5) (tN z 5)
def nxK (z : xSt) : Nat := if nxS z < tN z 2 then kS (z.1 15 (nxS z)) else 0
def nxE (z : xSt) : Nat := if nxS z < tN z 2 then (if nxK z = 1 ∨ nxK z = 2 then rnK (z.1 15) (nxK z) (tN z 2 - (nxS z + 1)) (nxS z + 1) else nxS z + 1) else nxS z
/-- the next token -/
def nx (z : xSt) : xSt := TK z (nI (nxS z)) (nI (nxK z)) (nI (nxE z))
theorem nx_end {z : xSt} {s : Nat} (h : skW (z.1 15) (tN z 2 - tN z 5) (tN z 5) = s) (h2 : ¬ s < tN z 2) : TK z (nI s) 0 (nI s) = nx z := by
  unfold nx nxE nxK
  rw [if_neg (show ¬ nxS z < tN z 2 by unfold nxS; rw [h]; exact h2), if_neg (show ¬ nxS z < tN z 2 by unfold nxS; rw [h]; exact h2)]
  unfold nxS
  rw [h]; rfl
theorem nx_w {z : xSt} {s e : Nat} (h : skW (z.1 15) (tN z 2 - tN z 5) (tN z 5) = s) (h2 : s < tN z 2) (hw : kS (z.1 15 s) = 1 ∨ kS (z.1 15 s) = 2) (he : rnK (z.1 15) (kS (z.1 15 s)) (tN z 2 - (s + 1)) (s + 1) = e) : TK z (nI s) (nI (kS (z.1 15 s))) (nI e) = nx z := by
  have hs : nxS z = s := h
  have hk : nxK z = kS (z.1 15 s) := by unfold nxK; rw [hs, if_pos h2]
  unfold nx nxE
  rw [hk, hs, if_pos h2, if_pos hw, he]
theorem nx_o {z : xSt} {s : Nat} (h : skW (z.1 15) (tN z 2 - tN z 5) (tN z 5) = s) (h2 : s < tN z 2) (hw : ¬ (kS (z.1 15 s) = 1 ∨ kS (z.1 15 s) = 2)) : TK z (nI s) (nI (kS (z.1 15 s))) (nI (s + 1)) = nx z := by
  have hs : nxS z = s := h
  have hk : nxK z = kS (z.1 15 s) := by unfold nxK; rw [hs, if_pos h2]
  unfold nx nxE
  rw [hk, hs, if_pos h2, if_neg hw]
theorem nx_b {z : xSt} (h : tPre z) : nxS z ≤ nxE z ∧ nxE z ≤ tN z 2 ∧ nxK z < 6 ∧ tN z 5 ≤ nxS z := by
  have hb := skW_b (z.1 15) (tN z 2 - tN z 5) (tN z 5)
  have h3 := h.2.2.1
  have hs : skW (z.1 15) (tN z 2 - tN z 5) (tN z 5) = nxS z := rfl
  rw [hs] at hb
  have hk : nxK z < 6 := by
    unfold nxK; split
    · exact (kS_lt _).2
    · omega
  refine ⟨?_, ?_, hk, by omega⟩ <;> unfold nxE <;> repeat' split
  · have := rnK_b (z.1 15) (nxK z) (tN z 2 - (nxS z + 1)) (nxS z + 1); omega
  · omega
  · omega
  · have := rnK_b (z.1 15) (nxK z) (tN z 2 - (nxS z + 1)) (nxS z + 1); omega
  · omega
  · omega
theorem nx_2 (z : xSt) : tN (nx z) 2 = tN z 2 := rfl
theorem nx_hi {z : xSt} {o : Nat} (h : o ≠ 14) : (nx z).1 o = z.1 o := ur_ne _ _ h
theorem nx_l (z : xSt) : (nx z).2 = z.2 := rfl
theorem nx_ok {z : xSt} (h : tPre z) : tOk (nx z) := by
  obtain ⟨h1, h2, h3, h4⟩ := nx_b h
  have h9 := h.2.2.2
  have e4 : tN (nx z) 4 = nxS z := by show (nI (nxS z)).toNatClampNeg = _; exact nI_clamp (by omega)
  have e5 : tN (nx z) 5 = nxE z := by show (nI (nxE z)).toNatClampNeg = _; exact nI_clamp (by omega)
  have e3 : tN (nx z) 3 = nxK z := by show (nI (nxK z)).toNatClampNeg = _; exact nI_clamp (by omega)
  refine ⟨h.1, ?_, ?_, ?_, ?_, ?_, ?_, ?_⟩
  · rw [e3]; rfl
  · rw [e4]; rfl
  · rw [e5]; rfl
  · rw [e4, e5]; exact h1
  · rw [e5, nx_2]; exact h2
  · rw [nx_2]; exact h9
  · rw [e3]; exact h3
theorem tOk.of {z z2 : xSt} (h : tOk z) (e : z2.1 14 = z.1 14) : tOk z2 := by
  unfold tOk tN at h ⊢
  rw [e]; exact h
/-- the first token -/
def opn (z : xSt) (n q : Nat) : xSt := nx (u1 (u1 z 14 2 (nI (min n q))) 14 5 0)
theorem opn_pre {z : xSt} {n q : Nat} (h : q ≤ 900) : tPre (u1 (u1 z 14 2 (nI (min n q))) 14 5 0) := by
  have e2 : tN (u1 (u1 z 14 2 (nI (min n q))) 14 5 0) 2 = min n q := by show (nI (min n q)).toNatClampNeg = _; exact nI_clamp (by omega)
  have e5 : tN (u1 (u1 z 14 2 (nI (min n q))) 14 5 0) 5 = 0 := rfl
  refine ⟨by rw [e2]; rfl, by rw [e5]; rfl, by rw [e2, e5]; omega, by rw [e2]; omega⟩
theorem nI_min {a b : Nat} (ha : a < 2147483648) (hb : b < 2147483648) : (if nI b < nI a then nI b else nI a) = nI (min a b) := by
  by_cases h : b < a
  · rw [if_pos ((nI_ltI hb ha).mpr h), Nat.min_eq_right (by omega)]
  · rw [if_neg (fun h_ => h ((nI_ltI hb ha).mp h_)), Nat.min_eq_left (by omega)]
/-- a byte put down behind the text -/
def ap1 (z : xSt) (q : Nat) (x : Int32) : xSt := u1 (u1 z 15 q x) 14 1 (nI (q + 1))
def byt (v : Int32) (h : Nat) : Int32 := ((v.toUInt32 >>> ((nI h).toUInt32 &&& Int32.toUInt32 31)).toInt32).toInt8.toInt32
def apd (z : xSt) (v : Int32) (q : Nat) : xSt := ap1 (ap1 (ap1 (ap1 z q (byt v 24)) (q + 1) (byt v 16)) (q + 2) (byt v 8)) (q + 3) (byt v 0)
theorem byt_ok (x : Int32) : vp_nar .byte x.toInt8.toInt32 = x.toInt8.toInt32 := by
  show (x.toInt8.toInt32).toInt8.toInt32 = _
  rw [Int8.toInt8_toInt32]
abbrev isW (z : xSt) (tx : String) : Prop := tN z 3 = 1 ∧ tN z 5 - tN z 4 = slen tx ∧ ∀ j, j < slen tx → z.1 15 (tN z 4 + j) = sch tx j
theorem eqW_s {f g : Nat → Int32} {i : Nat} (h : ∀ j, j < i → f j = g j) (h2 : f i = g i) (j : Nat) (hj : j < i + 1) : f j = g j := by
  rcases Nat.lt_succ_iff_lt_or_eq.mp hj with h1 | h1
  · exact h j h1
  · rw [h1]; exact h2
abbrev isNm (z : xSt) : Prop := tN z 3 = 1 ∧ tN z 5 - tN z 4 ≤ 6 ∧ ¬ isW z "member" ∧ ¬ isW z "trade" ∧ ¬ isW z "close" ∧ ¬ isW z "set" ∧ ¬ isW z "cash" ∧ ¬ isW z "years" ∧ ¬ isW z "keep" ∧ ¬ isW z "policy"
def ltr (z : xSt) : Nat → Int32
  | 0 => nI 0
  | k + 1 => (ltr z k <<< (nI 5 &&& 31)) ||| (if tN z 4 + k < tN z 5 then z.1 15 (tN z 4 + k) - nI 97 + nI 1 else nI 0)
theorem ltr_y {z : xSt} {k : Nat} (h : tN z 4 + k < tN z 5) : ltr z (k + 1) = (ltr z k <<< (nI 5 &&& 31)) ||| (z.1 15 (tN z 4 + k) - nI 97 + nI 1) := by
  show (ltr z k <<< (nI 5 &&& 31)) ||| (if tN z 4 + k < tN z 5 then z.1 15 (tN z 4 + k) - nI 97 + nI 1 else nI 0) = _
  rw [if_pos h]
theorem ltr_n {z : xSt} {k : Nat} (h : ¬ tN z 4 + k < tN z 5) : ltr z (k + 1) = (ltr z k <<< (nI 5 &&& 31)) ||| nI 0 := by
  show (ltr z k <<< (nI 5 &&& 31)) ||| (if tN z 4 + k < tN z 5 then z.1 15 (tN z 4 + k) - nI 97 + nI 1 else nI 0) = _
  rw [if_neg h]
def itg (f : Nat → Int32) : Nat → Nat → Int32 → Int32
  | 0, _, v => v
  | k + 1, i, v => if v < nI 100000000 then itg f k (i + 1) (v * nI 10 + (f i - nI 48)) else v
theorem itg_s {f : Nat → Int32} {n k i : Nat} {v : Int32} (h : n = k + 1) : itg f n i v = if v < nI 100000000 then itg f k (i + 1) (v * nI 10 + (f i - nI 48)) else v := by rw [h]; rfl
theorem itg_no {f : Nat → Int32} {n i : Nat} {v : Int32} (h : ¬ v < nI 100000000) : itg f n i v = v := by
  cases n with
  | zero => rfl
  | succ k => rw [itg_s rfl, if_neg h]
def intg (z : xSt) : Int32 := itg (z.1 15) (tN z 5 - tN z 4) (tN z 4) (nI 0)
