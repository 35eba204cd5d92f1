/-! PURE: the two ways of sharing give the same; none gets more than its weight -/
theorem am_cong {r s : Nat → Int64} : ∀ {n : Nat}, (∀ i, i ≤ n → r i = s i) → am r n = am s n
  | 0, _ => rfl
  | n + 1, h => by
    have e := am_cong (r := r) (s := s) (n := n) (fun i hi => h i (by omega))
    show (if r (am r n) < r (n + 1) then n + 1 else am r n) = (if s (am s n) < s (n + 1) then n + 1 else am s n)
    rw [e, h (am s n) (by have := am_le s n; omega), h (n + 1) (by omega)]
theorem am_max (r : Nat → Int64) : ∀ (n i : Nat), i ≤ n → r i ≤ r (am r n)
  | 0, i, h => by rw [show i = 0 by omega]; exact Int64.le_refl _
  | n + 1, i, h => by
    show r i ≤ r (if r (am r n) < r (n + 1) then n + 1 else am r n)
    by_cases c : r (am r n) < r (n + 1)
    · rw [if_pos c]
      by_cases e : i = n + 1
      · rw [e]; exact Int64.le_refl _
      · exact Int64.le_trans (am_max r n i (by omega)) (Int64.le_of_lt c)
    · rw [if_neg c]
      by_cases e : i = n + 1
      · rw [e]; exact Int64.not_lt.mp c
      · exact am_max r n i (by omega)
theorem gv_gvQ {n : Nat} (hn : 0 < n) : ∀ (k : Nat) (s : (Nat → Int32) × (Nat → Int64)) (q : (Nat → Int64) × (Nat → Int64)), (∀ i, i < n → s.1 i = (q.1 i).toInt32) → (∀ i, i < n → s.2 i = q.2 i) → ∀ i, i < n → (gv n k s).1 i = ((gvQ n k q).1 i).toInt32
  | 0, s, q, h1, _, i, hi => h1 i hi
  | k + 1, s, q, h1, h2, i, hi => by
    have e : am s.2 (n - 1) = am q.2 (n - 1) := am_cong (fun i hi => h2 i (by omega))
    have hb : am q.2 (n - 1) < n := by have := am_le q.2 (n - 1); omega
    show (gv n k (va_up s.1 (am s.2 (n - 1)) (s.1 (am s.2 (n - 1)) + 1), va_up s.2 (am s.2 (n - 1)) (-1))).1 i = ((gvQ n k (va_up q.1 (am q.2 (n - 1)) (q.1 (am q.2 (n - 1)) + 1), va_up q.2 (am q.2 (n - 1)) (-1))).1 i).toInt32
    rw [e]
    refine gv_gvQ hn k _ _ (fun j hj => ?_) (fun j hj => ?_) i hi
    · show va_up s.1 (am q.2 (n - 1)) (s.1 (am q.2 (n - 1)) + 1) j = (va_up q.1 (am q.2 (n - 1)) (q.1 (am q.2 (n - 1)) + 1) j).toInt32
      rw [va_rd, va_rd]
      by_cases c : j = am q.2 (n - 1)
      · rw [if_pos c, if_pos c, Int64.toInt32_add, h1 _ hb]; rfl
      · rw [if_neg c, if_neg c]; exact h1 j hj
    · show va_up s.2 (am q.2 (n - 1)) (-1) j = va_up q.2 (am q.2 (n - 1)) (-1) j
      rw [va_rd, va_rd, h2 j hj]
theorem iopen_lopn {a : Int32} {A : Int64} {f : Nat → Int32} {g : Nat → Int64} (ha : a = A.toInt32) : ∀ {n : Nat}, (∀ i, i < n → f i = (g i).toInt32) → iopen a f n = (lopn A g n).toInt32
  | 0, _ => ha
  | n + 1, h => by
    show iopen a f n - f n = (lopn A g n - g n).toInt32
    rw [Int64.toInt32_sub, iopen_lopn ha (fun i hi => h i (by omega)), h n (by omega)]
theorem jQ_nat {f : Nat → Int64} {g : Nat → Nat} {n A : Nat} (hn : n ≤ 192) (hf : ∀ i, i < n → f i = Int64.ofNat (g i)) (hg : ∀ i, i < n → g i ≤ 2147483647) (hA : A ≤ 2147483647) (hT0 : 0 < sN g n) : (∀ i, i < n → gQ (Int64.ofNat A) f (xls f n) i = Int64.ofNat (A * g i / sN g n)) ∧ lopn (Int64.ofNat A) (gQ (Int64.ofNat A) f (xls f n)) n = Int64.ofNat (A - sN (fun i => A * g i / sN g n) n) ∧ jQ (Int64.ofNat A) f n = A - sN (fun i => A * g i / sN g n) n ∧ sN (fun i => A * g i / sN g n) n ≤ A ∧ A ≤ sN (fun i => A * g i / sN g n) n + n := by
  have eT := xls_nat hf
  have hTb2 : sN g n ≤ 192 * 2147483647 := Nat.le_trans (sN_bd hg) (Nat.mul_le_mul_right _ hn)
  have hq : ∀ i, i < n → gQ (Int64.ofNat A) f (xls f n) i = Int64.ofNat (A * g i / sN g n) := by
    intro i hi
    unfold gQ
    have h1 : A * g i ≤ 2147483647 * 2147483647 := Nat.mul_le_mul hA (hg i hi)
    rw [eT, hf i hi, ← Int64.ofNat_mul, o64_div (by omega) (by omega)]
  obtain ⟨b1, b2⟩ := fl_bd A g n hT0
  have e1 := lopn_nat (A := A) hq b1
  refine ⟨hq, e1, ?_, b1, b2⟩
  unfold jQ
  rw [e1, Int64.toInt_ofNat_of_lt (by omega)]
  exact Int.toNat_natCast _
theorem o64_32 {a : Nat} (h : a < 2147483648) : (Int64.ofNat a).toInt32 = nI a := by
  rw [← nI_64 h, Int32.toInt32_toInt64]
/-- the component's shares are the reference's -/
theorem sh_eq {n a : Nat} {f : Nat → Int32} {fq : Nat → Int64} {g : Nat → Nat} (hn : n ≤ 192) (hf : ∀ i, i < n → f i = nI (g i)) (hfq : ∀ i, i < n → fq i = Int64.ofNat (g i)) (hg : ∀ i, i < n → g i ≤ 2147483647) (ha : a ≤ 2147483647) (hT : 0 < sN g n) (g7 : Nat → Int32) (g8 h8 h9 : Nat → Int64) :
    ∀ i, i < n → (gv n (gvn (iopen (nI a) (shQ (nI a) f (shT f n)) n) n) (pre n (shQ (nI a) f (shT f n)) g7, pre n (shR (nI a) f (shT f n)) g8)).1 i = ((gvQ n (jQ (Int64.ofNat a) fq n) (pre n (gQ (Int64.ofNat a) fq (xls fq n)) h8, pre n (rQ (Int64.ofNat a) fq (xls fq n)) h9)).1 i).toInt32 := by
  obtain ⟨hq, e1, e2, b1, b2⟩ := jQ_nat hn hfq hg ha hT
  have hn0 : 0 < n := by
    rcases Nat.eq_zero_or_pos n with h | h
    · rw [h] at hT; exact absurd hT (Nat.lt_irrefl 0)
    · exact h
  have eW : ∀ i, i < n → (f i).toInt64 = fq i := fun i hi => by rw [hf i hi, hfq i hi, nI_64 (by have := hg i hi; omega)]
  have eT : shT f n = xls fq n := xls_cong eW
  have eA : (nI a).toInt64 = Int64.ofNat a := nI_64 (by omega)
  have eQ : ∀ i, i < n → shQ (nI a) f (shT f n) i = (gQ (Int64.ofNat a) fq (xls fq n) i).toInt32 := fun i hi => by unfold shQ gQ; rw [eW i hi, eT, eA]
  have eR : ∀ i, i < n → shR (nI a) f (shT f n) i = rQ (Int64.ofNat a) fq (xls fq n) i := fun i hi => by unfold shR rQ; rw [eW i hi, eT, eA]
  have eO : iopen (nI a) (shQ (nI a) f (shT f n)) n = nI (a - sN (fun i => a * g i / sN g n) n) := by
    rw [iopen_lopn (o64_32 (by omega)).symm eQ, e1, o64_32 (by omega)]
  have eG : gvn (iopen (nI a) (shQ (nI a) f (shT f n)) n) n = jQ (Int64.ofNat a) fq n := by
    rw [eO, e2]
    unfold gvn
    by_cases c : a - sN (fun i => a * g i / sN g n) n < n
    · rw [if_pos (nI_lt c (by omega)), nI_clamp (by omega)]
    · rw [if_neg (nI_nlt (by omega) (by omega))]; omega
  rw [eG]
  intro i hi
  refine gv_gvQ hn0 _ _ _ (fun j hj => ?_) (fun j hj => ?_) i hi
  · show pre n _ _ j = Int64.toInt32 (pre n _ _ j)
    rw [pre_lt hj, pre_lt hj]; exact eQ j hj
  · show pre n _ _ j = pre n _ _ j
    rw [pre_lt hj, pre_lt hj]; exact eR j hj
theorem sN_cong {g h : Nat → Nat} : ∀ {n : Nat}, (∀ i, i < n → g i = h i) → sN g n = sN h n
  | 0, _ => rfl
  | n + 1, e => by
    show sN g n + g n = sN h n + h n
    rw [sN_cong (fun i hi => e i (by omega)), e n (by omega)]
theorem sN_add (g h : Nat → Nat) : ∀ n, sN (fun i => g i + h i) n = sN g n + sN h n
  | 0 => rfl
  | n + 1 => by
    show sN (fun i => g i + h i) n + (g n + h n) = sN g n + g n + (sN h n + h n)
    rw [sN_add g h n]; omega
theorem sN_0 {g : Nat → Nat} : ∀ {n : Nat}, (∀ i, i < n → g i = 0) → sN g n = 0
  | 0, _ => rfl
  | n + 1, e => by
    show sN g n + g n = 0
    rw [sN_0 (fun i hi => e i (by omega)), e n (by omega)]
theorem sN_z {r : Nat → Nat} {b : Nat} : ∀ {n : Nat}, b < n → sN (va_up r b 0) n + r b = sN r n
  | 0, h => absurd h (Nat.not_lt_zero b)
  | n + 1, h => by
    show sN (va_up r b 0) n + va_up r b 0 n + r b = sN r n + r n
    by_cases e : n = b
    · rw [e, va_up_self, sN_cong (h := r) (fun i hi => va_up_ne _ _ (by omega)), Nat.add_zero]
    · rw [va_up_ne _ _ e]
      have := sN_z (r := r) (b := b) (n := n) (by omega)
      omega
theorem sN_ex {r : Nat → Nat} : ∀ {n : Nat}, 0 < sN r n → ∃ i, i < n ∧ 0 < r i
  | 0, h => absurd h (Nat.lt_irrefl 0)
  | n + 1, h => by
    by_cases e : 0 < r n
    · exact ⟨n, by omega, e⟩
    · have h : 0 < sN r n + r n := h
      obtain ⟨i, hi, h2⟩ := sN_ex (r := r) (n := n) (by omega)
      exact ⟨i, by omega, h2⟩
theorem o64_lt {a b : Nat} (ha : a < 2 ^ 62) (hb : b < 2 ^ 62) (h : a < b) : Int64.ofNat a < Int64.ofNat b := by
  rw [Int64.lt_iff_toInt_lt, Int64.toInt_ofNat_of_lt (by omega), Int64.toInt_ofNat_of_lt (by omega)]
  omega
theorem gvQ_cap {n S : Nat} (hn : 0 < n) (hS : S < 2 ^ 62) {cap : Nat → Nat} : ∀ (k : Nat) (s : (Nat → Int64) × (Nat → Int64)) (a r : Nat → Nat), (∀ i, i < n → s.1 i = Int64.ofNat (a i)) → (∀ i, i < n → s.2 i = Int64.ofNat (r i) ∨ (s.2 i = -1 ∧ r i = 0)) → (∀ i, i < n → r i < S) → (∀ i, i < n → a i ≤ cap i ∧ (0 < r i → a i < cap i)) → k * S ≤ sN r n → ∃ a2 : Nat → Nat, (∀ i, i < n → (gvQ n k s).1 i = Int64.ofNat (a2 i)) ∧ ∀ i, i < n → a2 i ≤ cap i
  | 0, s, a, r, h1, _, _, h4, _ => ⟨a, h1, fun i hi => (h4 i hi).1⟩
  | k + 1, s, a, r, h1, h2, h3, h4, h5 => by
    have hb : am s.2 (n - 1) < n := by have := am_le s.2 (n - 1); omega
    have hmx := am_max s.2 (n - 1)
    generalize hbe : am s.2 (n - 1) = b at hb hmx
    have hS0 : 0 < S := by have := h3 0 hn; omega
    have h6 : S ≤ sN r n := by rw [Nat.add_mul] at h5; omega
    obtain ⟨i, hi, hri⟩ := sN_ex (r := r) (n := n) (by omega)
    have hpos : (0 : Int64) < s.2 i := by
      rcases h2 i hi with e | ⟨-, e⟩
      · rw [e]; exact o64_lt (a := 0) (by omega) (by have := h3 i hi; omega) hri
      · omega
    have hpb : (0 : Int64) < s.2 b := Int64.lt_of_lt_of_le hpos (hmx i (by omega))
    have hrb : 0 < r b := by
      rcases h2 b hb with e | ⟨e, -⟩
      · rcases Nat.eq_zero_or_pos (r b) with e0 | e0
        · rw [e, e0] at hpb; exact absurd hpb (by decide)
        · exact e0
      · rw [e] at hpb; exact absurd hpb (by decide)
    obtain ⟨a2, g1, g2⟩ := gvQ_cap hn hS (cap := cap) k (va_up s.1 b (s.1 b + 1), va_up s.2 b (-1)) (va_up a b (a b + 1)) (va_up r b 0) (fun i hi => by
        show va_up s.1 b (s.1 b + 1) i = _
        rw [va_rd, va_rd]
        by_cases e : i = b
        · rw [if_pos e, if_pos e, h1 b hb, Int64.ofNat_add]; rfl
        · rw [if_neg e, if_neg e]; exact h1 i hi) (fun i hi => by
        show va_up s.2 b (-1) i = _ ∨ (va_up s.2 b (-1) i = _ ∧ _)
        rw [va_rd, va_rd]
        by_cases e : i = b
        · rw [if_pos e, if_pos e]; exact Or.inr ⟨rfl, rfl⟩
        · rw [if_neg e, if_neg e]; exact h2 i hi) (fun i hi => by
        rw [va_rd]
        by_cases e : i = b
        · rw [if_pos e]; exact hS0
        · rw [if_neg e]; exact h3 i hi) (fun i hi => by
        rw [va_rd, va_rd]
        by_cases e : i = b
        · rw [if_pos e, if_pos e, e]; exact ⟨(h4 b hb).2 hrb, fun h => absurd h (Nat.lt_irrefl 0)⟩
        · rw [if_neg e, if_neg e]; exact h4 i hi) (by
        have e1 := sN_z (r := r) hb
        have e2 := h3 b hb
        rw [Nat.add_mul] at h5
        omega)
    exact ⟨a2, fun i hi => by rw [gvQ_s rfl, hbe]; exact g1 i hi, g2⟩
theorem shares_capg {f : Nat → Int64} {g : Nat → Nat} {n A : Nat} (hn : n ≤ 192) (hf : ∀ i, i < n → f i = Int64.ofNat (g i)) (hg : ∀ i, i < n → g i ≤ 2147483647) (hA : A ≤ 2147483647) (hT : 0 < sN g n) {cap : Nat → Nat} (hc : ∀ i, i < n → A * g i / sN g n ≤ cap i ∧ (0 < A * g i % sN g n → A * g i / sN g n < cap i)) (g8 g9 : Nat → Int64) : ∃ a2 : Nat → Nat, (∀ i, i < n → (gvQ n (jQ (Int64.ofNat A) f n) (pre n (gQ (Int64.ofNat A) f (xls f n)) g8, pre n (rQ (Int64.ofNat A) f (xls f n)) g9)).1 i = Int64.ofNat (a2 i)) ∧ ∀ i, i < n → a2 i ≤ cap i := by
  obtain ⟨hq, e1, e2, b1, b2⟩ := jQ_nat hn hf hg hA hT
  have hn0 : 0 < n := by
    rcases Nat.eq_zero_or_pos n with h | h
    · rw [h] at hT; exact absurd hT (Nat.lt_irrefl 0)
    · exact h
  have hTb2 : sN g n ≤ 192 * 2147483647 := Nat.le_trans (sN_bd hg) (Nat.mul_le_mul_right _ hn)
  have eT := xls_nat hf
  refine gvQ_cap hn0 (S := sN g n) (by omega) _ _ (fun i => A * g i / sN g n) (fun i => A * g i % sN g n) (fun i hi => (pre_lt hi).trans (hq i hi)) (fun i hi => Or.inl ((pre_lt hi).trans ?_)) (fun i hi => Nat.mod_lt _ hT) (fun i hi => ?_) ?_
  · have h1 : A * g i ≤ 2147483647 * 2147483647 := Nat.mul_le_mul hA (hg i hi)
    unfold rQ
    rw [eT, hf i hi, ← Int64.ofNat_mul, o64_div (by omega) (by omega), ← Int64.ofNat_mul]
    have e9 : A * g i = A * g i % sN g n + A * g i / sN g n * sN g n := by
      have := Nat.div_add_mod (A * g i) (sN g n)
      rw [Nat.mul_comm] at this
      omega
    conv => lhs; lhs; rw [e9, Int64.ofNat_add]
    exact Int64.add_sub_cancel _ _
  · exact hc i hi
  · have h1 := sN_add (fun i => sN g n * (A * g i / sN g n)) (fun i => A * g i % sN g n) n
    have h2 : sN (fun i => sN g n * (A * g i / sN g n) + A * g i % sN g n) n = sN (fun i => A * g i) n := sN_cong (fun i _ => Nat.div_add_mod _ _)
    rw [h2, sN_mul, sN_mul] at h1
    rw [e2, Nat.sub_mul]
    rw [Nat.mul_comm (sN g n) (sN _ n)] at h1
    omega
theorem shares_cap {f : Nat → Int64} {g : Nat → Nat} {n A : Nat} (hn : n ≤ 192) (hf : ∀ i, i < n → f i = Int64.ofNat (g i)) (hg : ∀ i, i < n → g i ≤ 2147483647) (hA : A ≤ 2147483647) (hT : 0 < sN g n) (hS : A ≤ sN g n) (g8 g9 : Nat → Int64) : ∃ a2 : Nat → Nat, (∀ i, i < n → (gvQ n (jQ (Int64.ofNat A) f n) (pre n (gQ (Int64.ofNat A) f (xls f n)) g8, pre n (rQ (Int64.ofNat A) f (xls f n)) g9)).1 i = Int64.ofNat (a2 i)) ∧ ∀ i, i < n → a2 i ≤ g i := by
  refine shares_capg hn hf hg hA hT (fun i hi => ?_) g8 g9
  have h1 : A * g i ≤ sN g n * g i := Nat.mul_le_mul_right _ hS
  have h2 := Nat.div_add_mod (A * g i) (sN g n)
  have h3 : A * g i / sN g n ≤ g i := Nat.div_le_of_le_mul h1
  refine ⟨h3, fun h => ?_⟩
  rcases Nat.lt_or_ge (A * g i / sN g n) (g i) with q | q
  · exact q
  · have e : A * g i / sN g n = g i := by omega
    rw [e] at h2
    omega
/-- a weight of 0 gets nothing -/
theorem shares_0 {f : Nat → Int64} {g : Nat → Nat} {n A : Nat} (hn : n ≤ 192) (hf : ∀ i, i < n → f i = Int64.ofNat (g i)) (hg : ∀ i, i < n → g i ≤ 2147483647) (hA : A ≤ 2147483647) (hT : 0 < sN g n) (g8 g9 : Nat → Int64) {i : Nat} (hi : i < n) (h0 : g i = 0) : (gvQ n (jQ (Int64.ofNat A) f n) (pre n (gQ (Int64.ofNat A) f (xls f n)) g8, pre n (rQ (Int64.ofNat A) f (xls f n)) g9)).1 i = 0 := by
  obtain ⟨a2, h1, h2⟩ := shares_capg (cap := fun i => A * g i / sN g n + A * g i % sN g n) hn hf hg hA hT (fun i hi => ⟨by omega, fun h => by omega⟩) g8 g9
  have h3 := h2 i hi
  rw [h0, Nat.mul_zero, Nat.zero_div, Nat.zero_mod] at h3
  rw [h1 i hi, show a2 i = 0 by omega]
  rfl
/-! BOTH ANSWER ALIKE: the dealing of the results -/
def nM2 (b o : Nat) : Prop := (o < 5 ∨ 8 ≤ o) ∧ o ≠ oB b ∧ (∀ m, m < 8 → o ≠ oM b m) ∧ (∀ d, d < 4 → o ≠ oD b d)
theorem aloc_0 {z : xSt} {b d mc : Nat} {am : Int32} (h : bx_sum (fun m => z.1 (oPt b m) d) mc = 0) : aloc z b d am mc = u1 (u1 (u1 z (oD b d) 2 0) (oD b d) 1 0) (oB b) 6 (z.1 (oB b) 6 + am) := by
  unfold aloc
  rw [if_pos h, h]
def alW (z : xSt) (b d mc : Nat) (am : Int32) : xSt := adW (u1 (u1 (u1 z (oD b d) 2 (bx_sum (fun m => z.1 (oPt b m) d) mc)) (oD b d) 1 0) (oD b d) 1 am) b d mc
def alS (z : xSt) (b d mc : Nat) (am : Int32) : xSt := shZ (alW z b d mc am) (if 0 ≤ am then am else -am) mc
theorem aloc_1 {z : xSt} {b d mc : Nat} {am : Int32} (h : ¬ bx_sum (fun m => z.1 (oPt b m) d) mc = 0) : aloc z b d am mc = mU (alS z b d mc am) b 4 (fun m => (alS z b d mc am).1 (oM b m) 4 + (if 0 ≤ am then (alS z b d mc am).1 7 m else -(alS z b d mc am).1 7 m)) mc := by
  unfold aloc
  rw [if_neg h]
  rfl
theorem alS_o {z : xSt} {b d mc o : Nat} {am : Int32} (h : 9 ≤ o) (h2 : o ≠ oD b d) : (alS z b d mc am).1 o = z.1 o := by
  unfold alS alW
  rw [shZ_ne (by omega), adW_ne h, u1_ne _ h2, u1_ne _ h2, u1_ne _ h2]
theorem alS_lo {z : xSt} {b d mc o : Nat} {am : Int32} (h : o < 5 ∨ o = 8) : (alS z b d mc am).1 o = z.1 o := by
  unfold alS alW
  rw [shZ_ne (by omega)]
  unfold adW
  rw [ur_ne _ _ (by omega), ur_ne _ _ (by omega), u1_ne _ (by omega), u1_ne _ (by unfold oD; omega), u1_ne _ (by unfold oD; omega), u1_ne _ (by unfold oD; omega)]
theorem alS_D {z : xSt} {b d mc : Nat} {am : Int32} : (alS z b d mc am).1 (oD b d) = va_up (va_up (z.1 (oD b d)) 2 (bx_sum (fun m => z.1 (oPt b m) d) mc)) 1 am := by
  unfold alS alW
  rw [shZ_ne (by unfold oD; omega), adW_ne (by unfold oD; omega), u1_at, u1_at, u1_at]
  funext j
  simp only [va_rd]
  by_cases e : j = 1
  · rw [if_pos e, if_pos e]
  · rw [if_neg e, if_neg e, if_neg e]
theorem w7_7 {z : xSt} {d n : Nat} : (w7 z d n).2 7 = pre n (fun m => (z.1 4 (29 + 4 * m + d)).toInt64) (z.2 7) := rfl
theorem zLL_8 {z : xSt} {s : (Nat → Int64) × (Nat → Int64)} : (zLL z s).2 8 = s.1 := rfl
theorem shZ_7 {z : xSt} {a : Int32} {n : Nat} (h : 0 < shT (z.1 6) n) : (shZ z a n).1 7 = (shS z a n).1 := by
  unfold shZ
  rw [if_pos h]
  rfl
/-- what a member gets of a department: on both sides -/
theorem sh_al {z y : xSt} {b d mc dc Y A : Nat} {am : Int32} (hE : ∀ m, m < mc → z.1 (oPt b m) d = y.1 4 (29 + 4 * m + d)) (hI : rI mc dc Y (y.1 2) (y.1 4)) (hd : d < 4) (hm : mQ y 12 = mc) (hA : A ≤ 1000000) (eA : (if 0 ≤ am then am else -am) = nI A) (eB : abQ y d = nI A) (h0 : ¬ bx_sum (fun m => z.1 (oPt b m) d) mc = 0) :
    xls ((w7 (u1 y 0 15 (y.1 0 15 + kpQ y d)) d (mQ y 12)).2 7) (mQ y 12) ≠ 0 ∧ ∀ m, m < mc → ∃ a : Nat, a ≤ 1000000 ∧ (alS z b d mc am).1 7 m = nI a ∧ (dgQ y d).2 8 m = Int64.ofNat a := by
  subst hm
  have h8 : mQ y 12 ≤ 8 := hI.1.2.1
  have hg : ∀ m : Nat, ∃ g : Nat, m < (mQ y 12) → g ≤ 1000000 ∧ y.1 4 (29 + 4 * m + d) = nI g := fun m => by
    by_cases h : m < (mQ y 12)
    · obtain ⟨g, h1, h2⟩ := (hI.2.2.2.1 m d (by omega) hd).1
      exact ⟨g, fun _ => ⟨h1, h2⟩⟩
    · exact ⟨0, fun h2 => absurd h2 h⟩
  obtain ⟨g, hg⟩ := Classical.axiomOfChoice hg
  have hsum : ∀ n, n ≤ (mQ y 12) → bx_sum (fun m => z.1 (oPt b m) d) n = nI (sN g n) := by
    intro n
    induction n with
    | zero => intro _; rfl
    | succ n ih =>
      intro hn
      show bx_sum (fun m => z.1 (oPt b m) d) n + z.1 (oPt b n) d = nI (sN g n + g n)
      rw [ih (by omega), hE n (by omega), (hg n (by omega)).2, nI_add]
  have hS0 : 0 < sN g (mQ y 12) := by
    rcases Nat.eq_zero_or_pos (sN g (mQ y 12)) with h | h
    · exact absurd (by rw [hsum (mQ y 12) (Nat.le_refl _), h]; rfl) h0
    · exact h
  have hfq : ∀ i, i < (mQ y 12) → (w7 (u1 y 0 15 (y.1 0 15 + kpQ y d)) d (mQ y 12)).2 7 i = Int64.ofNat (g i) := fun i hi => by
    rw [w7_7, pre_lt hi]
    show ((u1 y 0 15 (y.1 0 15 + kpQ y d)).1 4 (29 + 4 * i + d)).toInt64 = _
    rw [u1_ne _ (by omega), (hg i hi).2, nI_64 (by have := (hg i hi).1; omega)]
  have hgb : ∀ i, i < (mQ y 12) → g i ≤ 2147483647 := fun i hi => by have := (hg i hi).1; omega
  have hx : xls ((w7 (u1 y 0 15 (y.1 0 15 + kpQ y d)) d (mQ y 12)).2 7) (mQ y 12) = Int64.ofNat (sN g (mQ y 12)) := xls_nat hfq
  have hsb : sN g (mQ y 12) ≤ (mQ y 12) * 2147483647 := sN_bd hgb
  have hsb2 : (mQ y 12) * 2147483647 ≤ 8 * 2147483647 := Nat.mul_le_mul_right _ h8
  have hx0 : Int64.ofNat (sN g (mQ y 12)) ≠ 0 := fun h => by
    have h9 := congrArg Int64.toInt h
    rw [Int64.toInt_ofNat_of_lt (by omega)] at h9
    have h9 : ((sN g (mQ y 12) : Nat) : Int) = 0 := h9
    omega
  have hf : ∀ i, i < (mQ y 12) → (alW z b d (mQ y 12) am).1 6 i = nI (g i) := fun i hi => by
    unfold alW adW
    rw [ur_ne _ _ (by omega), ur_at, pre_lt hi]
    show (u1 (u1 (u1 z (oD b d) 2 _) (oD b d) 1 0) (oD b d) 1 am).1 (oPt b i) d = _
    rw [u1_ne _ (by unfold oPt oD; omega), u1_ne _ (by unfold oPt oD; omega), u1_ne _ (by unfold oPt oD; omega), hE i hi]
    exact (hg i hi).2
  have hT : 0 < shT ((alW z b d (mQ y 12) am).1 6) (mQ y 12) := by
    have e : shT ((alW z b d (mQ y 12) am).1 6) (mQ y 12) = Int64.ofNat (sN g (mQ y 12)) := by
      unfold shT
      exact xls_nat (fun i hi => by rw [hf i hi, nI_64 (by have := hgb i hi; omega)])
    rw [e]
    exact o64_lt (a := 0) (by omega) (by omega) hS0
  refine ⟨by rw [hx]; exact hx0, fun m hm' => ?_⟩
  have e7 : (alS z b d (mQ y 12) am).1 7 m = (shS (alW z b d (mQ y 12) am) (nI A) (mQ y 12)).1 m := by
    unfold alS
    rw [eA, shZ_7 hT]
  have key := sh_eq (g7 := (alW z b d (mQ y 12) am).1 7) (g8 := (alW z b d (mQ y 12) am).2 8) (h8 := (w7 (u1 y 0 15 (y.1 0 15 + kpQ y d)) d (mQ y 12)).2 8) (h9 := (w7 (u1 y 0 15 (y.1 0 15 + kpQ y d)) d (mQ y 12)).2 9) (n := (mQ y 12)) (a := A) (f := (alW z b d (mQ y 12) am).1 6) (g := g) (by omega) hf hfq hgb (by omega) hS0 m hm'
  obtain ⟨a2, p1, p2, -⟩ := shares_nat (n := (mQ y 12)) (A := A) (f := (w7 (u1 y 0 15 (y.1 0 15 + kpQ y d)) d (mQ y 12)).2 7) (by omega) hfq hgb (by omega) (by rw [hx]; exact hx0) ((w7 (u1 y 0 15 (y.1 0 15 + kpQ y d)) d (mQ y 12)).2 8) (pre (mQ y 12) (rQ (Int64.ofNat A) ((w7 (u1 y 0 15 (y.1 0 15 + kpQ y d)) d (mQ y 12)).2 7) (xls ((w7 (u1 y 0 15 (y.1 0 15 + kpQ y d)) d (mQ y 12)).2 7) (mQ y 12))) ((w7 (u1 y 0 15 (y.1 0 15 + kpQ y d)) d (mQ y 12)).2 9))
  have e8 : (dgQ y d).2 8 m = Int64.ofNat (a2 m) := by
    unfold dgQ
    rw [zLL_8, eB, nI_64 (by omega)]
    exact p1 m hm'
  refine ⟨a2 m, Nat.le_trans (p2 m hm') hA, ?_, e8⟩
  rw [e7]
  unfold shS
  rw [key, p1 m hm', o64_32 (by have := p2 m hm'; omega)]
theorem xls_0 : ∀ n, xls (fun _ => (0 : Int64)) n = 0
  | 0 => rfl
  | n + 1 => by show xls (fun _ => (0 : Int64)) n + 0 = 0; rw [xls_0 n]; rfl
theorem bx_z {f : Nat → Int32} {n : Nat} (h : ∀ i, i < n → isN (f i) 1000000) (hn : n ≤ 8) (h0 : bx_sum f n = 0) : ∀ i, i < n → f i = 0 := by
  have hg : ∀ i : Nat, ∃ g : Nat, i < n → g ≤ 1000000 ∧ f i = nI g := fun i => by
    by_cases c : i < n
    · obtain ⟨g, h1, h2⟩ := h i c
      exact ⟨g, fun _ => ⟨h1, h2⟩⟩
    · exact ⟨0, fun c2 => absurd c2 c⟩
  obtain ⟨g, hg⟩ := Classical.axiomOfChoice hg
  have hs : ∀ k, k ≤ n → bx_sum f k = nI (sN g k) := by
    intro k
    induction k with
    | zero => intro _; rfl
    | succ k ih =>
      intro hk
      show bx_sum f k + f k = nI (sN g k + g k)
      rw [ih (by omega), (hg k (by omega)).2, nI_add]
  have hb : sN g n ≤ n * 1000000 := sN_bd (fun i hi => (hg i hi).1)
  have hb2 : n * 1000000 ≤ 8 * 1000000 := Nat.mul_le_mul_right _ hn
  rw [hs n (Nat.le_refl _)] at h0
  intro i hi
  rcases Nat.eq_zero_or_pos (g i) with e | e
  · rw [(hg i hi).2, e]; rfl
  · have := sN_ge (g := g) hi
    exact absurd h0 (nI_ne0 (by omega) (by omega))
theorem i32_ab {x : Int32} {a : Nat} {B : Int} (h1 : -B ≤ x.toInt) (h2 : x.toInt ≤ B) (hB : B + a < 2147483648) : (x + nI a).toInt = x.toInt + a := by
  rw [Int32.toInt_add, nI_toInt (by omega)]
  exact Int.bmod_eq_of_le (by omega) (by omega)
theorem i32_sb {x : Int32} {a : Nat} {B : Int} (h1 : -B ≤ x.toInt) (h2 : x.toInt ≤ B) (hB : B + a < 2147483648) : (x + -nI a).toInt = x.toInt - a := by
  rw [← Int32.sub_eq_add_neg, Int32.toInt_sub, nI_toInt (by omega)]
  exact Int.bmod_eq_of_le (by omega) (by omega)
/-- after d departments, on both sides -/
def dA (z y : xSt) (b mc d : Nat) (zd yd : xSt) : Prop :=
  (∀ o, nM2 b o → zd.1 o = z.1 o) ∧ (∀ k, k ≠ 6 → zd.1 (oB b) k = z.1 (oB b) k) ∧ (∀ m k, m < 8 → k ≠ 4 → k ≠ 5 → zd.1 (oM b m) k = z.1 (oM b m) k) ∧
  (∀ m, m < mc → zd.1 (oM b m) 5 = 0 ∧ zd.1 (oM b m) 4 = yd.1 11 m ∧ -(d * 1000000 : Int) ≤ (yd.1 11 m).toInt ∧ (yd.1 11 m).toInt ≤ (d * 1000000 : Int)) ∧
  (∀ e, e < 4 → zd.1 (oD b e) 0 = z.1 (oD b e) 0) ∧ (∀ e, e < d → zd.1 (oD b e) 1 = yd.1 12 e ∧ zd.1 (oD b e) 2 = bx_sum (fun m => z.1 (oPt b m) e) mc) ∧ (∀ e, d ≤ e → yd.1 12 e = 0) ∧
  zd.1 (oB b) 6 = z.1 (oB b) 6 + yd.1 0 15
theorem dlQ_12 {z : xSt} {d e : Nat} (h : e ≠ d) : (dlQ z d).1 12 e = z.1 12 e := by
  unfold dlQ
  split
  · rw [u1_ne _ (by omega)]; rfl
  · unfold d11; rw [ur_ne _ _ (by omega), u1_sne _ _ _ h]; rfl
theorem nM2.Pt {b m : Nat} (hm : m < 8) : nM2 b (oPt b m) := ⟨by unfold oPt; omega, by unfold oPt oB; omega, fun k hk => by unfold oPt oM; omega, fun d hd => by unfold oPt oD; omega⟩
theorem nM2.St {b : Nat} : nM2 b (oSt b) := ⟨by unfold oSt; omega, by unfold oSt oB; omega, fun k hk => by unfold oSt oM; omega, fun d hd => by unfold oSt oD; omega⟩
theorem sgQ_p {x r : Int32} (h : 0 ≤ r) : x * sgQ r = x := by unfold sgQ; rw [if_neg (Int32.not_lt.mpr h)]; exact Int32.mul_one x
theorem sgQ_n {x r : Int32} (h : ¬ 0 ≤ r) : x * sgQ r = -x := by unfold sgQ; rw [if_pos (Int32.not_le.mp h), Int32.mul_neg, Int32.mul_one]
theorem dA_s {z y zd yd : xSt} {b oR mc dc Y d : Nat} (hb : oR < 5 ∨ (8 ≤ oR ∧ oR < 19)) (hE : eqB z b mc dc (y.1 2) (y.1 4)) (hI : rI mc dc Y (y.1 2) (y.1 4)) (h2 : yd.1 2 = y.1 2) (h4 : yd.1 4 = y.1 4) (h10 : yd.1 10 = y.1 10) (hd : d < dc) (hr : z.1 oR d = y.1 10 d) (r1 : -1000000 ≤ (y.1 10 d).toInt) (r2 : (y.1 10 d).toInt ≤ 1000000) (h : dA z y b mc d zd yd) :
    dA z y b mc (d + 1) (aloc (u1 zd (oB b) 6 (zd.1 (oB b) 6 + keptOf zd b (zd.1 oR d))) b d (zd.1 oR d - keptOf zd b (zd.1 oR d)) mc) (dlQ yd d) := by
  obtain ⟨a1, a2, a3, a4, a5, a6, a7, a8⟩ := h
  have h8 : mc ≤ 8 := hI.1.2.1
  have hd4 : d < 4 := by have := hI.1.2.2.2.1; omega
  have hR : nM2 b oR := ⟨by omega, by unfold oB; omega, fun m _ => by unfold oM; omega, fun e _ => by unfold oD; omega⟩
  have eR : zd.1 oR d = yd.1 10 d := by rw [a1 oR hR, hr, h10]
  have eK : keptOf zd b (zd.1 oR d) = kpQ yd d := by
    unfold keptOf kpQ
    rw [eR, a1 _ nM2.St, hE.2.1 1 (by omega), h4]
    rfl
  have eA : zd.1 oR d - keptOf zd b (zd.1 oR d) = rsQ yd d := by rw [eK, eR]; rfl
  rw [eA, eK]
  have hq : mQ yd 12 = mc := by unfold mQ; rw [h2, hI.1.1, nI_clamp (by omega)]
  obtain ⟨A, hA, eAb⟩ : ∃ A, A ≤ 1000000 ∧ abQ yd d = nI A := by
    obtain ⟨r, hr50, er⟩ := hI.2.1.2.1
    exact abQ_nat (z := yd) (d := d) (r := r) (by rw [h4]; exact er) hr50 (by rw [h10]; exact r1) (by rw [h10]; exact r2)
  generalize hk : kpQ yd d = kp at *
  generalize hrs : rsQ yd d = am at *
  have eAb2 : (if 0 ≤ am then am else -am) = nI A := by
    rw [← eAb]; unfold abQ; rw [hrs, Int32.zero_sub]
  generalize hz1 : u1 zd (oB b) 6 (zd.1 (oB b) 6 + kp) = z1
  have zo : ∀ o, o ≠ oB b → z1.1 o = zd.1 o := fun o ho => by rw [← hz1, u1_ne _ ho]
  have zB : ∀ k, z1.1 (oB b) k = if k = 6 then zd.1 (oB b) 6 + kp else zd.1 (oB b) k := fun k => by rw [← hz1, u1_rd2]
  have ePt : ∀ m e, m < mc → z1.1 (oPt b m) e = z.1 (oPt b m) e := fun m e hm => by rw [zo _ (by unfold oPt oB; omega), a1 _ (nM2.Pt (by omega))]
  have eSum : bx_sum (fun m => z1.1 (oPt b m) d) mc = bx_sum (fun m => z.1 (oPt b m) d) mc := bx_cong (fun m hm => ePt m d hm)
  by_cases h0 : bx_sum (fun m => z1.1 (oPt b m) d) mc = 0
  · rw [aloc_0 h0]
    have hx : xls ((w7 (u1 yd 0 15 (yd.1 0 15 + kpQ yd d)) d (mQ yd 12)).2 7) (mQ yd 12) = 0 := by
      rw [hq, w7_7]
      have hz : ∀ i, i < mc → pre mc (fun m => ((u1 yd 0 15 (yd.1 0 15 + kpQ yd d)).1 4 (29 + 4 * m + d)).toInt64) ((u1 yd 0 15 (yd.1 0 15 + kpQ yd d)).2 7) i = 0 := fun i hi => by
        rw [pre_lt hi]
        show ((u1 yd 0 15 (yd.1 0 15 + kpQ yd d)).1 4 (29 + 4 * i + d)).toInt64 = 0
        rw [u1_ne _ (by omega), h4]
        obtain ⟨g, -, eg⟩ := (hI.2.2.2.1 i d (by omega) hd4).1
        have hle : ∀ i, i < mc → isN (z.1 (oPt b i) d) 1000000 := fun i hi => by rw [hE.2.2.2.1 i d hi hd4]; exact (hI.2.2.2.1 i d (by omega) hd4).1
        have := bx_z hle h8 (eSum ▸ h0) i hi
        rw [hE.2.2.2.1 i d hi hd4] at this
        rw [this]; rfl
      rw [xls_cong (g := fun _ => 0) hz]
      exact xls_0 mc
    have hdl : dlQ yd d = u1 (w7 (u1 yd 0 15 (yd.1 0 15 + kp)) d (mQ yd 12)) 0 15 (yd.1 0 15 + kp + am) := by
      unfold dlQ
      rw [if_pos hx, hk, hrs]
      rfl
    have d11e : ∀ m, (dlQ yd d).1 11 m = yd.1 11 m := fun m => by rw [hdl, u1_ne _ (by omega)]; rfl
    have d12e : ∀ m, (dlQ yd d).1 12 m = yd.1 12 m := fun m => by rw [hdl, u1_ne _ (by omega)]; rfl
    refine ⟨fun o ho => ?_, fun k hk' => ?_, fun m k hm hk1 hk2 => ?_, fun m hm => ?_, fun e he => ?_, fun e he => ?_, fun e he => ?_, ?_⟩
    · rw [u1_ne _ ho.2.1, u1_ne _ (ho.2.2.2 d hd4), u1_ne _ (ho.2.2.2 d hd4), zo o ho.2.1]; exact a1 o ho
    · rw [u1_sne _ _ _ hk', u1_ne _ (by unfold oB oD; omega), u1_ne _ (by unfold oB oD; omega), zB, if_neg hk']; exact a2 k hk'
    · rw [u1_ne _ (by unfold oM oB; omega), u1_ne _ (by unfold oM oD; omega), u1_ne _ (by unfold oM oD; omega), zo _ (by unfold oM oB; omega)]; exact a3 m k hm hk1 hk2
    · rw [u1_ne _ (by unfold oM oB; omega), u1_ne _ (by unfold oM oD; omega), u1_ne _ (by unfold oM oD; omega), zo _ (by unfold oM oB; omega), d11e]
      obtain ⟨b1, b2, b3, b4⟩ := a4 m hm
      exact ⟨b1, b2, by omega, by omega⟩
    · rw [u1_ne _ (by unfold oD oB; omega)]
      by_cases ee : e = d
      · rw [ee, u1_sne _ _ _ (by omega), u1_sne _ _ _ (by omega), zo _ (by unfold oD oB; omega)]; exact a5 d hd4
      · rw [u1_ne _ (by unfold oD; omega), u1_ne _ (by unfold oD; omega), zo _ (by unfold oD oB; omega)]; exact a5 e he
    · rw [u1_ne _ (by unfold oD oB; omega), d12e]
      by_cases ee : e = d
      · rw [ee, u1_self, u1_sne _ _ _ (by omega), u1_self]
        exact ⟨(a7 d (Nat.le_refl d)).symm, by rw [← eSum, h0]⟩
      · rw [u1_ne _ (by unfold oD; omega), u1_ne _ (by unfold oD; omega), zo _ (by unfold oD oB; omega)]; exact a6 e (by omega)
    · rw [d12e]; exact a7 e (by omega)
    · rw [u1_self, zB, if_pos rfl, hdl, u1_self, a8, Int32.add_assoc, Int32.add_assoc, Int32.add_assoc]
  · rw [aloc_1 h0]
    obtain ⟨hx, hs⟩ := sh_al (z := z1) (y := yd) (b := b) (d := d) (mc := mc) (dc := dc) (Y := Y) (A := A) (am := am) (fun m hm => by rw [ePt m d hm, hE.2.2.2.1 m d hm hd4, h4]) (by rw [h2, h4]; exact hI) hd4 hq hA eAb2 eAb h0
    have hdl : dlQ yd d = d11 (u1 (dgQ yd d) 12 d am) am mc := by
      unfold dlQ
      rw [if_neg hx, hrs, hq]
    have g1 : (dgQ yd d).1 = (u1 yd 0 15 (yd.1 0 15 + kp)).1 := by unfold dgQ; rw [hk]; rfl
    have g1o : ∀ o, o ≠ 0 → (dgQ yd d).1 o = yd.1 o := fun o ho => by rw [g1, u1_ne _ ho]
    have d11e : ∀ m, m < mc → (dlQ yd d).1 11 m = yd.1 11 m + ((dgQ yd d).2 8 m).toInt32 * sgQ am := fun m hm => by
      rw [hdl]
      unfold d11
      rw [ur_at, pre_lt hm]
      show (u1 (dgQ yd d) 12 d am).1 11 m + ((u1 (dgQ yd d) 12 d am).2 8 m).toInt32 * sgQ am = _
      rw [u1_ne _ (by omega), g1o 11 (by omega)]
      rfl
    have y12 : ∀ e, (dlQ yd d).1 12 e = if e = d then am else yd.1 12 e := fun e => by
      rw [hdl]
      unfold d11
      rw [ur_ne _ _ (by omega), u1_rd2, g1o 12 (by omega)]
    have y15 : (dlQ yd d).1 0 15 = yd.1 0 15 + kp := by
      rw [hdl]
      unfold d11
      rw [ur_ne _ _ (by omega), u1_ne _ (by omega), g1, u1_self]
    generalize hS5 : alS z1 b d mc am = z5 at *
    have z5o : ∀ o, 9 ≤ o → o ≠ oD b d → z5.1 o = z1.1 o := fun o h1 h2 => by rw [← hS5]; exact alS_o h1 h2
    have z5l : ∀ o, (o < 5 ∨ o = 8) → z5.1 o = z1.1 o := fun o h1 => by rw [← hS5]; exact alS_lo h1
    have z5D : z5.1 (oD b d) = va_up (va_up (z1.1 (oD b d)) 2 (bx_sum (fun m => z1.1 (oPt b m) d) mc)) 1 am := by rw [← hS5]; exact alS_D
    have nin : ∀ {o : Nat}, (∀ m, m < 8 → o ≠ oM b m) → ¬ inM b mc o := fun {o} h hi => h (ixM b o) (by obtain ⟨i1, i2, i3⟩ := hi; unfold ixM; omega) (by obtain ⟨i1, i2, i3⟩ := hi; unfold ixM oM; omega)
    refine ⟨fun o ho => ?_, fun k hk' => ?_, fun m k hm hk1 hk2 => ?_, fun m hm => ?_, fun e he => ?_, fun e he => ?_, fun e he => ?_, ?_⟩
    · rw [mU_out (nin ho.2.2.1)]
      have hz : z5.1 o = z1.1 o := by
        by_cases c : o < 9
        · exact z5l o (by have := ho.1; omega)
        · exact z5o o (by omega) (ho.2.2.2 d hd4)
      rw [hz, zo o ho.2.1]; exact a1 o ho
    · rw [mU_out (nin (fun m _ => by unfold oB oM; omega)), z5o _ (by unfold oB; omega) (by unfold oB oD; omega), zB, if_neg hk']; exact a2 k hk'
    · by_cases c : m < mc
      · rw [mU_at c, va_rd, if_neg hk1, z5o _ (by unfold oM; omega) (by unfold oM oD; omega), zo _ (by unfold oM oB; omega)]; exact a3 m k hm hk1 hk2
      · rw [mU_no (by omega), z5o _ (by unfold oM; omega) (by unfold oM oD; omega), zo _ (by unfold oM oB; omega)]; exact a3 m k hm hk1 hk2
    · obtain ⟨b1, b2, b3, b4⟩ := a4 m hm
      obtain ⟨a, ha, e7, e8⟩ := hs m hm
      have eM : z5.1 (oM b m) = zd.1 (oM b m) := by rw [z5o _ (by unfold oM; omega) (by unfold oM oD; omega), zo _ (by unfold oM oB; omega)]
      rw [mU_at hm, va_rd, if_neg (by omega), va_rd, if_pos rfl, eM, d11e m hm, e7, e8, o64_32 (by omega)]
      refine ⟨b1, ?_⟩
      by_cases c : 0 ≤ am
      · rw [if_pos c, sgQ_p c, b2]
        refine ⟨rfl, ?_⟩
        rw [i32_ab b3 b4 (by omega)]
        omega
      · rw [if_neg c, sgQ_n c, b2]
        refine ⟨rfl, ?_⟩
        rw [i32_sb b3 b4 (by omega)]
        omega
    · rw [mU_out (nin (fun m _ => by unfold oD oM; omega))]
      by_cases ee : e = d
      · rw [ee, z5D, va_rd, if_neg (by omega), va_rd, if_neg (by omega), zo _ (by unfold oD oB; omega)]; exact a5 d hd4
      · rw [z5o _ (by unfold oD; omega) (by unfold oD; omega), zo _ (by unfold oD oB; omega)]; exact a5 e he
    · rw [mU_out (nin (fun m _ => by unfold oD oM; omega)), y12]
      by_cases ee : e = d
      · rw [ee]
        exact ⟨by rw [z5D, va_rd, if_pos rfl, if_pos rfl], by rw [z5D, va_rd, if_neg (by omega), va_rd, if_pos rfl]; exact eSum⟩
      · rw [z5o _ (by unfold oD; omega) (by unfold oD; omega), zo _ (by unfold oD oB; omega), if_neg ee]; exact a6 e (by omega)
    · rw [y12, if_neg (by omega)]; exact a7 e (by omega)
    · rw [mU_out (nin (fun m _ => by unfold oB oM; omega)), z5o _ (by unfold oB; omega) (by unfold oB oD; omega), zB, if_pos rfl, y15, a8, Int32.add_assoc]
theorem dA_all {z y : xSt} {b oR mc dc Y : Nat} (hb : oR < 5 ∨ (8 ≤ oR ∧ oR < 19)) (hE : eqB z b mc dc (y.1 2) (y.1 4)) (hI : rI mc dc Y (y.1 2) (y.1 4)) (hr : ∀ d, d < dc → z.1 oR d = y.1 10 d ∧ -1000000 ≤ (y.1 10 d).toInt ∧ (y.1 10 d).toInt ≤ 1000000) : ∀ d, d ≤ dc → dA z y b mc d (dpL (clr z b mc) b oR mc d) (daL y d)
  | 0, _ => by
    have h8 : mc ≤ 8 := hI.1.2.1
    have nin : ∀ {o : Nat}, (∀ m, m < 8 → o ≠ oM b m) → ¬ inM b mc o := fun {o} h hi => h (ixM b o) (by obtain ⟨i1, i2, i3⟩ := hi; unfold ixM; omega) (by obtain ⟨i1, i2, i3⟩ := hi; unfold ixM oM; omega)
    have c0 : ∀ {o : Nat}, (∀ m, m < 8 → o ≠ oM b m) → (clr z b mc).1 o = z.1 o := fun h => by unfold clr; rw [mU_out (nin h), mU_out (nin h)]
    show dA z y b mc 0 (clr z b mc) (ur (ur (u1 y 0 15 0) 11 (fun _ => 0)) 12 (fun _ => 0))
    refine ⟨fun o ho => c0 ho.2.2.1, fun k _ => by rw [c0 (fun m _ => by unfold oB oM; omega)], fun m k hm h1 h2 => ?_, fun m hm => ?_, fun e _ => by rw [c0 (fun m _ => by unfold oD oM; omega)], fun e he => absurd he (Nat.not_lt_zero e), fun e _ => by rw [ur_at], ?_⟩
    · unfold clr
      by_cases c : m < mc
      · rw [mU_at c, va_rd, if_neg h2, mU_at c, va_rd, if_neg h1]
      · rw [mU_no (by omega), mU_no (by omega)]
    · rw [ur_ne _ _ (by omega), ur_at]
      unfold clr
      rw [mU_at hm, va_rd, if_pos rfl, va_rd, if_neg (by omega), mU_at hm, va_rd, if_pos rfl]
      exact ⟨rfl, rfl, by decide, by decide⟩
    · rw [c0 (fun m _ => by unfold oB oM; omega), ur_ne _ _ (by omega), ur_ne _ _ (by omega), u1_self, Int32.add_zero]
  | d + 1, h => dA_s hb hE hI (daL_2 y d) (daL_4 y d) (daL_10 y d) (by omega) (hr d (by omega)).1 (hr d (by omega)).2.1 (hr d (by omega)).2.2 (dA_all hb hE hI hr d (by omega))
