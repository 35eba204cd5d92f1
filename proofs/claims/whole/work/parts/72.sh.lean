/-! PURE: a sharing comes to its end -/
def sN (g : Nat → Nat) : Nat → Nat
  | 0 => 0
  | k + 1 => sN g k + g k
theorem sN_le {g h : Nat → Nat} : ∀ {n : Nat}, (∀ i, i < n → g i ≤ h i) → sN g n ≤ sN h n
  | 0, _ => Nat.le_refl _
  | n + 1, e => Nat.add_le_add (sN_le (fun i hi => e i (Nat.lt_succ_of_lt hi))) (e n (Nat.lt_succ_self n))
theorem sN_mul (c : Nat) (g : Nat → Nat) : ∀ n, sN (fun i => c * g i) n = c * sN g n
  | 0 => rfl
  | n + 1 => by show sN (fun i => c * g i) n + c * g n = c * (sN g n + g n); rw [sN_mul c g n, Nat.mul_add]
theorem sN_one (g : Nat → Nat) : ∀ n, sN (fun i => g i + 1) n = sN g n + n
  | 0 => rfl
  | n + 1 => by show sN (fun i => g i + 1) n + (g n + 1) = sN g n + g n + (n + 1); rw [sN_one g n]; omega
/-- the floors of the shares: at most the amount, and short of it by at most the number -/
theorem fl_bd (A : Nat) (g : Nat → Nat) (n : Nat) (hT : 0 < sN g n) : sN (fun i => A * g i / sN g n) n ≤ A ∧ A ≤ sN (fun i => A * g i / sN g n) n + n := by
  constructor
  · have h1 : sN (fun i => sN g n * (A * g i / sN g n)) n ≤ sN (fun i => A * g i) n := sN_le (fun i _ => Nat.mul_div_le _ _)
    rw [sN_mul, sN_mul, Nat.mul_comm A] at h1
    exact Nat.le_of_mul_le_mul_left h1 hT
  · have h1 : sN (fun i => A * g i) n ≤ sN (fun i => sN g n * (A * g i / sN g n + 1)) n := sN_le (fun i _ => Nat.le_of_lt (Nat.lt_mul_div_succ _ hT))
    rw [sN_mul, sN_mul, sN_one, Nat.mul_comm A] at h1
    exact Nat.le_of_mul_le_mul_left h1 hT
theorem o64_div {a b : Nat} (ha : a < 2 ^ 62) (hb : b < 2 ^ 62) : Int64.ofNat a / Int64.ofNat b = Int64.ofNat (a / b) := by
  apply Int64.toInt_inj.mp
  have h1 : a / b < 2 ^ 62 := Nat.lt_of_le_of_lt (Nat.div_le_self a b) ha
  rw [Int64.toInt_div, Int64.toInt_ofNat_of_lt (by omega), Int64.toInt_ofNat_of_lt (by omega), Int64.toInt_ofNat_of_lt (by omega)]
  rw [← Int.ofNat_tdiv]
  generalize a / b = q at h1 ⊢
  exact Int.bmod_eq_of_le (by omega) (by omega)
theorem xls_nat {f : Nat → Int64} {g : Nat → Nat} : ∀ {n : Nat}, (∀ i, i < n → f i = Int64.ofNat (g i)) → xls f n = Int64.ofNat (sN g n)
  | 0, _ => rfl
  | n + 1, h => by
    show xls f n + f n = Int64.ofNat (sN g n + g n)
    rw [xls_nat (fun i hi => h i (Nat.lt_succ_of_lt hi)), h n (Nat.lt_succ_self n), Int64.ofNat_add]
theorem lopn_nat {A : Nat} {g : Nat → Int64} {q : Nat → Nat} : ∀ {n : Nat}, (∀ i, i < n → g i = Int64.ofNat (q i)) → sN q n ≤ A → lopn (Int64.ofNat A) g n = Int64.ofNat (A - sN q n)
  | 0, _, _ => rfl
  | n + 1, h, hs => by
    have hs2 : sN q n + q n ≤ A := hs
    show lopn (Int64.ofNat A) g n - g n = Int64.ofNat (A - (sN q n + q n))
    rw [lopn_nat (fun i hi => h i (Nat.lt_succ_of_lt hi)) (by omega), h n (Nat.lt_succ_self n)]
    have e : A - sN q n = (A - (sN q n + q n)) + q n := by omega
    rw [e, Int64.ofNat_add]
    exact Int64.add_sub_cancel _ _
theorem sN_bd {g : Nat → Nat} {B : Nat} : ∀ {n : Nat}, (∀ i, i < n → g i ≤ B) → sN g n ≤ n * B
  | 0, _ => Nat.zero_le _
  | n + 1, h => by
    have h1 := sN_bd (g := g) (B := B) (n := n) (fun i hi => h i (Nat.lt_succ_of_lt hi))
    have h2 := h n (Nat.lt_succ_self n)
    show sN g n + g n ≤ (n + 1) * B
    rw [Nat.add_mul]; omega
/-- weights and amount that are no less than 0 and not too large: the sharing ends -/
theorem shOk_nat {f : Nat → Int64} {g : Nat → Nat} {n A : Nat} (hn : n ≤ 192) (hf : ∀ i, i < n → f i = Int64.ofNat (g i)) (hg : ∀ i, i < n → g i ≤ 2147483647) (hA : A ≤ 2147483647) : shOk f n (Int64.ofNat A) := by
  intro hT
  have eT := xls_nat hf
  have hTb : sN g n ≤ n * 2147483647 := sN_bd hg
  have hTb2 : sN g n ≤ 192 * 2147483647 := Nat.le_trans hTb (Nat.mul_le_mul_right _ hn)
  have hT0 : 0 < sN g n := by
    rcases Nat.eq_zero_or_pos (sN g n) with h | h
    · exact absurd (by rw [eT, h]; rfl) hT
    · exact h
  have hq : ∀ i, i < n → gQ (Int64.ofNat A) f (xls f n) i = Int64.ofNat (A * g i / sN g n) := by
    intro i hi
    unfold gQ
    have h1 : A * g i ≤ 2147483647 * 2147483647 := Nat.mul_le_mul hA (hg i hi)
    rw [eT, hf i hi, ← Int64.ofNat_mul, o64_div (by omega) (by omega)]
  obtain ⟨b1, b2⟩ := fl_bd A g n hT0
  have e1 := lopn_nat (A := A) hq b1
  have e2 : jQ (Int64.ofNat A) f n = A - sN (fun i => A * g i / sN g n) n := by
    unfold jQ
    rw [e1, Int64.toInt_ofNat_of_lt (by omega)]
    exact Int.toNat_natCast _
  rw [e2]
  exact ⟨e1, by omega⟩
theorem sN_up {a : Nat → Nat} {b : Nat} : ∀ {n : Nat}, b < n → sN (va_up a b (a b + 1)) n = sN a n + 1
  | 0, h => absurd h (Nat.not_lt_zero b)
  | n + 1, h => by
    show sN (va_up a b (a b + 1)) n + va_up a b (a b + 1) n = sN a n + a n + 1
    by_cases e : n = b
    · have e1 : sN (va_up a b (a b + 1)) n = sN a n := by
        have key : ∀ m, m ≤ b → sN (va_up a b (a b + 1)) m = sN a m := by
          intro m
          induction m with
          | zero => intro _; rfl
          | succ m ih =>
            intro hm
            show sN (va_up a b (a b + 1)) m + va_up a b (a b + 1) m = sN a m + a m
            rw [ih (by omega), va_up_ne _ _ (by omega)]
        exact key n (by omega)
      rw [e1, e, va_up_self]; omega
    · rw [sN_up (by omega), va_up_ne _ _ e]; omega
/-- what is left over is given out, one each time: nobody gets less, all in all it is just that much more -/
theorem gvQ_nat {n : Nat} (hn : 0 < n) : ∀ (k : Nat) (s : (Nat → Int64) × (Nat → Int64)) (a : Nat → Nat), (∀ i, i < n → s.1 i = Int64.ofNat (a i)) → ∃ a2 : Nat → Nat, (∀ i, i < n → (gvQ n k s).1 i = Int64.ofNat (a2 i)) ∧ (∀ i, i < n → a i ≤ a2 i ∧ a2 i ≤ a i + k) ∧ sN a2 n = sN a n + k
  | 0, s, a, h => ⟨a, h, fun i _ => ⟨Nat.le_refl _, Nat.le_refl _⟩, rfl⟩
  | k + 1, s, a, h => by
    have hb : am s.2 (n - 1) < n := by have := am_le s.2 (n - 1); omega
    generalize hbe : am s.2 (n - 1) = b at hb
    obtain ⟨a2, h1, h2, h3⟩ := gvQ_nat hn k (va_up s.1 b (s.1 b + 1), va_up s.2 b (-1)) (va_up a b (a b + 1)) (by
      intro i hi
      show va_up s.1 b (s.1 b + 1) i = _
      by_cases e : i = b
      · rw [e, va_up_self, va_up_self, h b hb, Int64.ofNat_add]; rfl
      · rw [va_up_ne _ _ e, va_up_ne _ _ e, h i hi])
    refine ⟨a2, fun i hi => ?_, fun i hi => ?_, ?_⟩
    · rw [gvQ_s rfl, hbe]; exact h1 i hi
    · have h4 := h2 i hi
      by_cases e : i = b
      · rw [e, va_up_self] at h4
        rw [e]; omega
      · rw [va_up_ne _ _ e] at h4; omega
    · rw [h3, sN_up hb]; omega
theorem sN_ge {g : Nat → Nat} {i : Nat} : ∀ {n : Nat}, i < n → g i ≤ sN g n
  | 0, h => absurd h (Nat.not_lt_zero i)
  | n + 1, h => by
    show g i ≤ sN g n + g n
    by_cases e : i = n
    · rw [e]; omega
    · have := sN_ge (g := g) (i := i) (n := n) (by omega); omega
/-- an amount is shared to the last unit -/
theorem shares_nat {f : Nat → Int64} {g : Nat → Nat} {n A : Nat} (hn : n ≤ 192) (hf : ∀ i, i < n → f i = Int64.ofNat (g i)) (hg : ∀ i, i < n → g i ≤ 2147483647) (hA : A ≤ 2147483647) (hT : xls f n ≠ 0) (g8 g9 : Nat → Int64) : ∃ a2 : Nat → Nat, (∀ i, i < n → (gvQ n (jQ (Int64.ofNat A) f n) (pre n (gQ (Int64.ofNat A) f (xls f n)) g8, g9)).1 i = Int64.ofNat (a2 i)) ∧ (∀ i, i < n → a2 i ≤ A) ∧ sN a2 n = A := by
  have hn0 : 0 < n := by
    rcases Nat.eq_zero_or_pos n with h | h
    · exact absurd (by rw [h]; rfl) hT
    · exact h
  have eT := xls_nat hf
  have hTb : sN g n ≤ n * 2147483647 := sN_bd hg
  have hTb2 : sN g n ≤ 192 * 2147483647 := Nat.le_trans hTb (Nat.mul_le_mul_right _ hn)
  have hT0 : 0 < sN g n := by
    rcases Nat.eq_zero_or_pos (sN g n) with h | h
    · exact absurd (by rw [eT, h]; rfl) hT
    · exact h
  have hq : ∀ i, i < n → gQ (Int64.ofNat A) f (xls f n) i = Int64.ofNat (A * g i / sN g n) := by
    intro i hi
    unfold gQ
    have h1 : A * g i ≤ 2147483647 * 2147483647 := Nat.mul_le_mul hA (hg i hi)
    rw [eT, hf i hi, ← Int64.ofNat_mul, o64_div (by omega) (by omega)]
  obtain ⟨b1, b2⟩ := fl_bd A g n hT0
  have e1 := lopn_nat (A := A) hq b1
  have e2 : jQ (Int64.ofNat A) f n = A - sN (fun i => A * g i / sN g n) n := by
    unfold jQ
    rw [e1, Int64.toInt_ofNat_of_lt (by omega)]
    exact Int.toNat_natCast _
  obtain ⟨a2, h1, h2, h3⟩ := gvQ_nat hn0 (jQ (Int64.ofNat A) f n) (pre n (gQ (Int64.ofNat A) f (xls f n)) g8, g9) (fun i => A * g i / sN g n) (fun i hi => (pre_lt hi).trans (hq i hi))
  have h4 : sN a2 n = A := by rw [h3, e2]; omega
  exact ⟨a2, h1, fun i hi => by rw [← h4]; exact sN_ge hi, h4⟩
theorem nI_64 {a : Nat} (h : a < 2147483648) : (nI a).toInt64 = Int64.ofNat a := by
  apply Int64.toInt_inj.mp
  rw [Int32.toInt_toInt64, nI_toInt h, Int64.toInt_ofNat_of_lt (by omega)]
theorem nI_of_toInt {x : Int32} {a : Nat} (h : x.toInt = (a : Int)) (ha : a < 2147483648) : x = nI a := by
  apply Int32.toInt_inj.mp
  rw [h, nI_toInt ha]
/-- what a department's result leaves for the members -/
theorem abQ_nat {z : xSt} {d : Nat} {r : Nat} (hr : z.1 4 1 = nI r) (hr2 : r ≤ 50) (h1 : -1000000 ≤ (z.1 10 d).toInt) (h2 : (z.1 10 d).toInt ≤ 1000000) : ∃ A, A ≤ 1000000 ∧ abQ z d = nI A := by
  have t0 : (0 : Int32).toInt = 0 := rfl
  have t00 : (nI 0).toInt = 0 := rfl
  have t100 : (nI 100).toInt = 100 := rfl
  have tr : (nI r).toInt = (r : Int) := nI_toInt (by omega)
  generalize hI : z.1 10 d = x at h1 h2
  by_cases hp : 0 < x
  · have hp2 : 0 < x.toInt := by have := Int32.lt_iff_toInt_lt.mp hp; rw [t0] at this; exact this
    obtain ⟨n, hn⟩ : ∃ n : Nat, x.toInt = (n : Int) := ⟨x.toInt.toNat, by omega⟩
    have ex : x = nI n := nI_of_toInt hn (by omega)
    have e1 : kpQ z d = nI (n * r / 100) := by
      unfold kpQ
      rw [hI, if_pos hp, hr, ex, pk_mul]
      have hb : n * r ≤ 1000000 * 50 := Nat.mul_le_mul (by omega) hr2
      apply Int32.toInt_inj.mp
      rw [Int32.toInt_div, nI_toInt (by omega), t100, nI_toInt (by omega)]
      rw [show ((n * r : Nat) : Int).tdiv 100 = ((n * r / 100 : Nat) : Int) from (Int.ofNat_tdiv (n * r) 100).symm]
      generalize hq : n * r / 100 = q
      exact Int.bmod_eq_of_le (by omega) (by omega)
    have hle : n * r / 100 ≤ n := by
      have h3 : n * r ≤ n * 100 := Nat.mul_le_mul_left n (by omega)
      exact Nat.div_le_of_le_mul (by rw [Nat.mul_comm 100]; exact h3)
    have e2 : rsQ z d = nI (n - n * r / 100) := by
      unfold rsQ
      rw [e1, hI, ex, pk_sub hle]
    refine ⟨n - n * r / 100, by omega, ?_⟩
    unfold abQ
    rw [e2, if_pos (nI_pos' (by omega))]
  · have e1 : kpQ z d = nI 0 := by unfold kpQ; rw [hI, if_neg hp]
    have e2 : rsQ z d = x := by unfold rsQ; rw [e1, hI]; exact Int32.sub_zero x
    have hx0 : x.toInt ≤ 0 := by
      have := Int32.le_iff_toInt_le.mp (Int32.not_lt.mp hp); rw [t0] at this; exact this
    obtain ⟨n, hn⟩ : ∃ n : Nat, -x.toInt = (n : Int) := ⟨(-x.toInt).toNat, by omega⟩
    refine ⟨n, by omega, ?_⟩
    unfold abQ
    rw [e2]
    split
    · rename_i h3
      have h4 := Int32.le_iff_toInt_le.mp h3
      rw [t0] at h4
      exact nI_of_toInt (by omega) (by omega)
    · apply nI_of_toInt _ (by omega)
      rw [Int32.toInt_sub, t0]
      have : (0 - x.toInt) = (n : Int) := by omega
      rw [this]
      exact Int.bmod_eq_of_le (by omega) (by omega)
/-- a department can be dealt: patronage, result and the reserve's part in range -/
def patOk (z : xSt) : Prop := ∀ k, k < 32 → ∃ a : Nat, a ≤ 1000000 ∧ z.1 4 (29 + k) = nI a
theorem shD_of {z : xSt} {d r : Nat} (hm : mQ z 12 ≤ 8) (hd : d < 4) (hp : patOk z) (hr : z.1 4 1 = nI r) (hr2 : r ≤ 50) (h1 : -1000000 ≤ (z.1 10 d).toInt) (h2 : (z.1 10 d).toInt ≤ 1000000) : shD z d := by
  obtain ⟨A, hA, eA⟩ := abQ_nat hr hr2 h1 h2
  unfold shD
  rw [eA, nI_64 (by omega)]
  refine shOk_nat (g := fun i => (z.1 4 (29 + 4 * i + d)).toNatClampNeg) (by omega) (fun i hi => ?_) (fun i hi => ?_) (by omega)
  · obtain ⟨a, ha, ea⟩ := hp (4 * i + d) (by omega)
    rw [show 29 + (4 * i + d) = 29 + 4 * i + d by omega] at ea
    have e1 : (w7 (u1 z 0 15 (z.1 0 15 + kpQ z d)) d (mQ z 12)).2 7 i = (z.1 4 (29 + 4 * i + d)).toInt64 := pre_lt (f := fun m => (z.1 4 (29 + 4 * m + d)).toInt64) hi
    rw [e1, ea, nI_64 (by omega), nI_clamp (by omega)]
  · obtain ⟨a, ha, ea⟩ := hp (4 * i + d) (by omega)
    rw [show 29 + (4 * i + d) = 29 + 4 * i + d by omega] at ea
    show (z.1 4 (29 + 4 * i + d)).toNatClampNeg ≤ _
    rw [ea, nI_clamp (by omega)]; omega
theorem shA_of {z : xSt} {L : List (Nat × Nat)} {f t B : Nat} (hn : t - f ≤ 192) (ha : ∀ k, f ≤ k → k < t → ∃ a : Nat, a < 2147483648 ∧ amt z L k = nI a) (hB : B < 2147483648) : shA z L f t (nI B) := by
  unfold shA
  rw [nI_64 hB]
  refine shOk_nat (g := fun i => (amt z L (f + i)).toNatClampNeg) hn (fun i hi => ?_) (fun i hi => ?_) (by omega)
  · obtain ⟨a, h1, ea⟩ := ha (f + i) (by omega) (by omega)
    have e1 : (saW z L f t).2 7 i = (amt z L (f + i)).toInt64 := pre_lt (f := fun i => (amt z L (f + i)).toInt64) hi
    rw [e1, ea, nI_64 h1, nI_clamp h1]
  · obtain ⟨a, h1, ea⟩ := ha (f + i) (by omega) (by omega)
    show (amt z L (f + i)).toNatClampNeg ≤ _
    rw [ea, nI_clamp h1]; omega
