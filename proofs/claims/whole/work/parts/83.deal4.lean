/-! PURE: who traded nothing gets nothing; losses taken from certificates -/
/-- who has traded nothing is dealt nothing -/
theorem dlQ_11 {y : xSt} {d mc dc Y m : Nat} (hI : rI mc dc Y (y.1 2) (y.1 4)) (hd : d < 4) (hm : m < mc) (r1 : -1000000 ≤ (y.1 10 d).toInt) (r2 : (y.1 10 d).toInt ≤ 1000000) (h0 : y.1 4 (29 + 4 * m + d) = 0) : (dlQ y d).1 11 m = y.1 11 m := by
  have h8 : mc ≤ 8 := hI.1.2.1
  have hq : mQ y 12 = mc := by unfold mQ; rw [hI.1.1, nI_clamp (by omega)]
  unfold dlQ
  split
  · rw [u1_ne _ (by omega)]; rfl
  · rename_i hx
    obtain ⟨A, hA, eAb⟩ : ∃ A, A ≤ 1000000 ∧ abQ y d = nI A := by
      obtain ⟨r, hr50, er⟩ := hI.2.1.2.1
      exact abQ_nat er hr50 r1 r2
    have hg : ∀ m : Nat, ∃ g : Nat, m < mc → g ≤ 1000000 ∧ y.1 4 (29 + 4 * m + d) = nI g := fun m => by
      by_cases h : m < mc
      · obtain ⟨g, h1, h2⟩ := (hI.2.2.2.1 m d (by omega) hd).1
        exact ⟨g, fun _ => ⟨h1, h2⟩⟩
      · exact ⟨0, fun h2 => absurd h2 h⟩
    obtain ⟨g, hg⟩ := Classical.axiomOfChoice hg
    have hfq : ∀ i, i < mc → (w7 (u1 y 0 15 (y.1 0 15 + kpQ y d)) d (mQ y 12)).2 7 i = Int64.ofNat (g i) := fun i hi => by
      rw [hq, w7_7, pre_lt hi]
      show ((u1 y 0 15 (y.1 0 15 + kpQ y d)).1 4 (29 + 4 * i + d)).toInt64 = _
      rw [u1_ne _ (by omega), (hg i hi).2, nI_64 (by have := (hg i hi).1; omega)]
    have hgb : ∀ i, i < mc → g i ≤ 2147483647 := fun i hi => by have := (hg i hi).1; omega
    have hT : 0 < sN g mc := by
      rcases Nat.eq_zero_or_pos (sN g mc) with h | h
      · exact absurd (by rw [hq] at hfq ⊢; rw [xls_nat hfq, h]; rfl) hx
      · exact h
    have g0 : g m = 0 := by
      have e := (hg m hm).2
      rw [h0] at e
      rcases Nat.eq_zero_or_pos (g m) with h | h
      · exact h
      · exact absurd e.symm (nI_ne0 h (by have := (hg m hm).1; omega))
    have e8 : (dgQ y d).2 8 m = 0 := by
      unfold dgQ
      rw [zLL_8, eAb, nI_64 (by omega)]
      rw [hq] at hfq ⊢
      exact shares_0 (by omega) hfq hgb (by omega) hT _ _ hm g0
    unfold d11
    rw [hq, ur_at, pre_lt hm]
    show (u1 (dgQ y d) 12 d (rsQ y d)).1 11 m + ((u1 (dgQ y d) 12 d (rsQ y d)).2 8 m).toInt32 * sgQ (rsQ y d) = _
    rw [u1_ne _ (by omega), show (u1 (dgQ y d) 12 d (rsQ y d)).2 8 m = (dgQ y d).2 8 m from rfl, e8, show (0 : Int64).toInt32 = 0 from rfl, Int32.zero_mul, Int32.add_zero]
    rfl
theorem daL_11 {y : xSt} {mc dc Y m : Nat} (hI : rI mc dc Y (y.1 2) (y.1 4)) (hm : m < mc) (hr : ∀ d, d < dc → -1000000 ≤ (y.1 10 d).toInt ∧ (y.1 10 d).toInt ≤ 1000000) (h0 : ∀ d, d < 4 → y.1 4 (29 + 4 * m + d) = 0) : ∀ d, d ≤ dc → (daL y d).1 11 m = 0
  | 0, _ => by show (ur (ur (u1 y 0 15 0) 11 (fun _ => 0)) 12 (fun _ => 0)).1 11 m = 0; rw [ur_ne _ _ (by omega), ur_at]
  | d + 1, h => by
    have hd4 : d < 4 := by have := hI.1.2.2.2.1; omega
    show (dlQ (daL y d) d).1 11 m = 0
    rw [dlQ_11 (y := daL y d) (mc := mc) (dc := dc) (Y := Y) (by rw [daL_2, daL_4]; exact hI) hd4 hm (by rw [daL_10]; exact (hr d (by omega)).1) (by rw [daL_10]; exact (hr d (by omega)).2) (by rw [daL_4]; exact h0 d hd4)]
    exact daL_11 hI hm hr h0 d (by omega)
/-- taken from a row of certificates, from the last to the first -/
def rcF : Nat → (Nat → Int32) → Int32 → (Nat → Int32) × Int32
  | 0, f, o => (f, o)
  | n + 1, f, o => rcF n (va_up f n (f n - imin o (f n))) (o - imin o (f n))
def ipF : Nat → Nat → (Nat → Int32) → Int32 → (Nat → Int32) × Int32
  | 0, _, f, o => (f, o)
  | n + 1, i, f, o => ipF n (i + 1) (va_up f i (f i - imin o (f i))) (o - imin o (f i))
theorem imin_nat {a b : Nat} (ha : a < 2147483648) (hb : b < 2147483648) : imin (nI a) (nI b) = nI (min a b) := nI_min ha hb
theorem rcF_0 : ∀ {n : Nat} {f : Nat → Int32}, (∀ i, i < n → ∃ g : Nat, g < 2147483648 ∧ f i = nI g) → rcF n f (nI 0) = (f, nI 0)
  | 0, _, _ => rfl
  | n + 1, f, h => by
    obtain ⟨g, hg, e⟩ := h n (by omega)
    have e1 : imin (nI 0) (f n) = nI 0 := by rw [e, imin_nat (by omega) hg, Nat.zero_min]
    show rcF n (va_up f n (f n - imin (nI 0) (f n))) (nI 0 - imin (nI 0) (f n)) = _
    rw [e1, show f n - nI 0 = f n from Int32.sub_zero _, va_up_id, show nI 0 - nI 0 = nI 0 from rfl]
    exact rcF_0 (fun i hi => h i (by omega))
theorem rcp_rcF : ∀ {n : Nat} {f : Nat → Int32} {x : Nat}, x < 2147483648 → (∀ i, i < n → ∃ g : Nat, g < 2147483648 ∧ f i = nI g) → rcp n f (nI x) = rcF n f (nI x)
  | 0, _, _, _, _ => rfl
  | n + 1, f, x, hx, h => by
    by_cases c : x = 0
    · rw [c, rcF_0 h]
      exact if_neg (by decide)
    · show (if 0 < nI x then rcp n (va_up f n (f n - imin (nI x) (f n))) (nI x - imin (nI x) (f n)) else (f, nI x)) = rcF n (va_up f n (f n - imin (nI x) (f n))) (nI x - imin (nI x) (f n))
      rw [if_pos (nI_0lt (by omega) hx)]
      obtain ⟨g, hg, e⟩ := h n (by omega)
      rw [e, imin_nat hx hg, nI_sub (by omega), nI_sub (by omega)]
      exact rcp_rcF (by omega) (fun i hi => by rw [va_up_ne _ _ (by omega)]; exact h i (by omega))
theorem rcF_cut {k : Nat} {x : Nat} (hx : x < 2147483648) : ∀ {n : Nat} {f : Nat → Int32}, k ≤ n → (∀ i, k ≤ i → i < n → f i = 0) → rcF n f (nI x) = rcF k f (nI x)
  | 0, f, h, _ => by rw [show k = 0 by omega]
  | n + 1, f, h, h0 => by
    by_cases c : k = n + 1
    · rw [c]
    · show rcF n (va_up f n (f n - imin (nI x) (f n))) (nI x - imin (nI x) (f n)) = _
      have e : f n = nI 0 := h0 n (by omega) (by omega)
      have e1 : imin (nI x) (f n) = nI 0 := by rw [e, imin_nat hx (by omega), Nat.min_zero]
      rw [e1, show f n - nI 0 = f n from Int32.sub_zero _, va_up_id, show nI x - nI 0 = nI x from Int32.sub_zero _]
      exact rcF_cut hx (by omega) (fun i h1 h2 => h0 i h1 (by omega))
/-- in whole numbers: what is left, and what is still open -/
theorem rcF_nat : ∀ {n : Nat} {f : Nat → Int32} {g : Nat → Nat} {x : Nat}, x < 2147483648 → (∀ i, i < n → g i < 2147483648 ∧ f i = nI (g i)) → (rcF n f (nI x)).2 = nI (x - sN g n) ∧ (∀ i, n ≤ i → (rcF n f (nI x)).1 i = f i) ∧ ∀ i, i < n → ∃ a, a ≤ g i ∧ (rcF n f (nI x)).1 i = nI a
  | 0, f, g, x, _, _ => ⟨rfl, fun _ _ => rfl, fun i hi => absurd hi (Nat.not_lt_zero i)⟩
  | n + 1, f, g, x, hx, h => by
    obtain ⟨h1, h2⟩ := h n (by omega)
    have e : rcF (n + 1) f (nI x) = rcF n (va_up f n (nI (g n - min x (g n)))) (nI (x - min x (g n))) := by
      show rcF n (va_up f n (f n - imin (nI x) (f n))) (nI x - imin (nI x) (f n)) = _
      rw [h2, imin_nat hx h1, nI_sub (by omega), nI_sub (by omega)]
    obtain ⟨p1, p2, p3⟩ := rcF_nat (n := n) (f := va_up f n (nI (g n - min x (g n)))) (g := g) (x := x - min x (g n)) (by omega) (fun i hi => by rw [va_up_ne _ _ (by omega)]; exact h i (by omega))
    rw [e]
    refine ⟨by rw [p1]; congr 1; show x - min x (g n) - sN g n = x - (sN g n + g n); omega, fun i hi => by rw [p2 i (by omega), va_up_ne _ _ (by omega)], fun i hi => ?_⟩
    by_cases c : i < n
    · exact p3 i c
    · have ei : i = n := by omega
      rw [ei]
      exact ⟨g n - min x (g n), by omega, by rw [p2 n (by omega), va_up_self]⟩
theorem rcF_cong {x : Int32} : ∀ {n : Nat} {f g : Nat → Int32}, (∀ i, i < n → f i = g i) → (rcF n f x).2 = (rcF n g x).2 ∧ ∀ i, i < n → (rcF n f x).1 i = (rcF n g x).1 i := by
  intro n
  induction n generalizing x with
  | zero => intro f g _; exact ⟨rfl, fun i hi => absurd hi (Nat.not_lt_zero i)⟩
  | succ n ih =>
    intro f g h
    have key : ∀ (n : Nat) (x : Int32) (f : Nat → Int32), ∀ i, n ≤ i → (rcF n f x).1 i = f i := by
      intro n
      induction n with
      | zero => intro x f i _; rfl
      | succ n ih2 => intro x f i hi; show (rcF n (va_up f n (f n - imin x (f n))) (x - imin x (f n))).1 i = f i; rw [ih2 _ _ i (by omega), va_up_ne _ _ (by omega)]
    show (rcF n (va_up f n (f n - imin x (f n))) (x - imin x (f n))).2 = (rcF n (va_up g n (g n - imin x (g n))) (x - imin x (g n))).2 ∧ ∀ i, i < n + 1 → (rcF n (va_up f n (f n - imin x (f n))) (x - imin x (f n))).1 i = (rcF n (va_up g n (g n - imin x (g n))) (x - imin x (g n))).1 i
    rw [h n (by omega)]
    obtain ⟨p1, p2⟩ := ih (x := x - imin x (g n)) (f := va_up f n (g n - imin x (g n))) (g := va_up g n (g n - imin x (g n))) (fun i hi => by rw [va_up_ne _ _ (by omega), va_up_ne _ _ (by omega)]; exact h i (by omega))
    refine ⟨p1, fun i hi => ?_⟩
    by_cases c : i < n
    · exact p2 i c
    · rw [key _ _ _ i (by omega), key _ _ _ i (by omega), show i = n by omega, va_up_self, va_up_self]
