/-! REDEMPTION: both sides pay alike -/
def shW (g : Nat → Nat) (n a : Nat) : Nat → Int64 := (gvQ n (jQ (Int64.ofNat a) (fun i => Int64.ofNat (g i)) n) (pre n (gQ (Int64.ofNat a) (fun i => Int64.ofNat (g i)) (xls (fun i => Int64.ofNat (g i)) n)) (fun _ => 0), pre n (rQ (Int64.ofNat a) (fun i => Int64.ofNat (g i)) (xls (fun i => Int64.ofNat (g i)) n)) (fun _ => 0))).1
def shN (g : Nat → Nat) (n a i : Nat) : Nat := (shW g n a i).toInt.toNat
theorem shN_of {g : Nat → Nat} {n a i k : Nat} (h : shW g n a i = Int64.ofNat k) (hk : k ≤ 2147483647) : shN g n a i = k := by
  unfold shN
  rw [h, Int64.toInt_ofNat_of_lt (by omega)]
  exact Int.toNat_natCast k
theorem shN_cap {g : Nat → Nat} {n a : Nat} (hn : n ≤ 192) (hg : ∀ i, i < n → g i ≤ 2147483647) (ha : a ≤ 2147483647) (hT : 0 < sN g n) (hS : a ≤ sN g n) {i : Nat} (hi : i < n) : shW g n a i = Int64.ofNat (shN g n a i) ∧ shN g n a i ≤ g i := by
  obtain ⟨a2, h1, h2⟩ := shares_cap (f := fun i => Int64.ofNat (g i)) hn (fun _ _ => rfl) hg ha hT hS (fun _ => 0) (fun _ => 0)
  have e : shW g n a i = Int64.ofNat (a2 i) := h1 i hi
  have e2 := shN_of e (by have := h2 i hi; have := hg i hi; omega)
  rw [e2]
  exact ⟨e, h2 i hi⟩
theorem shN_0 {g : Nat → Nat} {n : Nat} (hn : n ≤ 192) (hg : ∀ i, i < n → g i ≤ 2147483647) (hT : 0 < sN g n) {i : Nat} (hi : i < n) : shN g n 0 i = 0 := by
  obtain ⟨a2, h1, h2⟩ := shares_capg (f := fun i => Int64.ofNat (g i)) (A := 0) (cap := fun _ => 0) hn (fun _ _ => rfl) hg (by omega) hT (fun i _ => by rw [Nat.zero_mul, Nat.zero_div, Nat.zero_mod]; exact ⟨Nat.le_refl 0, fun h => absurd h (by omega)⟩) (fun _ => 0) (fun _ => 0)
  have e : shW g n 0 i = Int64.ofNat (a2 i) := h1 i hi
  have := h2 i hi
  rw [shN_of e (by omega)]
  omega
theorem shN_all {g : Nat → Nat} {n : Nat} (hn : n ≤ 192) (hg : ∀ i, i < n → g i ≤ 2147483647) (ha : sN g n ≤ 2147483647) (hT : 0 < sN g n) {i : Nat} (hi : i < n) : shN g n (sN g n) i = g i := by
  obtain ⟨e1, -, e3, -⟩ := jQ_nat (f := fun i => Int64.ofNat (g i)) (g := g) hn (fun _ _ => rfl) hg ha hT
  have e4 : sN (fun i => sN g n * g i / sN g n) n = sN g n := sN_cong (fun i _ => Nat.mul_div_cancel_left _ hT)
  rw [e4, Nat.sub_self] at e3
  refine shN_of ?_ (hg i hi)
  unfold shW
  rw [e3]
  unfold gvQ
  dsimp only
  rw [pre_lt hi, e1 i hi, Nat.mul_div_cancel_left _ hT]
theorem o64_ne {a : Nat} (h0 : 0 < a) (h : a < 2 ^ 62) : Int64.ofNat a ≠ 0 := fun e => by
  have h9 := congrArg Int64.toInt e
  rw [Int64.toInt_ofNat_of_lt (by omega)] at h9
  have h9 : ((a : Nat) : Int) = 0 := h9
  omega
/-- the sharing of the component gives these -/
theorem sh_c {f : Nat → Int32} {g : Nat → Nat} {n a : Nat} (hn : n ≤ 192) (hf : ∀ i, i < n → f i = nI (g i)) (hg : ∀ i, i < n → g i ≤ 2147483647) (ha : a ≤ 2147483647) (hT : 0 < sN g n) (hS : a ≤ sN g n) (g7 : Nat → Int32) (g8 : Nat → Int64) {i : Nat} (hi : i < n) : (gv n (gvn (iopen (nI a) (shQ (nI a) f (shT f n)) n) n) (pre n (shQ (nI a) f (shT f n)) g7, pre n (shR (nI a) f (shT f n)) g8)).1 i = nI (shN g n a i) := by
  rw [sh_eq hn hf (fq := fun i => Int64.ofNat (g i)) (fun _ _ => rfl) hg ha hT g7 g8 (fun _ => 0) (fun _ => 0) i hi]
  obtain ⟨e, hle⟩ := shN_cap hn hg ha hT hS hi
  show (shW g n a i).toInt32 = _
  rw [e, o64_32 (by have := hg i hi; omega)]
theorem sh_r {fq : Nat → Int64} {g : Nat → Nat} {n a : Nat} (hn : n ≤ 192) (hf : ∀ i, i < n → fq i = Int64.ofNat (g i)) (hg : ∀ i, i < n → g i ≤ 2147483647) (ha : a ≤ 2147483647) (hT : 0 < sN g n) (hS : a ≤ sN g n) (h8 h9 : Nat → Int64) {i : Nat} (hi : i < n) : ((gvQ n (jQ (Int64.ofNat a) fq n) (pre n (gQ (Int64.ofNat a) fq (xls fq n)) h8, pre n (rQ (Int64.ofNat a) fq (xls fq n)) h9)).1 i).toInt32 = nI (shN g n a i) := by
  rw [← sh_eq (f := fun i => nI (g i)) hn (fun _ _ => rfl) hf hg ha hT (fun _ => 0) (fun _ => 0) h8 h9 i hi]
  exact sh_c hn (fun _ _ => rfl) hg ha hT hS _ _ hi
theorem psZ_13 {z : xSt} {f t a : Nat} {g : Nat → Nat} (hn : t - f ≤ 192) (hf : ∀ i, i < t - f → z.1 12 (f + i) = nI (g i)) (hg : ∀ i, i < t - f → g i ≤ 5000000) (ha : a ≤ 2147483647) (hT : 0 < sN g (t - f)) (hS : a ≤ sN g (t - f)) (j : Nat) : (psZ z f t (nI a)).1 13 j = if f ≤ j ∧ j < t then nI (shN g (t - f) a (j - f)) else z.1 13 j := by
  have hg2 : ∀ i, i < t - f → g i ≤ 2147483647 := fun i hi => by have := hg i hi; omega
  have hsb : sN g (t - f) ≤ (t - f) * 5000000 := sN_bd hg
  have hsb2 : (t - f) * 5000000 ≤ 192 * 5000000 := Nat.mul_le_mul_right _ hn
  have e6 : ∀ i, i < t - f → (adV z (fun i => z.1 12 (f + i)) (t - f)).1 6 i = nI (g i) := fun i hi => by
    unfold adV
    rw [ur_ne _ _ (by omega), ur_at, pre_lt hi]
    exact hf i hi
  have hT2 : 0 < shT ((adV z (fun i => z.1 12 (f + i)) (t - f)).1 6) (t - f) := by
    have e : shT ((adV z (fun i => z.1 12 (f + i)) (t - f)).1 6) (t - f) = Int64.ofNat (sN g (t - f)) := by
      unfold shT
      exact xls_nat (fun i hi => by rw [e6 i hi, nI_64 (by have := hg i hi; omega)])
    rw [e]
    exact o64_lt (a := 0) (by omega) (by omega) hT
  unfold psZ
  rw [ur_at]
  unfold rng
  rw [psh_hi (q := 13) (by omega)]
  by_cases c : f ≤ j ∧ j < t
  · rw [if_pos c, if_pos c]
    unfold psh
    rw [shZ_7 hT2]
    exact sh_c hn e6 hg2 ha hT hS _ _ (by omega)
  · rw [if_neg c, if_neg c]
theorem psZ_e {z : xSt} {f : Nat} {a : Int32} (j : Nat) : (psZ z f f a).1 13 j = z.1 13 j := by
  unfold psZ
  rw [ur_at, rng_0, psh_hi (by omega)]
theorem saQ_13 {z : xSt} {L : List (Nat × Nat)} {f t a : Nat} {g : Nat → Nat} (hn : t - f ≤ 192) (hf : ∀ i, i < t - f → amt z L (f + i) = nI (g i)) (hg : ∀ i, i < t - f → g i ≤ 5000000) (ha : a ≤ 2147483647) (hT : 0 < sN g (t - f)) (hS : a ≤ sN g (t - f)) (j : Nat) : (saQ z L f t (nI a)).1 13 j = if f ≤ j ∧ j < t then nI (shN g (t - f) a (j - f)) else z.1 13 j := by
  have hg2 : ∀ i, i < t - f → g i ≤ 2147483647 := fun i hi => by have := hg i hi; omega
  have hsb : sN g (t - f) ≤ (t - f) * 5000000 := sN_bd hg
  have hsb2 : (t - f) * 5000000 ≤ 192 * 5000000 := Nat.mul_le_mul_right _ hn
  have e7 : ∀ i, i < t - f → (saW z L f t).2 7 i = Int64.ofNat (g i) := fun i hi => by
    have e1 : (saW z L f t).2 7 i = (amt z L (f + i)).toInt64 := pre_lt (f := fun i => (amt z L (f + i)).toInt64) hi
    rw [e1, hf i hi, nI_64 (by have := hg i hi; omega)]
  have hx : xls ((saW z L f t).2 7) (t - f) ≠ 0 := by rw [xls_nat e7]; exact o64_ne hT (by omega)
  unfold saQ
  rw [if_neg hx, ur_at, nI_64 (by omega)]
  unfold rng
  by_cases c : f ≤ j ∧ j < t
  · rw [if_pos c, if_pos c]
    exact sh_r hn e7 hg2 ha hT hS _ _ (by omega)
  · rw [if_neg c, if_neg c]
    rfl
theorem saQ_e {z : xSt} {L : List (Nat × Nat)} {f : Nat} {bu : Int32} (j : Nat) : (saQ z L f f bu).1 13 j = z.1 13 j := by
  unfold saQ
  rw [if_pos (by rw [Nat.sub_self]; rfl)]
  rfl
/-- the lists of what can be redeemed are the same -/
theorem yst_spec (z : xSt) : ∀ (k i : Nat), i ≤ yst z k i ∧ yst z k i ≤ i + k ∧ (∀ y, i ≤ y → y < yst z k i → ¬ z.1 4 494 - nI y < z.1 4 3) ∧ (yst z k i = i + k ∨ z.1 4 494 - nI (yst z k i) < z.1 4 3)
  | 0, i => ⟨Nat.le_refl i, Nat.le_refl i, fun y h1 h2 => absurd h2 (Nat.not_lt.mpr h1), Or.inl rfl⟩
  | k + 1, i => by
    rw [yst_s rfl]
    by_cases c : z.1 4 494 - nI i < z.1 4 3
    · rw [if_pos c]
      exact ⟨Nat.le_refl i, by omega, fun y h1 h2 => absurd h2 (Nat.not_lt.mpr h1), Or.inr c⟩
    · rw [if_neg c]
      obtain ⟨h1, h2, h3, h4⟩ := yst_spec z k (i + 1)
      refine ⟨by omega, by omega, fun y a1 a2 => ?_, ?_⟩
      · by_cases e : y = i
        · rw [e]; exact c
        · exact h3 y (by omega) a2
      · rcases h4 with h | h
        · exact Or.inl (by omega)
        · exact Or.inr h
theorem nI_dlt {Y y k : Nat} (hY : Y < 1000) (hy : y < 1000) (hk : k < 1000) : nI Y - nI y < nI k ↔ (Y : Int) - y < k := by
  rw [Int32.lt_iff_toInt_lt, nI_subI (by omega) (by omega), nI_toInt (by omega)]
theorem cpt_lcM {zc z : xSt} {b mc dc Y y kp : Nat} (hE : eqB zc b mc dc (z.1 2) (z.1 4)) (hI : rI mc dc Y (z.1 2) (z.1 4)) (hY : Y < 200) (hy : y < 24) (ek : z.1 4 3 = nI kp) (hkp : kp ≤ 20) (h : ¬ z.1 4 494 - nI y < z.1 4 3) : ∀ m, m ≤ mc → cpt zc b y m = lcM z y m
  | 0, _ => rfl
  | m + 1, hm => by
    have h8 : mc ≤ 8 := hI.1.2.1
    have ih := cpt_lcM hE hI hY hy ek hkp h m (by omega)
    have e2 := (hE.2.2.1 m (by omega)).2.2.1
    have e3 := (hE.2.2.2.2.1 m y (by omega) hy).1
    obtain ⟨a, ha, ea⟩ := (hI.2.2.2.2.1 m y (by omega) hy).1
    have eq3 := hE.2.1 3 (by omega)
    have e5 := hE.1.2.2.1
    have hc : cR zc b b m y ↔ (z.1 4 (5 + m) = 0 ∧ lfQ z m y ≠ 0) := by
      unfold cR lfQ
      rw [e2, e3, eq3, e5, ea]
      refine ⟨fun ⟨p1, p2, _⟩ => ⟨p1, fun q => ?_⟩, fun ⟨p1, p2⟩ => ⟨p1, ?_, Int32.not_lt.mp h⟩⟩
      · rw [q] at p2; exact absurd p2 (by decide)
      · rcases Nat.eq_zero_or_pos a with q | q
        · exact absurd (by rw [q]; rfl) p2
        · exact nI_0lt q (by omega)
    show (if cR zc b b m y then cpt zc b y m ++ [(y, m)] else cpt zc b y m) = if z.1 4 (5 + m) = 0 ∧ lfQ z m y ≠ 0 then lcM z y m ++ [(y, m)] else lcM z y m
    rw [ih]
    by_cases c : z.1 4 (5 + m) = 0 ∧ lfQ z m y ≠ 0
    · rw [if_pos c, if_pos (hc.mpr c)]
    · rw [if_neg c, if_neg (fun q => c (hc.mp q))]
theorem cpt_no {zc : xSt} {b y : Nat} : ∀ m, (∀ k, k < m → ¬ cR zc b b k y) → cpt zc b y m = []
  | 0, _ => rfl
  | m + 1, h => by
    show (if cR zc b b m y then cpt zc b y m ++ [(y, m)] else cpt zc b y m) = []
    rw [if_neg (h m (by omega))]
    exact cpt_no m (fun k hk => h k (by omega))
theorem cts_lcs {zc z : xSt} {b mc dc Y N : Nat} (hE : eqB zc b mc dc (z.1 2) (z.1 4)) (hI : rI mc dc Y (z.1 2) (z.1 4)) (hY : Y < 200) (hN : N ≤ 25) : cts zc b mc N = lcs z mc (yst z (min N (min Y 24)) 0) := by
  have h8 : mc ≤ 8 := hI.1.2.1
  obtain ⟨kp, hkp, ek⟩ := hI.2.1.2.2.2.1
  have eY := hI.1.2.2.2.2
  obtain ⟨-, s2, s3, s4⟩ := yst_spec z (min N (min Y 24)) 0
  generalize yst z (min N (min Y 24)) 0 = T at *
  have up : ∀ n, n ≤ T → cts zc b mc n = lcs z mc n := by
    intro n
    induction n with
    | zero => intro _; rfl
    | succ n ih =>
      intro hn
      show cts zc b mc n ++ cpt zc b n mc = lcs z mc n ++ lcM z n mc
      rw [ih (by omega), cpt_lcM hE hI hY (by omega) ek hkp (s3 n (by omega) (by omega)) mc (Nat.le_refl mc)]
  have on : ∀ k, T + k ≤ N → cts zc b mc (T + k) = lcs z mc T := by
    intro k
    induction k with
    | zero => intro _; exact up T (Nat.le_refl T)
    | succ k ih =>
      intro hk
      show cts zc b mc (T + k) ++ cpt zc b (T + k) mc = _
      rw [ih (by omega), cpt_no mc (fun m hm => ?_), List.append_nil]
      intro hc
      obtain ⟨c1, c2, c3⟩ := hc
      rw [hE.2.1 3 (by omega), hE.1.2.2.1] at c3
      rcases s4 with q | q
      · -- the years are at an end
        by_cases q2 : T + k < 24
        · rw [(hE.2.2.2.2.1 m (T + k) hm q2).1, ((hI.2.2.2.2.1 m (T + k) (by omega) q2).2 (by omega)).1] at c2
          exact absurd c2 (by decide)
        · rw [show T + k = 24 by omega, hE.2.2.2.2.2.1 m hm] at c2
          exact absurd c2 (by decide)
      · rw [eY, ek] at q c3
        have q := (nI_dlt (by omega) (by omega) (by omega)).mp q
        exact absurd ((nI_dlt (Y := Y) (y := T + k) (k := kp) (by omega) (by omega) (by omega)).mpr (by omega)) (Int32.not_lt.mpr c3)
  have := on (N - T) (by omega)
  rw [show T + (N - T) = N by omega] at this
  exact this
