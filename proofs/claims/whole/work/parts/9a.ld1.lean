/-! A TEXT IS LOADED ALIKE: bytes, tokens, words -/
theorem nI_mulN (a b : Nat) : nI a * nI b = nI (a * b) := (Int32.ofNat_mul a b).symm
theorem byR_c {x y : Int32} (h : byR x y) : (x = y ∧ ∃ a : Nat, a < 128 ∧ y = nI a) ∨ (x < 0 ∧ ∃ a : Nat, 128 ≤ a ∧ a < 256 ∧ y = nI a) := by
  obtain ⟨a, ha, hy, hx⟩ := h
  by_cases c : a < 128
  · rw [if_pos c] at hx
    exact Or.inl ⟨by rw [hx, hy], a, c, hy⟩
  · rw [if_neg c] at hx
    refine Or.inr ⟨?_, a, by omega, ha, hy⟩
    have t0 : (0 : Int32).toInt = 0 := rfl
    rw [hx, Int32.lt_iff_toInt_lt, nI_subI (by omega) (by omega), t0]
    omega
theorem i32_nlo {x : Int32} (h : x < 0) {c : Nat} (hc : c < 128) : ¬ nI c ≤ x := fun q => by
  have h1 := Int32.lt_iff_toInt_lt.mp h
  have h2 := Int32.le_iff_toInt_le.mp q
  have t0 : (0 : Int32).toInt = 0 := rfl
  rw [nI_toInt (by omega)] at h2
  rw [t0] at h1
  omega
theorem i32_nle {x : Int32} (h : x < 0) {c : Nat} (hc : c < 128) : x ≠ nI c := fun q => i32_nlo h hc (Int32.le_iff_toInt_le.mpr (Int.le_of_eq (by rw [q])))
theorem kS_neg {x : Int32} (h : x < 0) : kS x = 5 := by
  unfold kS
  rw [if_neg (fun q => i32_nlo h (by decide) q.1), if_neg (fun q => i32_nlo h (by decide) q.1), if_neg (i32_nle h (by decide)), if_neg (i32_nle h (by decide))]
theorem kS_big {a : Nat} (h : 128 ≤ a) (h2 : a < 256) : kS (nI a) = 5 ∧ nI a ≠ nI 10 ∧ nI a ≠ nI 32 := by
  have n1 : ∀ c, c < 128 → nI a ≠ nI c := fun c hc q => by have := (nI_eq (by omega) (by omega)).mp q; omega
  have n2 : ∀ c, c < 128 → ¬ nI a ≤ nI c := fun c hc q => by have := (nI_leI (by omega) (by omega)).mp q; omega
  refine ⟨?_, n1 10 (by decide), n1 32 (by decide)⟩
  unfold kS
  rw [if_neg (fun q => n2 122 (by decide) q.2), if_neg (fun q => n2 57 (by decide) q.2), if_neg (n1 59 (by decide)), if_neg (n1 45 (by decide))]
theorem by_k {x y : Int32} (h : byR x y) : kS x = kS y := by
  rcases byR_c h with ⟨e, -⟩ | ⟨h1, a, h2, h3, e⟩
  · rw [e]
  · rw [kS_neg h1, e, (kS_big h2 h3).1]
theorem by_ws {x y : Int32} (h : byR x y) : (x = nI 32 ∨ x = nI 10) ↔ (y = nI 10 ∨ y = nI 32) := by
  rcases byR_c h with ⟨e, -⟩ | ⟨h1, a, h2, h3, e⟩
  · rw [e]; exact or_comm
  · obtain ⟨-, k1, k2⟩ := kS_big h2 h3
    rw [e]
    exact ⟨fun q => q.elim (fun q => absurd q (i32_nle h1 (by decide))) (fun q => absurd q (i32_nle h1 (by decide))), fun q => q.elim (fun q => absurd q k1) (fun q => absurd q k2)⟩
theorem by_eq {x y : Int32} (h : byR x y) (hk : kS x = 1) : x = y := by
  rcases byR_c h with ⟨e, -⟩ | ⟨h1, -⟩
  · exact e
  · rw [kS_neg h1] at hk; exact absurd hk (by decide)
theorem by_m1 {x y : Int32} (h : byR x y) : y ≠ (-1) := fun q => by
  obtain ⟨a, ha, hy, -⟩ := h
  have h0 : ¬ y < 0 := by rw [hy]; exact nI_pos (by omega)
  rw [q] at h0
  exact h0 (by decide)
theorem kS_1 (y : Int32) : kS y = 1 ↔ iSm y := by
  unfold kS
  by_cases c : iSm y
  · rw [if_pos c]; exact ⟨fun _ => c, fun _ => rfl⟩
  · rw [if_neg c]
    refine ⟨fun h => absurd h ?_, fun h => absurd h c⟩
    repeat' split
    all_goals decide
theorem kS_2 (y : Int32) : kS y = 2 ↔ iDg y := by
  unfold kS
  by_cases c : iSm y
  · rw [if_pos c]
    refine ⟨fun h => absurd h (by decide), fun h => ?_⟩
    have h1 := Int32.le_iff_toInt_le.mp c.1
    have h2 := Int32.le_iff_toInt_le.mp h.2
    rw [nI_toInt (by omega)] at h1
    rw [nI_toInt (by omega)] at h2
    omega
  · rw [if_neg c]
    by_cases d : iDg y
    · rw [if_pos d]; exact ⟨fun _ => d, fun _ => rfl⟩
    · rw [if_neg d]
      refine ⟨fun h => absurd h ?_, fun h => absurd h d⟩
      repeat' split
      all_goals decide
section LD1
variable {f r : Nat → Int32} {n : Nat}
theorem ws_eq (hb : ∀ j, j < n → byR (f j) (r j)) : ∀ (k a : Nat), a + k = n → skW f k a = wsQ r n k a
  | 0, a, _ => rfl
  | k + 1, a, h => by
    have e : hQ r n a = r a := if_pos (by omega)
    have hw := by_ws (hb a (by omega))
    rw [skW_s rfl, wsQ_s rfl, e]
    by_cases c : f a = nI 32 ∨ f a = nI 10
    · rw [if_pos c, if_pos (hw.mp c)]; exact ws_eq hb k (a + 1) (by omega)
    · rw [if_neg c, if_neg (fun q => c (hw.mpr q))]
theorem sm_eq (hb : ∀ j, j < n → byR (f j) (r j)) : ∀ (k a : Nat), a + k = n → rnK f 1 k a = smQ r n k a
  | 0, a, _ => rfl
  | k + 1, a, h => by
    have e : hQ r n a = r a := if_pos (by omega)
    have hw : kS (f a) = 1 ↔ iSm (r a) := by rw [by_k (hb a (by omega))]; exact kS_1 _
    rw [rnK_s rfl, smQ_s rfl, e]
    by_cases c : kS (f a) = 1
    · rw [if_pos c, if_pos (hw.mp c)]; exact sm_eq hb k (a + 1) (by omega)
    · rw [if_neg c, if_neg (fun q => c (hw.mpr q))]
theorem dg_eq (hb : ∀ j, j < n → byR (f j) (r j)) : ∀ (k a : Nat) (v : Int32), a + k = n → rnK f 2 k a = (dgR r n k a v).1
  | 0, a, _, _ => rfl
  | k + 1, a, v, h => by
    have e : hQ r n a = r a := if_pos (by omega)
    have hw : kS (f a) = 2 ↔ iDg (r a) := by rw [by_k (hb a (by omega))]; exact kS_2 _
    rw [rnK_s rfl, dgR_s rfl, e]
    by_cases c : kS (f a) = 2
    · rw [if_pos c, if_pos (hw.mp c)]; exact dg_eq hb k (a + 1) _ (by omega)
    · rw [if_neg c, if_neg (fun q => c (hw.mpr q))]
theorem rnK_all {d : Nat} : ∀ (k a j : Nat), a ≤ j → j < rnK f d k a → kS (f j) = d
  | 0, a, j, h1, h2 => absurd h2 (Nat.not_lt.mpr h1)
  | k + 1, a, j, h1, h2 => by
    rw [rnK_s rfl] at h2
    by_cases c : kS (f a) = d
    · rw [if_pos c] at h2
      by_cases e : j = a
      · rw [e]; exact c
      · exact rnK_all k (a + 1) j (by omega) h2
    · rw [if_neg c] at h2
      omega
/-- figures: alike, or both beyond every range -/
def nR (v u : Int32) : Prop := ∃ p q : Nat, v = nI p ∧ u = nI q ∧ p ≤ 1100000000 ∧ q ≤ 200000000 ∧ (p = q ∨ (1000000 < p ∧ 1000000 < q))
theorem stV {p d : Nat} (h : 48 ≤ d) : nI p * nI 10 + (nI d - nI 48) = nI (p * 10 + (d - 48)) := by rw [nI_mulN, nI_sub h, nI_add]
theorem stU {p d : Nat} (h : 48 ≤ d) : nI 10 * nI p + nI d - nI 48 = nI (10 * p + d - 48) := by rw [nI_mulN, nI_add, nI_sub (by omega)]
theorem dg_val (hb : ∀ j, j < n → byR (f j) (r j)) : ∀ (k a : Nat) (v u : Int32), a + k = n → nR v u → nR (itg f (rnK f 2 k a - a) a v) (dgR r n k a u).2
  | 0, a, v, u, _, h => by
    show nR (itg f (a - a) a v) u
    rw [Nat.sub_self]; exact h
  | k + 1, a, v, u, hk, h => by
    have e : hQ r n a = r a := if_pos (by omega)
    have hw : kS (f a) = 2 ↔ iDg (r a) := by rw [by_k (hb a (by omega))]; exact kS_2 _
    rw [dgR_s rfl, rnK_s rfl, e]
    by_cases c : kS (f a) = 2
    · have cy := hw.mp c
      rw [if_pos c, if_pos cy]
      have b := (rnK_b f 2 k (a + 1)).1
      rw [itg_s (k := rnK f 2 k (a + 1) - (a + 1)) (by omega)]
      obtain ⟨d, d48, d57, ef, er⟩ : ∃ d : Nat, 48 ≤ d ∧ d ≤ 57 ∧ f a = nI d ∧ r a = nI d := by
        rcases byR_c (hb a (by omega)) with ⟨e1, d, h1, e2⟩ | ⟨h1, -⟩
        · rw [e2] at cy
          have q1 := (nI_leI (by omega) (by omega)).mp cy.1
          have q2 := (nI_leI (by omega) (by omega)).mp cy.2
          exact ⟨d, q1, q2, by rw [e1, e2], e2⟩
        · rw [kS_neg h1] at c; exact absurd c (by decide)
      rw [ef, er]
      obtain ⟨p, q, rfl, rfl, hp, hq, hpq⟩ := h
      by_cases c2 : q ≤ 10000000
      · rw [if_pos (nI_le c2 (by omega)), stU d48]
        by_cases c1 : p < 100000000
        · rw [if_pos (nI_lt c1 (by omega)), stV d48]
          exact dg_val hb k (a + 1) _ _ (by omega) ⟨_, _, rfl, rfl, by omega, by omega, by omega⟩
        · rw [if_neg (nI_nlt (by omega) (by omega))]
          have hh := dg_val hb k (a + 1) (nI p) (nI (10 * q + d - 48)) (by omega) ⟨_, _, rfl, rfl, by omega, by omega, by omega⟩
          rw [itg_no (nI_nlt (by omega) (by omega))] at hh
          exact hh
      · rw [if_neg (nI_ge (by omega) (by omega))]
        by_cases c1 : p < 100000000
        · rw [if_pos (nI_lt c1 (by omega)), stV d48]
          exact dg_val hb k (a + 1) _ _ (by omega) ⟨_, _, rfl, rfl, by omega, by omega, by omega⟩
        · rw [if_neg (nI_nlt (by omega) (by omega))]
          have hh := dg_val hb k (a + 1) (nI p) (nI q) (by omega) ⟨_, _, rfl, rfl, by omega, by omega, by omega⟩
          rw [itg_no (nI_nlt (by omega) (by omega))] at hh
          exact hh
    · rw [if_neg c, if_neg (fun q => c (hw.mpr q)), Nat.sub_self]
      exact h
end LD1
/-! the words -/
def kW (n : Nat) : Nat := [0, 7, 15, 21, 27, 31, 39, 44, 52, 58, 63, 70].getD n 0
def lW (n : Nat) : Nat := [6, 7, 5, 5, 3, 7, 4, 7, 5, 4, 6].getD n 0
def tX (n : Nat) : String := ["member", "section", "trade", "close", "set", "consent", "cash", "reserve", "years", "keep", "policy"].getD n ""
def Mw (r : Nat → Int32) (p a n : Nat) : Prop := p + lW n = a ∧ ∀ j, j < lW n → r (p + j) = sch wTx (kW n + j)
set_option maxRecDepth 100000 in
theorem wTx_t : ∀ n, n < 11 → kW n + lW n < 70 ∧ skS (70 - kW n) (kW n) + 1 = kW (n + 1) ∧ (∀ j, j < lW n → sch wTx (kW n + j) ≠ nI 32) ∧ sch wTx (kW n + lW n) = nI 32 := by decide +kernel
set_option maxRecDepth 100000 in
theorem tX_t : ∀ n, n < 11 → slen (tX n) = lW n ∧ ∀ j, j < lW n → sch (tX n) j = sch wTx (kW n + j) := by decide +kernel
set_option maxRecDepth 100000 in
theorem lW_ex : ∀ i, i < 11 → 0 < lW i ∧ ∀ j, j < 11 → lW i = lW j → sch wTx (kW i + 0) = sch wTx (kW j + 0) → i = j := by decide +kernel
def mC (r : Nat → Int32) (p a k i : Nat) : Prop := sch wTx (k + i) ≠ nI 32 ∧ p + i < a ∧ r (p + i) = sch wTx (k + i)
theorem mtI_sp (r : Nat → Int32) (p a k : Nat) : ∀ f i, i ≤ mtI r p a k f i ∧ mtI r p a k f i ≤ i + f ∧ (∀ j, i ≤ j → j < mtI r p a k f i → mC r p a k j) ∧ (mtI r p a k f i < i + f → ¬ mC r p a k (mtI r p a k f i))
  | 0, i => ⟨Nat.le_refl _, Nat.le_refl _, fun j h1 h2 => absurd h2 (Nat.not_lt.mpr h1), fun h => absurd h (Nat.lt_irrefl _)⟩
  | f + 1, i => by
    rw [mtI_s rfl]
    by_cases c : sch wTx (k + i) ≠ nI 32 ∧ p + i < a ∧ r (p + i) = sch wTx (k + i)
    · rw [if_pos c]
      obtain ⟨h1, h2, h3, h4⟩ := mtI_sp r p a k f (i + 1)
      refine ⟨by omega, by omega, fun j h5 h6 => ?_, fun h => h4 (by omega)⟩
      by_cases e : j = i
      · rw [e]; exact c
      · exact h3 j (by omega) h6
    · rw [if_neg c]
      exact ⟨Nat.le_refl _, by omega, fun j h5 h6 => absurd h6 (Nat.not_lt.mpr h5), fun _ => c⟩
theorem wd_m {r : Nat → Int32} {p a n : Nat} (hn : n < 11) : (sch wTx (kW n + mtI r p a (kW n) (70 - kW n) 0) = nI 32 ∧ p + mtI r p a (kW n) (70 - kW n) 0 = a) ↔ Mw r p a n := by
  obtain ⟨h1, -, h3, h4⟩ := wTx_t n hn
  obtain ⟨-, m2, m3, m4⟩ := mtI_sp r p a (kW n) (70 - kW n) 0
  generalize mtI r p a (kW n) (70 - kW n) 0 = i at m2 m3 m4 ⊢
  constructor
  · rintro ⟨c1, c2⟩
    have e : i = lW n := by
      rcases Nat.lt_trichotomy i (lW n) with q | q | q
      · exact absurd c1 (h3 i q)
      · exact q
      · exact absurd h4 (m3 (lW n) (by omega) q).1
    rw [e] at c2 m3
    exact ⟨c2, fun j hj => (m3 j (by omega) hj).2.2⟩
  · rintro ⟨c1, c2⟩
    have cL : ∀ j, j < lW n → mC r p a (kW n) j := fun j hj => ⟨h3 j hj, by omega, c2 j hj⟩
    have e : i = lW n := by
      rcases Nat.lt_trichotomy i (lW n) with q | q | q
      · exact absurd (cL i q) (m4 (by omega))
      · exact q
      · exact absurd h4 (m3 (lW n) (by omega) q).1
    rw [e]
    exact ⟨h4, c1⟩
theorem wd_c (r : Nat → Int32) (p a : Nat) : ∀ (f n : Nat), 11 ≤ f + n → n ≤ 11 → (∃ i, i < 11 ∧ Mw r p a i ∧ wdQ r p a f n (kW n) = nI i) ∨ ((∀ i, n ≤ i → i < 11 → ¬ Mw r p a i) ∧ wdQ r p a f n (kW n) = (-1))
  | 0, n, h, h2 => Or.inr ⟨fun i h3 h4 => absurd h4 (by omega), rfl⟩
  | f + 1, n, h, h2 => by
    by_cases e : n = 11
    · refine Or.inr ⟨fun i h3 h4 => absurd h4 (by omega), ?_⟩
      rw [e]; exact wdQ_e (by decide)
    · have hn : n < 11 := by omega
      obtain ⟨t1, t2, -⟩ := wTx_t n hn
      rw [wdQ_s rfl, if_pos (by omega), t2]
      by_cases c : Mw r p a n
      · rw [if_pos ((wd_m hn).mpr c)]; exact Or.inl ⟨n, hn, c, rfl⟩
      · rw [if_neg (fun q => c ((wd_m hn).mp q))]
        rcases wd_c r p a f (n + 1) (by omega) (by omega) with ⟨i, h3, h4, h5⟩ | ⟨h3, h4⟩
        · exact Or.inl ⟨i, h3, h4, h5⟩
        · refine Or.inr ⟨fun i h5 h6 => ?_, h4⟩
          by_cases e2 : i = n
          · rw [e2]; exact c
          · exact h3 i (by omega) h6
theorem Mw_ex {r : Nat → Int32} {p a i j : Nat} (hi : i < 11) (hj : j < 11) (h : Mw r p a i) (g : Mw r p a j) : i = j := by
  have h1 := h.1
  have g1 := g.1
  obtain ⟨k1, k2⟩ := lW_ex i hi
  exact k2 j hj (by omega) ((h.2 0 k1).symm.trans (g.2 0 (by omega)))
theorem wd_iff {r : Nat → Int32} {p a n : Nat} (hn : n < 11) : wdQ r p a 71 0 0 = nI n ↔ Mw r p a n := by
  have h := wd_c r p a 71 0 (by decide) (by decide)
  rw [show kW 0 = 0 from rfl] at h
  rcases h with ⟨i, h1, h2, h3⟩ | ⟨h1, h2⟩
  · rw [h3]
    exact ⟨fun e => by rw [← (nI_eq (by omega) (by omega)).mp e]; exact h2, fun g => by rw [Mw_ex h1 hn h2 g]⟩
  · rw [h2]
    exact ⟨fun e => absurd (show nI n < 0 by rw [← e]; decide) (nI_pos (by omega)), fun g => absurd g (h1 n (Nat.zero_le _) hn)⟩
theorem wd_neg {r : Nat → Int32} {p a : Nat} : wdQ r p a 71 0 0 = (-1) ↔ ∀ n, n < 11 → ¬ Mw r p a n := by
  have h := wd_c r p a 71 0 (by decide) (by decide)
  rw [show kW 0 = 0 from rfl] at h
  rcases h with ⟨i, h1, h2, h3⟩ | ⟨h1, h2⟩
  · rw [h3]
    exact ⟨fun e => absurd (show nI i < 0 by rw [e]; decide) (nI_pos (by omega)), fun g => absurd h2 (g i h1)⟩
  · exact ⟨fun _ n hn => h1 n (Nat.zero_le _) hn, fun _ => h2⟩
