/-! REDEMPTION: sums, order of the list -/
theorem bx_front (f : Nat → Int32) : ∀ n, bx_sum f (n + 1) = f 0 + bx_sum (fun i => f (i + 1)) n
  | 0 => by show (0 : Int32) + f 0 = f 0 + 0; rw [Int32.zero_add, Int32.add_zero]
  | n + 1 => by
    show bx_sum f (n + 1) + f (n + 1) = f 0 + (bx_sum (fun i => f (i + 1)) n + f (n + 1))
    rw [bx_front f n, Int32.add_assoc]
theorem fold_bx (F : Nat × Nat → Int32) : ∀ (L : List (Nat × Nat)) (acc : Int32), L.foldl (fun s q => s + F q) acc = acc + bx_sum (fun i => F (L.getD i (0, 0))) L.length
  | [], acc => (Int32.add_zero acc).symm
  | q :: L, acc => by
    show L.foldl (fun s q => s + F q) (acc + F q) = acc + bx_sum (fun i => F ((q :: L).getD i (0, 0))) (L.length + 1)
    rw [fold_bx F L (acc + F q), bx_front, Int32.add_assoc]
    rfl
theorem lSum_bx (z : xSt) (L : List (Nat × Nat)) : lSum z L = bx_sum (amt z L) L.length := by
  have := fold_bx (fun q => lfQ z q.2 q.1) L 0
  rw [Int32.zero_add] at this
  exact this
theorem cSum_bx (z : xSt) (b : Nat) (L : List (Nat × Nat)) : cSum z b L = bx_sum (cAm z b L) L.length := by
  have := fold_bx (fun q => z.1 (oLf b q.2) q.1) L 0
  rw [Int32.zero_add] at this
  exact this
theorem cpt_fold (z : xSt) (b y : Nat) : ∀ (m : Nat) (acc : Int32), (cpt z b y m).foldl (fun s q => s + z.1 (oLf b q.2) q.1) acc = acc + bx_sum (rdF z b y) m
  | 0, acc => (Int32.add_zero acc).symm
  | m + 1, acc => by
    show List.foldl (fun s q => s + z.1 (oLf b q.2) q.1) acc (if cR z b b m y then cpt z b y m ++ [(y, m)] else cpt z b y m) = acc + (bx_sum (rdF z b y) m + rdF z b y m)
    unfold rdF
    by_cases c : cR z b b m y
    · rw [if_pos c, if_pos c, List.foldl_append, cpt_fold z b y m acc, ← Int32.add_assoc]
      rfl
    · rw [if_neg c, if_neg c, cpt_fold z b y m acc, Int32.add_zero]
      rfl
theorem cts_fold (z : xSt) (b mc : Nat) : ∀ (n : Nat) (acc : Int32), (cts z b mc n).foldl (fun s q => s + z.1 (oLf b q.2) q.1) acc = acc + rTh z b mc n
  | 0, acc => (Int32.add_zero acc).symm
  | n + 1, acc => by
    show List.foldl (fun s q => s + z.1 (oLf b q.2) q.1) acc (cts z b mc n ++ cpt z b n mc) = acc + (rTh z b mc n + bx_sum (rdF z b n) mc)
    rw [List.foldl_append, cts_fold z b mc n acc, cpt_fold, Int32.add_assoc]
theorem rTh_sum (z : xSt) (b mc n : Nat) : rTh z b mc n = cSum z b (cts z b mc n) := by
  unfold cSum
  rw [cts_fold, Int32.zero_add]
/-- what stands in the list -/
theorem lcM_pos {z : xSt} {y : Nat} {q : Nat × Nat} : ∀ {m : Nat}, q ∈ lcM z y m → lfQ z q.2 q.1 ≠ 0
  | 0, h => absurd h (List.not_mem_nil)
  | m + 1, h => by
    by_cases c : z.1 4 (5 + m) = 0 ∧ lfQ z m y ≠ 0
    · rw [lcM_y c] at h
      rcases List.mem_append.mp h with h1 | h1
      · exact lcM_pos h1
      · rw [List.mem_singleton.mp h1]; exact c.2
    · rw [lcM_n c] at h; exact lcM_pos h
theorem lcs_pos {z : xSt} {mc : Nat} {q : Nat × Nat} : ∀ {y : Nat}, q ∈ lcs z mc y → lfQ z q.2 q.1 ≠ 0
  | 0, h => absurd h (List.not_mem_nil)
  | y + 1, h => by
    have h0 : q ∈ lcs z mc y ++ lcM z y mc := h
    rcases List.mem_append.mp h0 with h1 | h1
    · exact lcs_pos h1
    · exact lcM_pos h1
def lxR (q r : Nat × Nat) : Prop := q.1 < r.1 ∨ (q.1 = r.1 ∧ q.2 < r.2)
theorem lcM_ord {z : xSt} {y : Nat} : ∀ m, (lcM z y m).Pairwise lxR
  | 0 => List.Pairwise.nil
  | m + 1 => by
    by_cases c : z.1 4 (5 + m) = 0 ∧ lfQ z m y ≠ 0
    · rw [lcM_y c]
      refine List.pairwise_append.mpr ⟨lcM_ord m, List.pairwise_singleton _ _, fun q hq r hr => ?_⟩
      rw [List.mem_singleton.mp hr]
      have := lcM_mem hq
      exact Or.inr this
    · rw [lcM_n c]; exact lcM_ord m
theorem lcs_ord {z : xSt} {mc : Nat} : ∀ y, (lcs z mc y).Pairwise lxR
  | 0 => List.Pairwise.nil
  | y + 1 => by
    refine List.pairwise_append.mpr ⟨lcs_ord y, lcM_ord mc, fun q hq r hr => ?_⟩
    have h1 := lcs_mem hq
    have h2 := lcM_mem hr
    exact Or.inl (by omega)
theorem ord_at {L : List (Nat × Nat)} (h : L.Pairwise lxR) {i j : Nat} (hij : i < j) (hj : j < L.length) : lxR (L.getD i (0, 0)) (L.getD j (0, 0)) := by
  have hi : i < L.length := by omega
  rw [List.getD_eq_getElem?_getD, List.getD_eq_getElem?_getD, List.getElem?_eq_getElem hi, List.getElem?_eq_getElem hj]
  exact List.pairwise_iff_getElem.mp h i j hi hj hij
theorem sN_split (g : Nat → Nat) (a : Nat) : ∀ n, sN g (a + n) = sN g a + sN (fun i => g (a + i)) n
  | 0 => rfl
  | n + 1 => by
    show sN g (a + n) + g (a + n) = sN g a + (sN (fun i => g (a + i)) n + g (a + n))
    rw [sN_split g a n, Nat.add_assoc]
/-- a run of one year -/
theorem seg_cong {r s : Nat → Int32} {y : Int32} : ∀ {k i : Nat}, (∀ j, i ≤ j → j < i + k → r j = s j) → seg r y k i = seg s y k i
  | 0, _, _ => rfl
  | k + 1, i, h => by
    rw [seg_s rfl, seg_s rfl, h i (Nat.le_refl i) (by omega), seg_cong (fun j h1 h2 => h j (by omega) (by omega))]
theorem seg_in {r : Nat → Int32} {y : Int32} : ∀ {k i : Nat}, (∀ j, i ≤ j → j < seg r y k i → r j = y) ∧ (seg r y k i < i + k → r (seg r y k i) ≠ y)
  | 0, i => ⟨fun j h1 h2 => absurd h2 (Nat.not_lt.mpr h1), fun h => absurd h (Nat.lt_irrefl i)⟩
  | k + 1, i => by
    obtain ⟨h1, h2⟩ := seg_in (r := r) (y := y) (k := k) (i := i + 1)
    rw [seg_s rfl]
    by_cases c : r i = y
    · rw [if_pos c]
      refine ⟨fun j a1 a2 => ?_, fun h => h2 (by omega)⟩
      by_cases e : j = i
      · rw [e]; exact c
      · exact h1 j (by omega) a2
    · rw [if_neg c]
      exact ⟨fun j a1 a2 => absurd a2 (Nat.not_lt.mpr a1), fun _ => c⟩
theorem seg_gt {r : Nat → Int32} {y : Int32} {k i : Nat} (hk : 0 < k) (h : r i = y) : i < seg r y k i := by
  obtain ⟨n, rfl⟩ : ∃ n, k = n + 1 := ⟨k - 1, by omega⟩
  rw [seg_s rfl, if_pos h]
  have := seg_ge r y n (i + 1)
  omega
theorem seg_no {r : Nat → Int32} {y : Int32} {k i : Nat} (h : 0 < k → r i ≠ y) : seg r y k i = i := by
  cases k with
  | zero => rfl
  | succ n => rw [seg_s rfl, if_neg (h (by omega))]
/-- the smallest first -/
theorem smi_cong {a a2 p q : Nat → Int32} : ∀ {n : Nat}, (∀ i, i < n → a i = a2 i) → (∀ i, i < n → p i = q i) → smi a p n = smi a2 q n
  | 0, _, _ => rfl
  | n + 1, ha, hp => by
    have ih := smi_cong (n := n) (fun i hi => ha i (by omega)) (fun i hi => hp i (by omega))
    have hle := smi_le a p n
    show (if p n = 0 ∧ (smi a p n = 0 ∨ a n < a (smi a p n - 1)) then n + 1 else smi a p n) = if q n = 0 ∧ (smi a2 q n = 0 ∨ a2 n < a2 (smi a2 q n - 1)) then n + 1 else smi a2 q n
    rw [hp n (by omega), ha n (by omega), ha (smi a p n - 1) (by omega), ih]
theorem psm_cong {a a2 : Nat → Int32} {n : Nat} (ha : ∀ i, i < n → a i = a2 i) : ∀ {k : Nat} {p q : Nat → Int32} {o : Int32}, (∀ i, i < n → p i = q i) → ∀ i, i < n → (psm a n k p o).1 i = (psm a2 n k q o).1 i
  | 0, _, _, _, h, i, hi => h i hi
  | k + 1, p, q, o, h, i, hi => by
    rw [psm_s rfl, psm_s rfl, ← smi_cong ha h]
    by_cases c : 0 < o
    · rw [if_pos c, if_pos c]
      by_cases c2 : smi a p n = 0
      · rw [if_pos c2, if_pos c2]; exact h i hi
      · rw [if_neg c2, if_neg c2]
        have hle := smi_le a p n
        rw [ha (smi a p n - 1) (by omega)]
        refine psm_cong ha (fun j hj => ?_) i hi
        rw [va_rd, va_rd, h j hj]
    · rw [if_neg c, if_neg c]; exact h i hi
theorem smi_no {a p : Nat → Int32} : ∀ {n : Nat}, smi a p n = 0 → ∀ i, i < n → p i ≠ 0
  | 0, _, i, hi => absurd hi (Nat.not_lt_zero i)
  | n + 1, h, i, hi => by
    have h1 : (if p n = 0 ∧ (smi a p n = 0 ∨ a n < a (smi a p n - 1)) then n + 1 else smi a p n) = 0 := h
    by_cases c : p n = 0 ∧ (smi a p n = 0 ∨ a n < a (smi a p n - 1))
    · rw [if_pos c] at h1; omega
    · rw [if_neg c] at h1
      by_cases e : i = n
      · rw [e]; exact fun q => c ⟨q, Or.inl h1⟩
      · exact smi_no h1 i (by omega)
theorem psm_cap {a : Nat → Int32} {A : Nat → Nat} {n : Nat} (ha : ∀ i, i < n → a i = nI (A i)) (hA : ∀ i, i < n → A i ≤ 5000000) : ∀ {k : Nat} {p : Nat → Int32} {O : Nat}, O ≤ 1000000000 → (∀ i, i < n → isN (p i) (A i)) → ∀ i, i < n → isN ((psm a n k p (nI O)).1 i) (A i)
  | 0, _, _, _, h, i, hi => h i hi
  | k + 1, p, O, hO, h, i, hi => by
    rw [psm_s rfl]
    by_cases c : 0 < nI O
    · rw [if_pos c]
      by_cases c2 : smi a p n = 0
      · rw [if_pos c2]; exact h i hi
      · rw [if_neg c2]
        have hle := smi_le a p n
        have hAb := hA (smi a p n - 1) (by omega)
        rw [ha (smi a p n - 1) (by omega), imin_nat (by omega) (by omega), nI_sub (Nat.min_le_left _ _)]
        refine psm_cap ha hA (by omega) (fun j hj => ?_) i hi
        rw [va_rd]
        by_cases e : j = smi a p n - 1
        · rw [if_pos e, e]; exact ⟨_, Nat.min_le_right _ _, rfl⟩
        · rw [if_neg e]; exact h j hj
    · rw [if_neg c]; exact h i hi
theorem psm_full {a : Nat → Int32} {A : Nat → Nat} {n : Nat} (ha : ∀ i, i < n → a i = nI (A i)) (hA : ∀ i, i < n → 1 ≤ A i ∧ A i ≤ 5000000) : ∀ {k : Nat} {p : Nat → Int32} {P : Nat → Nat} {O : Nat}, O ≤ 1000000000 → (∀ i, i < n → p i = nI (P i) ∧ (P i = 0 ∨ P i = A i)) → O = sN (fun i => if P i = 0 then A i else 0) n → sN (fun i => if P i = 0 then 1 else 0) n ≤ k → ∀ i, i < n → (psm a n k p (nI O)).1 i = nI (A i)
  | 0, p, P, O, hO, h, e, hk, i, hi => by
    obtain ⟨h1, h2⟩ := h i hi
    rcases h2 with q | q
    · have := sN_ge (g := fun i => if P i = 0 then 1 else 0) hi
      try dsimp only at this
      rw [if_pos q] at this
      omega
    · rw [← q]; exact h1
  | k + 1, p, P, O, hO, h, e, hk, i, hi => by
    rw [psm_s rfl]
    by_cases c : 0 < nI O
    · rw [if_pos c]
      by_cases c2 : smi a p n = 0
      · rw [if_pos c2]
        obtain ⟨h1, h2⟩ := h i hi
        rcases h2 with q | q
        · exact absurd (by rw [h1, q]; rfl) (smi_no c2 i hi)
        · rw [← q]; exact h1
      · rw [if_neg c2]
        obtain ⟨bb, hb⟩ : ∃ bb, smi a p n = bb + 1 := ⟨smi a p n - 1, by omega⟩
        obtain ⟨p0, hbn⟩ := smi_k a p hb
        rw [hb, Nat.add_sub_cancel]
        have hPb : P bb = 0 := by
          obtain ⟨h1, h2⟩ := h bb hbn
          rcases h2 with q | q
          · exact q
          · have hq := hA bb hbn
            rw [p0, q] at h1
            have := nI_inj (a := 0) (by omega) (by omega) h1
            omega
        obtain ⟨hA1, hA2⟩ := hA bb hbn
        have hAO : A bb ≤ O := by
          rw [e]
          have := sN_ge (g := fun i => if P i = 0 then A i else 0) hbn
          try dsimp only at this
          rw [if_pos hPb] at this
          exact this
        rw [ha bb hbn, imin_nat (by omega) (by omega), Nat.min_eq_right hAO, nI_sub hAO]
        have z1 := sN_z (r := fun i => if P i = 0 then A i else 0) hbn
        have z2 := sN_z (r := fun i => if P i = 0 then 1 else 0) hbn
        try dsimp only at z1 z2
        rw [if_pos hPb] at z1 z2
        have f1 : sN (fun i => if va_up P bb (A bb) i = 0 then A i else 0) n = sN (va_up (fun i => if P i = 0 then A i else 0) bb 0) n := sN_cong (fun j _ => by
          rw [va_rd, va_rd]
          by_cases q : j = bb
          · rw [if_pos q, if_pos q, if_neg (by omega)]
          · rw [if_neg q, if_neg q])
        have f2 : sN (fun i => if va_up P bb (A bb) i = 0 then 1 else 0) n = sN (va_up (fun i => if P i = 0 then 1 else 0) bb 0) n := sN_cong (fun j _ => by
          rw [va_rd, va_rd]
          by_cases q : j = bb
          · rw [if_pos q, if_pos q, if_neg (by omega)]
          · rw [if_neg q, if_neg q])
        refine psm_full (P := va_up P bb (A bb)) ha hA (by omega) (fun j hj => ?_) (by rw [f1]; omega) (by rw [f2]; omega) i hi
        rw [va_rd, va_rd]
        by_cases q : j = bb
        · rw [if_pos q, if_pos q, q]; exact ⟨rfl, Or.inr rfl⟩
        · rw [if_neg q, if_neg q]; exact h j hj
    · rw [if_neg c]
      obtain ⟨h1, h2⟩ := h i hi
      rcases h2 with q | q
      · have := sN_ge (g := fun i => if P i = 0 then A i else 0) hi
        try dsimp only at this
        rw [if_pos q, ← e] at this
        have := hA i hi
        exact absurd (nI_0lt (by omega) (by omega)) c
      · rw [← q]; exact h1
